section
-- ===== PART A: goes FIRST, ahead of the names: the tables' words, and 'selects' of the private methods out of them =====
/-- a private method of a class that the tables say can be made, by its rows of tables_1 -/
def lw_okq (q : MethodName × Nat) : Prop := (q.1.cls ≠ "java/lang/invoke/MethodHandle" ∧ q.1.cls ≠ "java/lang/invoke/VarHandle") ∧ Cond.instantiable q.1.cls q.2 ∈ tables_1 ∧ Cond.privateMethod q.1 ∈ tables_1 ∧ Cond.instanceMethod q.1 ∈ tables_1
theorem lw_p0 : lw_okq (⟨"LedgerStream", "cutBySums", "()I"⟩, 7) := ⟨⟨by decide +kernel, by decide +kernel⟩, List.mem_of_getElem? (i := 23) (by decide +kernel), List.mem_of_getElem? (i := 246) (by decide +kernel), List.mem_of_getElem? (i := 247) (by decide +kernel)⟩
theorem lw_p1 : lw_okq (⟨"LedgerStream", "spendable", "(I)J"⟩, 7) := ⟨⟨by decide +kernel, by decide +kernel⟩, List.mem_of_getElem? (i := 23) (by decide +kernel), List.mem_of_getElem? (i := 250) (by decide +kernel), List.mem_of_getElem? (i := 251) (by decide +kernel)⟩
theorem lw_p2 : lw_okq (⟨"LedgerStream", "receivedByPayment", "(I)I"⟩, 7) := ⟨⟨by decide +kernel, by decide +kernel⟩, List.mem_of_getElem? (i := 23) (by decide +kernel), List.mem_of_getElem? (i := 263) (by decide +kernel), List.mem_of_getElem? (i := 264) (by decide +kernel)⟩
theorem lw_p3 : lw_okq (⟨"LedgerStream", "hasNoNegativeSum", "()Z"⟩, 7) := ⟨⟨by decide +kernel, by decide +kernel⟩, List.mem_of_getElem? (i := 23) (by decide +kernel), List.mem_of_getElem? (i := 281) (by decide +kernel), List.mem_of_getElem? (i := 282) (by decide +kernel)⟩
theorem lw_p4 : lw_okq (⟨"LedgerStream", "canSettleTogether", "(I)Z"⟩, 7) := ⟨⟨by decide +kernel, by decide +kernel⟩, List.mem_of_getElem? (i := 23) (by decide +kernel), List.mem_of_getElem? (i := 289) (by decide +kernel), List.mem_of_getElem? (i := 290) (by decide +kernel)⟩
theorem lw_p5 : lw_okq (⟨"LedgerStream", "netOfFirst", "(II)J"⟩, 7) := ⟨⟨by decide +kernel, by decide +kernel⟩, List.mem_of_getElem? (i := 23) (by decide +kernel), List.mem_of_getElem? (i := 293) (by decide +kernel), List.mem_of_getElem? (i := 294) (by decide +kernel)⟩
theorem lw_p6 : lw_okq (⟨"LedgerStream", "requireCurrency", "(I)V"⟩, 7) := ⟨⟨by decide +kernel, by decide +kernel⟩, List.mem_of_getElem? (i := 23) (by decide +kernel), List.mem_of_getElem? (i := 334) (by decide +kernel), List.mem_of_getElem? (i := 335) (by decide +kernel)⟩
theorem lw_p7 : lw_okq (⟨"java/lang/Throwable", "fillInStackTrace", "(I)Ljava/lang/Throwable;"⟩, 6) := ⟨⟨by decide +kernel, by decide +kernel⟩, List.mem_of_getElem? (i := 380) (by decide +kernel), List.mem_of_getElem? (i := 378) (by decide +kernel), List.mem_of_getElem? (i := 379) (by decide +kernel)⟩
theorem lw_p8 : lw_okq (⟨"LedgerStream", "requireLimit", "(I)V"⟩, 7) := ⟨⟨by decide +kernel, by decide +kernel⟩, List.mem_of_getElem? (i := 23) (by decide +kernel), List.mem_of_getElem? (i := 410) (by decide +kernel), List.mem_of_getElem? (i := 411) (by decide +kernel)⟩
theorem lw_p9 : lw_okq (⟨"LedgerStream", "requireAccount", "(I)V"⟩, 7) := ⟨⟨by decide +kernel, by decide +kernel⟩, List.mem_of_getElem? (i := 23) (by decide +kernel), List.mem_of_getElem? (i := 468) (by decide +kernel), List.mem_of_getElem? (i := 469) (by decide +kernel)⟩
theorem lw_p10 : lw_okq (⟨"LedgerStream$Memory", "find", "(II)LLedgerStream$Call;"⟩, 2) := ⟨⟨by decide +kernel, by decide +kernel⟩, List.mem_of_getElem? (i := 180) (by decide +kernel), List.mem_of_getElem? (i := 554) (by decide +kernel), List.mem_of_getElem? (i := 555) (by decide +kernel)⟩
theorem lw_p11 : lw_okq (⟨"LedgerStream", "requireNewKey", "(I)V"⟩, 7) := ⟨⟨by decide +kernel, by decide +kernel⟩, List.mem_of_getElem? (i := 23) (by decide +kernel), List.mem_of_getElem? (i := 566) (by decide +kernel), List.mem_of_getElem? (i := 567) (by decide +kernel)⟩
theorem lw_p12 : lw_okq (⟨"LedgerStream", "requireAmount", "(I)V"⟩, 7) := ⟨⟨by decide +kernel, by decide +kernel⟩, List.mem_of_getElem? (i := 23) (by decide +kernel), List.mem_of_getElem? (i := 576) (by decide +kernel), List.mem_of_getElem? (i := 577) (by decide +kernel)⟩
theorem lw_p13 : lw_okq (⟨"LedgerStream", "requireRoomInJournal", "()V"⟩, 7) := ⟨⟨by decide +kernel, by decide +kernel⟩, List.mem_of_getElem? (i := 23) (by decide +kernel), List.mem_of_getElem? (i := 581) (by decide +kernel), List.mem_of_getElem? (i := 582) (by decide +kernel)⟩
theorem lw_p14 : lw_okq (⟨"LedgerStream", "post", "(CIIII)I"⟩, 7) := ⟨⟨by decide +kernel, by decide +kernel⟩, List.mem_of_getElem? (i := 23) (by decide +kernel), List.mem_of_getElem? (i := 586) (by decide +kernel), List.mem_of_getElem? (i := 587) (by decide +kernel)⟩
theorem lw_p15 : lw_okq (⟨"LedgerStream$Books", "change", "(III)V"⟩, 7) := ⟨⟨by decide +kernel, by decide +kernel⟩, List.mem_of_getElem? (i := 31) (by decide +kernel), List.mem_of_getElem? (i := 594) (by decide +kernel), List.mem_of_getElem? (i := 595) (by decide +kernel)⟩
def lw_privs_1 : List (MethodName × Nat) := [(⟨"LedgerStream", "cutBySums", "()I"⟩, 7), (⟨"LedgerStream", "spendable", "(I)J"⟩, 7), (⟨"LedgerStream", "receivedByPayment", "(I)I"⟩, 7), (⟨"LedgerStream", "hasNoNegativeSum", "()Z"⟩, 7), (⟨"LedgerStream", "canSettleTogether", "(I)Z"⟩, 7), (⟨"LedgerStream", "netOfFirst", "(II)J"⟩, 7), (⟨"LedgerStream", "requireCurrency", "(I)V"⟩, 7), (⟨"java/lang/Throwable", "fillInStackTrace", "(I)Ljava/lang/Throwable;"⟩, 6), (⟨"LedgerStream", "requireLimit", "(I)V"⟩, 7), (⟨"LedgerStream", "requireAccount", "(I)V"⟩, 7), (⟨"LedgerStream$Memory", "find", "(II)LLedgerStream$Call;"⟩, 2), (⟨"LedgerStream", "requireNewKey", "(I)V"⟩, 7), (⟨"LedgerStream", "requireAmount", "(I)V"⟩, 7), (⟨"LedgerStream", "requireRoomInJournal", "()V"⟩, 7), (⟨"LedgerStream", "post", "(CIIII)I"⟩, 7), (⟨"LedgerStream$Books", "change", "(III)V"⟩, 7)]
theorem lw_r1 : ∀ q ∈ lw_privs_1, lw_okq q := List.forall_mem_cons.mpr ⟨lw_p0, List.forall_mem_cons.mpr ⟨lw_p1, List.forall_mem_cons.mpr ⟨lw_p2, List.forall_mem_cons.mpr ⟨lw_p3, List.forall_mem_cons.mpr ⟨lw_p4, List.forall_mem_cons.mpr ⟨lw_p5, List.forall_mem_cons.mpr ⟨lw_p6, List.forall_mem_cons.mpr ⟨lw_p7, List.forall_mem_cons.mpr ⟨lw_p8, List.forall_mem_cons.mpr ⟨lw_p9, List.forall_mem_cons.mpr ⟨lw_p10, List.forall_mem_cons.mpr ⟨lw_p11, List.forall_mem_cons.mpr ⟨lw_p12, List.forall_mem_cons.mpr ⟨lw_p13, List.forall_mem_cons.mpr ⟨lw_p14, List.forall_mem_cons.mpr ⟨lw_p15, fun _ h => absurd h List.not_mem_nil⟩⟩⟩⟩⟩⟩⟩⟩⟩⟩⟩⟩⟩⟩⟩⟩
theorem lw_p16 : lw_okq (⟨"LedgerStream", "requireSpendable", "(II)V"⟩, 7) := ⟨⟨by decide +kernel, by decide +kernel⟩, List.mem_of_getElem? (i := 23) (by decide +kernel), List.mem_of_getElem? (i := 616) (by decide +kernel), List.mem_of_getElem? (i := 617) (by decide +kernel)⟩
theorem lw_p17 : lw_okq (⟨"LedgerStream", "requireTwoAccounts", "(II)V"⟩, 7) := ⟨⟨by decide +kernel, by decide +kernel⟩, List.mem_of_getElem? (i := 23) (by decide +kernel), List.mem_of_getElem? (i := 628) (by decide +kernel), List.mem_of_getElem? (i := 629) (by decide +kernel)⟩
theorem lw_p18 : lw_okq (⟨"LedgerStream", "requireSomethingReceived", "(I)V"⟩, 7) := ⟨⟨by decide +kernel, by decide +kernel⟩, List.mem_of_getElem? (i := 23) (by decide +kernel), List.mem_of_getElem? (i := 633) (by decide +kernel), List.mem_of_getElem? (i := 634) (by decide +kernel)⟩
theorem lw_p19 : lw_okq (⟨"LedgerStream", "requireActiveHold", "(I)V"⟩, 7) := ⟨⟨by decide +kernel, by decide +kernel⟩, List.mem_of_getElem? (i := 23) (by decide +kernel), List.mem_of_getElem? (i := 659) (by decide +kernel), List.mem_of_getElem? (i := 660) (by decide +kernel)⟩
theorem lw_p20 : lw_okq (⟨"LedgerStream", "requireHold", "(I)V"⟩, 7) := ⟨⟨by decide +kernel, by decide +kernel⟩, List.mem_of_getElem? (i := 23) (by decide +kernel), List.mem_of_getElem? (i := 663) (by decide +kernel), List.mem_of_getElem? (i := 664) (by decide +kernel)⟩
theorem lw_p21 : lw_okq (⟨"LedgerStream", "requireTransaction", "(I)V"⟩, 7) := ⟨⟨by decide +kernel, by decide +kernel⟩, List.mem_of_getElem? (i := 23) (by decide +kernel), List.mem_of_getElem? (i := 702) (by decide +kernel), List.mem_of_getElem? (i := 703) (by decide +kernel)⟩
theorem lw_p22 : lw_okq (⟨"LedgerStream$Journal", "effectOn", "(II)J"⟩, 8) := ⟨⟨by decide +kernel, by decide +kernel⟩, List.mem_of_getElem? (i := 82) (by decide +kernel), List.mem_of_getElem? (i := 779) (by decide +kernel), List.mem_of_getElem? (i := 780) (by decide +kernel)⟩
theorem lw_p23 : lw_okq (⟨"LedgerStreamModel", "isAccount", "(I)Z"⟩, 32) := ⟨⟨by decide +kernel, by decide +kernel⟩, List.mem_of_getElem? (i := 912) (by decide +kernel), List.mem_of_getElem? (i := 1032) (by decide +kernel), List.mem_of_getElem? (i := 1033) (by decide +kernel)⟩
theorem lw_p24 : lw_okq (⟨"LedgerStreamModel", "availableOf", "(I)J"⟩, 32) := ⟨⟨by decide +kernel, by decide +kernel⟩, List.mem_of_getElem? (i := 912) (by decide +kernel), List.mem_of_getElem? (i := 1036) (by decide +kernel), List.mem_of_getElem? (i := 1037) (by decide +kernel)⟩
theorem lw_p25 : lw_okq (⟨"LedgerStreamModel", "heldOf", "(I)J"⟩, 32) := ⟨⟨by decide +kernel, by decide +kernel⟩, List.mem_of_getElem? (i := 912) (by decide +kernel), List.mem_of_getElem? (i := 1040) (by decide +kernel), List.mem_of_getElem? (i := 1041) (by decide +kernel)⟩
theorem lw_p26 : lw_okq (⟨"LedgerStreamModel", "checked", "(Z)I"⟩, 32) := ⟨⟨by decide +kernel, by decide +kernel⟩, List.mem_of_getElem? (i := 912) (by decide +kernel), List.mem_of_getElem? (i := 1048) (by decide +kernel), List.mem_of_getElem? (i := 1049) (by decide +kernel)⟩
theorem lw_p27 : lw_okq (⟨"LedgerStreamModel", "isRepeated", "(IIIIII)Z"⟩, 32) := ⟨⟨by decide +kernel, by decide +kernel⟩, List.mem_of_getElem? (i := 912) (by decide +kernel), List.mem_of_getElem? (i := 1056) (by decide +kernel), List.mem_of_getElem? (i := 1057) (by decide +kernel)⟩
theorem lw_p28 : lw_okq (⟨"LedgerStreamModel", "plain", "(I)I"⟩, 32) := ⟨⟨by decide +kernel, by decide +kernel⟩, List.mem_of_getElem? (i := 912) (by decide +kernel), List.mem_of_getElem? (i := 1060) (by decide +kernel), List.mem_of_getElem? (i := 1061) (by decide +kernel)⟩
theorem lw_p29 : lw_okq (⟨"LedgerStreamModel", "isBadKey", "(I)Z"⟩, 32) := ⟨⟨by decide +kernel, by decide +kernel⟩, List.mem_of_getElem? (i := 912) (by decide +kernel), List.mem_of_getElem? (i := 1064) (by decide +kernel), List.mem_of_getElem? (i := 1065) (by decide +kernel)⟩
theorem lw_p30 : lw_okq (⟨"LedgerStreamModel", "makes", "(IIIII)I"⟩, 32) := ⟨⟨by decide +kernel, by decide +kernel⟩, List.mem_of_getElem? (i := 912) (by decide +kernel), List.mem_of_getElem? (i := 1071) (by decide +kernel), List.mem_of_getElem? (i := 1072) (by decide +kernel)⟩
theorem lw_p31 : lw_okq (⟨"LedgerStreamModel", "currencyOf", "(II)I"⟩, 32) := ⟨⟨by decide +kernel, by decide +kernel⟩, List.mem_of_getElem? (i := 912) (by decide +kernel), List.mem_of_getElem? (i := 1075) (by decide +kernel), List.mem_of_getElem? (i := 1076) (by decide +kernel)⟩
def lw_privs_2 : List (MethodName × Nat) := [(⟨"LedgerStream", "requireSpendable", "(II)V"⟩, 7), (⟨"LedgerStream", "requireTwoAccounts", "(II)V"⟩, 7), (⟨"LedgerStream", "requireSomethingReceived", "(I)V"⟩, 7), (⟨"LedgerStream", "requireActiveHold", "(I)V"⟩, 7), (⟨"LedgerStream", "requireHold", "(I)V"⟩, 7), (⟨"LedgerStream", "requireTransaction", "(I)V"⟩, 7), (⟨"LedgerStream$Journal", "effectOn", "(II)J"⟩, 8), (⟨"LedgerStreamModel", "isAccount", "(I)Z"⟩, 32), (⟨"LedgerStreamModel", "availableOf", "(I)J"⟩, 32), (⟨"LedgerStreamModel", "heldOf", "(I)J"⟩, 32), (⟨"LedgerStreamModel", "checked", "(Z)I"⟩, 32), (⟨"LedgerStreamModel", "isRepeated", "(IIIIII)Z"⟩, 32), (⟨"LedgerStreamModel", "plain", "(I)I"⟩, 32), (⟨"LedgerStreamModel", "isBadKey", "(I)Z"⟩, 32), (⟨"LedgerStreamModel", "makes", "(IIIII)I"⟩, 32), (⟨"LedgerStreamModel", "currencyOf", "(II)I"⟩, 32)]
theorem lw_r2 : ∀ q ∈ lw_privs_2, lw_okq q := List.forall_mem_cons.mpr ⟨lw_p16, List.forall_mem_cons.mpr ⟨lw_p17, List.forall_mem_cons.mpr ⟨lw_p18, List.forall_mem_cons.mpr ⟨lw_p19, List.forall_mem_cons.mpr ⟨lw_p20, List.forall_mem_cons.mpr ⟨lw_p21, List.forall_mem_cons.mpr ⟨lw_p22, List.forall_mem_cons.mpr ⟨lw_p23, List.forall_mem_cons.mpr ⟨lw_p24, List.forall_mem_cons.mpr ⟨lw_p25, List.forall_mem_cons.mpr ⟨lw_p26, List.forall_mem_cons.mpr ⟨lw_p27, List.forall_mem_cons.mpr ⟨lw_p28, List.forall_mem_cons.mpr ⟨lw_p29, List.forall_mem_cons.mpr ⟨lw_p30, List.forall_mem_cons.mpr ⟨lw_p31, fun _ h => absurd h List.not_mem_nil⟩⟩⟩⟩⟩⟩⟩⟩⟩⟩⟩⟩⟩⟩⟩⟩
theorem lw_p32 : lw_okq (⟨"LedgerStreamModel", "remembers", "(IIIIIII)I"⟩, 32) := ⟨⟨by decide +kernel, by decide +kernel⟩, List.mem_of_getElem? (i := 912) (by decide +kernel), List.mem_of_getElem? (i := 1079) (by decide +kernel), List.mem_of_getElem? (i := 1080) (by decide +kernel)⟩
theorem lw_p33 : lw_okq (⟨"LedgerStreamModel", "receivedFor", "(III)I"⟩, 32) := ⟨⟨by decide +kernel, by decide +kernel⟩, List.mem_of_getElem? (i := 912) (by decide +kernel), List.mem_of_getElem? (i := 1091) (by decide +kernel), List.mem_of_getElem? (i := 1092) (by decide +kernel)⟩
theorem lw_p34 : lw_okq (⟨"LedgerStreamModel", "holds", "(IIII)I"⟩, 32) := ⟨⟨by decide +kernel, by decide +kernel⟩, List.mem_of_getElem? (i := 912) (by decide +kernel), List.mem_of_getElem? (i := 1099) (by decide +kernel), List.mem_of_getElem? (i := 1100) (by decide +kernel)⟩
theorem lw_p35 : lw_okq (⟨"LedgerStreamModel", "isHold", "(I)Z"⟩, 32) := ⟨⟨by decide +kernel, by decide +kernel⟩, List.mem_of_getElem? (i := 912) (by decide +kernel), List.mem_of_getElem? (i := 1107) (by decide +kernel), List.mem_of_getElem? (i := 1108) (by decide +kernel)⟩
theorem lw_p36 : lw_okq (⟨"LedgerStreamModel", "captures", "(II)I"⟩, 32) := ⟨⟨by decide +kernel, by decide +kernel⟩, List.mem_of_getElem? (i := 912) (by decide +kernel), List.mem_of_getElem? (i := 1111) (by decide +kernel), List.mem_of_getElem? (i := 1112) (by decide +kernel)⟩
theorem lw_p37 : lw_okq (⟨"LedgerStreamModel", "isTransaction", "(I)Z"⟩, 32) := ⟨⟨by decide +kernel, by decide +kernel⟩, List.mem_of_getElem? (i := 912) (by decide +kernel), List.mem_of_getElem? (i := 1123) (by decide +kernel), List.mem_of_getElem? (i := 1124) (by decide +kernel)⟩
theorem lw_p38 : lw_okq (⟨"LedgerStreamModel", "lacks", "(II)Z"⟩, 32) := ⟨⟨by decide +kernel, by decide +kernel⟩, List.mem_of_getElem? (i := 912) (by decide +kernel), List.mem_of_getElem? (i := 1127) (by decide +kernel), List.mem_of_getElem? (i := 1128) (by decide +kernel)⟩
theorem lw_p39 : lw_okq (⟨"LedgerStreamModel", "reverses", "(I)I"⟩, 32) := ⟨⟨by decide +kernel, by decide +kernel⟩, List.mem_of_getElem? (i := 912) (by decide +kernel), List.mem_of_getElem? (i := 1131) (by decide +kernel), List.mem_of_getElem? (i := 1132) (by decide +kernel)⟩
theorem lw_p40 : lw_okq (⟨"LedgerStreamModel", "takesOut", "(II)V"⟩, 32) := ⟨⟨by decide +kernel, by decide +kernel⟩, List.mem_of_getElem? (i := 912) (by decide +kernel), List.mem_of_getElem? (i := 1143) (by decide +kernel), List.mem_of_getElem? (i := 1144) (by decide +kernel)⟩
theorem lw_p41 : lw_okq (⟨"LedgerStreamModel", "cutOf", "()I"⟩, 32) := ⟨⟨by decide +kernel, by decide +kernel⟩, List.mem_of_getElem? (i := 912) (by decide +kernel), List.mem_of_getElem? (i := 1151) (by decide +kernel), List.mem_of_getElem? (i := 1152) (by decide +kernel)⟩
theorem lw_p42 : lw_okq (⟨"LedgerStreamModel", "canSettle", "(I)Z"⟩, 32) := ⟨⟨by decide +kernel, by decide +kernel⟩, List.mem_of_getElem? (i := 912) (by decide +kernel), List.mem_of_getElem? (i := 1155) (by decide +kernel), List.mem_of_getElem? (i := 1156) (by decide +kernel)⟩
theorem lw_p43 : lw_okq (⟨"LedgerStreamModel", "receivedIn", "(I)I"⟩, 32) := ⟨⟨by decide +kernel, by decide +kernel⟩, List.mem_of_getElem? (i := 912) (by decide +kernel), List.mem_of_getElem? (i := 1159) (by decide +kernel), List.mem_of_getElem? (i := 1160) (by decide +kernel)⟩
theorem lw_p44 : lw_okq (⟨"LedgerStreamModel", "layNets", "(I)V"⟩, 32) := ⟨⟨by decide +kernel, by decide +kernel⟩, List.mem_of_getElem? (i := 912) (by decide +kernel), List.mem_of_getElem? (i := 1163) (by decide +kernel), List.mem_of_getElem? (i := 1164) (by decide +kernel)⟩
theorem lw_p45 : lw_okq (⟨"LedgerStreamModel", "settles", "()I"⟩, 32) := ⟨⟨by decide +kernel, by decide +kernel⟩, List.mem_of_getElem? (i := 912) (by decide +kernel), List.mem_of_getElem? (i := 1167) (by decide +kernel), List.mem_of_getElem? (i := 1168) (by decide +kernel)⟩
theorem lw_p46 : lw_okq (⟨"LedgerStreamModel", "replayed", "(II)J"⟩, 32) := ⟨⟨by decide +kernel, by decide +kernel⟩, List.mem_of_getElem? (i := 912) (by decide +kernel), List.mem_of_getElem? (i := 1211) (by decide +kernel), List.mem_of_getElem? (i := 1212) (by decide +kernel)⟩
theorem lw_p47 : lw_okq (⟨"LedgerStreamModel", "sideOf", "(I[I)I"⟩, 32) := ⟨⟨by decide +kernel, by decide +kernel⟩, List.mem_of_getElem? (i := 912) (by decide +kernel), List.mem_of_getElem? (i := 1239) (by decide +kernel), List.mem_of_getElem? (i := 1240) (by decide +kernel)⟩
def lw_privs_3 : List (MethodName × Nat) := [(⟨"LedgerStreamModel", "remembers", "(IIIIIII)I"⟩, 32), (⟨"LedgerStreamModel", "receivedFor", "(III)I"⟩, 32), (⟨"LedgerStreamModel", "holds", "(IIII)I"⟩, 32), (⟨"LedgerStreamModel", "isHold", "(I)Z"⟩, 32), (⟨"LedgerStreamModel", "captures", "(II)I"⟩, 32), (⟨"LedgerStreamModel", "isTransaction", "(I)Z"⟩, 32), (⟨"LedgerStreamModel", "lacks", "(II)Z"⟩, 32), (⟨"LedgerStreamModel", "reverses", "(I)I"⟩, 32), (⟨"LedgerStreamModel", "takesOut", "(II)V"⟩, 32), (⟨"LedgerStreamModel", "cutOf", "()I"⟩, 32), (⟨"LedgerStreamModel", "canSettle", "(I)Z"⟩, 32), (⟨"LedgerStreamModel", "receivedIn", "(I)I"⟩, 32), (⟨"LedgerStreamModel", "layNets", "(I)V"⟩, 32), (⟨"LedgerStreamModel", "settles", "()I"⟩, 32), (⟨"LedgerStreamModel", "replayed", "(II)J"⟩, 32), (⟨"LedgerStreamModel", "sideOf", "(I[I)I"⟩, 32)]
theorem lw_r3 : ∀ q ∈ lw_privs_3, lw_okq q := List.forall_mem_cons.mpr ⟨lw_p32, List.forall_mem_cons.mpr ⟨lw_p33, List.forall_mem_cons.mpr ⟨lw_p34, List.forall_mem_cons.mpr ⟨lw_p35, List.forall_mem_cons.mpr ⟨lw_p36, List.forall_mem_cons.mpr ⟨lw_p37, List.forall_mem_cons.mpr ⟨lw_p38, List.forall_mem_cons.mpr ⟨lw_p39, List.forall_mem_cons.mpr ⟨lw_p40, List.forall_mem_cons.mpr ⟨lw_p41, List.forall_mem_cons.mpr ⟨lw_p42, List.forall_mem_cons.mpr ⟨lw_p43, List.forall_mem_cons.mpr ⟨lw_p44, List.forall_mem_cons.mpr ⟨lw_p45, List.forall_mem_cons.mpr ⟨lw_p46, List.forall_mem_cons.mpr ⟨lw_p47, fun _ h => absurd h List.not_mem_nil⟩⟩⟩⟩⟩⟩⟩⟩⟩⟩⟩⟩⟩⟩⟩⟩
def lw_privs : List (MethodName × Nat) := lw_privs_1 ++ (lw_privs_2 ++ (lw_privs_3))
def lw_tbl : List Cond := k2_sels lw_privs ++ tables_1
theorem lw_privs_ok : ∀ q ∈ lw_privs, lw_okq q := by
  show ∀ q ∈ lw_privs_1 ++ (lw_privs_2 ++ (lw_privs_3)), lw_okq q
  exact List.forall_mem_append.mpr ⟨lw_r1, List.forall_mem_append.mpr ⟨lw_r2, lw_r3⟩⟩
/-- the streams that the claim lets the run draw from -/
abbrev lw_cs : List Choice := [Jvm.Choice.named "NaN.bits"]
theorem lw_bits : nanBits ∈ lw_cs := by first | decide | exact List.mem_cons_self | simp [lw_cs, nanBits]
/-! ===== BEGIN words of one list among another's, by their places ===== -/
theorem goodIn_r {big : List Cond} (ws : List Cond) (ps : List Nat) (hp : ws = ps.filterMap (fun i => big[i]?)) (h : ws.all goodWord = true) : GoodIn big ws := by
  intro w hw
  have h1 := List.all_eq_true.mp h w hw
  rw [hp] at hw
  obtain ⟨i, -, hi⟩ := List.mem_filterMap.mp hw
  have hm : w ∈ big := by first | exact List.mem_of_getElem? hi | exact List.getElem?_mem hi
  exact ⟨hm, good_of_word h1⟩
theorem goodIn_app {big a b : List Cond} (ha : GoodIn big a) (hb : GoodIn big b) : GoodIn big (a ++ b) := fun w h => (List.mem_append.mp h).elim (ha w) (hb w)
theorem goodIn_ca {big a b : List Cond} {c : Cond} (ha : GoodIn big (c :: a)) (hb : GoodIn big b) : GoodIn big (c :: (a ++ b)) := fun w h => (List.mem_cons.mp h).elim (fun e => ha w (List.mem_cons.mpr (Or.inl e))) (fun h => (List.mem_append.mp h).elim (fun h => ha w (List.mem_cons.mpr (Or.inr h))) (hb w))
theorem goodIn_sub {big ws : List Cond} (hm : ∀ w ∈ ws, w ∈ big) (h : ws.all goodWord = true) : GoodIn big ws := fun w hw => ⟨hm w hw, good_of_word (List.all_eq_true.mp h w hw)⟩
/-! ===== END ===== -/

/-! ===== BEGIN exceptions that leave a method, and their catching by the caller (launches without stack traces) ===== -/
section VXA
/-! The laws vx_back, vx_callV, vx_callS, vx_callSW, vx_throw0, vx_throwS follow proofs of the library, with one case more: JvmDerived/Free/Laws.lean (Back.of_free), Shelf42/LK1.lean (callV, callS), Shelf/KitTraced.lean (throwNew0V, throwNewS). -/
/-- where a method has thrown q: the class by its name, the cell, what was written, the world -/
def vx_T (XC : String → State → State → Prop) (st : State) (q : Addr) (t : State) (mc ms : Nat) (free : Addr → Prop) : Prop :=
  ∃ (E : String) (ce : Cell) (L : List Loc), XC E st t ∧ t.heap[q]? = some ce ∧ ce.vm = .none ∧ st.vm.findClass E = some ce.cls ∧ st.WarmedH t.vm ∧ st.sameButNew ({ t with vm := st.vm } : State) L mc ms ∧ ∀ z ∈ L, free z.base
def vx_Q (Qc : Array Value → State → Outcome → State → Prop) (XC : String → State → State → Prop) (mc ms : Nat) (free : Addr → Prop) : Array Value → State → Outcome → State → Prop := fun a st o t =>
  (Qc a st o t ∧ ∃ L, FrameEnd st o t L mc ms ∧ ∀ q ∈ L, free q.base) ∨ ∃ q, o = .threw q ∧ vx_T XC st q t mc ms free
/-- a callee that returns or throws -/
def vx_Met (l : Launch) (y : MethodName) (ws : List Cond) (rm : Room) (Pc : Array Value → State → Prop) (Qc : Array Value → State → Outcome → State → Prop) (XC : String → State → State → Prop) (mc ms : Nat) (free : Addr → Prop) : Prop :=
  MetFree l y (headSpec ws rm) Pc (fun _ _ _ _ _ => True) (vx_Q Qc XC mc ms free)
def vx_Post (XC : String → State → State → Prop) (mc ms : Nat) (free : Addr → Prop) : Pt → Array Value → Addr → Pt → Prop := fun A a q B =>
  ∃ (g : JFrame) (mk : MethodId) (t : State) (L : List Loc) (E : String) (ce : Cell), B.U.heap = t.heap ∧ B.U.vm = t.vm ∧ XC E (A.U.calling g mk a) t ∧ t.heap[q]? = some ce ∧ ce.vm = .none ∧ A.U.vm.findClass E = some ce.cls ∧ B.locs = A.locs ++ L ∧ (∀ z ∈ L, free z.base) ∧ B.cells = A.cells + mc ∧ B.slots = A.slots + ms
def vx_Back (l : Launch) (R : Room) (p : Program) (e : Env) (below : List Frame) (s : State) (sargs : Array Value) (y : MethodName) (len W9 : Nat)
    (Pre : Pt → Array Value → Prop) (Post : Pt → Array Value → Option Value → Pt → Prop) (PostX : Pt → Array Value → Addr → Pt → Prop) : Prop :=
  ∀ (m : MethodId) (meth : Method) (c : Code) (A : Pt) (g : JFrame) (ig : Instr) (mk : MethodId) (a : Array Value),
    Stand p l e R s m sargs below meth c A.U A.locs A.cells A.slots → g.method = m → g.locals.size = c.maxLocals → decode c.code g.pc = .ok (ig, len) →
    2 * g.monitorRoom + (g.stack.map fun v => v.category).sum ≤ W9 → A.U.methodNamed? y = some mk → Pre A a →
    (∃ (v : Option Value) (B : Pt), Stand p l e R s m sargs below meth c B.U B.locs B.cells B.slots ∧ Post A a v B ∧
      Steps p.tables e below (doInvoke e (A.U.setTop g) [] mk a).1 (B.U.setTop { g with pc := g.pc + len, stack := v.toList ++ g.stack })) ∨
    (∃ (q : Addr) (B : Pt), Stand p l e R s m sargs below meth c B.U B.locs B.cells B.slots ∧ PostX A a q B ∧
      Steps p.tables e below (doInvoke e (A.U.setTop g) [] mk a).1 ((B.U.setTop g).pushFrame (.throwing q)))
section Payer
variable {l : Launch} {R : Room} {p : Program} {e : Env} {below : List Frame} {s : State} {sargs : Array Value} {y : MethodName} {len W9 : Nat}
theorem vx_back {ws : List Cond} {rm : Room} {Pc : Array Value → State → Prop} {Qc : Array Value → State → Outcome → State → Prop} {XC : String → State → State → Prop} {mc ms : Nat} {free : Addr → Prop} {bytes : ByteArray} {maxL : Nat} {ret : Option FieldType}
    (hM : vx_Met l y ws rm Pc Qc XC mc ms free) (hblind : FrameBlind Pc) (hrc : rm.cells = mc) (hrs : rm.slots = ms)
    (hframes : rm.frames + 1 ≤ R.frames) (hlocals : W9 + (maxL + 11) + rm.locals ≤ R.locals)
    (hws : ∀ w ∈ ws, ∀ a' U, s.WarmedH U.vm → w.before a' U = true) (hcode : Cond.code y bytes maxL ret ∈ ws) (hinit : ∀ a' U, s.WarmedH U.vm → (Cond.initialized y.cls).before a' U = true) :
    vx_Back l R p e below s sargs y len W9 (PreOf R mc ms Pc) (PostOf Qc mc ms free) (vx_Post XC mc ms free) := by
  intro m meth c A g ig mk a X hg hsize hdg hW hn hp
  have h1 : (headSpec ws rm).pre.before a A.U = true := atoms_intro fun w hw => hws w hw _ _ X.warmed
  have h2 : (Cond.code y bytes maxL ret).before a A.U = true := hws _ hcode _ _ X.warmed
  have h3 : (Cond.initialized y.cls).before a A.U = true := hinit _ _ X.warmed
  have h4 : A.cells + (headSpec ws rm).room.cells ≤ R.cells := by rw [show (headSpec ws rm).room.cells = mc from hrc]; exact hp.1
  have h5 : A.slots + (headSpec ws rm).room.slots ≤ R.slots := by rw [show (headSpec ws rm).room.slots = ms from hrs]; exact hp.2.1
  have hPc : Pc a (A.U.calling g mk a) := hblind _ _ _ _ hp.2.2
  obtain ⟨U, Ls, c0, s0⟩ := A
  dsimp only [Pt.U, Pt.locs, Pt.cells, Pt.slots] at h1 h2 h3 h4 h5 X hn hPc ⊢
  obtain ⟨methY, cY, hmY, hcY, -, hlY, -, -, -, -⟩ := Cond.code_spec hn h2
  obtain ⟨kY, hkY, -⟩ := className_of_methodNamed hn
  have hinitY : kY.init = .initialized := Cond.initialized_spec (findClass_of_methodNamed hn) hkY h3
  have h : At U g.method c below := by rw [hg]; exact X.here
  have hlocals9 : W9 + (maxL + 11) + (headSpec ws rm).room.locals ≤ R.locals := hlocals
  have happ : (headSpec ws rm).appliesLoose y e.platform (U.calling g mk a) = true :=
    Spec.appliesLoose_calling (g := g) h hdg hn hkY hinitY
      (X.room_calling (g := g) (R' := (headSpec ws rm).room) hsize hmY hcY hframes (by rw [hlY]; omega) h4 h5) h1
  obtain ⟨mid, hmid⟩ := h.above
  have hfr : (U.setTop g).frames = (.java g :: mid) ++ below := by rw [State.frames_setTop' g h.top, hmid]; rfl
  obtain ⟨o, s₂, hsteps, -, hend, hq⟩ := Steps.callFree hM p X.admits X.cas X.clock (acts := []) hfr happ hPc trivial
  have hq' : vx_Q Qc XC mc ms free a (U.calling g mk a) o s₂ := hq
  rw [State.frames_setTop' g h.top] at hend
  obtain ⟨g₀, hg0⟩ := Option.isSome_iff_exists.mp h.top
  obtain ⟨r, hr⟩ := State.topJava?_eq_some.mp hg0
  have hr' : (({ U with heap := s₂.heap, slotsUsed := s₂.slotsUsed } : State).setVm s₂.vm).frames = .java g₀ :: r := hr
  rcases hq' with ⟨hqc, L, hfe, hL⟩ | ⟨q, rfl, E, ce, L, hx, hce, hcv, hcl, hW₂, hsm, hL⟩
  · obtain ⟨⟨v, rfl⟩, hW₂, e2, q2, q3, q4, q5, q6⟩ := id hfe
    have e3 : s₂ = ({ (U.calling g mk a).setFrames s₂.frames with heap := s₂.heap, slotsUsed := s₂.slotsUsed } : State).setVm s₂.vm := by
      have : s₂ = ({ s₂ with vm := (U.calling g mk a).vm } : State).setVm s₂.vm := rfl
      rw [e2] at this
      exact this
    obtain ⟨c₂, i₂, len₂, hc₂, hd₂, hf₂⟩ := hend
    have hW' : U.WarmedH s₂.vm := hW₂
    have hcc : c₂ = c := by
      have h1 : s₂.code? g.method = U.code? g.method := by
        rw [State.code?_eq, State.code?_eq, hW'.alike.method?]
      exact Option.some.inj (hc₂.symm.trans (h1.trans h.code))
    subst hcc
    have hlen : len₂ = len := by rw [hdg] at hd₂; cases hd₂; rfl
    subst hlen
    have hs₂ : s₂ = (({ U with heap := s₂.heap, slotsUsed := s₂.slotsUsed } : State).setVm s₂.vm).setTop { g with pc := g.pc + len₂, stack := v.toList ++ g.stack } := by
      refine e3.trans ?_
      rw [hf₂, State.calling_eq h.top, State.setFrames_setFrames, State.setTop_of_frames _ hr', hr]
      rfl
    have hsame : U.sameButNew ({ U with heap := s₂.heap, slotsUsed := s₂.slotsUsed } : State) L mc ms := by
      refine ⟨?_, q2, q3, q4, q5, q6⟩
      obtain ⟨t, ht, -⟩ := State.frames_cons hr
      show ({ U with heap := s₂.heap, slotsUsed := s₂.slotsUsed } : State) = { U.setFrames U.frames with heap := s₂.heap, slotsUsed := s₂.slotsUsed }
      rw [State.setFrames_self ht]
    subst hg
    refine Or.inl ⟨v, ⟨(({ U with heap := s₂.heap, slotsUsed := s₂.slotsUsed } : State).setVm s₂.vm), Ls ++ L, c0 + mc, s0 + ms⟩,
      ⟨X.admits, X.cas, X.clock, X.frames, X.room, X.hears, X.method, X.code, (X.here.setHeapUsed s₂.heap s₂.slotsUsed).setVm hW'.alike, X.tail, State.WarmedH.trans X.warmed hW', X.limits, X.bytes, X.same.trans (hsame.setVm s.vm)⟩,
      ⟨g, mk, s₂, L, rfl, rfl, hqc, rfl, hL, rfl, rfl⟩, ?_⟩
    show Steps p.tables e below _ ((({ U with heap := s₂.heap, slotsUsed := s₂.slotsUsed } : State).setVm s₂.vm).setTop { g with pc := g.pc + len₂, stack := v.toList ++ g.stack })
    rw [← hs₂]
    exact hsteps
  · obtain ⟨e2, q2, q3, q4, q5, q6⟩ := id hsm
    have e3 : s₂ = ({ (U.calling g mk a).setFrames s₂.frames with heap := s₂.heap, slotsUsed := s₂.slotsUsed } : State).setVm s₂.vm := by
      have : s₂ = ({ s₂ with vm := (U.calling g mk a).vm } : State).setVm s₂.vm := rfl
      rw [e2] at this
      exact this
    have hf₂ : s₂.frames = .throwing q :: .java g :: U.frames.tail := hend
    have hW' : U.WarmedH s₂.vm := hW₂
    have hs₂ : s₂ = ((({ U with heap := s₂.heap, slotsUsed := s₂.slotsUsed } : State).setVm s₂.vm).setTop g).pushFrame (.throwing q) := by
      refine e3.trans ?_
      rw [hf₂, State.calling_eq h.top, State.setFrames_setFrames, State.pushFrame, State.frames_setTop _ hr', State.setTop_of_frames _ hr', State.setFrames_setFrames, hr]
      rfl
    have hsame : U.sameButNew ({ U with heap := s₂.heap, slotsUsed := s₂.slotsUsed } : State) L mc ms := by
      refine ⟨?_, q2, q3, q4, q5, q6⟩
      obtain ⟨t, ht, -⟩ := State.frames_cons hr
      show ({ U with heap := s₂.heap, slotsUsed := s₂.slotsUsed } : State) = { U.setFrames U.frames with heap := s₂.heap, slotsUsed := s₂.slotsUsed }
      rw [State.setFrames_self ht]
    subst hg
    refine Or.inr ⟨q, ⟨(({ U with heap := s₂.heap, slotsUsed := s₂.slotsUsed } : State).setVm s₂.vm), Ls ++ L, c0 + mc, s0 + ms⟩,
      ⟨X.admits, X.cas, X.clock, X.frames, X.room, X.hears, X.method, X.code, (X.here.setHeapUsed s₂.heap s₂.slotsUsed).setVm hW'.alike, X.tail, State.WarmedH.trans X.warmed hW', X.limits, X.bytes, X.same.trans (hsame.setVm s.vm)⟩,
      ⟨g, mk, s₂, L, E, ce, rfl, rfl, hx, hce, hcv, hcl, rfl, hL, rfl, rfl⟩, ?_⟩
    show Steps p.tables e below _ (((({ U with heap := s₂.heap, slotsUsed := s₂.slotsUsed } : State).setVm s₂.vm).setTop g).pushFrame (.throwing q))
    rw [← hs₂]
    exact hsteps
end Payer
section Calls
variable {p : Program} {l : Launch} {e : Env} {R : Room} {s : State} {m : MethodId} {args : Array Value} {below : List Frame} {meth : Method} {c : Code} {T : State} {locs : List Loc} {cells slots : Nat}
theorem vx_callV (X : Stand p l e R s m args below meth c T locs cells slots) (hexec : p.tables.exec = Jvm.exec) {own C : String} {index : Nat} {y : MethodName} {bytes : ByteArray} {maxL : Nat} {ret : Option FieldType}
    (hown : s.vm.findClass own = some m.cls) (hlink : (Cond.methodLink own index y).before args s = true) (hinst : (Cond.instanceMethod y).before args s = true) (hsel : (Cond.selects C y y).before args s = true)
    (hcode : (Cond.code y bytes maxL ret).before args s = true) (hy : y.cls ≠ "java/lang/invoke/MethodHandle" ∧ y.cls ≠ "java/lang/invoke/VarHandle")
    {W9 : Nat} {Pre : Pt → Array Value → Prop} {Post : Pt → Array Value → Option Value → Pt → Prop} {PostX : Pt → Array Value → Addr → Pt → Prop} (hK : vx_Back l R p e below s args y 3 W9 Pre Post PostX)
    {b : Addr} {cellB : Cell} (hcell : T.heap[b]? = some cellB) (hobj : cellB.vm.isStatics = false) (hcls : s.vm.findClass C = some cellB.cls)
    {g : JFrame} (hg : g.method = m) (hsize : g.locals.size = c.maxLocals) {argsL rest : List Value} (hlen : ∀ sig, parseMethodDescriptor y.desc = some sig → argsL.length = sig.parameters.length)
    (hstack : g.stack = argsL.reverse ++ .ref b :: rest) (hW : 2 * g.monitorRoom + (rest.map fun v => v.category).sum ≤ W9) (hdg : decode c.code g.pc = .ok (.invokevirtual index, 3))
    (hpre : ∀ vm₁, s.WarmedH vm₁ → Pre ⟨T.setVm vm₁, locs, cells, slots⟩ (Value.ref b :: argsL).toArray) :
    (∃ (v : Option Value) (vm₁ : Vm) (B : Pt), s.WarmedH vm₁ ∧ Stand p l e R s m args below meth c B.U B.locs B.cells B.slots ∧ Post ⟨T.setVm vm₁, locs, cells, slots⟩ (Value.ref b :: argsL).toArray v B ∧
      ∀ target, Steps p.tables e below (B.U.setTop { g with pc := g.pc + 3, stack := v.toList ++ rest }) target → Steps p.tables e below (T.setTop g) target) ∨
    (∃ (q : Addr) (vm₁ : Vm) (B : Pt), s.WarmedH vm₁ ∧ Stand p l e R s m args below meth c B.U B.locs B.cells B.slots ∧ PostX ⟨T.setVm vm₁, locs, cells, slots⟩ (Value.ref b :: argsL).toArray q B ∧
      Steps p.tables e below (T.setTop g) ((B.U.setTop { g with stack := rest }).pushFrame (.throwing q))) := by
  obtain ⟨mk, methM, hnamed, hmethM, hstM, habM⟩ := Cond.instanceMethod_spec hinst
  obtain ⟨methM', cM, hmethM', -, -, -, -, -, -, hsigM⟩ := Cond.code_spec hnamed hcode
  cases hmethM.symm.trans hmethM'
  obtain ⟨c2, r2, m2, q1, q2, q3, q4, kP, hkP, hkPi⟩ := Cond.selects_spec hsel
  cases hcls.symm.trans q1
  cases (State.methodFound?_of_named hnamed hy).symm.trans q2
  cases hnamed.symm.trans q3
  have hselP : selectMethod e.platform s.vm cellB.cls mk = .method mk := by rw [Launch.admits_selectMethod X.admits]; exact q4
  obtain ⟨vm₁, X₁, hstep₁⟩ := X.invokevirtual hexec hown hlink hnamed hmethM hstM hkP hkPi hy (a := b) (cell := cellB) hcell
    (fun z h => by rw [h] at hobj; cases hobj) hselP hmethM habM hkP hkPi (g := g) hg (argsL := argsL) (rest := rest) (hlen _ hsigM) hstack hdg
  rcases hK m meth c ⟨T.setVm vm₁, locs, cells, slots⟩ { g with stack := rest } (.invokevirtual index) mk (Value.ref b :: argsL).toArray X₁ hg hsize hdg hW (X₁.named hnamed) (hpre vm₁ X₁.warmed) with ⟨v, B, X', hpost, hsteps⟩ | ⟨q, B, X', hpost, hsteps⟩
  · exact Or.inl ⟨v, vm₁, B, X₁.warmed, X', hpost, fun target h => hstep₁ _ fun acts => by rw [doInvoke_state]; exact hsteps.trans h⟩
  · exact Or.inr ⟨q, vm₁, B, X₁.warmed, X', hpost, hstep₁ _ fun acts => by rw [doInvoke_state]; exact hsteps⟩
theorem vx_callS (X : Stand p l e R s m args below meth c T locs cells slots) (hexec : p.tables.exec = Jvm.exec) {own : String} {index : Nat} {y : MethodName} {bytes : ByteArray} {maxL : Nat} {ret : Option FieldType}
    (hown : s.vm.findClass own = some m.cls) (hlink : (Cond.methodLink own index y).before args s = true) (hstat : (Cond.static y).before args s = true) (hinit : (Cond.initialized y.cls).before args s = true)
    (hcode : (Cond.code y bytes maxL ret).before args s = true) (hy : y.cls ≠ "java/lang/invoke/MethodHandle" ∧ y.cls ≠ "java/lang/invoke/VarHandle")
    {W9 : Nat} {Pre : Pt → Array Value → Prop} {Post : Pt → Array Value → Option Value → Pt → Prop} {PostX : Pt → Array Value → Addr → Pt → Prop} (hK : vx_Back l R p e below s args y 3 W9 Pre Post PostX)
    {g : JFrame} (hg : g.method = m) (hsize : g.locals.size = c.maxLocals) {argsL rest : List Value} (hlen : ∀ sig, parseMethodDescriptor y.desc = some sig → argsL.length = sig.parameters.length)
    (hstack : g.stack = argsL.reverse ++ rest) (hW : 2 * g.monitorRoom + (rest.map fun v => v.category).sum ≤ W9) (hdg : decode c.code g.pc = .ok (.invokestatic index, 3))
    (hpre : ∀ vm₁, s.WarmedH vm₁ → Pre ⟨T.setVm vm₁, locs, cells, slots⟩ argsL.toArray) :
    (∃ (v : Option Value) (vm₁ : Vm) (B : Pt), s.WarmedH vm₁ ∧ Stand p l e R s m args below meth c B.U B.locs B.cells B.slots ∧ Post ⟨T.setVm vm₁, locs, cells, slots⟩ argsL.toArray v B ∧
      ∀ target, Steps p.tables e below (B.U.setTop { g with pc := g.pc + 3, stack := v.toList ++ rest }) target → Steps p.tables e below (T.setTop g) target) ∨
    (∃ (q : Addr) (vm₁ : Vm) (B : Pt), s.WarmedH vm₁ ∧ Stand p l e R s m args below meth c B.U B.locs B.cells B.slots ∧ PostX ⟨T.setVm vm₁, locs, cells, slots⟩ argsL.toArray q B ∧
      Steps p.tables e below (T.setTop g) ((B.U.setTop { g with stack := rest }).pushFrame (.throwing q))) := by
  obtain ⟨mk, hnamed⟩ := Cond.code_named hcode
  obtain ⟨methM, cM, hmethM, -, -, -, -, -, -, hsigM⟩ := Cond.code_spec hnamed hcode
  have hstatic : methM.isStatic = true := Cond.static_spec hnamed hmethM hstat
  obtain ⟨kP, hkP, -⟩ := className_of_methodNamed hnamed
  have hinitP : kP.init = .initialized := Cond.initialized_spec (findClass_of_methodNamed hnamed) hkP hinit
  obtain ⟨vm₁, X₁, hstep₁⟩ := X.invokestatic hexec hown hlink hnamed hmethM hstatic hkP hinitP hy (g := g) hg (argsL := argsL) (rest := rest) (hlen _ hsigM) hstack hdg
  rcases hK m meth c ⟨T.setVm vm₁, locs, cells, slots⟩ { g with stack := rest } (.invokestatic index) mk argsL.toArray X₁ hg hsize hdg hW (X₁.named hnamed) (hpre vm₁ X₁.warmed) with ⟨v, B, X', hpost, hsteps⟩ | ⟨q, B, X', hpost, hsteps⟩
  · exact Or.inl ⟨v, vm₁, B, X₁.warmed, X', hpost, fun target h => hstep₁ _ fun acts => by rw [doInvoke_state]; exact hsteps.trans h⟩
  · exact Or.inr ⟨q, vm₁, B, X₁.warmed, X', hpost, hstep₁ _ fun acts => by rw [doInvoke_state]; exact hsteps⟩
end Calls
theorem vx_cls {s : State} {T : State} {vm₁ : Vm} {E : String} {k : ClassId} (hW : s.WarmedH vm₁) (h : (T.setVm vm₁).vm.findClass E = some k) : s.vm.findClass E = some k := by
  have h1 : vm₁.findClass E = some k := h
  rw [hW.alike.findClass] at h1
  exact h1
/-- the method's frame g, with q thrown over it -/
def vx_W (p : Program) (l : Launch) (e : Env) (R : Room) (s : State) (m : MethodId) (args : Array Value) (below : List Frame) (meth : Method) (c : Code) (H : Heap) (locs : List Loc) (cells slots : Nat) (Q : State → Prop) (g : JFrame) (q : Addr) : Prop :=
  ∀ T : State, T.heap = H → Stand p l e R s m args below meth c T locs cells slots → ∃ t, Steps p.tables e below ((T.setTop g).pushFrame (.throwing q)) t ∧ Q t
def vx_Run (p : Program) (l : Launch) (e : Env) (R : Room) (s : State) (m : MethodId) (args : Array Value) (below : List Frame) (meth : Method) (c : Code) (H : Heap) (locs : List Loc) (cells slots mc ms : Nat) (g : JFrame) (rest : List Value) (Qa : State → Outcome → State → Prop) (XC : String → State → State → Prop) (free : Addr → Prop) : Prop :=
  ∀ T : State, T.heap = H → Stand p l e R s m args below meth c T locs cells slots →
    (∃ (v : Option Value) (st₀ t T' : State) (L : List Loc), st₀.heap = H ∧ Stand p l e R s m args below meth c T' (locs ++ L) (cells + mc) (slots + ms) ∧ (∀ q ∈ L, free q.base) ∧ T'.heap = t.heap ∧ T'.vm = t.vm ∧ Qa st₀ (.returned v) t ∧
      Goes p e below T g T' { g with pc := g.pc + 3, stack := v.toList ++ rest }) ∨
    (∃ (q : Addr) (st₀ t T' : State) (L : List Loc) (E : String) (ce : Cell), st₀.heap = H ∧ Stand p l e R s m args below meth c T' (locs ++ L) (cells + mc) (slots + ms) ∧ (∀ z ∈ L, free z.base) ∧ T'.heap = t.heap ∧ T'.vm = t.vm ∧ XC E st₀ t ∧ t.heap[q]? = some ce ∧ ce.vm = .none ∧ s.vm.findClass E = some ce.cls ∧
      Steps p.tables e below (T.setTop g) ((T'.setTop { g with stack := rest }).pushFrame (.throwing q)))
def vx_X {S : Type} (px : S → Prop) (B : String → S → State → Prop) (A : Nat → Prop) : String → State → State → Prop := fun E st t => ∃ u : S, px u ∧ B E u t ∧ va_F A st t
section Runs
variable {p : Program} {l : Launch} {e : Env} {R : Room} {s : State} {m : MethodId} {args : Array Value} {below : List Frame} {meth : Method} {c : Code} {H : Heap} {locs : List Loc} {cells slots : Nat}
variable {y : MethodName} {bytes cc : ByteArray} {maxL nL mc ms n index : Nat} {ret : Option FieldType} {ws : List Cond} {rm : Room} {Pc : Array Value → State → Prop} {Qc : Array Value → State → Outcome → State → Prop} {XC : String → State → State → Prop} {free : Addr → Prop} {Ts : List Cond} {own C : String} {b : Addr} {As rest : List Value} {g : JFrame}
theorem vx_callBack (cb : CallB R s args own index y bytes maxL ret ws rm mc ms n) (hM : vx_Met l y ws rm Pc Qc XC mc ms free) (hbl : FrameBlind Pc) : vx_Back l R p e below s args y 3 8 (PreOf R mc ms Pc) (PostOf Qc mc ms free) (vx_Post XC mc ms free) := by
  obtain ⟨hrc, hrs, hfr, hlo, hws, hcw, -, hini, -⟩ := cb
  exact vx_back (bytes := bytes) (maxL := maxL) (ret := ret) hM hbl hrc hrs hfr hlo hws hcw (fun a' U hW => word_at hW (Or.inl (by first | rfl | simp [Cond.onTables, Cond.keeps, Cond.steady])) hini)
theorem vx_runV (S : CallFix p m c cc nL s args Ts own) (hM : vx_Met l y ws rm Pc Qc XC mc ms free) (cw : CallW R s args own C index y bytes maxL ret ws rm mc ms n) (hp : PreV s H C b Pc As)
    (hg : g.method = m) (hn : As.length = n) (hsize : g.locals.size = nL) (hstack : g.stack = As.reverse ++ .ref b :: rest) (hW : 2 * g.monitorRoom + (rest.map fun v => v.category).sum ≤ 8) (hdg : decode cc g.pc = .ok (.invokevirtual index, 3)) (hf : cells + mc ≤ R.cells ∧ slots + ms ≤ R.slots) :
    vx_Run p l e R s m args below meth c H locs cells slots mc ms g rest (Qc (Value.ref b :: As).toArray) XC free := by
  have hK : vx_Back l R p e below s args y 3 8 (PreOf R mc ms Pc) (PostOf Qc mc ms free) (vx_Post XC mc ms free) := vx_callBack cw.1 hM hp.1
  obtain ⟨⟨-, -, -, -, -, -, hcode, -, hy, hlen, hl⟩, hin, hse⟩ := cw
  obtain ⟨hx, hb, hml, ho, -⟩ := S
  obtain ⟨-, ⟨cellB, hcB, hoB, hclB⟩, hPc⟩ := hp
  intro T hT X
  rcases vx_callV X hx (C := C) (bytes := bytes) (maxL := maxL) (ret := ret) ho hl hin hse hcode hy hK (by rw [hT]; exact hcB) hoB hclB hg (hsize.trans hml.symm) (argsL := As) (rest := rest) (fun sig h => hn.trans (hlen sig h)) hstack hW (by rw [hb]; exact hdg)
    (fun vm₁ hW₁ => ⟨hf.1, hf.2, hPc (T.setVm vm₁) hT hW₁⟩) with ⟨v, vm₁, ⟨U', l2, c2, s2⟩, hW₁, X', ⟨g', mk, t, L, e1, e2, hq, h1, hL, h2, h3⟩, st⟩ | ⟨q, vm₁, ⟨U', l2, c2, s2⟩, hW₁, X', ⟨g', mk, t, L, E, ce, e1, e2, hq, hce, hcv, hcl, h1, hL, h2, h3⟩, st⟩
  · dsimp only [Pt.U, Pt.locs, Pt.cells, Pt.slots] at X' e1 e2 h1 h2 h3 st
    subst h1; subst h2; subst h3
    exact Or.inl ⟨v, (T.setVm vm₁).calling g' mk (Value.ref b :: As).toArray, t, U', L, hT, X', hL, e1, e2, hq, st⟩
  · dsimp only [Pt.U, Pt.locs, Pt.cells, Pt.slots] at X' e1 e2 h1 h2 h3 st hcl
    subst h1; subst h2; subst h3
    exact Or.inr ⟨q, (T.setVm vm₁).calling g' mk (Value.ref b :: As).toArray, t, U', L, E, ce, hT, X', hL, e1, e2, hq, hce, hcv, vx_cls hW₁ hcl, st⟩
theorem vx_runS (S : CallFix p m c cc nL s args Ts own) (hM : vx_Met l y ws rm Pc Qc XC mc ms free) (cw : CallB R s args own index y bytes maxL ret ws rm mc ms n ∧ (Cond.static y).before args s = true) (hp : PreS s H Pc As)
    (hg : g.method = m) (hn : As.length = n) (hsize : g.locals.size = nL) (hstack : g.stack = As.reverse ++ rest) (hW : 2 * g.monitorRoom + (rest.map fun v => v.category).sum ≤ 8) (hdg : decode cc g.pc = .ok (.invokestatic index, 3)) (hf : cells + mc ≤ R.cells ∧ slots + ms ≤ R.slots) :
    vx_Run p l e R s m args below meth c H locs cells slots mc ms g rest (Qc As.toArray) XC free := by
  have hK : vx_Back l R p e below s args y 3 8 (PreOf R mc ms Pc) (PostOf Qc mc ms free) (vx_Post XC mc ms free) := vx_callBack cw.1 hM hp.1
  obtain ⟨⟨-, -, -, -, -, -, hcode, hini, hy, hlen, hl⟩, hstt⟩ := cw
  obtain ⟨hx, hb, hml, ho, -⟩ := S
  intro T hT X
  rcases vx_callS X hx (bytes := bytes) (maxL := maxL) (ret := ret) ho hl hstt hini hcode hy hK hg (hsize.trans hml.symm) (argsL := As) (rest := rest) (fun sig h => hn.trans (hlen sig h)) hstack hW (by rw [hb]; exact hdg)
    (fun vm₁ hW₁ => ⟨hf.1, hf.2, hp.2 (T.setVm vm₁) hT hW₁⟩) with ⟨v, vm₁, ⟨U', l2, c2, s2⟩, hW₁, X', ⟨g', mk, t, L, e1, e2, hq, h1, hL, h2, h3⟩, st⟩ | ⟨q, vm₁, ⟨U', l2, c2, s2⟩, hW₁, X', ⟨g', mk, t, L, E, ce, e1, e2, hq, hce, hcv, hcl, h1, hL, h2, h3⟩, st⟩
  · dsimp only [Pt.U, Pt.locs, Pt.cells, Pt.slots] at X' e1 e2 h1 h2 h3 st
    subst h1; subst h2; subst h3
    exact Or.inl ⟨v, (T.setVm vm₁).calling g' mk As.toArray, t, U', L, hT, X', hL, e1, e2, hq, st⟩
  · dsimp only [Pt.U, Pt.locs, Pt.cells, Pt.slots] at X' e1 e2 h1 h2 h3 st hcl
    subst h1; subst h2; subst h3
    exact Or.inr ⟨q, (T.setVm vm₁).calling g' mk As.toArray, t, U', L, E, ce, hT, X', hL, e1, e2, hq, hce, hcv, vx_cls hW₁ hcl, st⟩
end Runs
section Rows
variable {p : Program} {l : Launch} {e : Env} {R : Room} {s : State} {m : MethodId} {args : Array Value} {below : List Frame} {meth : Method} {c : Code} {H : Heap} {locs : List Loc} {cells slots : Nat} {Q : State → Prop}
variable {mc ms : Nat} {free : Addr → Prop} {A0 A1 : Nat → Prop} {H0 : Heap} {a : Array Value} {pc : Nat} {ls : Array Slot} {st0 rest : List Value}
theorem vx_keep {st₀ t T' : State} {L : List Loc} (h0 : st₀.heap = H) (e1 : T'.heap = t.heap) (hS : va_S A0 H0 H locs) (hA : ∀ q, q < H.size → A1 q → A0 q) (hf : ∀ q, free q → A0 q) (hL : ∀ q ∈ L, free q.base) (hF : va_F A1 st₀ t) :
    H.size ≤ T'.heap.size ∧ (∀ q : Nat, q < H.size → ¬ A1 q → T'.heap[q]? = H[q]?) ∧ va_S A0 H0 T'.heap (locs ++ L) := by
  obtain ⟨hz, hk⟩ := hF
  rw [h0] at hz hk
  exact ⟨by rw [e1]; exact hz, fun q h1 h2 => by rw [e1]; exact hk q h1 h2,
    ⟨Nat.le_trans hS.1 (by rw [e1]; exact hz), fun q h1 h2 => by rw [e1, hk q (Nat.lt_of_lt_of_le h1 hS.1) (fun z => h2 (hA q (Nat.lt_of_lt_of_le h1 hS.1) z))]; exact hS.2.1 q h1 h2, fun q hq => by
      rcases List.mem_append.mp hq with h | h
      · exact hS.2.2 q h
      · exact hf _ (hL q h)⟩⟩
theorem vx_calli {S SX : Type} {post : Int32 → S → Prop} {px : SX → Prop} {B : S → State → Prop} {BX : String → SX → State → Prop} {AX : Nat → Prop} (hr : vx_Run p l e R s m args below meth c H locs cells slots mc ms (F0 m pc ls st0) rest (va_Qi post B A1 a) (vx_X px BX AX) free) (hS : va_S A0 H0 H locs) (hA : ∀ q, q < H.size → A1 q → A0 q) (hf : ∀ q, free q → A0 q) (hAX : ∀ q, q < H.size → AX q → A0 q)
    (kx : ∀ (E : String) (ce : Cell) (q9 : Addr) (u : SX) (t : State) (H1 : Heap) (locs1 : List Loc), t.heap = H1 → s.vm.Alike t.vm → px u → BX E u t → H.size ≤ H1.size → (∀ q : Nat, q < H.size → ¬ AX q → H1[q]? = H[q]?) → va_S A0 H0 H1 locs1 → H1[q9]? = some ce → ce.vm = .none → s.vm.findClass E = some ce.cls → vx_W p l e R s m args below meth c H1 locs1 (cells + mc) (slots + ms) Q (F0 m pc ls rest) q9)
    (kk : ∀ (r : Int32) (u : S) (t : State) (H1 : Heap) (locs1 : List Loc), t.heap = H1 → s.vm.Alike t.vm → post r u → B u t → H.size ≤ H1.size → (∀ q : Nat, q < H.size → ¬ A1 q → H1[q]? = H[q]?) → va_S A0 H0 H1 locs1 → W p l e R s m args below meth c H1 locs1 (cells + mc) (slots + ms) Q (F0 m (pc + 3) ls (.int r :: rest))) : W p l e R s m args below meth c H locs cells slots Q (F0 m pc ls st0) := by
  intro T hT X
  rcases hr T hT X with ⟨v, st₀, t, T', L, h0, X', hL, e1, e2, ⟨⟨r, u, hv, hp, hb⟩, hF⟩, st⟩ | ⟨q, st₀, t, T', L, E, ce, h0, X', hL, e1, e2, ⟨u, hp, hb, hF⟩, hce, hcv, hcl, st⟩
  · cases hv
    obtain ⟨k1, k2, k3⟩ := vx_keep h0 e1 hS hA hf hL hF
    obtain ⟨t2, a1, b1⟩ := kk r u t T'.heap (locs ++ L) e1.symm (by rw [← e2]; exact X'.warmed.alike) hp hb k1 k2 k3 T' rfl X'
    exact ⟨t2, st t2 a1, b1⟩
  · obtain ⟨k1, k2, k3⟩ := vx_keep h0 e1 hS hAX hf hL hF
    obtain ⟨t2, a1, b1⟩ := kx E ce q u t T'.heap (locs ++ L) e1.symm (by rw [← e2]; exact X'.warmed.alike) hp hb k1 k2 k3 (by rw [e1]; exact hce) hcv hcl T' rfl X'
    exact ⟨t2, st.trans a1, b1⟩
theorem vx_calll {S SX : Type} {post : Int64 → S → Prop} {px : SX → Prop} {B : S → State → Prop} {BX : String → SX → State → Prop} {AX : Nat → Prop} (hr : vx_Run p l e R s m args below meth c H locs cells slots mc ms (F0 m pc ls st0) rest (va_Ql post B A1 a) (vx_X px BX AX) free) (hS : va_S A0 H0 H locs) (hA : ∀ q, q < H.size → A1 q → A0 q) (hf : ∀ q, free q → A0 q) (hAX : ∀ q, q < H.size → AX q → A0 q)
    (kx : ∀ (E : String) (ce : Cell) (q9 : Addr) (u : SX) (t : State) (H1 : Heap) (locs1 : List Loc), t.heap = H1 → s.vm.Alike t.vm → px u → BX E u t → H.size ≤ H1.size → (∀ q : Nat, q < H.size → ¬ AX q → H1[q]? = H[q]?) → va_S A0 H0 H1 locs1 → H1[q9]? = some ce → ce.vm = .none → s.vm.findClass E = some ce.cls → vx_W p l e R s m args below meth c H1 locs1 (cells + mc) (slots + ms) Q (F0 m pc ls rest) q9)
    (kk : ∀ (r : Int64) (u : S) (t : State) (H1 : Heap) (locs1 : List Loc), t.heap = H1 → s.vm.Alike t.vm → post r u → B u t → H.size ≤ H1.size → (∀ q : Nat, q < H.size → ¬ A1 q → H1[q]? = H[q]?) → va_S A0 H0 H1 locs1 → W p l e R s m args below meth c H1 locs1 (cells + mc) (slots + ms) Q (F0 m (pc + 3) ls (.long r :: rest))) : W p l e R s m args below meth c H locs cells slots Q (F0 m pc ls st0) := by
  intro T hT X
  rcases hr T hT X with ⟨v, st₀, t, T', L, h0, X', hL, e1, e2, ⟨⟨r, u, hv, hp, hb⟩, hF⟩, st⟩ | ⟨q, st₀, t, T', L, E, ce, h0, X', hL, e1, e2, ⟨u, hp, hb, hF⟩, hce, hcv, hcl, st⟩
  · cases hv
    obtain ⟨k1, k2, k3⟩ := vx_keep h0 e1 hS hA hf hL hF
    obtain ⟨t2, a1, b1⟩ := kk r u t T'.heap (locs ++ L) e1.symm (by rw [← e2]; exact X'.warmed.alike) hp hb k1 k2 k3 T' rfl X'
    exact ⟨t2, st t2 a1, b1⟩
  · obtain ⟨k1, k2, k3⟩ := vx_keep h0 e1 hS hAX hf hL hF
    obtain ⟨t2, a1, b1⟩ := kx E ce q u t T'.heap (locs ++ L) e1.symm (by rw [← e2]; exact X'.warmed.alike) hp hb k1 k2 k3 (by rw [e1]; exact hce) hcv hcl T' rfl X'
    exact ⟨t2, st.trans a1, b1⟩
theorem vx_callf {S SX : Type} {post : UInt32 → S → Prop} {px : SX → Prop} {B : S → State → Prop} {BX : String → SX → State → Prop} {AX : Nat → Prop} (hr : vx_Run p l e R s m args below meth c H locs cells slots mc ms (F0 m pc ls st0) rest (va_Qf post B A1 a) (vx_X px BX AX) free) (hS : va_S A0 H0 H locs) (hA : ∀ q, q < H.size → A1 q → A0 q) (hf : ∀ q, free q → A0 q) (hAX : ∀ q, q < H.size → AX q → A0 q)
    (kx : ∀ (E : String) (ce : Cell) (q9 : Addr) (u : SX) (t : State) (H1 : Heap) (locs1 : List Loc), t.heap = H1 → s.vm.Alike t.vm → px u → BX E u t → H.size ≤ H1.size → (∀ q : Nat, q < H.size → ¬ AX q → H1[q]? = H[q]?) → va_S A0 H0 H1 locs1 → H1[q9]? = some ce → ce.vm = .none → s.vm.findClass E = some ce.cls → vx_W p l e R s m args below meth c H1 locs1 (cells + mc) (slots + ms) Q (F0 m pc ls rest) q9)
    (kk : ∀ (r : UInt32) (u : S) (t : State) (H1 : Heap) (locs1 : List Loc), t.heap = H1 → s.vm.Alike t.vm → post r u → B u t → H.size ≤ H1.size → (∀ q : Nat, q < H.size → ¬ A1 q → H1[q]? = H[q]?) → va_S A0 H0 H1 locs1 → W p l e R s m args below meth c H1 locs1 (cells + mc) (slots + ms) Q (F0 m (pc + 3) ls (.float r :: rest))) : W p l e R s m args below meth c H locs cells slots Q (F0 m pc ls st0) := by
  intro T hT X
  rcases hr T hT X with ⟨v, st₀, t, T', L, h0, X', hL, e1, e2, ⟨⟨r, u, hv, hp, hb⟩, hF⟩, st⟩ | ⟨q, st₀, t, T', L, E, ce, h0, X', hL, e1, e2, ⟨u, hp, hb, hF⟩, hce, hcv, hcl, st⟩
  · cases hv
    obtain ⟨k1, k2, k3⟩ := vx_keep h0 e1 hS hA hf hL hF
    obtain ⟨t2, a1, b1⟩ := kk r u t T'.heap (locs ++ L) e1.symm (by rw [← e2]; exact X'.warmed.alike) hp hb k1 k2 k3 T' rfl X'
    exact ⟨t2, st t2 a1, b1⟩
  · obtain ⟨k1, k2, k3⟩ := vx_keep h0 e1 hS hAX hf hL hF
    obtain ⟨t2, a1, b1⟩ := kx E ce q u t T'.heap (locs ++ L) e1.symm (by rw [← e2]; exact X'.warmed.alike) hp hb k1 k2 k3 (by rw [e1]; exact hce) hcv hcl T' rfl X'
    exact ⟨t2, st.trans a1, b1⟩
theorem vx_calld {S SX : Type} {post : UInt64 → S → Prop} {px : SX → Prop} {B : S → State → Prop} {BX : String → SX → State → Prop} {AX : Nat → Prop} (hr : vx_Run p l e R s m args below meth c H locs cells slots mc ms (F0 m pc ls st0) rest (va_Qd post B A1 a) (vx_X px BX AX) free) (hS : va_S A0 H0 H locs) (hA : ∀ q, q < H.size → A1 q → A0 q) (hf : ∀ q, free q → A0 q) (hAX : ∀ q, q < H.size → AX q → A0 q)
    (kx : ∀ (E : String) (ce : Cell) (q9 : Addr) (u : SX) (t : State) (H1 : Heap) (locs1 : List Loc), t.heap = H1 → s.vm.Alike t.vm → px u → BX E u t → H.size ≤ H1.size → (∀ q : Nat, q < H.size → ¬ AX q → H1[q]? = H[q]?) → va_S A0 H0 H1 locs1 → H1[q9]? = some ce → ce.vm = .none → s.vm.findClass E = some ce.cls → vx_W p l e R s m args below meth c H1 locs1 (cells + mc) (slots + ms) Q (F0 m pc ls rest) q9)
    (kk : ∀ (r : UInt64) (u : S) (t : State) (H1 : Heap) (locs1 : List Loc), t.heap = H1 → s.vm.Alike t.vm → post r u → B u t → H.size ≤ H1.size → (∀ q : Nat, q < H.size → ¬ A1 q → H1[q]? = H[q]?) → va_S A0 H0 H1 locs1 → W p l e R s m args below meth c H1 locs1 (cells + mc) (slots + ms) Q (F0 m (pc + 3) ls (.double r :: rest))) : W p l e R s m args below meth c H locs cells slots Q (F0 m pc ls st0) := by
  intro T hT X
  rcases hr T hT X with ⟨v, st₀, t, T', L, h0, X', hL, e1, e2, ⟨⟨r, u, hv, hp, hb⟩, hF⟩, st⟩ | ⟨q, st₀, t, T', L, E, ce, h0, X', hL, e1, e2, ⟨u, hp, hb, hF⟩, hce, hcv, hcl, st⟩
  · cases hv
    obtain ⟨k1, k2, k3⟩ := vx_keep h0 e1 hS hA hf hL hF
    obtain ⟨t2, a1, b1⟩ := kk r u t T'.heap (locs ++ L) e1.symm (by rw [← e2]; exact X'.warmed.alike) hp hb k1 k2 k3 T' rfl X'
    exact ⟨t2, st t2 a1, b1⟩
  · obtain ⟨k1, k2, k3⟩ := vx_keep h0 e1 hS hAX hf hL hF
    obtain ⟨t2, a1, b1⟩ := kx E ce q u t T'.heap (locs ++ L) e1.symm (by rw [← e2]; exact X'.warmed.alike) hp hb k1 k2 k3 (by rw [e1]; exact hce) hcv hcl T' rfl X'
    exact ⟨t2, st.trans a1, b1⟩
theorem vx_callv {S SX : Type} {post : S → Prop} {px : SX → Prop} {B : S → State → Prop} {BX : String → SX → State → Prop} {AX : Nat → Prop} (hr : vx_Run p l e R s m args below meth c H locs cells slots mc ms (F0 m pc ls st0) rest (va_Qv post B A1 a) (vx_X px BX AX) free) (hS : va_S A0 H0 H locs) (hA : ∀ q, q < H.size → A1 q → A0 q) (hf : ∀ q, free q → A0 q) (hAX : ∀ q, q < H.size → AX q → A0 q)
    (kx : ∀ (E : String) (ce : Cell) (q9 : Addr) (u : SX) (t : State) (H1 : Heap) (locs1 : List Loc), t.heap = H1 → s.vm.Alike t.vm → px u → BX E u t → H.size ≤ H1.size → (∀ q : Nat, q < H.size → ¬ AX q → H1[q]? = H[q]?) → va_S A0 H0 H1 locs1 → H1[q9]? = some ce → ce.vm = .none → s.vm.findClass E = some ce.cls → vx_W p l e R s m args below meth c H1 locs1 (cells + mc) (slots + ms) Q (F0 m pc ls rest) q9)
    (kk : ∀ (u : S) (t : State) (H1 : Heap) (locs1 : List Loc), t.heap = H1 → s.vm.Alike t.vm → post u → B u t → H.size ≤ H1.size → (∀ q : Nat, q < H.size → ¬ A1 q → H1[q]? = H[q]?) → va_S A0 H0 H1 locs1 → W p l e R s m args below meth c H1 locs1 (cells + mc) (slots + ms) Q (F0 m (pc + 3) ls (rest))) : W p l e R s m args below meth c H locs cells slots Q (F0 m pc ls st0) := by
  intro T hT X
  rcases hr T hT X with ⟨v, st₀, t, T', L, h0, X', hL, e1, e2, ⟨⟨u, hv, hp, hb⟩, hF⟩, st⟩ | ⟨q, st₀, t, T', L, E, ce, h0, X', hL, e1, e2, ⟨u, hp, hb, hF⟩, hce, hcv, hcl, st⟩
  · cases hv
    obtain ⟨k1, k2, k3⟩ := vx_keep h0 e1 hS hA hf hL hF
    obtain ⟨t2, a1, b1⟩ := kk u t T'.heap (locs ++ L) e1.symm (by rw [← e2]; exact X'.warmed.alike) hp hb k1 k2 k3 T' rfl X'
    exact ⟨t2, st t2 a1, b1⟩
  · obtain ⟨k1, k2, k3⟩ := vx_keep h0 e1 hS hAX hf hL hF
    obtain ⟨t2, a1, b1⟩ := kx E ce q u t T'.heap (locs ++ L) e1.symm (by rw [← e2]; exact X'.warmed.alike) hp hb k1 k2 k3 (by rw [e1]; exact hce) hcv hcl T' rfl X'
    exact ⟨t2, st.trans a1, b1⟩
/-- caught by the row x of this method's table; the rows ahead don't take it -/
theorem vx_catch {own name : String} {E : String} {ce : Cell} {q : Addr} (hown : s.vm.findClass own = some m.cls) (pre : List ExceptionTableEntry) (x : ExceptionTableEntry) (suf : List ExceptionTableEntry) (hsplit : c.exceptionTable.toList = pre ++ x :: suf)
    (hpass : ∀ z ∈ pre, covers z pc = false ∨ (z.catchType ≠ 0 ∧ ∃ nm : String, (Cond.classLink own z.catchType nm).before args s = true ∧ va_Nc E nm s)) (hx : covers x pc = true) (h0 : x.catchType ≠ 0)
    (hlink : (Cond.classLink own x.catchType name).before args s = true) (hcast : (Cond.castable E name).before args s = true) (hcell : H[q]? = some ce) (hv : ce.vm = .none) (hcl : s.vm.findClass E = some ce.cls)
    (kk : W p l e R s m args below meth c H locs cells slots Q (F0 m x.handlerPc ls [.ref q])) : vx_W p l e R s m args below meth c H locs cells slots Q (F0 m pc ls rest) q := by
  intro T hT X
  have hpl : e.platform.magicAccessors = ({} : Platform).magicAccessors := by rw [X.admits.platform]
  obtain ⟨c3, c4, hc3, hc4, hasg⟩ := Cond.castable_spec hcast
  cases Option.some.inj (hc3.symm.trans hcl)
  obtain ⟨c5, hc5, hcl5⟩ := Cond.classLink_spec hown hlink e.platform hpl
  cases Option.some.inj (hc4.symm.trans hc5)
  obtain ⟨vm', X', st⟩ := X.thenCaughtThrough q (g := F0 m pc ls rest) rfl (Steps.refl _) (by rw [hT]; exact hcell) (by rw [hv]; rfl) (by obtain ⟨k9, h9, -⟩ := Vm.findClass_spec hcl; exact ⟨k9, h9⟩) pre x suf hsplit
    (fun z hz => by
      rcases hpass z hz with h | ⟨hz0, nm, hl1, hn1⟩
      · exact Or.inl h
      · obtain ⟨c6, hc6, hcl6⟩ := Cond.classLink_spec hown hl1 e.platform hpl
        obtain ⟨a8, b8, h1, h2, h3⟩ := hn1
        cases Option.some.inj (h1.symm.trans hcl)
        cases Option.some.inj (h2.symm.trans hc6)
        exact Or.inr ⟨hz0, _, hcl6, h3⟩) hx (Or.inr ⟨h0, c4, hcl5, hasg⟩)
  obtain ⟨t, a1, b1⟩ := kk (T.setVm vm') hT X'
  exact ⟨t, st.trans a1, b1⟩
end Rows
section Ends
variable {p : Program} {l : Launch} {e : Env} {R : Room} {s : State} {m : MethodId} {args : Array Value} {below : List Frame} {meth : Method} {c : Code} {H : Heap} {locs : List Loc} {cells slots : Nat} {Q : State → Prop}
variable {mc ms : Nat} {free : Addr → Prop} {A0 A1 : Nat → Prop} {H0 : Heap} {a : Array Value} {ls : Array Slot} {st0 rest : List Value}
variable {Qc : Array Value → State → Outcome → State → Prop} {XC : String → State → State → Prop}
/-- what a body that may throw owes at its end -/
def vx_MQ (below : List Frame) (Qc : Array Value → State → Outcome → State → Prop) (XC : String → State → State → Prop) (a : Array Value) (s : State) (mc ms : Nat) (free : Addr → Prop) : State → Prop := fun t =>
  ∃ o, t.status = .running ∧ Ended t below o ∧ vx_Q Qc XC mc ms free a s o t
theorem vx_ret {g : JFrame} {mc ms : Nat} (k : W p l e R s m args below meth c H locs cells slots (MQ below Qc args s mc ms free) g) : W p l e R s m args below meth c H locs cells slots (vx_MQ below Qc XC args s mc ms free) g := by
  intro T hT X
  obtain ⟨t, a1, o, b1, b2, b3, b4⟩ := k T hT X
  exact ⟨t, a1, o, b1, b2, Or.inl ⟨b3, b4⟩⟩
/-- not caught here: it goes on to the caller -/
theorem vx_widen {g : JFrame} {q : Addr} {k n : Nat} (h1 : cells ≤ k) (h2 : slots ≤ n) (kk : vx_W p l e R s m args below meth c H locs k n Q g q) : vx_W p l e R s m args below meth c H locs cells slots Q g q := fun T hT X => kk T hT (stand_widen X h1 h2)
theorem vx_out {pc : Nat} {E : String} {ce : Cell} {q : Addr} {mc ms : Nat} (hout : ∀ x ∈ c.exceptionTable.toList, covers x pc = false) (hlocks : meth.locks = false) (hcell : H[q]? = some ce) (hv : ce.vm = .none) (hcl : s.vm.findClass E = some ce.cls)
    (hx : ∀ t : State, t.heap = H → s.vm.Alike t.vm → XC E s t) (hf : ∀ z ∈ locs, free z.base) (hc : cells ≤ mc) (hs : slots ≤ ms) :
    vx_W p l e R s m args below meth c H locs cells slots (vx_MQ below Qc XC args s mc ms free) (F0 m pc ls rest) q := by
  intro T hT X
  obtain ⟨st1, hrun, hend, hW, hsm⟩ := X.leaveThrown q (g := F0 m pc ls rest) rfl rfl rfl hout hlocks
  have hcell9 : (T.setFrames (.throwing q :: below)).heap[q]? = some ce := by
    show T.heap[q]? = some ce
    rw [hT]; exact hcell
  exact ⟨_, st1, .threw q, hrun, hend, Or.inr ⟨q, rfl, E, ce, locs, hx _ hT hW.alike, hcell9, hv, hcl, hW, hsm.mono hc hs, hf⟩⟩
theorem vx_frame {U : State} {k n : Nat} (h : s.sameButNew ({ U with vm := s.vm } : State) locs k n) : s.heap.size ≤ U.heap.size ∧ ∀ q : Nat, q < s.heap.size → (∀ z ∈ locs, z.base ≠ q) → U.heap[q]? = s.heap[q]? := by
  obtain ⟨-, h2, -, -, -, h6⟩ := h
  refine ⟨h2, fun q hq hz => ?_⟩
  obtain ⟨c9, e1, e2, e3, e4⟩ := h6 q _ (Array.getElem?_eq_getElem hq)
  have hs : c9.slots = (s.heap[q]).slots := Array.ext_getElem? fun i => e4 i fun hm => hz _ hm rfl
  have h9 : c9 = s.heap[q] := by
    rw [hs] at e2
    exact e2
  have e5 : U.heap[q]? = some c9 := e1
  rw [e5, h9, Array.getElem?_eq_getElem hq]
/-- the words of a throw but the four that speak of the heap -/
def vx_no (w : Cond) : Bool := decide (w ≠ .isRef (.static Bundle.tN "UNASSIGNED_STACK" Bundle.steD)) && decide (w ≠ .isRef (.static Bundle.tN "SUPPRESSED_SENTINEL" Bundle.listD)) && decide (w ≠ .laysStatic Bundle.tN "UNASSIGNED_STACK" Bundle.steD) && decide (w ≠ .laysStatic Bundle.tN "SUPPRESSED_SENTINEL" Bundle.listD)
def vx_at0 (own : String) (ic : Nat) (X : String) (names : List String) : List Cond := (Bundle.ownAtoms0 own ic X names).filter vx_no
def vx_atS (own : String) (ic : Nat) (X : String) (names : List String) : List Cond := (Bundle.ownAtoms own ic X names).filter vx_no
/-- a word that the tables alone decide, or a good one -/
def vx_ot (w : Cond) : Bool := w.onTables || goodWord w
theorem vx_ot_at {args a' : Array Value} {s U : State} {w : Cond} (hW : s.WarmedH U.vm) (hvm : s.vm = U.vm) (hg : vx_ot w = true) (h : w.before args s = true) : w.before a' U = true := by
  simp only [vx_ot, Bool.or_eq_true] at hg
  rcases hg with hg | hg
  · exact va_tabs hg hvm h
  · exact word_at hW (good_of_word hg) h
/-- a list's words: the good ones out of the method's own list, the others by premises of their own -/
theorem vx_hat {args : Array Value} {s : State} {L B : List Cond} (h1 : ∀ w ∈ L.filter goodWord, w.before args s = true) (h2 : ∀ w ∈ L.filter (fun w => !goodWord w), w ∈ B) (h3 : ∀ w ∈ B, w.before args s = true) : ∀ w ∈ L, w.before args s = true := by
  intro w hw
  by_cases g : goodWord w = true
  · exact h1 w (List.mem_filter.mpr ⟨hw, g⟩)
  · refine h3 w (h2 w (List.mem_filter.mpr ⟨hw, ?_⟩))
    show (!goodWord w) = true
    cases hgw : goodWord w
    · rfl
    · exact absurd hgw g
theorem vx_c {args : Array Value} {s : State} {w : Cond} {B : List Cond} (h : w.before args s = true) (t : ∀ w ∈ B, w.before args s = true) : ∀ w' ∈ w :: B, w'.before args s = true := fun w' h' => (List.mem_cons.mp h').elim (fun e => by rw [e]; exact h) (t w')
theorem vx_n {args : Array Value} {s : State} : ∀ w ∈ ([] : List Cond), w.before args s = true := fun _ h => nomatch h
theorem vx_own {args : Array Value} {s : State} {L : List Cond} (h1 : ∀ w ∈ L.filter vx_no, w.before args s = true)
    (hU : (Cond.isRef (.static Bundle.tN "UNASSIGNED_STACK" Bundle.steD)).before args s = true) (hN : (Cond.isRef (.static Bundle.tN "SUPPRESSED_SENTINEL" Bundle.listD)).before args s = true)
    (lU : (Cond.laysStatic Bundle.tN "UNASSIGNED_STACK" Bundle.steD).before args s = true) (lN : (Cond.laysStatic Bundle.tN "SUPPRESSED_SENTINEL" Bundle.listD).before args s = true) : ∀ w ∈ L, w.before args s = true := by
  intro w hw
  by_cases e1 : w = .isRef (.static Bundle.tN "UNASSIGNED_STACK" Bundle.steD)
  · rw [e1]; exact hU
  · by_cases e2 : w = .isRef (.static Bundle.tN "SUPPRESSED_SENTINEL" Bundle.listD)
    · rw [e2]; exact hN
    · by_cases e3 : w = .laysStatic Bundle.tN "UNASSIGNED_STACK" Bundle.steD
      · rw [e3]; exact lU
      · by_cases e4 : w = .laysStatic Bundle.tN "SUPPRESSED_SENTINEL" Bundle.listD
        · rw [e4]; exact lN
        · exact h1 w (List.mem_filter.mpr ⟨hw, by unfold vx_no; rw [decide_eq_true e1, decide_eq_true e2, decide_eq_true e3, decide_eq_true e4]; rfl⟩)
/-- where a static field lies, its class's statics cell in H -/
def vx_L (C n d : String) (A : Nat → Prop) (U : State) (H : Heap) : Prop := ∃ (c : ClassId) (k : Class) (i : Nat) (f : Field) (a : Nat) (cell : Cell), U.vm.findClass C = some c ∧ U.fieldFound? C n d = some (c, k, i, f) ∧ f.isStatic = true ∧ k.statics = some a ∧ H[a]? = some cell ∧ cell.vm.isStatics = true ∧ cell.cls = c ∧ f.slot < cell.slots.size ∧ k.staticTypes[f.slot]? = some f.type ∧ ¬ A a
theorem vx_L.moved {C n d : String} {A : Nat → Prop} {u U : State} {H : Heap} (hvm : u.vm.Alike U.vm) (h : vx_L C n d A u H) : vx_L C n d A U H := by
  obtain ⟨c, k, i, f, a, cell, h1, h2, h3, h4, h5, h6, h7, h8, h9, h10⟩ := h
  obtain ⟨k', hi', he⟩ := State.fieldFound?_setVm hvm h2
  exact ⟨c, k', i, f, a, cell, by rw [hvm.findClass]; exact h1, hi', h3, by rw [he]; exact h4, h5, h6, h7, h8, by rw [he]; exact h9, h10⟩
theorem vx_L.kept {C n d : String} {A : Nat → Prop} {U : State} {H H1 : Heap} (h : vx_L C n d A U H) (hq : ∀ a : Nat, a < H.size → ¬ A a → H1[a]? = H[a]?) : vx_L C n d A U H1 := by
  obtain ⟨c, k, i, f, a, cell, h1, h2, h3, h4, h5, h6, h7, h8, h9, h10⟩ := h
  exact ⟨c, k, i, f, a, cell, h1, h2, h3, h4, by rw [hq a (Array.getElem?_eq_some_iff.mp h5).1 h10]; exact h5, h6, h7, h8, h9, h10⟩
theorem vx_L.narrow {C n d : String} {A B : Nat → Prop} {U : State} {H : Heap} (h : vx_L C n d A U H) (hAB : ∀ q, B q → A q) : vx_L C n d B U H := by
  obtain ⟨c, k, i, f, a, cell, h1, h2, h3, h4, h5, h6, h7, h8, h9, h10⟩ := h
  exact ⟨c, k, i, f, a, cell, h1, h2, h3, h4, h5, h6, h7, h8, h9, fun z => h10 (hAB _ z)⟩
theorem vx_L.word {C n d : String} {A : Nat → Prop} {s : State} {args : Array Value} (h : vx_L C n d A s s.heap) : (Cond.laysStatic C n d).before args s = true := by
  obtain ⟨c, k, i, f, a, cell, h1, h2, h3, h4, h5, h6, h7, h8, h9, -⟩ := h
  show (Cond.laysStatic C n d).holds args s none s [] = true
  exact Cond.laysStatic_of h1 h2 h3 h4 h5 h6 h7 h8 h9
/-- .. and what it holds: null or some reference -/
def vx_Zq (C n d : String) (A : Nat → Prop) (U : State) (H : Heap) : Prop := va_Zq C n d A U H ∧ vx_L C n d A U H
theorem vx_Zq.moved {C n d : String} {A : Nat → Prop} {u U : State} {H : Heap} (hvm : u.vm.Alike U.vm) (h : vx_Zq C n d A u H) : vx_Zq C n d A U H := ⟨va_Zq.moved hvm h.1, vx_L.moved hvm h.2⟩
theorem vx_Zq.kept {C n d : String} {A : Nat → Prop} {U : State} {H H1 : Heap} (h : vx_Zq C n d A U H) (hq : ∀ a : Nat, a < H.size → ¬ A a → H1[a]? = H[a]?) : vx_Zq C n d A U H1 := ⟨va_Zq.kept h.1 hq, vx_L.kept h.2 hq⟩
theorem vx_Zq.narrow {C n d : String} {A B : Nat → Prop} {U : State} {H : Heap} (h : vx_Zq C n d A U H) (hAB : ∀ q, B q → A q) : vx_Zq C n d B U H := ⟨va_Zq.narrow h.1 hAB, vx_L.narrow h.2 hAB⟩
theorem vx_Zqof {args : Array Value} {s : State} {C n d : String} {A : Nat → Prop} (hl : (Cond.laysStatic C n d).before args s = true) (hini : (Cond.initialized C).before args s = true) (h : (Cond.isRef (.static C n d)).before args s = true) (hA : ∀ a : Nat, a < s.heap.size → ¬ A a) : vx_Zq C n d A s s.heap := by
  refine ⟨va_Zqof hl hini h hA, ?_⟩
  obtain ⟨c, k, i, f, a, cell, h1, h2, h3, h4, h5, h6, h7, h8, h9⟩ := Cond.laysStatic_spec hl
  exact ⟨c, k, i, f, a, cell, h1, h2, h3, h4, h5, h6, h7, h8, h9, hA a (Array.getElem?_eq_some_iff.mp h5).1⟩
theorem vx_isRef {C n d : String} {v : Value} {A : Nat → Prop} {s : State} {args : Array Value} (h : va_Z C n d v A s s.heap) (hv : v.isRef = true) : (Cond.isRef (.static C n d)).before args s = true := by
  obtain ⟨cf, kf, fi, f, a, cell, h1, h2, h3, h4, h5, h6, h7, -⟩ := h
  have he : (Term.static C n d).eval args s none [] s = some v := by
    simp [Term.eval, State.fieldNamed?, h1, h2, h4, h5, h6, h7]
  simp only [Cond.before, Cond.holds, Cond.value, he]
  cases v <;> simp_all [Value.isRef]
theorem vx_isRefq {C n d : String} {A : Nat → Prop} {s : State} {args : Array Value} (h : va_Zq C n d A s s.heap) : (Cond.isRef (.static C n d)).before args s = true := by
  rcases h with h | ⟨t, h⟩
  · exact vx_isRef h rfl
  · exact vx_isRef h rfl
/-- the same frame, seen from here: as if the method were called anew in this heap -/
theorem vx_rebase {T : State} (X : Stand p l e R s m args below meth c T locs cells slots) {R' : Room} (hf : R'.frames ≤ R.frames) (hl : R'.locals ≤ R.locals) (hc : cells + R'.cells ≤ R.cells) (hs : slots + R'.slots ≤ R.slots) :
    Stand p l e R' ((T.setVm s.vm).setFrames (.invoking m args :: below)) m args below meth c T [] 0 0 := by
  have htop : (T.setVm s.vm).topJava?.isSome := X.here.top
  have hF : ((T.setVm s.vm).setFrames (.invoking m args :: below)).frames = .invoking m args :: below := State.frames_setFrames _ (State.cur_lt_of_top htop)
  obtain ⟨g₀, hg0⟩ := Option.isSome_iff_exists.mp htop
  obtain ⟨r, hr⟩ := State.topJava?_eq_some.mp hg0
  have hl9 : e.platform.stackLimits (T.setVm s.vm).me = e.platform.stackLimits s.me := X.limits
  have hb9 : (T.setVm s.vm).me.stackBytes = s.me.stackBytes := X.bytes
  refine ⟨X.admits, X.cas, X.clock, hF, ?_, X.hears, X.method, X.code, X.here, X.tail, X.warmed, ?_, ?_, ?_⟩
  · have h := X.room
    have hU : ((T.setVm s.vm).setFrames (.invoking m args :: below)).localsInUse = s.localsInUse := by
      rw [State.localsInUse_invoking hF (meth := meth) (c := c) X.method X.code, State.localsInUse_invoking X.frames X.method X.code]
    simp only [State.hasRoom, Bool.and_eq_true, decide_eq_true_eq] at h ⊢
    obtain ⟨⟨⟨⟨h1, h2, h3, h4, h5, h6⟩, h7⟩, h8⟩, h9⟩ := h
    rw [X.frames, List.length_cons] at h2 h3
    have q1 := X.heapSize
    have q2 := X.used
    simp only [hF, hU, List.length_cons, State.stackLimits_setFrames, State.stackBytes_setFrames, hl9, hb9]
    refine ⟨⟨⟨⟨by omega, by omega, by omega, by omega, by omega, h6⟩, ?_⟩, ?_⟩, X.book⟩
    · show T.heap.size + R'.cells ≤ e.platform.maxCells
      omega
    · show T.slotsUsed + R'.slots ≤ e.platform.maxSlots
      omega
  · rw [State.stackLimits_setFrames]; rfl
  · rw [State.stackBytes_setFrames]; rfl
  · refine ⟨?_, Nat.le_refl _, Nat.le_refl _, ?_, ?_, fun a c9 h9 => ⟨c9, h9, rfl, rfl, fun _ _ => rfl⟩⟩
    · obtain ⟨t, ht, -⟩ := State.frames_cons hr
      show T.setVm s.vm = { ((T.setVm s.vm).setFrames (.invoking m args :: below)).setFrames (T.setVm s.vm).frames with heap := T.heap, slotsUsed := T.slotsUsed }
      rw [State.setFrames_setFrames, State.setFrames_self ht]
      rfl
    · show T.slotsUsed = T.slotsUsed + ((T.heap.toList.drop T.heap.size).map (·.slots.size)).sum
      rw [List.drop_eq_nil_of_le (Nat.le_of_eq Array.length_toList)]
      rfl
    · show ((T.heap.toList.drop T.heap.size).map (·.slots.size)).sum ≤ 0
      rw [List.drop_eq_nil_of_le (Nat.le_of_eq Array.length_toList)]
      exact Nat.le_refl _
/-- 'throw new E()': new; dup; invokespecial; athrow -/
theorem vx_throw0 {cc : ByteArray} {pc : Nat} (hexec : p.tables.exec = Jvm.exec) (hb : c.code = cc) (hl : l.stackTraces = false) {own cls : String} {names : List String} {ik ic mc ms : Nat} {A : Nat → Prop}
    (hown : s.vm.findClass own = some m.cls) (hcls : Bundle.fit cls = true) (hnames : ∀ n ∈ names, Bundle.fit n = true)
    (hk : (Cond.classLink own ik cls).before args s = true) (hini : (Cond.initialized cls).before args s = true) (hat : ∀ w ∈ vx_at0 own ic cls names, w.before args s = true)
    (hgood : ∀ w ∈ Cond.classLink own ik cls :: Cond.initialized cls :: vx_at0 own ic cls names, vx_ot w = true)
    (hU : vx_Zq Bundle.tN "UNASSIGNED_STACK" Bundle.steD A s s.heap) (hN : vx_Zq Bundle.tN "SUPPRESSED_SENTINEL" Bundle.listD A s s.heap) (hS : va_S A s.heap H locs) (hsize : ls.size = c.maxLocals)
    (d0 : decode cc pc = .ok (.new ik, 3)) (d3 : decode cc (pc + 3) = .ok (.dup, 1)) (d4 : decode cc (pc + 4) = .ok (.invokespecial ic, 3)) (d7 : decode cc (pc + 7) = .ok (.athrow, 1))
    (hout : ∀ x ∈ c.exceptionTable.toList, covers x (pc + 7) = false)
    (hRframes : names.length + 3 < R.frames) (hRlocals : (rest.map fun v => v.category).sum + (13 * (names.length + 1) + 42) ≤ R.locals) (hRcells : cells + 1 ≤ R.cells) (hRslots : slots + 6 ≤ R.slots) (hlocks : meth.locks = false)
    (hx : ∀ t : State, s.vm.Alike t.vm → H.size ≤ t.heap.size → (∀ q : Nat, q < H.size → t.heap[q]? = H[q]?) → XC cls s t)
    (hf : ∀ z ∈ locs, free z.base) (hc : cells + 1 ≤ mc) (hs : slots + 6 ≤ ms) :
    W p l e R s m args below meth c H locs cells slots (vx_MQ below Qc XC args s mc ms free) (F0 m pc ls rest) := by
  intro T hT X
  have htr : e.platform.stackTraces = false := (show e.platform.stackTraces = l.stackTraces by rw [X.admits.platform]).trans hl
  have Y := vx_rebase X (R' := { frames := R.frames, locals := R.locals, cells := 1, slots := 6 }) (Nat.le_refl _) (Nat.le_refl _) hRcells hRslots
  obtain ⟨s', hA⟩ : ∃ z, z = (T.setVm s.vm).setFrames (.invoking m args :: below) := ⟨_, rfl⟩
  rw [← hA] at Y
  have hvm : s'.vm = s.vm := by rw [hA]; rfl
  have hhp : s'.heap = H := by rw [hA]; exact hT
  have hW0 : s.WarmedH s'.vm := by rw [hvm]; exact State.WarmedH.refl s
  have hat' : ∀ w ∈ vx_at0 own ic cls names, w.before args s' = true := fun w hw => vx_ot_at hW0 hvm.symm (hgood w (List.mem_cons_of_mem _ (List.mem_cons_of_mem _ hw))) (hat w hw)
  have hk' : (Cond.classLink own ik cls).before args s' = true := vx_ot_at hW0 hvm.symm (hgood _ List.mem_cons_self) hk
  have hini' : (Cond.initialized cls).before args s' = true := vx_ot_at hW0 hvm.symm (hgood _ (List.mem_cons_of_mem _ List.mem_cons_self)) hini
  have hU' : vx_Zq Bundle.tN "UNASSIGNED_STACK" Bundle.steD A s' s'.heap := by rw [hhp]; exact vx_Zq.moved hW0.alike (hU.kept hS.2.1)
  have hN' : vx_Zq Bundle.tN "SUPPRESSED_SENTINEL" Bundle.listD A s' s'.heap := by rw [hhp]; exact vx_Zq.moved hW0.alike (hN.kept hS.2.1)
  have h : ∀ w ∈ Bundle.ownAtoms0 own ic cls names, w.before args s' = true := vx_own hat' (vx_isRefq hU'.1) (vx_isRefq hN'.1) hU'.2.word hN'.2.word
  have hown' : s'.vm.findClass own = some m.cls := by rw [hvm]; exact hown
  have hins : (Cond.instantiable cls 6).before args s' = true := h _ (by simp [Bundle.ownAtoms0])
  obtain ⟨vm₁, cX, kX, hfX, hkX, -, -, X₁, st1⟩ := Y.newCold hexec (own := own) (C := cls) (index := ik) (n := 6) hown' hk' hins hini'
    (g := F0 m pc ls rest) rfl (by rw [hb]; exact d0) (Nat.le_refl _) (Nat.le_refl _)
  generalize hT1 : (T.setVm vm₁).pushCell { cls := cX, slots := kX.instanceTypes.map defaultValue, vm := .none } = T1 at X₁ st1
  have hcat : (Value.ref T.heap.size).category = 1 := rfl
  have hcellA : T1.heap[T.heap.size]? = some (freshCell cX kX) := by rw [← hT1]; exact State.heap_pushCell_size _ _
  have d3' : decode c.code (pc + 3) = .ok (.dup, 1) := by rw [hb]; exact d3
  obtain ⟨U, hsteps, hrun, hend, hW, hsame, ce, hce, hO⟩ := X₁.ctorThrow0 hexec htr (own := own) (cls := cls) (names := names) (ic := ic) hown' hcls hnames h (fun x hx => nomatch hx) hfX hkX hcellA (by rw [hhp, hT]; exact Nat.le_refl _)
    (g := { method := m, pc := pc + 4, locals := ls, stack := .ref T.heap.size :: .ref T.heap.size :: rest, locked := none }) rfl hsize rfl rfl (rest := rest) rfl
    (by rw [hb]; exact d4) (by rw [hb]; exact d7) hout hRframes (by simp only [List.map_cons, List.sum_cons, hcat]; omega) hlocks
  obtain ⟨f1, f2⟩ := vx_frame hsame
  rw [hhp] at f1 f2
  have hWs : s.WarmedH U.vm := State.WarmedH.trans hW0 hW
  have hcl : s.vm.findClass cls = some ce.cls := by
    have h9 := hO.cls
    rw [hvm] at h9
    exact h9
  have hall : s.sameButNew ({ U with vm := s.vm } : State) locs mc ms := by
    subst hA
    obtain ⟨e1, e2⟩ := hsame
    rw [State.setFrames_setFrames] at e1
    have h2 : (T.setVm s.vm).sameButNew ({ U with vm := s.vm } : State) [] (0 + 1) (0 + 6) := ⟨e1, e2⟩
    have h3 := X.same.trans h2
    rw [List.append_nil] at h3
    exact h3.mono hc hs
  refine ⟨U, ?_, .threw T.heap.size, hrun, hend, Or.inr ⟨T.heap.size, rfl, cls, ce, locs, hx U hWs.alike f1 (fun q hq => f2 q hq (fun z hz => nomatch hz)), hce, hO.vm, hcl, hWs, hall, hf⟩⟩
  refine st1 _ ?_
  show Steps p.tables e below (T1.setTop { method := m, pc := pc + 3, locals := ls, stack := .ref T.heap.size :: rest, locked := none }) _
  jvm_step X₁.here [X₁.here.top, hexec, d3', Value.category]
  exact hsteps
/-- 'throw new E("text")': new; dup; ldc; invokespecial; athrow -/
theorem vx_throwS {cc : ByteArray} {pc : Nat} (hexec : p.tables.exec = Jvm.exec) (hb : c.code = cc) (hl : l.stackTraces = false) {own cls text : String} {names : List String} {ik is ic mc ms sa : Nat} {A : Nat → Prop}
    (hown : s.vm.findClass own = some m.cls) (hcls : Bundle.fit cls = true) (hnames : ∀ n ∈ names, Bundle.fit n = true)
    (hk : (Cond.classLink own ik cls).before args s = true) (hini : (Cond.initialized cls).before args s = true) (hstr : vk_R own is text sa s) (hat : ∀ w ∈ vx_atS own ic cls names, w.before args s = true)
    (hgood : ∀ w ∈ Cond.classLink own ik cls :: Cond.initialized cls :: vx_atS own ic cls names, vx_ot w = true)
    (hU : vx_Zq Bundle.tN "UNASSIGNED_STACK" Bundle.steD A s s.heap) (hN : vx_Zq Bundle.tN "SUPPRESSED_SENTINEL" Bundle.listD A s s.heap) (hS : va_S A s.heap H locs) (hsize : ls.size = c.maxLocals)
    (d0 : decode cc pc = .ok (.new ik, 3)) (d3 : decode cc (pc + 3) = .ok (.dup, 1)) (d4 : decode cc (pc + 4) = .ok (.ldc is, 2)) (d6 : decode cc (pc + 6) = .ok (.invokespecial ic, 3)) (d9 : decode cc (pc + 9) = .ok (.athrow, 1))
    (hout : ∀ x ∈ c.exceptionTable.toList, covers x (pc + 9) = false)
    (hRframes : names.length + 3 < R.frames) (hRlocals : (rest.map fun v => v.category).sum + (13 * (names.length + 1) + 43) ≤ R.locals) (hRcells : cells + 1 ≤ R.cells) (hRslots : slots + 6 ≤ R.slots) (hlocks : meth.locks = false)
    (hx : ∀ t : State, s.vm.Alike t.vm → H.size ≤ t.heap.size → (∀ q : Nat, q < H.size → t.heap[q]? = H[q]?) → XC cls s t)
    (hf : ∀ z ∈ locs, free z.base) (hc : cells + 1 ≤ mc) (hs : slots + 6 ≤ ms) :
    W p l e R s m args below meth c H locs cells slots (vx_MQ below Qc XC args s mc ms free) (F0 m pc ls rest) := by
  intro T hT X
  have htr : e.platform.stackTraces = false := (show e.platform.stackTraces = l.stackTraces by rw [X.admits.platform]).trans hl
  have Y := vx_rebase X (R' := { frames := R.frames, locals := R.locals, cells := 1, slots := 6 }) (Nat.le_refl _) (Nat.le_refl _) hRcells hRslots
  obtain ⟨s', hA⟩ : ∃ z, z = (T.setVm s.vm).setFrames (.invoking m args :: below) := ⟨_, rfl⟩
  rw [← hA] at Y
  have hvm : s'.vm = s.vm := by rw [hA]; rfl
  have hhp : s'.heap = H := by rw [hA]; exact hT
  have hW0 : s.WarmedH s'.vm := by rw [hvm]; exact State.WarmedH.refl s
  have hat' : ∀ w ∈ vx_atS own ic cls names, w.before args s' = true := fun w hw => vx_ot_at hW0 hvm.symm (hgood w (List.mem_cons_of_mem _ (List.mem_cons_of_mem _ hw))) (hat w hw)
  have hk' : (Cond.classLink own ik cls).before args s' = true := vx_ot_at hW0 hvm.symm (hgood _ List.mem_cons_self) hk
  have hini' : (Cond.initialized cls).before args s' = true := vx_ot_at hW0 hvm.symm (hgood _ (List.mem_cons_of_mem _ List.mem_cons_self)) hini
  have hU' : vx_Zq Bundle.tN "UNASSIGNED_STACK" Bundle.steD A s' s'.heap := by rw [hhp]; exact vx_Zq.moved hW0.alike (hU.kept hS.2.1)
  have hN' : vx_Zq Bundle.tN "SUPPRESSED_SENTINEL" Bundle.listD A s' s'.heap := by rw [hhp]; exact vx_Zq.moved hW0.alike (hN.kept hS.2.1)
  have h : ∀ w ∈ Bundle.ownAtoms own ic cls names, w.before args s' = true := vx_own hat' (vx_isRefq hU'.1) (vx_isRefq hN'.1) hU'.2.word hN'.2.word
  have hown' : s'.vm.findClass own = some m.cls := by rw [hvm]; exact hown
  have hins : (Cond.instantiable cls 6).before args s' = true := h _ (by simp [Bundle.ownAtoms])
  obtain ⟨vm₁, cX, kX, hfX, hkX, -, -, X₁, st1⟩ := Y.newCold hexec (own := own) (C := cls) (index := ik) (n := 6) hown' hk' hins hini'
    (g := F0 m pc ls rest) rfl (by rw [hb]; exact d0) (Nat.le_refl _) (Nat.le_refl _)
  generalize hT1 : (T.setVm vm₁).pushCell { cls := cX, slots := kX.instanceTypes.map defaultValue, vm := .none } = T1 at X₁ st1
  have hcat : (Value.ref T.heap.size).category = 1 := rfl
  have hcellA : T1.heap[T.heap.size]? = some (freshCell cX kX) := by rw [← hT1]; exact State.heap_pushCell_size _ _
  have d3' : decode c.code (pc + 3) = .ok (.dup, 1) := by rw [hb]; exact d3
  have d4' : decode c.code (pc + 4) = .ok (.ldc is, 2) := by rw [hb]; exact d4
  have hstr' : vk_R own is text sa s' := vk_R.warm hW0 hstr
  obtain ⟨U, hsteps, hrun, hend, hW, hsame, ce, hce, hO⟩ := X₁.ctorThrowS hexec htr (own := own) (cls := cls) (names := names) (ic := ic) hown' hcls hnames h (fun x hx => nomatch hx) hfX hkX hcellA (by rw [hhp, hT]; exact Nat.le_refl _) (msg := .ref sa) rfl
    (g := { method := m, pc := pc + 6, locals := ls, stack := .ref sa :: .ref T.heap.size :: .ref T.heap.size :: rest, locked := none }) rfl hsize rfl rfl (rest := rest) rfl
    (by rw [hb]; exact d6) (by rw [hb]; exact d9) hout hRframes (by simp only [List.map_cons, List.sum_cons, hcat]; omega) hlocks
  obtain ⟨f1, f2⟩ := vx_frame hsame
  rw [hhp] at f1 f2
  have hWs : s.WarmedH U.vm := State.WarmedH.trans hW0 hW
  have hcl : s.vm.findClass cls = some ce.cls := by
    have h9 := hO.cls
    rw [hvm] at h9
    exact h9
  have hall : s.sameButNew ({ U with vm := s.vm } : State) locs mc ms := by
    subst hA
    obtain ⟨e1, e2⟩ := hsame
    rw [State.setFrames_setFrames] at e1
    have h2 : (T.setVm s.vm).sameButNew ({ U with vm := s.vm } : State) [] (0 + 1) (0 + 6) := ⟨e1, e2⟩
    have h3 := X.same.trans h2
    rw [List.append_nil] at h3
    exact h3.mono hc hs
  refine ⟨U, ?_, .threw T.heap.size, hrun, hend, Or.inr ⟨T.heap.size, rfl, cls, ce, locs, hx U hWs.alike f1 (fun q hq => f2 q hq (fun z hz => nomatch hz)), hce, hO.vm, hcl, hWs, hall, hf⟩⟩
  refine st1 _ ?_
  show Steps p.tables e below (T1.setTop { method := m, pc := pc + 3, locals := ls, stack := .ref T.heap.size :: rest, locked := none }) _
  jvm_step X₁.here [X₁.here.top, hexec, d3', Value.category]
  exact X₁.ldcString hexec (own := own) (text := text) (index := is) (a := sa) hown' hstr'.1 hstr'.2
    (g := { method := m, pc := pc + 4, locals := ls, stack := .ref T.heap.size :: .ref T.heap.size :: rest, locked := none }) rfl d4' _ hsteps
/-- 'throw new E("text")', the text by a wide index -/
theorem vx_throwSW {cc : ByteArray} {pc : Nat} (hexec : p.tables.exec = Jvm.exec) (hb : c.code = cc) (hl : l.stackTraces = false) {own cls text : String} {names : List String} {ik is ic mc ms sa : Nat} {A : Nat → Prop}
    (hown : s.vm.findClass own = some m.cls) (hcls : Bundle.fit cls = true) (hnames : ∀ n ∈ names, Bundle.fit n = true)
    (hk : (Cond.classLink own ik cls).before args s = true) (hini : (Cond.initialized cls).before args s = true) (hstr : vk_R own is text sa s) (hat : ∀ w ∈ vx_atS own ic cls names, w.before args s = true)
    (hgood : ∀ w ∈ Cond.classLink own ik cls :: Cond.initialized cls :: vx_atS own ic cls names, vx_ot w = true)
    (hU : vx_Zq Bundle.tN "UNASSIGNED_STACK" Bundle.steD A s s.heap) (hN : vx_Zq Bundle.tN "SUPPRESSED_SENTINEL" Bundle.listD A s s.heap) (hS : va_S A s.heap H locs) (hsize : ls.size = c.maxLocals)
    (d0 : decode cc pc = .ok (.new ik, 3)) (d3 : decode cc (pc + 3) = .ok (.dup, 1)) (d4 : decode cc (pc + 4) = .ok (.ldc_w is, 3)) (d7 : decode cc (pc + 7) = .ok (.invokespecial ic, 3)) (d10 : decode cc (pc + 10) = .ok (.athrow, 1))
    (hout : ∀ x ∈ c.exceptionTable.toList, covers x (pc + 10) = false)
    (hRframes : names.length + 3 < R.frames) (hRlocals : (rest.map fun v => v.category).sum + (13 * (names.length + 1) + 43) ≤ R.locals) (hRcells : cells + 1 ≤ R.cells) (hRslots : slots + 6 ≤ R.slots) (hlocks : meth.locks = false)
    (hx : ∀ t : State, s.vm.Alike t.vm → H.size ≤ t.heap.size → (∀ q : Nat, q < H.size → t.heap[q]? = H[q]?) → XC cls s t)
    (hf : ∀ z ∈ locs, free z.base) (hc : cells + 1 ≤ mc) (hs : slots + 6 ≤ ms) :
    W p l e R s m args below meth c H locs cells slots (vx_MQ below Qc XC args s mc ms free) (F0 m pc ls rest) := by
  intro T hT X
  have htr : e.platform.stackTraces = false := (show e.platform.stackTraces = l.stackTraces by rw [X.admits.platform]).trans hl
  have Y := vx_rebase X (R' := { frames := R.frames, locals := R.locals, cells := 1, slots := 6 }) (Nat.le_refl _) (Nat.le_refl _) hRcells hRslots
  obtain ⟨s', hA⟩ : ∃ z, z = (T.setVm s.vm).setFrames (.invoking m args :: below) := ⟨_, rfl⟩
  rw [← hA] at Y
  have hvm : s'.vm = s.vm := by rw [hA]; rfl
  have hhp : s'.heap = H := by rw [hA]; exact hT
  have hW0 : s.WarmedH s'.vm := by rw [hvm]; exact State.WarmedH.refl s
  have hat' : ∀ w ∈ vx_atS own ic cls names, w.before args s' = true := fun w hw => vx_ot_at hW0 hvm.symm (hgood w (List.mem_cons_of_mem _ (List.mem_cons_of_mem _ hw))) (hat w hw)
  have hk' : (Cond.classLink own ik cls).before args s' = true := vx_ot_at hW0 hvm.symm (hgood _ List.mem_cons_self) hk
  have hini' : (Cond.initialized cls).before args s' = true := vx_ot_at hW0 hvm.symm (hgood _ (List.mem_cons_of_mem _ List.mem_cons_self)) hini
  have hU' : vx_Zq Bundle.tN "UNASSIGNED_STACK" Bundle.steD A s' s'.heap := by rw [hhp]; exact vx_Zq.moved hW0.alike (hU.kept hS.2.1)
  have hN' : vx_Zq Bundle.tN "SUPPRESSED_SENTINEL" Bundle.listD A s' s'.heap := by rw [hhp]; exact vx_Zq.moved hW0.alike (hN.kept hS.2.1)
  have h : ∀ w ∈ Bundle.ownAtoms own ic cls names, w.before args s' = true := vx_own hat' (vx_isRefq hU'.1) (vx_isRefq hN'.1) hU'.2.word hN'.2.word
  have hown' : s'.vm.findClass own = some m.cls := by rw [hvm]; exact hown
  have hins : (Cond.instantiable cls 6).before args s' = true := h _ (by simp [Bundle.ownAtoms])
  obtain ⟨vm₁, cX, kX, hfX, hkX, -, -, X₁, st1⟩ := Y.newCold hexec (own := own) (C := cls) (index := ik) (n := 6) hown' hk' hins hini'
    (g := F0 m pc ls rest) rfl (by rw [hb]; exact d0) (Nat.le_refl _) (Nat.le_refl _)
  generalize hT1 : (T.setVm vm₁).pushCell { cls := cX, slots := kX.instanceTypes.map defaultValue, vm := .none } = T1 at X₁ st1
  have hcat : (Value.ref T.heap.size).category = 1 := rfl
  have hcellA : T1.heap[T.heap.size]? = some (freshCell cX kX) := by rw [← hT1]; exact State.heap_pushCell_size _ _
  have d3' : decode c.code (pc + 3) = .ok (.dup, 1) := by rw [hb]; exact d3
  have d4' : decode c.code (pc + 4) = .ok (.ldc_w is, 3) := by rw [hb]; exact d4
  have hstr' : vk_R own is text sa s' := vk_R.warm hW0 hstr
  obtain ⟨U, hsteps, hrun, hend, hW, hsame, ce, hce, hO⟩ := X₁.ctorThrowS hexec htr (own := own) (cls := cls) (names := names) (ic := ic) hown' hcls hnames h (fun x hx => nomatch hx) hfX hkX hcellA (by rw [hhp, hT]; exact Nat.le_refl _) (msg := .ref sa) rfl
    (g := { method := m, pc := pc + 7, locals := ls, stack := .ref sa :: .ref T.heap.size :: .ref T.heap.size :: rest, locked := none }) rfl hsize rfl rfl (rest := rest) rfl
    (by rw [hb]; exact d7) (by rw [hb]; exact d10) hout hRframes (by simp only [List.map_cons, List.sum_cons, hcat]; omega) hlocks
  obtain ⟨f1, f2⟩ := vx_frame hsame
  rw [hhp] at f1 f2
  have hWs : s.WarmedH U.vm := State.WarmedH.trans hW0 hW
  have hcl : s.vm.findClass cls = some ce.cls := by
    have h9 := hO.cls
    rw [hvm] at h9
    exact h9
  have hall : s.sameButNew ({ U with vm := s.vm } : State) locs mc ms := by
    subst hA
    obtain ⟨e1, e2⟩ := hsame
    rw [State.setFrames_setFrames] at e1
    have h2 : (T.setVm s.vm).sameButNew ({ U with vm := s.vm } : State) [] (0 + 1) (0 + 6) := ⟨e1, e2⟩
    have h3 := X.same.trans h2
    rw [List.append_nil] at h3
    exact h3.mono hc hs
  refine ⟨U, ?_, .threw T.heap.size, hrun, hend, Or.inr ⟨T.heap.size, rfl, cls, ce, locs, hx U hWs.alike f1 (fun q hq => f2 q hq (fun z hz => nomatch hz)), hce, hO.vm, hcl, hWs, hall, hf⟩⟩
  refine st1 _ ?_
  show Steps p.tables e below (T1.setTop { method := m, pc := pc + 3, locals := ls, stack := .ref T.heap.size :: rest, locked := none }) _
  jvm_step X₁.here [X₁.here.top, hexec, d3', Value.category]
  exact X₁.ldcStringW hexec (own := own) (text := text) (index := is) (a := sa) hown' hstr'.1 hstr'.2
    (g := { method := m, pc := pc + 4, locals := ls, stack := .ref T.heap.size :: .ref T.heap.size :: rest, locked := none }) rfl d4' _ hsteps
end Ends
section Bodies
variable {l : Launch}
theorem vx_ofW {y : MethodName} {ws ws' : List Cond} {rm : Room} {Pc : Array Value → State → Prop} {Qc : Array Value → State → Outcome → State → Prop} {XC : String → State → State → Prop} {mc ms : Nat} {free : Addr → Prop} {cc : ByteArray} {maxL : Nat} {ret : Option FieldType}
    (hy : plainName y.cls = true) (hw : ws = Cond.code y cc maxL ret :: ws')
    (body : ∀ p e s m args below meth c s₁, BodyLoose p l y (headSpec ws rm) cc maxL ret e s m args below meth c s₁ → c.maxLocals = maxL → (∀ x ∈ c.exceptionTable.toList, False) → Pc args s →
      W p l e (headSpec ws rm).room s m args below meth c s.heap [] 0 0 (vx_MQ below Qc XC args s mc ms free) (entryFrame m args maxL)) : vx_Met l y ws rm Pc Qc XC mc ms free := by
  refine MetFree.of_bodyS (code := cc) (maxLocals := maxL) (ret := ret) hy ?_ ?_
  · intro args s m h hn
    obtain ⟨meth, c, h1, h2, h3, h4, h5, h6, -, -⟩ := Cond.code_spec hn (atoms_spec (ws := ws) h _ (by rw [hw]; exact List.mem_cons_self))
    exact ⟨meth, c, h1, h2, h3, h4, h5, h6⟩
  · intro p e s m args below meth c s₁ B hml hP _
    have hh0 : s₁.heap = s.heap := by rw [B.state]; rfl
    have ht : ∀ x ∈ c.exceptionTable.toList, False := by
      obtain ⟨meth9, c9, h1, h2, -, -, -, -, h7, -⟩ := Cond.code_spec B.named (atoms_spec (ws := ws) B.pre _ (by rw [hw]; exact List.mem_cons_self))
      cases Option.some.inj (h1.symm.trans B.method)
      cases Option.some.inj (h2.symm.trans (Stand.of_body B).code)
      intro x hx
      rw [Array.isEmpty_iff.mp h7] at hx
      cases hx
    obtain ⟨t, a1, o, b1, b2, b3⟩ := body p e s m args below meth c s₁ B hml ht hP s₁ hh0 (Stand.of_body B)
    exact ⟨t, o, a1, b1, b2, b3⟩
/-- the table of a body with handlers -/
theorem vx_table {p : Program} {x y : MethodName} {S : Spec} {cc bytes : ByteArray} {maxL maxL' : Nat} {ret ret' : Option FieldType} {e : Env} {s s₁ : State} {m : MethodId} {args : Array Value} {below : List Frame} {meth : Method} {c : Code} {hh : List (Nat × Nat × Nat × Nat)}
    (B : BodyLoose p l y S cc maxL ret e s m args below meth c s₁) (h : (Cond.codeWith y bytes maxL' ret' hh).before args s = true) : c.exceptionTable.toList = tableOf hh := by
  obtain ⟨m9, meth9, c9, hn9, h1, h2, -, -, h6, -⟩ := Cond.codeWith_spec h
  cases Option.some.inj (hn9.symm.trans B.named)
  cases Option.some.inj (h1.symm.trans B.method)
  cases Option.some.inj (h2.symm.trans (Stand.of_body B).code)
  rw [← h6, table_eq]
end Bodies
end VXA
/-! ===== END ===== -/
/-! ===== BEGIN a static call of a method with an exception table ===== -/
section VXS
variable {p : Program} {l : Launch} {e : Env} {R : Room} {s : State} {m : MethodId} {args : Array Value} {below : List Frame} {meth : Method} {c : Code} {T : State} {H : Heap} {locs : List Loc} {cells slots : Nat}
abbrev vx_CSW (R : Room) (s : State) (args : Array Value) (own : String) (index : Nat) (y : MethodName) (bytes : ByteArray) (maxL : Nat) (ret : Option FieldType) (hh : List (Nat × Nat × Nat × Nat)) (ws : List Cond) (rm : Room) (mc ms n : Nat) : Prop :=
  (rm.cells = mc ∧ rm.slots = ms ∧ rm.frames + 1 ≤ R.frames ∧ 8 + (maxL + 11) + rm.locals ≤ R.locals ∧ (∀ w ∈ ws, ∀ (a' : Array Value) (U : State), s.WarmedH U.vm → w.before a' U = true) ∧ Cond.codeWith y bytes maxL ret hh ∈ ws) ∧
  (Cond.codeWith y bytes maxL ret hh).before args s = true ∧ (Cond.initialized y.cls).before args s = true ∧ (y.cls ≠ "java/lang/invoke/MethodHandle" ∧ y.cls ≠ "java/lang/invoke/VarHandle") ∧
  (∀ sig, parseMethodDescriptor y.desc = some sig → n = sig.parameters.length) ∧ (Cond.methodLink own index y).before args s = true ∧ (Cond.static y).before args s = true
theorem vx_cwSW {own : String} {index maxL mc ms : Nat} {y : MethodName} {bytes : ByteArray} {ret : Option FieldType} {hh : List (Nat × Nat × Nat × Nat)} {Ts ws ws' : List Cond} {rm : Room} (n : Nat) (ht : ∀ w ∈ Ts, w.before args s = true) (hT : GoodIn Ts (va_wsS own index y ws)) (hw : ws = Cond.codeWith y bytes maxL ret hh :: ws') (hrc : rm.cells = mc) (hrs : rm.slots = ms)
    (hd : y.cls ≠ "java/lang/invoke/MethodHandle" ∧ y.cls ≠ "java/lang/invoke/VarHandle" ∧ (parseMethodDescriptor y.desc).map (fun d => d.parameters.length) = some n) (hR : rm.frames + 1 ≤ R.frames ∧ 8 + (maxL + 11) + rm.locals ≤ R.locals) :
    vx_CSW R s args own index y bytes maxL ret hh ws rm mc ms n := by
  have ok : ∀ w ∈ va_wsS own index y ws, w.before args s = true := fun w h => ht w (hT w h).1
  have hG : GoodIn Ts ws := fun w h => hT w (by unfold va_wsS; exact List.mem_append_right _ h)
  have hc : Cond.codeWith y bytes maxL ret hh ∈ ws := by rw [hw]; exact List.mem_cons_self
  refine ⟨⟨hrc, hrs, hR.1, hR.2, pay_in ht hG, hc⟩, ht _ (hG _ hc).1, ok _ (by simp [va_wsS]), ⟨hd.1, hd.2.1⟩, fun sig h => ?_, ok _ (by simp [va_wsS]), ok _ (by simp [va_wsS])⟩
  have h2 := hd.2.2
  rw [h] at h2
  exact (Option.some.inj h2).symm
theorem vx_callSW (X : Stand p l e R s m args below meth c T locs cells slots) (hexec : p.tables.exec = Jvm.exec) {own : String} {index : Nat} {y : MethodName} {bytes : ByteArray} {maxL : Nat} {ret : Option FieldType} {hh : List (Nat × Nat × Nat × Nat)}
    (hown : s.vm.findClass own = some m.cls) (hlink : (Cond.methodLink own index y).before args s = true) (hstat : (Cond.static y).before args s = true) (hinit : (Cond.initialized y.cls).before args s = true)
    (hcode : (Cond.codeWith y bytes maxL ret hh).before args s = true) (hy : y.cls ≠ "java/lang/invoke/MethodHandle" ∧ y.cls ≠ "java/lang/invoke/VarHandle")
    {W9 : Nat} {Pre : Pt → Array Value → Prop} {Post : Pt → Array Value → Option Value → Pt → Prop} (hK : Back l R p e below s args y 3 W9 Pre Post)
    {g : JFrame} (hg : g.method = m) (hsize : g.locals.size = c.maxLocals) {argsL rest : List Value} (hlen : ∀ sig, parseMethodDescriptor y.desc = some sig → argsL.length = sig.parameters.length)
    (hstack : g.stack = argsL.reverse ++ rest) (hW : 2 * g.monitorRoom + (rest.map fun v => v.category).sum ≤ W9) (hdg : decode c.code g.pc = .ok (.invokestatic index, 3))
    (hpre : ∀ vm₁, s.WarmedH vm₁ → Pre ⟨T.setVm vm₁, locs, cells, slots⟩ argsL.toArray) :
    ∃ (v : Option Value) (vm₁ : Vm) (B : Pt), s.WarmedH vm₁ ∧ Stand p l e R s m args below meth c B.U B.locs B.cells B.slots ∧ Post ⟨T.setVm vm₁, locs, cells, slots⟩ argsL.toArray v B ∧
      ∀ target, Steps p.tables e below (B.U.setTop { g with pc := g.pc + 3, stack := v.toList ++ rest }) target → Steps p.tables e below (T.setTop g) target := by
  obtain ⟨mk, methM, cM, hnamed, hmethM, -, -, -, -, -, -, hsigM⟩ := Cond.codeWith_spec hcode
  have hstatic : methM.isStatic = true := Cond.static_spec hnamed hmethM hstat
  obtain ⟨kP, hkP, -⟩ := className_of_methodNamed hnamed
  have hinitP : kP.init = .initialized := Cond.initialized_spec (findClass_of_methodNamed hnamed) hkP hinit
  obtain ⟨vm₁, X₁, hstep₁⟩ := X.invokestatic hexec hown hlink hnamed hmethM hstatic hkP hinitP hy (g := g) hg (argsL := argsL) (rest := rest) (hlen _ hsigM) hstack hdg
  obtain ⟨v, B, X', hpost, hsteps⟩ := hK m meth c ⟨T.setVm vm₁, locs, cells, slots⟩ { g with stack := rest } (.invokestatic index) mk argsL.toArray X₁ hg hsize hdg hW (X₁.named hnamed) (hpre vm₁ X₁.warmed)
  exact ⟨v, vm₁, B, X₁.warmed, X', hpost, fun target h => hstep₁ _ fun acts => by rw [doInvoke_state]; exact hsteps.trans h⟩
theorem vx_runSW {y : MethodName} {bytes cc : ByteArray} {maxL nL mc ms n index : Nat} {ret : Option FieldType} {hh : List (Nat × Nat × Nat × Nat)} {ws : List Cond} {rm : Room} {Pc : Array Value → State → Prop} {Qc : Array Value → State → Outcome → State → Prop} {free : Addr → Prop} {Ts : List Cond} {own : String} {As rest : List Value} {g : JFrame}
    (S : CallFix p m c cc nL s args Ts own) (hM : Met l y ws rm Pc Qc mc ms free) (cw : vx_CSW R s args own index y bytes maxL ret hh ws rm mc ms n) (hp : PreS s H Pc As)
    (hg : g.method = m) (hn : As.length = n) (hsize : g.locals.size = nL) (hstack : g.stack = As.reverse ++ rest) (hW : 2 * g.monitorRoom + (rest.map fun v => v.category).sum ≤ 8) (hdg : decode cc g.pc = .ok (.invokestatic index, 3)) (hf : cells + mc ≤ R.cells ∧ slots + ms ≤ R.slots) :
    va_Run p l e R s m args below meth c H locs cells slots mc ms g rest (Qc As.toArray) (free) := by
  obtain ⟨⟨hrc, hrs, hfr, hlo, hws, hcw⟩, hcode, hini, hy, hlen, hl, hstt⟩ := cw
  have hK : Back l R p e below s args y 3 8 (PreOf R mc ms Pc) (PostOf Qc mc ms free) := va_backW (hh := hh) (bytes := bytes) (maxL := maxL) (ret := ret) hM hp.1 hrc hrs hfr hlo hws hcw (fun a' U hW => word_at hW (Or.inl (by first | rfl | simp [Cond.onTables, Cond.keeps, Cond.steady])) hini)
  obtain ⟨hx, hb, hml, ho, -⟩ := S
  intro T hT X
  obtain ⟨v, vm₁, ⟨U', l2, c2, s2⟩, hW₁, X', ⟨g', mk, t, L, e1, e2, hq, h1, hL, h2, h3⟩, st⟩ := vx_callSW X hx (hh := hh) (bytes := bytes) (maxL := maxL) (ret := ret) ho hl hstt hini hcode hy hK hg (hsize.trans hml.symm) (argsL := As) (rest := rest) (fun sig h => hn.trans (hlen sig h)) hstack hW (by rw [hb]; exact hdg)
    (fun vm₁ hW₁ => ⟨hf.1, hf.2, hp.2 (T.setVm vm₁) hT hW₁⟩)
  dsimp only [Pt.U, Pt.locs, Pt.cells, Pt.slots] at X' e1 e2 h1 h2 h3 st
  subst h1; subst h2; subst h3
  exact ⟨v, (T.setVm vm₁).calling g' mk As.toArray, t, U', L, hT, X', hL, e1, e2, hq, st⟩
/-- not caught here, past rows that name other classes: it goes on to the caller -/
theorem vx_outP {p : Program} {l : Launch} {e : Env} {R : Room} {s : State} {m : MethodId} {args : Array Value} {below : List Frame} {meth : Method} {c : Code} {H : Heap} {locs : List Loc} {cells slots : Nat} {free : Addr → Prop} {ls : Array Slot} {rest : List Value} {Qc : Array Value → State → Outcome → State → Prop} {XC : String → State → State → Prop}
    {pc : Nat} {own E : String} {ce : Cell} {q : Addr} {mc ms : Nat} (hown : s.vm.findClass own = some m.cls) (hlocks : meth.locks = false)
    (hpass : ∀ z ∈ c.exceptionTable.toList, covers z pc = false ∨ (z.catchType ≠ 0 ∧ ∃ nm : String, (Cond.classLink own z.catchType nm).before args s = true ∧ va_Nc E nm s)) (hcell : H[q]? = some ce) (hv : ce.vm = .none) (hcl : s.vm.findClass E = some ce.cls)
    (hx : ∀ t : State, t.heap = H → s.vm.Alike t.vm → XC E s t) (hf : ∀ z ∈ locs, free z.base) (hc : cells ≤ mc) (hs : slots ≤ ms) :
    vx_W p l e R s m args below meth c H locs cells slots (vx_MQ below Qc XC args s mc ms free) (F0 m pc ls rest) q := by
  intro T hT X
  have hpl : e.platform.magicAccessors = ({} : Platform).magicAccessors := by rw [X.admits.platform]
  obtain ⟨vm', hW', X', st⟩ := X.outThrough hlocks q (g := F0 m pc ls rest) rfl rfl rfl (cell := ce) (by rw [hT]; exact hcell) (by rw [hv]; rfl)
    (by obtain ⟨k9, h9, -⟩ := Vm.findClass_spec hcl; exact ⟨k9, h9⟩) (fun z hz => by
      rcases hpass z hz with h | ⟨hz0, nm, hl1, hn1⟩
      · exact Or.inl h
      · obtain ⟨c6, hc6, hcl6⟩ := Cond.classLink_spec hown hl1 e.platform hpl
        obtain ⟨a8, b8, h1, h2, h3⟩ := hn1
        cases Option.some.inj (h1.symm.trans hcl)
        cases Option.some.inj (h2.symm.trans hc6)
        exact Or.inr ⟨hz0, _, hcl6, h3⟩)
  obtain ⟨g₀, hfr⟩ := X'.frames_eq
  have hcell9 : ((T.setVm vm').setFrames (.throwing q :: below)).heap[q]? = some ce := by
    show T.heap[q]? = some ce
    rw [hT]; exact hcell
  have hend : Ended ((T.setVm vm').setFrames (.throwing q :: below)) below (.threw q) := State.frames_setFrames _ (State.cur_lt_of_frames hfr)
  refine ⟨(T.setVm vm').setFrames (.throwing q :: below), ?_, .threw q, X'.here.running, hend, Or.inr ⟨q, rfl, E, ce, locs, hx _ hT (X'.ends _).1.alike, hcell9, hv, hcl, (X'.ends _).1, (X'.ends _).2.mono hc hs, hf⟩⟩
  rw [X.pushThrowing_eq]
  exact st
/-- a thing of a world lies in the heap -/
theorem vx_lt {D : va_G} {cl : List vw_C} {ws : va_W} {H1 : Heap} (h : va_P D cl ws H1) {k : Nat} {q : Nat × va_E} (hk : ws[k]? = some q) : q.1 < H1.size := (h k q hk).lt
end VXS
/-! ===== END ===== -/
/-! ===== BEGIN methods with a table of their own: called by a name, returning or throwing ===== -/
section VXH
/-! vx_backW, vx_callVX, vx_callSX, vx_callVW, vx_runVW, vx_runVX, vx_runSX, vx_ofWH follow the same proofs as their sisters above (Free/Laws.lean, Shelf42/LK1.lean); vx_outP calls Shelf42/NT130.lean (outThrough). -/
section
variable {l : Launch} {R : Room} {p : Program} {e : Env} {below : List Frame} {s : State} {sargs : Array Value} {y : MethodName} {len W9 : Nat}
theorem vx_backW {ws : List Cond} {rm : Room} {Pc : Array Value → State → Prop} {Qc : Array Value → State → Outcome → State → Prop} {XC : String → State → State → Prop} {mc ms : Nat} {free : Addr → Prop} {bytes : ByteArray} {maxL : Nat} {ret : Option FieldType} {hh : List (Nat × Nat × Nat × Nat)}
    (hM : vx_Met l y ws rm Pc Qc XC mc ms free) (hblind : FrameBlind Pc) (hrc : rm.cells = mc) (hrs : rm.slots = ms)
    (hframes : rm.frames + 1 ≤ R.frames) (hlocals : W9 + (maxL + 11) + rm.locals ≤ R.locals)
    (hws : ∀ w ∈ ws, ∀ a' U, s.WarmedH U.vm → w.before a' U = true) (hcode : Cond.codeWith y bytes maxL ret hh ∈ ws) (hinit : ∀ a' U, s.WarmedH U.vm → (Cond.initialized y.cls).before a' U = true) :
    vx_Back l R p e below s sargs y len W9 (PreOf R mc ms Pc) (PostOf Qc mc ms free) (vx_Post XC mc ms free) := by
  intro m meth c A g ig mk a X hg hsize hdg hW hn hp
  have h1 : (headSpec ws rm).pre.before a A.U = true := atoms_intro fun w hw => hws w hw _ _ X.warmed
  have h2 : (Cond.codeWith y bytes maxL ret hh).before a A.U = true := hws _ hcode _ _ X.warmed
  have h3 : (Cond.initialized y.cls).before a A.U = true := hinit _ _ X.warmed
  have h4 : A.cells + (headSpec ws rm).room.cells ≤ R.cells := by rw [show (headSpec ws rm).room.cells = mc from hrc]; exact hp.1
  have h5 : A.slots + (headSpec ws rm).room.slots ≤ R.slots := by rw [show (headSpec ws rm).room.slots = ms from hrs]; exact hp.2.1
  have hPc : Pc a (A.U.calling g mk a) := hblind _ _ _ _ hp.2.2
  obtain ⟨U, Ls, c0, s0⟩ := A
  dsimp only [Pt.U, Pt.locs, Pt.cells, Pt.slots] at h1 h2 h3 h4 h5 X hn hPc ⊢
  obtain ⟨m9, methY, cY, hn9, hmY, hcY, -, hlY, -⟩ := Cond.codeWith_spec h2
  cases Option.some.inj (hn9.symm.trans hn)
  obtain ⟨kY, hkY, -⟩ := className_of_methodNamed hn
  have hinitY : kY.init = .initialized := Cond.initialized_spec (findClass_of_methodNamed hn) hkY h3
  have h : At U g.method c below := by rw [hg]; exact X.here
  have hlocals9 : W9 + (maxL + 11) + (headSpec ws rm).room.locals ≤ R.locals := hlocals
  have happ : (headSpec ws rm).appliesLoose y e.platform (U.calling g mk a) = true :=
    Spec.appliesLoose_calling (g := g) h hdg hn hkY hinitY
      (X.room_calling (g := g) (R' := (headSpec ws rm).room) hsize hmY hcY hframes (by rw [hlY]; omega) h4 h5) h1
  obtain ⟨mid, hmid⟩ := h.above
  have hfr : (U.setTop g).frames = (.java g :: mid) ++ below := by rw [State.frames_setTop' g h.top, hmid]; rfl
  obtain ⟨o, s₂, hsteps, -, hend, hq⟩ := Steps.callFree hM p X.admits X.cas X.clock (acts := []) hfr happ hPc trivial
  have hq' : vx_Q Qc XC mc ms free a (U.calling g mk a) o s₂ := hq
  rw [State.frames_setTop' g h.top] at hend
  obtain ⟨g₀, hg0⟩ := Option.isSome_iff_exists.mp h.top
  obtain ⟨r, hr⟩ := State.topJava?_eq_some.mp hg0
  have hr' : (({ U with heap := s₂.heap, slotsUsed := s₂.slotsUsed } : State).setVm s₂.vm).frames = .java g₀ :: r := hr
  rcases hq' with ⟨hqc, L, hfe, hL⟩ | ⟨q, rfl, E, ce, L, hx, hce, hcv, hcl, hW₂, hsm, hL⟩
  · obtain ⟨⟨v, rfl⟩, hW₂, e2, q2, q3, q4, q5, q6⟩ := id hfe
    have e3 : s₂ = ({ (U.calling g mk a).setFrames s₂.frames with heap := s₂.heap, slotsUsed := s₂.slotsUsed } : State).setVm s₂.vm := by
      have : s₂ = ({ s₂ with vm := (U.calling g mk a).vm } : State).setVm s₂.vm := rfl
      rw [e2] at this
      exact this
    obtain ⟨c₂, i₂, len₂, hc₂, hd₂, hf₂⟩ := hend
    have hW' : U.WarmedH s₂.vm := hW₂
    have hcc : c₂ = c := by
      have h1 : s₂.code? g.method = U.code? g.method := by
        rw [State.code?_eq, State.code?_eq, hW'.alike.method?]
      exact Option.some.inj (hc₂.symm.trans (h1.trans h.code))
    subst hcc
    have hlen : len₂ = len := by rw [hdg] at hd₂; cases hd₂; rfl
    subst hlen
    have hs₂ : s₂ = (({ U with heap := s₂.heap, slotsUsed := s₂.slotsUsed } : State).setVm s₂.vm).setTop { g with pc := g.pc + len₂, stack := v.toList ++ g.stack } := by
      refine e3.trans ?_
      rw [hf₂, State.calling_eq h.top, State.setFrames_setFrames, State.setTop_of_frames _ hr', hr]
      rfl
    have hsame : U.sameButNew ({ U with heap := s₂.heap, slotsUsed := s₂.slotsUsed } : State) L mc ms := by
      refine ⟨?_, q2, q3, q4, q5, q6⟩
      obtain ⟨t, ht, -⟩ := State.frames_cons hr
      show ({ U with heap := s₂.heap, slotsUsed := s₂.slotsUsed } : State) = { U.setFrames U.frames with heap := s₂.heap, slotsUsed := s₂.slotsUsed }
      rw [State.setFrames_self ht]
    subst hg
    refine Or.inl ⟨v, ⟨(({ U with heap := s₂.heap, slotsUsed := s₂.slotsUsed } : State).setVm s₂.vm), Ls ++ L, c0 + mc, s0 + ms⟩,
      ⟨X.admits, X.cas, X.clock, X.frames, X.room, X.hears, X.method, X.code, (X.here.setHeapUsed s₂.heap s₂.slotsUsed).setVm hW'.alike, X.tail, State.WarmedH.trans X.warmed hW', X.limits, X.bytes, X.same.trans (hsame.setVm s.vm)⟩,
      ⟨g, mk, s₂, L, rfl, rfl, hqc, rfl, hL, rfl, rfl⟩, ?_⟩
    show Steps p.tables e below _ ((({ U with heap := s₂.heap, slotsUsed := s₂.slotsUsed } : State).setVm s₂.vm).setTop { g with pc := g.pc + len₂, stack := v.toList ++ g.stack })
    rw [← hs₂]
    exact hsteps
  · obtain ⟨e2, q2, q3, q4, q5, q6⟩ := id hsm
    have e3 : s₂ = ({ (U.calling g mk a).setFrames s₂.frames with heap := s₂.heap, slotsUsed := s₂.slotsUsed } : State).setVm s₂.vm := by
      have : s₂ = ({ s₂ with vm := (U.calling g mk a).vm } : State).setVm s₂.vm := rfl
      rw [e2] at this
      exact this
    have hf₂ : s₂.frames = .throwing q :: .java g :: U.frames.tail := hend
    have hW' : U.WarmedH s₂.vm := hW₂
    have hs₂ : s₂ = ((({ U with heap := s₂.heap, slotsUsed := s₂.slotsUsed } : State).setVm s₂.vm).setTop g).pushFrame (.throwing q) := by
      refine e3.trans ?_
      rw [hf₂, State.calling_eq h.top, State.setFrames_setFrames, State.pushFrame, State.frames_setTop _ hr', State.setTop_of_frames _ hr', State.setFrames_setFrames, hr]
      rfl
    have hsame : U.sameButNew ({ U with heap := s₂.heap, slotsUsed := s₂.slotsUsed } : State) L mc ms := by
      refine ⟨?_, q2, q3, q4, q5, q6⟩
      obtain ⟨t, ht, -⟩ := State.frames_cons hr
      show ({ U with heap := s₂.heap, slotsUsed := s₂.slotsUsed } : State) = { U.setFrames U.frames with heap := s₂.heap, slotsUsed := s₂.slotsUsed }
      rw [State.setFrames_self ht]
    subst hg
    refine Or.inr ⟨q, ⟨(({ U with heap := s₂.heap, slotsUsed := s₂.slotsUsed } : State).setVm s₂.vm), Ls ++ L, c0 + mc, s0 + ms⟩,
      ⟨X.admits, X.cas, X.clock, X.frames, X.room, X.hears, X.method, X.code, (X.here.setHeapUsed s₂.heap s₂.slotsUsed).setVm hW'.alike, X.tail, State.WarmedH.trans X.warmed hW', X.limits, X.bytes, X.same.trans (hsame.setVm s.vm)⟩,
      ⟨g, mk, s₂, L, E, ce, rfl, rfl, hx, hce, hcv, hcl, rfl, hL, rfl, rfl⟩, ?_⟩
    show Steps p.tables e below _ (((({ U with heap := s₂.heap, slotsUsed := s₂.slotsUsed } : State).setVm s₂.vm).setTop g).pushFrame (.throwing q))
    rw [← hs₂]
    exact hsteps
end
variable {p : Program} {l : Launch} {e : Env} {R : Room} {s : State} {m : MethodId} {args : Array Value} {below : List Frame} {meth : Method} {c : Code} {T : State} {H : Heap} {locs : List Loc} {cells slots : Nat}
theorem vx_callVX (X : Stand p l e R s m args below meth c T locs cells slots) (hexec : p.tables.exec = Jvm.exec) {own C : String} {index : Nat} {y : MethodName} {bytes : ByteArray} {maxL : Nat} {ret : Option FieldType} {hh : List (Nat × Nat × Nat × Nat)}
    (hown : s.vm.findClass own = some m.cls) (hlink : (Cond.methodLink own index y).before args s = true) (hinst : (Cond.instanceMethod y).before args s = true) (hsel : (Cond.selects C y y).before args s = true)
    (hcode : (Cond.codeWith y bytes maxL ret hh).before args s = true) (hy : y.cls ≠ "java/lang/invoke/MethodHandle" ∧ y.cls ≠ "java/lang/invoke/VarHandle")
    {W9 : Nat} {Pre : Pt → Array Value → Prop} {Post : Pt → Array Value → Option Value → Pt → Prop} {PostX : Pt → Array Value → Addr → Pt → Prop} (hK : vx_Back l R p e below s args y 3 W9 Pre Post PostX)
    {b : Addr} {cellB : Cell} (hcell : T.heap[b]? = some cellB) (hobj : cellB.vm.isStatics = false) (hcls : s.vm.findClass C = some cellB.cls)
    {g : JFrame} (hg : g.method = m) (hsize : g.locals.size = c.maxLocals) {argsL rest : List Value} (hlen : ∀ sig, parseMethodDescriptor y.desc = some sig → argsL.length = sig.parameters.length)
    (hstack : g.stack = argsL.reverse ++ .ref b :: rest) (hW : 2 * g.monitorRoom + (rest.map fun v => v.category).sum ≤ W9) (hdg : decode c.code g.pc = .ok (.invokevirtual index, 3))
    (hpre : ∀ vm₁, s.WarmedH vm₁ → Pre ⟨T.setVm vm₁, locs, cells, slots⟩ (Value.ref b :: argsL).toArray) :
    (∃ (v : Option Value) (vm₁ : Vm) (B : Pt), s.WarmedH vm₁ ∧ Stand p l e R s m args below meth c B.U B.locs B.cells B.slots ∧ Post ⟨T.setVm vm₁, locs, cells, slots⟩ (Value.ref b :: argsL).toArray v B ∧
      ∀ target, Steps p.tables e below (B.U.setTop { g with pc := g.pc + 3, stack := v.toList ++ rest }) target → Steps p.tables e below (T.setTop g) target) ∨
    (∃ (q : Addr) (vm₁ : Vm) (B : Pt), s.WarmedH vm₁ ∧ Stand p l e R s m args below meth c B.U B.locs B.cells B.slots ∧ PostX ⟨T.setVm vm₁, locs, cells, slots⟩ (Value.ref b :: argsL).toArray q B ∧
      Steps p.tables e below (T.setTop g) ((B.U.setTop { g with stack := rest }).pushFrame (.throwing q))) := by
  obtain ⟨mk, methM, hnamed, hmethM, hstM, habM⟩ := Cond.instanceMethod_spec hinst
  obtain ⟨m8, methM', cM, hn8, hmethM', -, -, -, -, -, -, hsigM⟩ := Cond.codeWith_spec hcode
  cases Option.some.inj (hn8.symm.trans hnamed)
  cases hmethM.symm.trans hmethM'
  obtain ⟨c2, r2, m2, q1, q2, q3, q4, kP, hkP, hkPi⟩ := Cond.selects_spec hsel
  cases hcls.symm.trans q1
  cases (State.methodFound?_of_named hnamed hy).symm.trans q2
  cases hnamed.symm.trans q3
  have hselP : selectMethod e.platform s.vm cellB.cls mk = .method mk := by rw [Launch.admits_selectMethod X.admits]; exact q4
  obtain ⟨vm₁, X₁, hstep₁⟩ := X.invokevirtual hexec hown hlink hnamed hmethM hstM hkP hkPi hy (a := b) (cell := cellB) hcell
    (fun z h => by rw [h] at hobj; cases hobj) hselP hmethM habM hkP hkPi (g := g) hg (argsL := argsL) (rest := rest) (hlen _ hsigM) hstack hdg
  rcases hK m meth c ⟨T.setVm vm₁, locs, cells, slots⟩ { g with stack := rest } (.invokevirtual index) mk (Value.ref b :: argsL).toArray X₁ hg hsize hdg hW (X₁.named hnamed) (hpre vm₁ X₁.warmed) with ⟨v, B, X', hpost, hsteps⟩ | ⟨q, B, X', hpost, hsteps⟩
  · exact Or.inl ⟨v, vm₁, B, X₁.warmed, X', hpost, fun target h => hstep₁ _ fun acts => by rw [doInvoke_state]; exact hsteps.trans h⟩
  · exact Or.inr ⟨q, vm₁, B, X₁.warmed, X', hpost, hstep₁ _ fun acts => by rw [doInvoke_state]; exact hsteps⟩
theorem vx_callSX (X : Stand p l e R s m args below meth c T locs cells slots) (hexec : p.tables.exec = Jvm.exec) {own : String} {index : Nat} {y : MethodName} {bytes : ByteArray} {maxL : Nat} {ret : Option FieldType} {hh : List (Nat × Nat × Nat × Nat)}
    (hown : s.vm.findClass own = some m.cls) (hlink : (Cond.methodLink own index y).before args s = true) (hstat : (Cond.static y).before args s = true) (hinit : (Cond.initialized y.cls).before args s = true)
    (hcode : (Cond.codeWith y bytes maxL ret hh).before args s = true) (hy : y.cls ≠ "java/lang/invoke/MethodHandle" ∧ y.cls ≠ "java/lang/invoke/VarHandle")
    {W9 : Nat} {Pre : Pt → Array Value → Prop} {Post : Pt → Array Value → Option Value → Pt → Prop} {PostX : Pt → Array Value → Addr → Pt → Prop} (hK : vx_Back l R p e below s args y 3 W9 Pre Post PostX)
    {g : JFrame} (hg : g.method = m) (hsize : g.locals.size = c.maxLocals) {argsL rest : List Value} (hlen : ∀ sig, parseMethodDescriptor y.desc = some sig → argsL.length = sig.parameters.length)
    (hstack : g.stack = argsL.reverse ++ rest) (hW : 2 * g.monitorRoom + (rest.map fun v => v.category).sum ≤ W9) (hdg : decode c.code g.pc = .ok (.invokestatic index, 3))
    (hpre : ∀ vm₁, s.WarmedH vm₁ → Pre ⟨T.setVm vm₁, locs, cells, slots⟩ argsL.toArray) :
    (∃ (v : Option Value) (vm₁ : Vm) (B : Pt), s.WarmedH vm₁ ∧ Stand p l e R s m args below meth c B.U B.locs B.cells B.slots ∧ Post ⟨T.setVm vm₁, locs, cells, slots⟩ argsL.toArray v B ∧
      ∀ target, Steps p.tables e below (B.U.setTop { g with pc := g.pc + 3, stack := v.toList ++ rest }) target → Steps p.tables e below (T.setTop g) target) ∨
    (∃ (q : Addr) (vm₁ : Vm) (B : Pt), s.WarmedH vm₁ ∧ Stand p l e R s m args below meth c B.U B.locs B.cells B.slots ∧ PostX ⟨T.setVm vm₁, locs, cells, slots⟩ argsL.toArray q B ∧
      Steps p.tables e below (T.setTop g) ((B.U.setTop { g with stack := rest }).pushFrame (.throwing q))) := by
  obtain ⟨mk, methM, cM, hnamed, hmethM, -, -, -, -, -, -, hsigM⟩ := Cond.codeWith_spec hcode
  have hstatic : methM.isStatic = true := Cond.static_spec hnamed hmethM hstat
  obtain ⟨kP, hkP, -⟩ := className_of_methodNamed hnamed
  have hinitP : kP.init = .initialized := Cond.initialized_spec (findClass_of_methodNamed hnamed) hkP hinit
  obtain ⟨vm₁, X₁, hstep₁⟩ := X.invokestatic hexec hown hlink hnamed hmethM hstatic hkP hinitP hy (g := g) hg (argsL := argsL) (rest := rest) (hlen _ hsigM) hstack hdg
  rcases hK m meth c ⟨T.setVm vm₁, locs, cells, slots⟩ { g with stack := rest } (.invokestatic index) mk argsL.toArray X₁ hg hsize hdg hW (X₁.named hnamed) (hpre vm₁ X₁.warmed) with ⟨v, B, X', hpost, hsteps⟩ | ⟨q, B, X', hpost, hsteps⟩
  · exact Or.inl ⟨v, vm₁, B, X₁.warmed, X', hpost, fun target h => hstep₁ _ fun acts => by rw [doInvoke_state]; exact hsteps.trans h⟩
  · exact Or.inr ⟨q, vm₁, B, X₁.warmed, X', hpost, hstep₁ _ fun acts => by rw [doInvoke_state]; exact hsteps⟩
theorem vx_callVW (X : Stand p l e R s m args below meth c T locs cells slots) (hexec : p.tables.exec = Jvm.exec) {own C : String} {index : Nat} {y : MethodName} {bytes : ByteArray} {maxL : Nat} {ret : Option FieldType} {hh : List (Nat × Nat × Nat × Nat)}
    (hown : s.vm.findClass own = some m.cls) (hlink : (Cond.methodLink own index y).before args s = true) (hinst : (Cond.instanceMethod y).before args s = true) (hsel : (Cond.selects C y y).before args s = true)
    (hcode : (Cond.codeWith y bytes maxL ret hh).before args s = true) (hy : y.cls ≠ "java/lang/invoke/MethodHandle" ∧ y.cls ≠ "java/lang/invoke/VarHandle")
    {W9 : Nat} {Pre : Pt → Array Value → Prop} {Post : Pt → Array Value → Option Value → Pt → Prop} (hK : Back l R p e below s args y 3 W9 Pre Post)
    {b : Addr} {cellB : Cell} (hcell : T.heap[b]? = some cellB) (hobj : cellB.vm.isStatics = false) (hcls : s.vm.findClass C = some cellB.cls)
    {g : JFrame} (hg : g.method = m) (hsize : g.locals.size = c.maxLocals) {argsL rest : List Value} (hlen : ∀ sig, parseMethodDescriptor y.desc = some sig → argsL.length = sig.parameters.length)
    (hstack : g.stack = argsL.reverse ++ .ref b :: rest) (hW : 2 * g.monitorRoom + (rest.map fun v => v.category).sum ≤ W9) (hdg : decode c.code g.pc = .ok (.invokevirtual index, 3))
    (hpre : ∀ vm₁, s.WarmedH vm₁ → Pre ⟨T.setVm vm₁, locs, cells, slots⟩ (Value.ref b :: argsL).toArray) :
    ∃ (v : Option Value) (vm₁ : Vm) (B : Pt), s.WarmedH vm₁ ∧ Stand p l e R s m args below meth c B.U B.locs B.cells B.slots ∧ Post ⟨T.setVm vm₁, locs, cells, slots⟩ (Value.ref b :: argsL).toArray v B ∧
      ∀ target, Steps p.tables e below (B.U.setTop { g with pc := g.pc + 3, stack := v.toList ++ rest }) target → Steps p.tables e below (T.setTop g) target := by
  obtain ⟨mk, methM, hnamed, hmethM, hstM, habM⟩ := Cond.instanceMethod_spec hinst
  obtain ⟨m8, methM', cM, hn8, hmethM', -, -, -, -, -, -, hsigM⟩ := Cond.codeWith_spec hcode
  cases Option.some.inj (hn8.symm.trans hnamed)
  cases hmethM.symm.trans hmethM'
  obtain ⟨c2, r2, m2, q1, q2, q3, q4, kP, hkP, hkPi⟩ := Cond.selects_spec hsel
  cases hcls.symm.trans q1
  cases (State.methodFound?_of_named hnamed hy).symm.trans q2
  cases hnamed.symm.trans q3
  have hselP : selectMethod e.platform s.vm cellB.cls mk = .method mk := by rw [Launch.admits_selectMethod X.admits]; exact q4
  obtain ⟨vm₁, X₁, hstep₁⟩ := X.invokevirtual hexec hown hlink hnamed hmethM hstM hkP hkPi hy (a := b) (cell := cellB) hcell
    (fun z h => by rw [h] at hobj; cases hobj) hselP hmethM habM hkP hkPi (g := g) hg (argsL := argsL) (rest := rest) (hlen _ hsigM) hstack hdg
  obtain ⟨v, B, X', hpost, hsteps⟩ := hK m meth c ⟨T.setVm vm₁, locs, cells, slots⟩ { g with stack := rest } (.invokevirtual index) mk (Value.ref b :: argsL).toArray X₁ hg hsize hdg hW (X₁.named hnamed) (hpre vm₁ X₁.warmed)
  exact ⟨v, vm₁, B, X₁.warmed, X', hpost, fun target h => hstep₁ _ fun acts => by rw [doInvoke_state]; exact hsteps.trans h⟩
abbrev vx_CVW (R : Room) (s : State) (args : Array Value) (own C : String) (index : Nat) (y : MethodName) (bytes : ByteArray) (maxL : Nat) (ret : Option FieldType) (hh : List (Nat × Nat × Nat × Nat)) (ws : List Cond) (rm : Room) (mc ms n : Nat) : Prop :=
  (rm.cells = mc ∧ rm.slots = ms ∧ rm.frames + 1 ≤ R.frames ∧ 8 + (maxL + 11) + rm.locals ≤ R.locals ∧ (∀ w ∈ ws, ∀ (a' : Array Value) (U : State), s.WarmedH U.vm → w.before a' U = true) ∧ Cond.codeWith y bytes maxL ret hh ∈ ws) ∧
  (Cond.codeWith y bytes maxL ret hh).before args s = true ∧ (Cond.initialized y.cls).before args s = true ∧ (y.cls ≠ "java/lang/invoke/MethodHandle" ∧ y.cls ≠ "java/lang/invoke/VarHandle") ∧
  (∀ sig, parseMethodDescriptor y.desc = some sig → n = sig.parameters.length) ∧ (Cond.methodLink own index y).before args s = true ∧ (Cond.instanceMethod y).before args s = true ∧ (Cond.selects C y y).before args s = true
theorem vx_cwVW {own C : String} {index maxL mc ms : Nat} {y : MethodName} {bytes : ByteArray} {ret : Option FieldType} {hh : List (Nat × Nat × Nat × Nat)} {Ts ws ws' : List Cond} {rm : Room} (n : Nat) (ht : ∀ w ∈ Ts, w.before args s = true) (hT : GoodIn Ts (wsV own index C y ws)) (hw : ws = Cond.codeWith y bytes maxL ret hh :: ws') (hrc : rm.cells = mc) (hrs : rm.slots = ms)
    (hd : y.cls = C ∧ y.cls ≠ "java/lang/invoke/MethodHandle" ∧ y.cls ≠ "java/lang/invoke/VarHandle" ∧ (parseMethodDescriptor y.desc).map (fun d => d.parameters.length) = some n) (hR : rm.frames + 1 ≤ R.frames ∧ 8 + (maxL + 11) + rm.locals ≤ R.locals) :
    vx_CVW R s args own C index y bytes maxL ret hh ws rm mc ms n := by
  obtain ⟨hC, hd⟩ := hd
  subst hC
  have ok : ∀ w ∈ wsV own index y.cls y ws, w.before args s = true := fun w h => ht w (hT w h).1
  have hG : GoodIn Ts ws := fun w h => hT w (by unfold wsV; exact List.mem_append_right _ h)
  have hc : Cond.codeWith y bytes maxL ret hh ∈ ws := by rw [hw]; exact List.mem_cons_self
  refine ⟨⟨hrc, hrs, hR.1, hR.2, pay_in ht hG, hc⟩, ht _ (hG _ hc).1, ok _ (by simp [wsV]), ⟨hd.1, hd.2.1⟩, fun sig h => ?_, ok _ (by simp [wsV]), ok _ (by simp [wsV]), ok _ (by simp [wsV])⟩
  have h2 := hd.2.2
  rw [h] at h2
  exact (Option.some.inj h2).symm
theorem vx_runVW {y : MethodName} {bytes cc : ByteArray} {maxL nL mc ms n index : Nat} {ret : Option FieldType} {hh : List (Nat × Nat × Nat × Nat)} {ws : List Cond} {rm : Room} {Pc : Array Value → State → Prop} {Qc : Array Value → State → Outcome → State → Prop} {free : Addr → Prop} {Ts : List Cond} {own C : String} {b : Addr} {As rest : List Value} {g : JFrame}
    (S : CallFix p m c cc nL s args Ts own) (hM : Met l y ws rm Pc Qc mc ms free) (cw : vx_CVW R s args own C index y bytes maxL ret hh ws rm mc ms n) (hp : PreV s H C b Pc As)
    (hg : g.method = m) (hn : As.length = n) (hsize : g.locals.size = nL) (hstack : g.stack = As.reverse ++ .ref b :: rest) (hW : 2 * g.monitorRoom + (rest.map fun v => v.category).sum ≤ 8) (hdg : decode cc g.pc = .ok (.invokevirtual index, 3)) (hf : cells + mc ≤ R.cells ∧ slots + ms ≤ R.slots) :
    va_Run p l e R s m args below meth c H locs cells slots mc ms g rest (Qc (Value.ref b :: As).toArray) free := by
  obtain ⟨⟨hrc, hrs, hfr, hlo, hws, hcw⟩, hcode, hini, hy, hlen, hl, hin, hse⟩ := cw
  have hK : Back l R p e below s args y 3 8 (PreOf R mc ms Pc) (PostOf Qc mc ms free) := va_backW (hh := hh) (bytes := bytes) (maxL := maxL) (ret := ret) hM hp.1 hrc hrs hfr hlo hws hcw (fun a' U hW => word_at hW (Or.inl (by first | rfl | simp [Cond.onTables, Cond.keeps, Cond.steady])) hini)
  obtain ⟨hx, hb, hml, ho, -⟩ := S
  obtain ⟨-, ⟨cellB, hcB, hoB, hclB⟩, hPc⟩ := hp
  intro T hT X
  obtain ⟨v, vm₁, ⟨U', l2, c2, s2⟩, hW₁, X', ⟨g', mk, t, L, e1, e2, hq, h1, hL, h2, h3⟩, st⟩ := vx_callVW X hx (C := C) (hh := hh) (bytes := bytes) (maxL := maxL) (ret := ret) ho hl hin hse hcode hy hK (by rw [hT]; exact hcB) hoB hclB hg (hsize.trans hml.symm) (argsL := As) (rest := rest) (fun sig h => hn.trans (hlen sig h)) hstack hW (by rw [hb]; exact hdg)
    (fun vm₁ hW₁ => ⟨hf.1, hf.2, hPc (T.setVm vm₁) hT hW₁⟩)
  dsimp only [Pt.U, Pt.locs, Pt.cells, Pt.slots] at X' e1 e2 h1 h2 h3 st
  subst h1; subst h2; subst h3
  exact ⟨v, (T.setVm vm₁).calling g' mk (Value.ref b :: As).toArray, t, U', L, hT, X', hL, e1, e2, hq, st⟩
section
variable {y : MethodName} {bytes cc : ByteArray} {maxL nL mc ms n index : Nat} {ret : Option FieldType} {ws : List Cond} {rm : Room} {Pc : Array Value → State → Prop} {Qc : Array Value → State → Outcome → State → Prop} {XC : String → State → State → Prop} {free : Addr → Prop} {Ts : List Cond} {own C : String} {b : Addr} {As rest : List Value} {g : JFrame}
theorem vx_runVX {hh : List (Nat × Nat × Nat × Nat)} (S : CallFix p m c cc nL s args Ts own) (hM : vx_Met l y ws rm Pc Qc XC mc ms free) (cw : vx_CVW R s args own C index y bytes maxL ret hh ws rm mc ms n) (hp : PreV s H C b Pc As)
    (hg : g.method = m) (hn : As.length = n) (hsize : g.locals.size = nL) (hstack : g.stack = As.reverse ++ .ref b :: rest) (hW : 2 * g.monitorRoom + (rest.map fun v => v.category).sum ≤ 8) (hdg : decode cc g.pc = .ok (.invokevirtual index, 3)) (hf : cells + mc ≤ R.cells ∧ slots + ms ≤ R.slots) :
    vx_Run p l e R s m args below meth c H locs cells slots mc ms g rest (Qc (Value.ref b :: As).toArray) XC free := by
  obtain ⟨⟨hrc, hrs, hfr, hlo, hws, hcw⟩, hcode, hini, hy, hlen, hl, hin, hse⟩ := cw
  have hK : vx_Back l R p e below s args y 3 8 (PreOf R mc ms Pc) (PostOf Qc mc ms free) (vx_Post XC mc ms free) := vx_backW (hh := hh) (bytes := bytes) (maxL := maxL) (ret := ret) hM hp.1 hrc hrs hfr hlo hws hcw (fun a' U hW => word_at hW (Or.inl (by first | rfl | simp [Cond.onTables, Cond.keeps, Cond.steady])) hini)
  obtain ⟨hx, hb, hml, ho, -⟩ := S
  obtain ⟨-, ⟨cellB, hcB, hoB, hclB⟩, hPc⟩ := hp
  intro T hT X
  rcases vx_callVX X hx (C := C) (hh := hh) (bytes := bytes) (maxL := maxL) (ret := ret) ho hl hin hse hcode hy hK (by rw [hT]; exact hcB) hoB hclB hg (hsize.trans hml.symm) (argsL := As) (rest := rest) (fun sig h => hn.trans (hlen sig h)) hstack hW (by rw [hb]; exact hdg)
    (fun vm₁ hW₁ => ⟨hf.1, hf.2, hPc (T.setVm vm₁) hT hW₁⟩) with ⟨v, vm₁, ⟨U', l2, c2, s2⟩, hW₁, X', ⟨g', mk, t, L, e1, e2, hq, h1, hL, h2, h3⟩, st⟩ | ⟨q, vm₁, ⟨U', l2, c2, s2⟩, hW₁, X', ⟨g', mk, t, L, E, ce, e1, e2, hq, hce, hcv, hcl, h1, hL, h2, h3⟩, st⟩
  · dsimp only [Pt.U, Pt.locs, Pt.cells, Pt.slots] at X' e1 e2 h1 h2 h3 st
    subst h1; subst h2; subst h3
    exact Or.inl ⟨v, (T.setVm vm₁).calling g' mk (Value.ref b :: As).toArray, t, U', L, hT, X', hL, e1, e2, hq, st⟩
  · dsimp only [Pt.U, Pt.locs, Pt.cells, Pt.slots] at X' e1 e2 h1 h2 h3 st hcl
    subst h1; subst h2; subst h3
    exact Or.inr ⟨q, (T.setVm vm₁).calling g' mk (Value.ref b :: As).toArray, t, U', L, E, ce, hT, X', hL, e1, e2, hq, hce, hcv, vx_cls hW₁ hcl, st⟩
theorem vx_runSX {hh : List (Nat × Nat × Nat × Nat)} (S : CallFix p m c cc nL s args Ts own) (hM : vx_Met l y ws rm Pc Qc XC mc ms free) (cw : vx_CSW R s args own index y bytes maxL ret hh ws rm mc ms n) (hp : PreS s H Pc As)
    (hg : g.method = m) (hn : As.length = n) (hsize : g.locals.size = nL) (hstack : g.stack = As.reverse ++ rest) (hW : 2 * g.monitorRoom + (rest.map fun v => v.category).sum ≤ 8) (hdg : decode cc g.pc = .ok (.invokestatic index, 3)) (hf : cells + mc ≤ R.cells ∧ slots + ms ≤ R.slots) :
    vx_Run p l e R s m args below meth c H locs cells slots mc ms g rest (Qc As.toArray) XC free := by
  obtain ⟨⟨hrc, hrs, hfr, hlo, hws, hcw⟩, hcode, hini, hy, hlen, hl, hstt⟩ := cw
  have hK : vx_Back l R p e below s args y 3 8 (PreOf R mc ms Pc) (PostOf Qc mc ms free) (vx_Post XC mc ms free) := vx_backW (hh := hh) (bytes := bytes) (maxL := maxL) (ret := ret) hM hp.1 hrc hrs hfr hlo hws hcw (fun a' U hW => word_at hW (Or.inl (by first | rfl | simp [Cond.onTables, Cond.keeps, Cond.steady])) hini)
  obtain ⟨hx, hb, hml, ho, -⟩ := S
  intro T hT X
  rcases vx_callSX X hx (hh := hh) (bytes := bytes) (maxL := maxL) (ret := ret) ho hl hstt hini hcode hy hK hg (hsize.trans hml.symm) (argsL := As) (rest := rest) (fun sig h => hn.trans (hlen sig h)) hstack hW (by rw [hb]; exact hdg)
    (fun vm₁ hW₁ => ⟨hf.1, hf.2, hp.2 (T.setVm vm₁) hT hW₁⟩) with ⟨v, vm₁, ⟨U', l2, c2, s2⟩, hW₁, X', ⟨g', mk, t, L, e1, e2, hq, h1, hL, h2, h3⟩, st⟩ | ⟨q, vm₁, ⟨U', l2, c2, s2⟩, hW₁, X', ⟨g', mk, t, L, E, ce, e1, e2, hq, hce, hcv, hcl, h1, hL, h2, h3⟩, st⟩
  · dsimp only [Pt.U, Pt.locs, Pt.cells, Pt.slots] at X' e1 e2 h1 h2 h3 st
    subst h1; subst h2; subst h3
    exact Or.inl ⟨v, (T.setVm vm₁).calling g' mk As.toArray, t, U', L, hT, X', hL, e1, e2, hq, st⟩
  · dsimp only [Pt.U, Pt.locs, Pt.cells, Pt.slots] at X' e1 e2 h1 h2 h3 st hcl
    subst h1; subst h2; subst h3
    exact Or.inr ⟨q, (T.setVm vm₁).calling g' mk As.toArray, t, U', L, E, ce, hT, X', hL, e1, e2, hq, hce, hcv, vx_cls hW₁ hcl, st⟩
end
end VXH
theorem vx_ofWH {l : Launch} {y : MethodName} {ws ws' : List Cond} {rm : Room} {Pc : Array Value → State → Prop} {Qc : Array Value → State → Outcome → State → Prop} {XC : String → State → State → Prop} {mc ms : Nat} {free : Addr → Prop} {cc : ByteArray} {maxL : Nat} {ret : Option FieldType} {hh : List (Nat × Nat × Nat × Nat)}
    (hy : plainName y.cls = true) (hw : ws = Cond.codeWith y cc maxL ret hh :: ws')
    (body : ∀ p e s m args below meth c s₁, BodyLoose p l y (headSpec ws rm) cc maxL ret e s m args below meth c s₁ → c.maxLocals = maxL → Pc args s →
      W p l e (headSpec ws rm).room s m args below meth c s.heap [] 0 0 (vx_MQ below Qc XC args s mc ms free) (entryFrame m args maxL)) : vx_Met l y ws rm Pc Qc XC mc ms free := by
  refine MetFree.of_bodyS (code := cc) (maxLocals := maxL) (ret := ret) hy ?_ ?_
  · intro args s m h hn
    obtain ⟨m9, meth, c, hn9, h1, h2, h3, h4, -, h5, h6, -⟩ := Cond.codeWith_spec (atoms_spec (ws := ws) h _ (by rw [hw]; exact List.mem_cons_self))
    cases hn.symm.trans hn9
    exact ⟨meth, c, h1, h2, h3, h4, h5, h6⟩
  · intro p e s m args below meth c s₁ B hml hP _
    have hh0 : s₁.heap = s.heap := by rw [B.state]; rfl
    obtain ⟨t, a1, o, b1, b2, b3⟩ := body p e s m args below meth c s₁ B hml hP s₁ hh0 (Stand.of_body B)
    exact ⟨t, o, a1, b1, b2, b3⟩
/-! ===== END ===== -/

/-! ===== BEGIN what the machine throws by itself, no traces kept ===== -/
section VXM
set_option maxHeartbeats 1000000 in
/-- the machine throws cls with the message text, no traces kept: from its note over the frame g to 'throwing' over the same frame (follows the proofs of Stand.vmThrowsMessage, Shelf/KitTracedVmS.lean, and Stand.throwsMessageColdBareV, StandMessageColdV.lean, without the step out of the frame) -/
theorem vx_vmAt {p : Program} {l : Launch} {e : Env} {R : Room} {s : State} {m₀ : MethodId} {args : Array Value} {below : List Frame} {meth : Method} {c : Code} {W : State} {locs : List Loc} {cells slots : Nat}
    (X : Stand p l e R s m₀ args below meth c W locs cells slots) (hexec : p.tables.exec = Jvm.exec) (htr : e.platform.stackTraces = false) {cls : String} {names : List String} {text : String}
    (hcls : Bundle.fit cls = true) (hnames : ∀ n ∈ names, Bundle.fit n = true) (hsoe : (cls == "java/lang/StackOverflowError") = false) (hoom : (cls == "java/lang/OutOfMemoryError") = false)
    (h : ∀ a ∈ Bundle.messageArmAtoms cls names, a.before args s = true)
    (hlocs : ∀ x ∈ locs, ∀ cell, s.heap[x.base]? = some cell → cell.vm.isStatics = false)
    (htext : (text == notModelled) = false) (hlimit : ¬ (stringBytes (stringToUtf16 text)).size > e.platform.arrayLengthLimit) (hheap : ¬ (stringBytes (stringToUtf16 text)).size * componentBytes .byte > e.platform.maxHeapBytes)
    {g : JFrame} (hg : g.method = m₀) (hsize : g.locals.size = c.maxLocals)
    (hRframes : names.length + 4 < R.frames) (hRlocals : 2 * g.monitorRoom + (g.stack.map fun v => v.category).sum + 10240 ≤ R.locals) (hshort : 13 * names.length + 55 ≤ 10240)
    (hRcells : cells + 3 ≤ R.cells) (hRslots : slots + ((stringBytes (stringToUtf16 text)).size + 4 + 6) ≤ R.slots) (hlocks : meth.locks = false) :
    ∃ (S : State) (q : Addr) (ce : Cell), (∀ target, Steps p.tables e below ((S.setTop g).pushFrame (.throwing q)) target → Steps p.tables e below ((W.setTop g).pushFrame (.throwNew cls (some text) none)) target) ∧
      Stand p l e R s m₀ args below meth c S locs (cells + 3) (slots + ((stringBytes (stringToUtf16 text)).size + 4 + 6)) ∧ S.heap[q]? = some ce ∧ s.vm.findClass cls = some ce.cls ∧ ce.vm = .none := by
  have howns : e.platform.frameOwnsMonitors = true := by rw [X.admits.platform]
  have hfin : e.platform.finalization = false := by rw [X.admits.platform]
  have hpl : e.platform.magicAccessors = ({} : Platform).magicAccessors := by rw [X.admits.platform]
  have a : ∀ x, x ∈ Bundle.messageArmAtoms cls names → x.holds args s none s [] = true := fun x hx => h x hx
  obtain ⟨T, Z0, L, -, Y⟩ := ThrowableC.of_atoms (args := args) howns hfin hpl (fun x hx => h x (by simp [Bundle.messageArmAtoms, hx]))
  obtain ⟨Z, M, LZ, LM, hnZ⟩ := Init0T.ofS_atoms (args := args) hpl L Y (fun x hx => h x (by simp [Bundle.messageArmAtoms, hx]))
  obtain ⟨P1, Ps, hlen, L1, hL, hP1m, hlink1, hlink⟩ := Bundle.chainS (args := args) hpl hnZ names cls hcls hnames (fun x hx => h x (by simp [Bundle.messageArmAtoms, hx]))
  obtain ⟨Zs, LZs, hn4, hfitv, hfitc⟩ := StringT.of_atoms (args := args) (fun x hx => h x (by simp [Bundle.messageArmAtoms, hx]))
  have hfound : s.vm.findClass cls = some P1.m.cls := findClass_of_methodNamed hP1m
  obtain ⟨c1, kX, hc1, hk, hord, -, -, hn6⟩ := Cond.instantiable_spec (a (.instantiable cls 6) (by simp [Bundle.messageArmAtoms]))
  cases Option.some.inj (hc1.symm.trans hfound)
  have hinit := Cond.initialized_spec hfound hk (a (.initialized cls) (by simp [Bundle.messageArmAtoms]))
  have hctor : kX.findMethod "<init>" "(Ljava/lang/String;)V" = some P1.m.idx := findMethod_of_methodNamed hP1m hk
  have hsel0 : selectMethod e.platform s.vm P1.m.cls T.fill0 = .method T.fill0 := by
    obtain ⟨c2, r2, m2, q1, q2, q3, q4, -⟩ := Cond.selects_spec (a (.selects cls Bundle.tFill0 Bundle.tFill0) (by simp [Bundle.messageArmAtoms]))
    cases Option.some.inj (q1.symm.trans hfound)
    cases Option.some.inj (q2.symm.trans (State.methodFound?_of_named Y.fill0 (by decide)))
    cases Option.some.inj (q3.symm.trans Y.fill0)
    rw [Launch.admits_selectMethod X.admits]; exact q4
  have hselF : selectMethod e.platform s.vm P1.m.cls T.fill = .method T.fill := by
    obtain ⟨c2, r2, m2, q1, q2, q3, q4, -⟩ := Cond.selects_spec (a (.selects cls Bundle.tFill Bundle.tFill) (by simp [Bundle.messageArmAtoms]))
    cases Option.some.inj (q1.symm.trans hfound)
    cases Option.some.inj (q2.symm.trans (State.methodFound?_of_named Y.fill (by decide)))
    cases Option.some.inj (q3.symm.trans Y.fill)
    rw [Launch.admits_selectMethod X.admits]; exact q4
  obtain ⟨cellS0, hcS0, hiss⟩ := Y.statics
  obtain ⟨u0, hu0⟩ := Cond.staticRefV Y.unassigned L.unassignedStatic L.statics hcS0 hiss (a (.isRef (.static Bundle.tN "UNASSIGNED_STACK" Bundle.steD)) (by simp [Bundle.messageArmAtoms]))
  obtain ⟨sen, hsen⟩ := Cond.staticRefV Y.sentinel L.sentinelStatic L.statics hcS0 hiss (a (.isRef (.static Bundle.tN "SUPPRESSED_SENTINEL" Bundle.listD)) (by simp [Bundle.messageArmAtoms]))
  obtain ⟨ci198, i198, fB, hk198, hg198, ha198, hsB, -, hnB, htB, hffB⟩ := Cond.ownField (t := .object "java/lang/Object") Y.found L.cls (by decide +kernel) (a (.fieldLink Bundle.tN 198 Bundle.tN "backtrace" "Ljava/lang/Object;") (by simp [Bundle.messageArmAtoms])) (a (.lays Bundle.tN Bundle.tN "backtrace" "Ljava/lang/Object;") (by simp [Bundle.messageArmAtoms])) e.platform hpl
  obtain ⟨cellS, hcS', heS, -, hkeep⟩ := X.same.2.2.2.2.2 T.aS cellS0 hcS0
  have hcellS : W.heap[T.aS]? = some cellS := hcS'
  have hout' : ∀ i, (⟨T.aS, i⟩ : Loc) ∉ locs := fun i hmem => by
    have := hlocs _ hmem cellS0 hcS0
    rw [hiss] at this; cases this
  have hknownS : cellS.vm ≠ .unknown := by
    rw [heS]; intro hu
    rw [show cellS0.vm = .unknown from hu] at hiss
    cases hiss
  have hvU : cellS.slots[T.fUnassigned.slot]? = some u0.v := by rw [hkeep _ (hout' _)]; exact hu0
  have hvSen : cellS.slots[T.fSentinel.slot]? = some sen.v := by rw [hkeep _ (hout' _)]; exact hsen
  obtain ⟨iM, hffM⟩ := Y.msg
  obtain ⟨tyC, dC, hdC, hdnC⟩ := Cond.laysAt hfound hk Y.cause (a (.lays cls Bundle.tN "cause" "Ljava/lang/Throwable;") (by simp [Bundle.messageArmAtoms]))
  obtain ⟨tyS, dS, hdS, hdnS⟩ := Cond.laysAt hfound hk Y.stack (a (.lays cls Bundle.tN "stackTrace" Bundle.steD) (by simp [Bundle.messageArmAtoms]))
  obtain ⟨tyP, dP, hdP, hdnP⟩ := Cond.laysAt hfound hk Y.supp (a (.lays cls Bundle.tN "suppressedExceptions" Bundle.listD) (by simp [Bundle.messageArmAtoms]))
  obtain ⟨tyM, dM, hdM, hdnM⟩ := Cond.laysAt hfound hk hffM (a (.lays cls Bundle.tN "detailMessage" "Ljava/lang/String;") (by simp [Bundle.messageArmAtoms]))
  obtain ⟨tyB, dB, hdB, hdnB⟩ := Cond.laysAt hfound hk hffB (a (.lays cls Bundle.tN "backtrace" "Ljava/lang/Object;") (by simp [Bundle.messageArmAtoms]))
  have bC := Cond.laysApart hdB hdC hdnB hdnC (by rw [hnB, Y.causeName]; decide)
  have bS := Cond.laysApart hdB hdS hdnB hdnS (by rw [hnB, Y.stackName]; decide)
  have bP := Cond.laysApart hdB hdP hdnB hdnP (by rw [hnB, Y.suppName]; decide)
  have hbk : ((preparedCellV T.toThrowableT (freshCell P1.m.cls kX) (W.heap.size + 2) u0 sen).withEntry W.cur).slots[fB.slot]? = some .null := by
    have := fresh_default (c := P1.m.cls) tyB
    rw [htB] at this
    simpa [preparedCellV, Cell.setSlot, Cell.withEntry, Array.getElem?_setIfInBounds, bC, bS, bP, bC.symm, bS.symm, bP.symm, defaultValue] using this
  have tkC := Takes.of_laid (v := .ref (W.heap.size + 2)) hk hord tyC (by rw [Y.causeType]; rfl)
  have tkS := Takes.of_laid (v := u0.v) hk hord tyS (by rw [Y.stackType]; exact fits_refV_array _ u0)
  have tkP := Takes.of_laid (v := sen.v) hk hord tyP (by rw [Y.suppType]; exact fits_refV_object _ sen)
  have tkM := Takes.of_laid (v := .ref (W.heap.size + 1)) hk hord tyM (by rw [Y.msgType]; rfl)
  have hskip : SkipFacts T e.platform s (fun u => u) u0 ((preparedCellV T.toThrowableT (freshCell P1.m.cls kX) (W.heap.size + 2) u0 sen).withEntry W.cur) := ⟨{ ci198 := ci198, i198 := i198, fBack := fB }, ⟨hk198, hg198, ha198, hsB⟩, hbk, fun _ _ => rfl⟩
  have h0 : At W g.method c below := by rw [hg]; exact X.here
  obtain ⟨hbeyond, hfreeW⟩ := X.vmMayThrow hsize (.throwNew cls (some text) none) (fun f hf => by cases hf) rfl hRlocals
  have hfr' : W.frames.length + Ps.length + 4 < (e.platform.stackLimits W.me).1 := by have := X.framesAbove hRframes; omega
  have hwd' : (stackUse (.java g :: W.frames.tail)).2 + 13 * Ps.length + 55 ≤ (e.platform.stackLimits W.me).2 := by have := X.stackAbove hsize (K := 13 * Ps.length + 55) (by omega); omega
  have hslots : W.slotsUsed + (stringBytes (stringToUtf16 text)).size + Zs.kS.instanceTypes.size + kX.instanceTypes.size ≤ e.platform.maxSlots := by
    have := X.slotsAbove hRslots
    rw [hn4, hn6]
    omega
  obtain ⟨vm', hW', st⟩ := Steps.vmThrowsMessageColdByV p (s₀ := s) (S := W) (g := g) h0 hexec T L Z LZ M LM X.warmed (t := W.cur) rfl Zs LZs P1 L1 Ps hL hlink1 hlink hsoe hoom hfound hk hinit hord hctor
    (Launch.admits_hotImplicitExceptions X.admits) hbeyond hfreeW htext hlimit hheap (X.cellsAbove hRcells) hslots (hfitv _) (hfitc _)
    (Nn := fun u => u) heapOnly_id (fun _ _ => rfl) (fun _ => rfl) (fun u x y => setCell_twice _ _ _ _) (fun _ => Nat.le_refl _) (cN := ((preparedCellV T.toThrowableT (freshCell P1.m.cls kX) (W.heap.size + 2) u0 sen).withEntry W.cur))
    hsel0 hcellS hknownS hvU tkS (fun _ hu => hu) (fun _ hu => hu) rfl rfl rfl (by simp [preparedCellV, Cell.setSlot, Cell.withEntry]) hskip (fun _ _ hA hW _ hroom _ hrest => L.nativeOff p htr hA hW hroom hrest) hselF hvSen tkC tkP tkM Y.objLocals rfl hfr' hwd'
  rw [plainBareV_eq T.toThrowableT (W.heap.size + 2) u0 sen (.ref (W.heap.size + 1)) W.cur rfl rfl] at st
  obtain ⟨-, -, w3, w4, -, -, -⟩ := withThrown_facts e.platform W Zs text P1.m.cls kX
  have X3 := ((X.pushed (bytesOf Zs.cB (stringToUtf16 text))).pushed (stringAt Zs.cS Zs.kS Zs.fv Zs.fc (stringToUtf16 text) W.heap.size)).pushed (freshCell P1.m.cls kX)
  rw [← withString_eq] at X3
  have X4 := X3.noted hW'
  have ha : (W.heap.size + 2) < ((withThrown W Zs text P1.m.cls kX).setVm vm').heap.size := by show _ < (withThrown W Zs text P1.m.cls kX).heap.size; rw [w3]; omega
  have hcell : ((withThrown W Zs text P1.m.cls kX).setVm vm').heap[(W.heap.size + 2)]? = some (freshCell P1.m.cls kX) := w4
  have X5 := ((((X4.stored hcell T.fCause.slot (.ref (W.heap.size + 2))).storedAgain ha T.fStack.slot u0.v).storedAgain ha T.fSupp.slot sen.v).storedAgain ha T.fStack.slot u0.v).storedAgain ha T.fMsg.slot (.ref (W.heap.size + 1))
  obtain ⟨g₁, hfrM⟩ := X5.frames_eq
  have hU : ((((withThrown W Zs text P1.m.cls kX).setVm vm').setCell (W.heap.size + 2) (plainBareV T.toThrowableT (freshCell P1.m.cls kX) (W.heap.size + 2) u0 sen (.ref (W.heap.size + 1)))).setTop g).pushFrame (.throwing (W.heap.size + 2)) = (((withThrown W Zs text P1.m.cls kX).setVm vm').setCell (W.heap.size + 2) (plainBareV T.toThrowableT (freshCell P1.m.cls kX) (W.heap.size + 2) u0 sen (.ref (W.heap.size + 1)))).setFrames (.throwing (W.heap.size + 2) :: .java g :: below) := by
    rw [State.pushFrame, State.frames_setTop _ hfrM, State.setTop_of_frames _ hfrM, State.setFrames_setFrames]
  have b1 : (bytesOf Zs.cB (stringToUtf16 text)).slots.size = (stringBytes (stringToUtf16 text)).size := by
    rw [(Cell.writeAll_facts _ _).2.2]; simp [bytes0]
  have b2 : (stringAt Zs.cS Zs.kS Zs.fv Zs.fc (stringToUtf16 text) W.heap.size).slots.size = 4 := by simp [string0, Cell.setSlot, hn4]
  have b3 : (freshCell P1.m.cls kX).slots.size = 6 := by simp [hn6]
  rw [b1, b2, b3] at X5
  have e9 : slots + (stringBytes (stringToUtf16 text)).size + 4 + 6 = slots + ((stringBytes (stringToUtf16 text)).size + 4 + 6) := by omega
  rw [e9] at X5
  simp only [List.append_assoc, List.cons_append, List.nil_append] at X5
  refine ⟨((withThrown W Zs text P1.m.cls kX).setVm vm').setCell (W.heap.size + 2) (plainBareV T.toThrowableT (freshCell P1.m.cls kX) (W.heap.size + 2) u0 sen (.ref (W.heap.size + 1))), W.heap.size + 2, _, fun target ht => st _ (by rw [X.tail, ← hU]; exact ht),
    X5.forget (fun y hy => ?_), heapAt_setCell_self _ ha, hfound, rfl⟩
  simp only [List.mem_cons, List.not_mem_nil, or_false] at hy
  have hge : s.heap.size ≤ W.heap.size := X.same.2.1
  rcases hy with rfl | rfl | rfl | rfl | rfl <;> exact Nat.le_trans hge (Nat.le_add_right _ 2)
set_option maxHeartbeats 1000000 in
/-- the machine throws NullPointerException, no traces kept: from its note over the frame g to 'throwing' over the same frame (follows the proof of Stand.vmThrowsNpe, Shelf42/KT2.lean; throwsNpeColdBareVAt, Shelf42/NT91.lean, called) -/
theorem vx_npeAt {p : Program} {l : Launch} {e : Env} {R : Room} {s : State} {m₀ : MethodId} {args : Array Value} {below : List Frame} {meth : Method} {c : Code} {W : State} {locs : List Loc} {cells slots : Nat}
    (X : Stand p l e R s m₀ args below meth c W locs cells slots) (hexec : p.tables.exec = Jvm.exec) (htr : e.platform.stackTraces = false) {n : Nat}
    (h : ∀ a ∈ Bundle.npeArmAtoms n, a.before args s = true)
    (hlocs : ∀ x ∈ locs, ∀ cell, s.heap[x.base]? = some cell → cell.vm.isStatics = false)
    {g : JFrame} (hg : g.method = m₀) (hsize : g.locals.size = c.maxLocals)
    (hRframes : 7 < R.frames) (hRlocals : 2 * g.monitorRoom + (g.stack.map fun v => v.category).sum + 10240 ≤ R.locals)
    (hRcells : cells + 1 ≤ R.cells) (hRslots : slots + n ≤ R.slots) (hlocks : meth.locks = false) :
    ∃ (S : State) (q : Addr) (ce : Cell), (∀ target, Steps p.tables e below ((S.setTop g).pushFrame (.throwing q)) target → Steps p.tables e below ((W.setTop g).pushFrame (.throwNew "java/lang/NullPointerException" none none)) target) ∧
      Stand p l e R s m₀ args below meth c S locs (cells + 1) (slots + n) ∧ S.heap[q]? = some ce ∧ s.vm.findClass "java/lang/NullPointerException" = some ce.cls ∧ ce.vm = .none := by
  have howns : e.platform.frameOwnsMonitors = true := by rw [X.admits.platform]
  have hfin : e.platform.finalization = false := by rw [X.admits.platform]
  have hpl : e.platform.magicAccessors = ({} : Platform).magicAccessors := by rw [X.admits.platform]
  have hpl2 : e.platform.arrayCloneIsPublic = true := by rw [X.admits.platform]
  have a' : ∀ x, x ∈ Bundle.npeArmAtoms n → x.holds args s none s [] = true := fun x hx => h x hx
  obtain ⟨T, Z, L, LZ, Y⟩ := ThrowableC.of_atoms (args := args) howns hfin hpl (fun x hx => h x (by simp [Bundle.npeArmAtoms, hx]))
  obtain ⟨N, LN, hcN, hnNF, hordN, hffS⟩ := NpeC.of_atoms (args := args) hpl hpl2 L Y (fun x hx => h x (by simp [Bundle.npeArmAtoms, hx]))
  obtain ⟨P1, L1, hP1m, hP1s⟩ := PassC.of_atoms (args := args) (s := s) hpl (X := Bundle.nN) (Y := Bundle.rN) (by decide) (by decide) LibCode.NullPointerException.Init0.at_0 LibCode.NullPointerException.Init0.at_1 LibCode.NullPointerException.Init0.at_4 (fun x hx => h x (by simp [Bundle.npeArmAtoms, hx]))
  obtain ⟨PR, LR, hPRm, hPRs⟩ := PassC.of_atoms (args := args) (s := s) hpl (X := Bundle.rN) (Y := Bundle.eN) (by decide) (by decide) LibCode.RuntimeException.Init0.at_0 LibCode.RuntimeException.Init0.at_1 LibCode.RuntimeException.Init0.at_4 (fun x hx => h x (by simp [Bundle.npeArmAtoms, hx]))
  obtain ⟨PE, LEx, hPEm, hPEs⟩ := PassC.of_atoms (args := args) (s := s) hpl (X := Bundle.eN) (Y := Bundle.tN) (by decide) (by decide) LibCode.Exception.Init0.at_0 LibCode.Exception.Init0.at_1 LibCode.Exception.Init0.at_4 (fun x hx => h x (by simp [Bundle.npeArmAtoms, hx]))
  have hfound : s.vm.findClass Bundle.nN = some P1.m.cls := findClass_of_methodNamed hP1m
  have ecls : N.cN = P1.m.cls := Option.some.inj (hcN.symm.trans hfound)
  have hk : s.vm.classes[P1.m.cls]? = some N.kN := by rw [← ecls]; exact LN.cls
  have hinit := Cond.initialized_spec hfound hk (a' (.initialized Bundle.nN) (by simp [Bundle.npeArmAtoms]))
  have hctor : N.kN.findMethod "<init>" "()V" = some P1.m.idx := findMethod_of_methodNamed hP1m hk
  obtain ⟨c1, k1, hc1, hk1, -, -, -, hn⟩ := Cond.instantiable_spec (a' (.instantiable Bundle.nN n) (by simp [Bundle.npeArmAtoms]))
  cases Option.some.inj (hc1.symm.trans hfound)
  cases Option.some.inj (hk1.symm.trans hk)
  have hfsz : (freshCell P1.m.cls N.kN).slots.size = n := by simp [hn]
  have hlink1 : P1.sup = PR.m := Option.some.inj (hP1s.symm.trans hPRm)
  have hlinkR : PR.sup = PE.m := Option.some.inj (hPRs.symm.trans hPEm)
  have hlinkE : PE.sup = Z.m T.toThrowableT := Option.some.inj (hPEs.symm.trans Y.init0)
  have hLs : ∀ P, P ∈ [PR, PE] → P.Links0 e.platform s := fun P hP => by
    simp only [List.mem_cons, List.not_mem_nil, or_false] at hP
    rcases hP with rfl | rfl
    · exact LR
    · exact LEx
  have hsel0 : selectMethod e.platform s.vm P1.m.cls T.fill0 = .method T.fill0 := by
    obtain ⟨c2, r2, m2, q1, q2, q3, q4, -⟩ := Cond.selects_spec (a' (.selects Bundle.nN Bundle.tFill0 Bundle.tFill0) (by simp [Bundle.npeArmAtoms]))
    cases Option.some.inj (q1.symm.trans hfound)
    cases Option.some.inj (q2.symm.trans (State.methodFound?_of_named Y.fill0 (by decide)))
    cases Option.some.inj (q3.symm.trans Y.fill0)
    rw [Launch.admits_selectMethod X.admits]; exact q4
  have hselF : selectMethod e.platform s.vm P1.m.cls T.fill = .method N.fill := by
    obtain ⟨c2, r2, m2, q1, q2, q3, q4, -⟩ := Cond.selects_spec (a' (.selects Bundle.nN Bundle.tFill Bundle.nFill) (by simp [Bundle.npeArmAtoms]))
    cases Option.some.inj (q1.symm.trans hfound)
    cases Option.some.inj (q2.symm.trans (State.methodFound?_of_named Y.fill (by decide)))
    cases Option.some.inj (q3.symm.trans hnNF)
    rw [Launch.admits_selectMethod X.admits]; exact q4
  obtain ⟨cellS0, hcS0, hiss⟩ := Y.statics
  obtain ⟨u0, hu0⟩ := Cond.staticRefV Y.unassigned L.unassignedStatic L.statics hcS0 hiss (a' (.isRef (.static Bundle.tN "UNASSIGNED_STACK" Bundle.steD)) (by simp [Bundle.npeArmAtoms]))
  obtain ⟨sen, hsen⟩ := Cond.staticRefV Y.sentinel L.sentinelStatic L.statics hcS0 hiss (a' (.isRef (.static Bundle.tN "SUPPRESSED_SENTINEL" Bundle.listD)) (by simp [Bundle.npeArmAtoms]))
  obtain ⟨ci198, i198, fB, hk198, hg198, ha198, hsB, -, hnB, htB, hffB⟩ := Cond.ownField (t := .object "java/lang/Object") Y.found L.cls (by decide +kernel) (a' (.fieldLink Bundle.tN 198 Bundle.tN "backtrace" Bundle.objD) (by simp [Bundle.npeArmAtoms])) (a' (.lays Bundle.tN Bundle.tN "backtrace" Bundle.objD) (by simp [Bundle.npeArmAtoms])) e.platform hpl
  obtain ⟨cellS, hcS', heS, -, hkeep⟩ := X.same.2.2.2.2.2 T.aS cellS0 hcS0
  have hcellS : W.heap[T.aS]? = some cellS := hcS'
  have hout' : ∀ i, (⟨T.aS, i⟩ : Loc) ∉ locs := fun i hmem => by
    have := hlocs _ hmem cellS0 hcS0
    rw [hiss] at this; cases this
  have hknownS : cellS.vm ≠ .unknown := by
    rw [heS]; intro hu
    rw [show cellS0.vm = .unknown from hu] at hiss
    cases hiss
  have hvU : cellS.slots[T.fUnassigned.slot]? = some u0.v := by rw [hkeep _ (hout' _)]; exact hu0
  have hvSen : cellS.slots[T.fSentinel.slot]? = some sen.v := by rw [hkeep _ (hout' _)]; exact hsen
  obtain ⟨tyC, dC, hdC, hdnC⟩ := Cond.laysAt hfound hk Y.cause (a' (.lays Bundle.nN Bundle.tN "cause" "Ljava/lang/Throwable;") (by simp [Bundle.npeArmAtoms]))
  obtain ⟨tyS, dS, hdS, hdnS⟩ := Cond.laysAt hfound hk Y.stack (a' (.lays Bundle.nN Bundle.tN "stackTrace" Bundle.steD) (by simp [Bundle.npeArmAtoms]))
  obtain ⟨tyP, dP, hdP, hdnP⟩ := Cond.laysAt hfound hk Y.supp (a' (.lays Bundle.nN Bundle.tN "suppressedExceptions" Bundle.listD) (by simp [Bundle.npeArmAtoms]))
  obtain ⟨tyX, dX, hdX, hdnX⟩ := Cond.laysAt hfound hk hffS (a' (.lays Bundle.nN Bundle.nN "extendedMessageState" "I") (by simp [Bundle.npeArmAtoms, Bundle.npeAtoms]))
  obtain ⟨hnX, htX⟩ := State.fieldFound?_type hffS (t := .int) (by decide +kernel)
  have xC := Cond.laysApart hdC hdX hdnC hdnX (by rw [hnX, Y.causeName]; decide)
  have xS := Cond.laysApart hdS hdX hdnS hdnX (by rw [hnX, Y.stackName]; decide)
  have xP := Cond.laysApart hdP hdX hdnP hdnX (by rw [hnX, Y.suppName]; decide)
  have hv0 : (freshCell P1.m.cls N.kN).slots[N.fState.slot]? = some (.int 0) := by
    have := fresh_default (c := P1.m.cls) tyX
    rw [htX] at this; exact this
  obtain ⟨tyB, dB, hdB, hdnB⟩ := Cond.laysAt hfound hk hffB (a' (.lays Bundle.nN Bundle.tN "backtrace" Bundle.objD) (by simp [Bundle.npeArmAtoms]))
  have bC := Cond.laysApart hdB hdC hdnB hdnC (by rw [hnB, Y.causeName]; decide)
  have bS := Cond.laysApart hdB hdS hdnB hdnS (by rw [hnB, Y.stackName]; decide)
  have bP := Cond.laysApart hdB hdP hdnB hdnP (by rw [hnB, Y.suppName]; decide)
  have bX := Cond.laysApart hdB hdX hdnB hdnX (by rw [hnB, hnX]; decide)
  have hbk : ((npeCell N.toNpeT (preparedCellV T.toThrowableT (freshCell P1.m.cls N.kN) W.heap.size u0 sen) W.cur).withEntry W.cur).slots[fB.slot]? = some .null := by
    have := fresh_default (c := P1.m.cls) tyB
    rw [htB] at this
    simpa [npeCell, preparedCellV, Cell.setSlot, Cell.withEntry, Array.getElem?_setIfInBounds, bC, bS, bP, bX, bC.symm, bS.symm, bP.symm, bX.symm, defaultValue] using this
  have tkC := Takes.of_laid (v := .ref W.heap.size) hk hordN tyC (by rw [Y.causeType]; rfl)
  have tkS := Takes.of_laid (v := u0.v) hk hordN tyS (by rw [Y.stackType]; exact fits_refV_array _ u0)
  have tkP := Takes.of_laid (v := sen.v) hk hordN tyP (by rw [Y.suppType]; exact fits_refV_object _ sen)
  have tkX := Takes.of_laid (v := .int 1) hk hordN tyX (by rw [htX]; rfl)
  have hskip : SkipFacts T e.platform s (fun u => u) u0 ((npeCell N.toNpeT (preparedCellV T.toThrowableT (freshCell P1.m.cls N.kN) W.heap.size u0 sen) W.cur).withEntry W.cur) := ⟨{ ci198 := ci198, i198 := i198, fBack := fB }, ⟨hk198, hg198, ha198, hsB⟩, hbk, fun _ _ => rfl⟩
  obtain ⟨vm', X3, st, -⟩ := X.throwsNpeColdBareVAt hexec hg hsize T L Z LZ N LN P1 L1 [PR, PE] hLs hlink1 ⟨hlinkR, hlinkE, trivial⟩ hfound hk hinit hordN hctor hsel0 hselF hcellS hknownS hvU hvSen
    hv0 xC xS xP tkC tkS tkP tkX Y.objLocals hskip (fun _ _ hA hW _ hroom _ hrest => L.nativeOff p htr hA hW hroom hrest) (by simpa using hRframes) hRlocals (by simp) hRcells (by rw [hn]; exact hRslots)
  have hlt : W.heap.size < ((W.pushCell (freshCell P1.m.cls N.kN)).setVm vm').heap.size := by
    show W.heap.size < (W.pushCell (freshCell P1.m.cls N.kN)).heap.size
    rw [State.heap_size_pushCell]; omega
  rw [hfsz] at X3
  obtain ⟨g₁, hfrM⟩ := X3.frames_eq
  have hU : ((((W.pushCell (freshCell P1.m.cls N.kN)).setVm vm').setCell W.heap.size (npeBareV T.toThrowableT N.toNpeT (freshCell P1.m.cls N.kN) W.heap.size u0 sen)).setTop g).pushFrame (.throwing W.heap.size) = (((W.pushCell (freshCell P1.m.cls N.kN)).setVm vm').setCell W.heap.size (npeBareV T.toThrowableT N.toNpeT (freshCell P1.m.cls N.kN) W.heap.size u0 sen)).setFrames (.throwing W.heap.size :: .java g :: below) := by
    rw [State.pushFrame, State.frames_setTop _ hfrM, State.setTop_of_frames _ hfrM, State.setFrames_setFrames]
  refine ⟨_, W.heap.size, _, fun target ht => st.trans (by rw [← hU]; exact ht), X3.forget (fun y hy => ?_), heapAt_setCell_self _ hlt, hfound, rfl⟩
  simp only [List.mem_cons, List.not_mem_nil, or_false] at hy
  have hge : s.heap.size ≤ W.heap.size := X.same.2.1
  rcases hy with rfl | rfl | rfl | rfl | rfl <;> exact hge
/-- the words of a machine's NullPointerException, but the four that speak of the heap -/
def vx_atN (n : Nat) : List Cond := (Bundle.npeArmAtoms n).filter vx_no
/-- the words of a machine's throw with a message, but the four that speak of the heap -/
def vx_atM (X : String) (names : List String) : List Cond := (Bundle.messageArmAtoms X names).filter vx_no
section
variable {p : Program} {l : Launch} {e : Env} {R : Room} {s : State} {m : MethodId} {args : Array Value} {below : List Frame} {meth : Method} {c : Code} {H : Heap} {locs : List Loc} {cells slots : Nat}
/-- a frame seen from a rebased start, seen from the first start again -/
theorem vx_back9 {T S : State} {R' : Room} {k n : Nat} (X : Stand p l e R s m args below meth c T locs cells slots) (Y : Stand p l e R' ((T.setVm s.vm).setFrames (.invoking m args :: below)) m args below meth c T [] 0 0) (Z : Stand p l e R' ((T.setVm s.vm).setFrames (.invoking m args :: below)) m args below meth c S [] k n) :
    Stand p l e R s m args below meth c S locs (cells + k) (slots + n) := by
  have hW0 : s.WarmedH ((T.setVm s.vm).setFrames (.invoking m args :: below)).vm := State.WarmedH.refl s
  refine { admits := X.admits, cas := X.cas, clock := X.clock, frames := X.frames, room := X.room, hears := X.hears, method := X.method, code := X.code, here := Z.here, tail := Z.tail, warmed := State.WarmedH.trans hW0 Z.warmed, limits := Z.limits.trans (Y.limits.symm.trans X.limits), bytes := Z.bytes.trans (Y.bytes.symm.trans X.bytes), same := ?_ }
  obtain ⟨e1, e2⟩ := Z.same
  rw [State.setFrames_setFrames] at e1
  have h2 : (T.setVm s.vm).sameButNew (S.setVm s.vm) [] k n := ⟨e1, e2⟩
  have h3 := X.same.trans h2
  rw [List.append_nil] at h3
  exact h3
/-- from the machine's note that E is thrown here with this text -/
def vx_Note (p : Program) (l : Launch) (e : Env) (R : Room) (s : State) (m : MethodId) (args : Array Value) (below : List Frame) (meth : Method) (c : Code) (H : Heap) (locs : List Loc) (cells slots : Nat) (Q : State → Prop) (g : JFrame) (E text : String) : Prop :=
  ∀ T : State, T.heap = H → Stand p l e R s m args below meth c T locs cells slots → ∃ t, Steps p.tables e below ((T.setTop g).pushFrame (.throwNew E (some text) none)) t ∧ Q t
theorem vx_vm {pc : Nat} {ls : Array Slot} {rest : List Value} {Q : State → Prop} (hexec : p.tables.exec = Jvm.exec) (hl : l.stackTraces = false) {cls text : String} {names : List String} {nb : Nat} {A : Nat → Prop}
    (hcls : Bundle.fit cls = true) (hnames : ∀ n ∈ names, Bundle.fit n = true) (hsoe : (cls == "java/lang/StackOverflowError") = false) (hoom : (cls == "java/lang/OutOfMemoryError") = false)
    (hat : ∀ w ∈ vx_atM cls names, w.before args s = true) (hgood : ∀ w ∈ vx_atM cls names, vx_ot w = true)
    (hU : vx_Zq Bundle.tN "UNASSIGNED_STACK" Bundle.steD A s s.heap) (hN : vx_Zq Bundle.tN "SUPPRESSED_SENTINEL" Bundle.listD A s s.heap) (hS : va_S A s.heap H locs) (hsize : ls.size = c.maxLocals)
    (htext : (text == notModelled) = false) (hnb : (stringBytes (stringToUtf16 text)).size ≤ nb) (hnb1 : nb ≤ 1000)
    (hRframes : names.length + 4 < R.frames) (hRlocals : (rest.map fun v => v.category).sum + 10240 ≤ R.locals) (hshort : 13 * names.length + 55 ≤ 10240) (hRcells : cells + 3 ≤ R.cells) (hRslots : slots + (nb + 10) ≤ R.slots) (hlocks : meth.locks = false)
    (k : ∀ (H1 : Heap) (q9 : Addr) (ce : Cell), H.size ≤ H1.size → (∀ q : Nat, q < H.size → H1[q]? = H[q]?) → va_S A s.heap H1 locs → H1[q9]? = some ce → ce.vm = .none → s.vm.findClass cls = some ce.cls → vx_W p l e R s m args below meth c H1 locs (cells + 3) (slots + (nb + 10)) Q (F0 m pc ls rest) q9) :
    vx_Note p l e R s m args below meth c H locs cells slots Q (F0 m pc ls rest) cls text := by
  intro T hT X
  have htr : e.platform.stackTraces = false := (show e.platform.stackTraces = l.stackTraces by rw [X.admits.platform]).trans hl
  have Y := vx_rebase X (R' := { frames := R.frames, locals := R.locals, cells := 3, slots := nb + 10 }) (Nat.le_refl _) (Nat.le_refl _) hRcells hRslots
  have hhp : ((T.setVm s.vm).setFrames (.invoking m args :: below)).heap = H := hT
  have hW0 : s.WarmedH ((T.setVm s.vm).setFrames (.invoking m args :: below)).vm := State.WarmedH.refl s
  have hat' : ∀ w ∈ vx_atM cls names, w.before args ((T.setVm s.vm).setFrames (.invoking m args :: below)) = true := fun w hw => vx_ot_at hW0 rfl (hgood w hw) (hat w hw)
  have hU' : vx_Zq Bundle.tN "UNASSIGNED_STACK" Bundle.steD A ((T.setVm s.vm).setFrames (.invoking m args :: below)) ((T.setVm s.vm).setFrames (.invoking m args :: below)).heap := by rw [hhp]; exact vx_Zq.moved hW0.alike (hU.kept hS.2.1)
  have hN' : vx_Zq Bundle.tN "SUPPRESSED_SENTINEL" Bundle.listD A ((T.setVm s.vm).setFrames (.invoking m args :: below)) ((T.setVm s.vm).setFrames (.invoking m args :: below)).heap := by rw [hhp]; exact vx_Zq.moved hW0.alike (hN.kept hS.2.1)
  obtain ⟨S, q, ce, st, Z, hce, hcl', hv⟩ := vx_vmAt Y hexec htr (cls := cls) (names := names) (text := text) hcls hnames hsoe hoom (vx_own hat' (vx_isRefq hU'.1) (vx_isRefq hN'.1) hU'.2.word hN'.2.word) (fun x hx => nomatch hx) htext
    (by rw [Launch.admits_arrayLengthLimit X.admits]; omega) (by rw [Launch.admits_maxHeapBytes X.admits]; simp only [componentBytes]; omega)
    (g := F0 m pc ls rest) rfl hsize hRframes (by show 2 * 0 + (rest.map fun v => v.category).sum + 10240 ≤ R.locals; omega) hshort (by show 0 + 3 ≤ 3; omega) (by show 0 + (_ + 4 + 6) ≤ nb + 10; omega) hlocks
  obtain ⟨f1, f2⟩ := vx_frame Z.same
  have f1' : H.size ≤ S.heap.size := by rw [← hT]; exact f1
  have f2' : ∀ q : Nat, q < H.size → S.heap[q]? = H[q]? := fun q hq => by
    rw [← hT]
    exact f2 q (by rw [← hT] at hq; exact hq) (fun z hz => nomatch hz)
  have X5 := vx_back9 X Y Z
  have X6 : Stand p l e R s m args below meth c S locs (cells + 3) (slots + (nb + 10)) := { X5 with same := X5.same.mono (by omega) (by omega) }
  obtain ⟨t, a1, b1⟩ := k S.heap q ce f1' f2' ⟨Nat.le_trans hS.1 f1', fun q h1 h2 => (f2' q (Nat.lt_of_lt_of_le h1 hS.1)).trans (hS.2.1 q h1 h2), hS.2.2⟩ hce hv hcl' S rfl X6
  exact ⟨t, st t a1, b1⟩
/-- from the machine's note that NullPointerException is thrown here -/
def vx_NoteN (p : Program) (l : Launch) (e : Env) (R : Room) (s : State) (m : MethodId) (args : Array Value) (below : List Frame) (meth : Method) (c : Code) (H : Heap) (locs : List Loc) (cells slots : Nat) (Q : State → Prop) (g : JFrame) : Prop :=
  ∀ T : State, T.heap = H → Stand p l e R s m args below meth c T locs cells slots → ∃ t, Steps p.tables e below ((T.setTop g).pushFrame (.throwNew "java/lang/NullPointerException" none none)) t ∧ Q t
theorem vx_npe {pc : Nat} {ls : Array Slot} {rest : List Value} {Q : State → Prop} (hexec : p.tables.exec = Jvm.exec) (hl : l.stackTraces = false) {nb : Nat} {A : Nat → Prop}
    (hat : ∀ w ∈ vx_atN nb, w.before args s = true) (hgood : ∀ w ∈ vx_atN nb, vx_ot w = true)
    (hU : vx_Zq Bundle.tN "UNASSIGNED_STACK" Bundle.steD A s s.heap) (hN : vx_Zq Bundle.tN "SUPPRESSED_SENTINEL" Bundle.listD A s s.heap) (hS : va_S A s.heap H locs) (hsize : ls.size = c.maxLocals)
    (hRframes : 7 < R.frames) (hRlocals : (rest.map fun v => v.category).sum + 10240 ≤ R.locals) (hRcells : cells + 1 ≤ R.cells) (hRslots : slots + nb ≤ R.slots) (hlocks : meth.locks = false)
    (k : ∀ (H1 : Heap) (q9 : Addr) (ce : Cell), H.size ≤ H1.size → (∀ q : Nat, q < H.size → H1[q]? = H[q]?) → va_S A s.heap H1 locs → H1[q9]? = some ce → ce.vm = .none → s.vm.findClass "java/lang/NullPointerException" = some ce.cls → vx_W p l e R s m args below meth c H1 locs (cells + 1) (slots + nb) Q (F0 m pc ls rest) q9) :
    vx_NoteN p l e R s m args below meth c H locs cells slots Q (F0 m pc ls rest) := by
  intro T hT X
  have htr : e.platform.stackTraces = false := (show e.platform.stackTraces = l.stackTraces by rw [X.admits.platform]).trans hl
  have Y := vx_rebase X (R' := { frames := R.frames, locals := R.locals, cells := 1, slots := nb }) (Nat.le_refl _) (Nat.le_refl _) hRcells hRslots
  have hhp : ((T.setVm s.vm).setFrames (.invoking m args :: below)).heap = H := hT
  have hW0 : s.WarmedH ((T.setVm s.vm).setFrames (.invoking m args :: below)).vm := State.WarmedH.refl s
  have hat' : ∀ w ∈ vx_atN nb, w.before args ((T.setVm s.vm).setFrames (.invoking m args :: below)) = true := fun w hw => vx_ot_at hW0 rfl (hgood w hw) (hat w hw)
  have hU' : vx_Zq Bundle.tN "UNASSIGNED_STACK" Bundle.steD A ((T.setVm s.vm).setFrames (.invoking m args :: below)) ((T.setVm s.vm).setFrames (.invoking m args :: below)).heap := by rw [hhp]; exact vx_Zq.moved hW0.alike (hU.kept hS.2.1)
  have hN' : vx_Zq Bundle.tN "SUPPRESSED_SENTINEL" Bundle.listD A ((T.setVm s.vm).setFrames (.invoking m args :: below)) ((T.setVm s.vm).setFrames (.invoking m args :: below)).heap := by rw [hhp]; exact vx_Zq.moved hW0.alike (hN.kept hS.2.1)
  obtain ⟨S, q, ce, st, Z, hce, hcl', hv⟩ := vx_npeAt Y hexec htr (n := nb) (vx_own hat' (vx_isRefq hU'.1) (vx_isRefq hN'.1) hU'.2.word hN'.2.word) (fun x hx => nomatch hx)
    (g := F0 m pc ls rest) rfl hsize hRframes (by show 2 * 0 + (rest.map fun v => v.category).sum + 10240 ≤ R.locals; omega) (by show 0 + 1 ≤ 1; omega) (by show 0 + nb ≤ nb; omega) hlocks
  obtain ⟨f1, f2⟩ := vx_frame Z.same
  have f1' : H.size ≤ S.heap.size := by rw [← hT]; exact f1
  have f2' : ∀ q : Nat, q < H.size → S.heap[q]? = H[q]? := fun q hq => by
    rw [← hT]
    exact f2 q (by rw [← hT] at hq; exact hq) (fun z hz => nomatch hz)
  have X5 := vx_back9 X Y Z
  have X6 : Stand p l e R s m args below meth c S locs (cells + 1) (slots + nb) := { X5 with same := X5.same.mono (by omega) (by omega) }
  obtain ⟨t, a1, b1⟩ := k S.heap q ce f1' f2' ⟨Nat.le_trans hS.1 f1', fun q h1 h2 => (f2' q (Nat.lt_of_lt_of_le h1 hS.1)).trans (hS.2.1 q h1 h2), hS.2.2⟩ hce hv hcl' S rfl X6
  exact ⟨t, st t a1, b1⟩
variable {Q : State → Prop} {cc : ByteArray} {pc : Nat} {ls : Array Slot} {rest : List Value}
theorem vx_idivZ (hexec : p.tables.exec = Jvm.exec) (hb : c.code = cc) {a b : Int32} (h0 : b = 0) (d : decode cc pc = .ok (.idiv, 1)) (k : vx_Note p l e R s m args below meth c H locs cells slots Q (F0 m pc ls rest) "java/lang/ArithmeticException" "/ by zero") :
    W p l e R s m args below meth c H locs cells slots Q (F0 m pc ls (.int b :: .int a :: rest)) := by
  intro T hT X
  obtain ⟨t, st, q⟩ := k T hT X
  exact ⟨t, X.idivZero hexec (g := F0 m pc ls (.int b :: .int a :: rest)) rfl (a := a) (rest := rest) (by rw [h0]) (by rw [hb]; exact d) t st, q⟩
theorem vx_iremZ (hexec : p.tables.exec = Jvm.exec) (hb : c.code = cc) {a b : Int32} (h0 : b = 0) (d : decode cc pc = .ok (.irem, 1)) (k : vx_Note p l e R s m args below meth c H locs cells slots Q (F0 m pc ls rest) "java/lang/ArithmeticException" "/ by zero") :
    W p l e R s m args below meth c H locs cells slots Q (F0 m pc ls (.int b :: .int a :: rest)) := by
  intro T hT X
  obtain ⟨t, st, q⟩ := k T hT X
  exact ⟨t, X.iremZero hexec (g := F0 m pc ls (.int b :: .int a :: rest)) rfl (a := a) (rest := rest) (by rw [h0]) (by rw [hb]; exact d) t st, q⟩
theorem vx_ldivZ (hexec : p.tables.exec = Jvm.exec) (hb : c.code = cc) {a b : Int64} (h0 : b = 0) (d : decode cc pc = .ok (.ldiv, 1)) (k : vx_Note p l e R s m args below meth c H locs cells slots Q (F0 m pc ls rest) "java/lang/ArithmeticException" "/ by zero") :
    W p l e R s m args below meth c H locs cells slots Q (F0 m pc ls (.long b :: .long a :: rest)) := by
  intro T hT X
  obtain ⟨t, st, q⟩ := k T hT X
  exact ⟨t, X.ldivZero hexec (g := F0 m pc ls (.long b :: .long a :: rest)) rfl (a := a) (rest := rest) (by rw [h0]) (by rw [hb]; exact d) t st, q⟩
theorem vx_lremZ (hexec : p.tables.exec = Jvm.exec) (hb : c.code = cc) {a b : Int64} (h0 : b = 0) (d : decode cc pc = .ok (.lrem, 1)) (k : vx_Note p l e R s m args below meth c H locs cells slots Q (F0 m pc ls rest) "java/lang/ArithmeticException" "/ by zero") :
    W p l e R s m args below meth c H locs cells slots Q (F0 m pc ls (.long b :: .long a :: rest)) := by
  intro T hT X
  obtain ⟨t, st, q⟩ := k T hT X
  exact ⟨t, X.lremZero hexec (g := F0 m pc ls (.long b :: .long a :: rest)) rfl (a := a) (rest := rest) (by rw [h0]) (by rw [hb]; exact d) t st, q⟩
theorem vx_ialdZ {D : va_G} {cl : List vw_C} {ws : va_W} {tys : List (ClassId × FieldType)} {a : Nat} (hexec : p.tables.exec = Jvm.exec) (hb : c.code = cc) (hK : va_K D cl tys s) (hP : va_P D cl ws H) (q0 t0 : Nat) {cA : ClassId} {n : Nat} {f : Nat → Int32} (ha : ws[q0]? = some (a, .inl (cA, n, .inl f))) (ht : tys[t0]? = some (cA, .int)) {i : Int32} (hout : ¬ vp_in i n) (hdg : decode cc pc = .ok (.iaload, 1))
    (k : ∀ tx : String, tx = (toString "Index " ++ toString i ++ toString " out of bounds for length " ++ toString n : String) → vx_Note p l e R s m args below meth c H locs cells slots Q (F0 m pc ls rest) "java/lang/ArrayIndexOutOfBoundsException" tx) : W p l e R s m args below meth c H locs cells slots Q (F0 m pc ls (.int i :: .ref a :: rest)) := by
  intro T hT X
  obtain ⟨t, st, q⟩ := k _ rfl T hT X
  refine ⟨t, ?_, q⟩
  have h1 := X.ialoadOut hexec (by rw [hT]; exact hP q0 _ ha) ((hK.2 t0 _ ht).1 n (fun j => .int (f j))) (j := i) (by show (i < 0 ∨ (arrV _ _ _).slots.size ≤ _); rw [arrV_size]; exact Classical.byContradiction hout) (g := F0 m pc ls (.int i :: .ref a :: rest)) rfl (rest := rest) rfl (by rw [hb]; exact hdg) t
  simp only [arrV_size] at h1
  exact h1 st
theorem vx_iastZ {D : va_G} {cl : List vw_C} {ws : va_W} {tys : List (ClassId × FieldType)} {a : Nat} (hexec : p.tables.exec = Jvm.exec) (hb : c.code = cc) (hK : va_K D cl tys s) (hP : va_P D cl ws H) (q0 t0 : Nat) {cA : ClassId} {n : Nat} {f : Nat → Int32} (ha : ws[q0]? = some (a, .inl (cA, n, .inl f))) (ht : tys[t0]? = some (cA, .int)) {i : Int32} {x : Int32} (hout : ¬ vp_in i n) (hdg : decode cc pc = .ok (.iastore, 1))
    (k : ∀ tx : String, tx = (toString "Index " ++ toString i ++ toString " out of bounds for length " ++ toString n : String) → vx_Note p l e R s m args below meth c H locs cells slots Q (F0 m pc ls rest) "java/lang/ArrayIndexOutOfBoundsException" tx) : W p l e R s m args below meth c H locs cells slots Q (F0 m pc ls (.int x :: .int i :: .ref a :: rest)) := by
  intro T hT X
  obtain ⟨t, st, q⟩ := k _ rfl T hT X
  refine ⟨t, ?_, q⟩
  have h1 := X.iastoreOut hexec (by rw [hT]; exact hP q0 _ ha) ((hK.2 t0 _ ht).1 n (fun j => .int (f j))) (j := i) (by show (i < 0 ∨ (arrV _ _ _).slots.size ≤ _); rw [arrV_size]; exact Classical.byContradiction hout) (g := F0 m pc ls (.int x :: .int i :: .ref a :: rest)) rfl (rest := rest) rfl (by rw [hb]; exact hdg) t
  simp only [arrV_size] at h1
  exact h1 st
theorem vx_baldZ {D : va_G} {cl : List vw_C} {ws : va_W} {tys : List (ClassId × FieldType)} {a : Nat} (hexec : p.tables.exec = Jvm.exec) (hb : c.code = cc) (hK : va_K D cl tys s) (hP : va_P D cl ws H) (q0 t0 : Nat) {cA : ClassId} {n : Nat} {f : Nat → Int32} (ha : ws[q0]? = some (a, .inl (cA, n, .inl f))) (ht : tys[t0]? = some (cA, .byte)) {i : Int32} (hout : ¬ vp_in i n) (hdg : decode cc pc = .ok (.baload, 1))
    (k : ∀ tx : String, tx = (toString "Index " ++ toString i ++ toString " out of bounds for length " ++ toString n : String) → vx_Note p l e R s m args below meth c H locs cells slots Q (F0 m pc ls rest) "java/lang/ArrayIndexOutOfBoundsException" tx) : W p l e R s m args below meth c H locs cells slots Q (F0 m pc ls (.int i :: .ref a :: rest)) := by
  intro T hT X
  obtain ⟨t, st, q⟩ := k _ rfl T hT X
  refine ⟨t, ?_, q⟩
  have h1 := X.baloadOut hexec (by rw [hT]; exact hP q0 _ ha) ((hK.2 t0 _ ht).1 n (fun j => .int (f j))) (j := i) (by show (i < 0 ∨ (arrV _ _ _).slots.size ≤ _); rw [arrV_size]; exact Classical.byContradiction hout) (g := F0 m pc ls (.int i :: .ref a :: rest)) rfl (rest := rest) rfl (by rw [hb]; exact hdg) t
  simp only [arrV_size] at h1
  exact h1 st
theorem vx_bastZ {D : va_G} {cl : List vw_C} {ws : va_W} {tys : List (ClassId × FieldType)} {a : Nat} (hexec : p.tables.exec = Jvm.exec) (hb : c.code = cc) (hK : va_K D cl tys s) (hP : va_P D cl ws H) (q0 t0 : Nat) {cA : ClassId} {n : Nat} {f : Nat → Int32} (ha : ws[q0]? = some (a, .inl (cA, n, .inl f))) (ht : tys[t0]? = some (cA, .byte)) {i : Int32} {x : Int32} (hout : ¬ vp_in i n) (hdg : decode cc pc = .ok (.bastore, 1))
    (k : ∀ tx : String, tx = (toString "Index " ++ toString i ++ toString " out of bounds for length " ++ toString n : String) → vx_Note p l e R s m args below meth c H locs cells slots Q (F0 m pc ls rest) "java/lang/ArrayIndexOutOfBoundsException" tx) : W p l e R s m args below meth c H locs cells slots Q (F0 m pc ls (.int x :: .int i :: .ref a :: rest)) := by
  intro T hT X
  obtain ⟨t, st, q⟩ := k _ rfl T hT X
  refine ⟨t, ?_, q⟩
  have h1 := X.bastoreOut hexec (by rw [hT]; exact hP q0 _ ha) ((hK.2 t0 _ ht).1 n (fun j => .int (f j))) (j := i) (by show (i < 0 ∨ (arrV _ _ _).slots.size ≤ _); rw [arrV_size]; exact Classical.byContradiction hout) (g := F0 m pc ls (.int x :: .int i :: .ref a :: rest)) rfl (rest := rest) rfl (by rw [hb]; exact hdg) t
  simp only [arrV_size] at h1
  exact h1 st
theorem vx_zaldZ {D : va_G} {cl : List vw_C} {ws : va_W} {tys : List (ClassId × FieldType)} {a : Nat} (hexec : p.tables.exec = Jvm.exec) (hb : c.code = cc) (hK : va_K D cl tys s) (hP : va_P D cl ws H) (q0 t0 : Nat) {cA : ClassId} {n : Nat} {f : Nat → Int32} (ha : ws[q0]? = some (a, .inl (cA, n, .inl f))) (ht : tys[t0]? = some (cA, .boolean)) {i : Int32} (hout : ¬ vp_in i n) (hdg : decode cc pc = .ok (.baload, 1))
    (k : ∀ tx : String, tx = (toString "Index " ++ toString i ++ toString " out of bounds for length " ++ toString n : String) → vx_Note p l e R s m args below meth c H locs cells slots Q (F0 m pc ls rest) "java/lang/ArrayIndexOutOfBoundsException" tx) : W p l e R s m args below meth c H locs cells slots Q (F0 m pc ls (.int i :: .ref a :: rest)) := by
  intro T hT X
  obtain ⟨t, st, q⟩ := k _ rfl T hT X
  refine ⟨t, ?_, q⟩
  have h1 := X.baloadOut hexec (by rw [hT]; exact hP q0 _ ha) ((hK.2 t0 _ ht).1 n (fun j => .int (f j))) (j := i) (by show (i < 0 ∨ (arrV _ _ _).slots.size ≤ _); rw [arrV_size]; exact Classical.byContradiction hout) (g := F0 m pc ls (.int i :: .ref a :: rest)) rfl (rest := rest) rfl (by rw [hb]; exact hdg) t
  simp only [arrV_size] at h1
  exact h1 st
theorem vx_zastZ {D : va_G} {cl : List vw_C} {ws : va_W} {tys : List (ClassId × FieldType)} {a : Nat} (hexec : p.tables.exec = Jvm.exec) (hb : c.code = cc) (hK : va_K D cl tys s) (hP : va_P D cl ws H) (q0 t0 : Nat) {cA : ClassId} {n : Nat} {f : Nat → Int32} (ha : ws[q0]? = some (a, .inl (cA, n, .inl f))) (ht : tys[t0]? = some (cA, .boolean)) {i : Int32} {x : Int32} (hout : ¬ vp_in i n) (hdg : decode cc pc = .ok (.bastore, 1))
    (k : ∀ tx : String, tx = (toString "Index " ++ toString i ++ toString " out of bounds for length " ++ toString n : String) → vx_Note p l e R s m args below meth c H locs cells slots Q (F0 m pc ls rest) "java/lang/ArrayIndexOutOfBoundsException" tx) : W p l e R s m args below meth c H locs cells slots Q (F0 m pc ls (.int x :: .int i :: .ref a :: rest)) := by
  intro T hT X
  obtain ⟨t, st, q⟩ := k _ rfl T hT X
  refine ⟨t, ?_, q⟩
  have h1 := X.bastoreOut hexec (by rw [hT]; exact hP q0 _ ha) ((hK.2 t0 _ ht).1 n (fun j => .int (f j))) (j := i) (by show (i < 0 ∨ (arrV _ _ _).slots.size ≤ _); rw [arrV_size]; exact Classical.byContradiction hout) (g := F0 m pc ls (.int x :: .int i :: .ref a :: rest)) rfl (rest := rest) rfl (by rw [hb]; exact hdg) t
  simp only [arrV_size] at h1
  exact h1 st
theorem vx_caldZ {D : va_G} {cl : List vw_C} {ws : va_W} {tys : List (ClassId × FieldType)} {a : Nat} (hexec : p.tables.exec = Jvm.exec) (hb : c.code = cc) (hK : va_K D cl tys s) (hP : va_P D cl ws H) (q0 t0 : Nat) {cA : ClassId} {n : Nat} {f : Nat → Int32} (ha : ws[q0]? = some (a, .inl (cA, n, .inl f))) (ht : tys[t0]? = some (cA, .char)) {i : Int32} (hout : ¬ vp_in i n) (hdg : decode cc pc = .ok (.caload, 1))
    (k : ∀ tx : String, tx = (toString "Index " ++ toString i ++ toString " out of bounds for length " ++ toString n : String) → vx_Note p l e R s m args below meth c H locs cells slots Q (F0 m pc ls rest) "java/lang/ArrayIndexOutOfBoundsException" tx) : W p l e R s m args below meth c H locs cells slots Q (F0 m pc ls (.int i :: .ref a :: rest)) := by
  intro T hT X
  obtain ⟨t, st, q⟩ := k _ rfl T hT X
  refine ⟨t, ?_, q⟩
  have h1 := X.caloadOut hexec (by rw [hT]; exact hP q0 _ ha) ((hK.2 t0 _ ht).1 n (fun j => .int (f j))) (j := i) (by show (i < 0 ∨ (arrV _ _ _).slots.size ≤ _); rw [arrV_size]; exact Classical.byContradiction hout) (g := F0 m pc ls (.int i :: .ref a :: rest)) rfl (rest := rest) rfl (by rw [hb]; exact hdg) t
  simp only [arrV_size] at h1
  exact h1 st
theorem vx_castZ {D : va_G} {cl : List vw_C} {ws : va_W} {tys : List (ClassId × FieldType)} {a : Nat} (hexec : p.tables.exec = Jvm.exec) (hb : c.code = cc) (hK : va_K D cl tys s) (hP : va_P D cl ws H) (q0 t0 : Nat) {cA : ClassId} {n : Nat} {f : Nat → Int32} (ha : ws[q0]? = some (a, .inl (cA, n, .inl f))) (ht : tys[t0]? = some (cA, .char)) {i : Int32} {x : Int32} (hout : ¬ vp_in i n) (hdg : decode cc pc = .ok (.castore, 1))
    (k : ∀ tx : String, tx = (toString "Index " ++ toString i ++ toString " out of bounds for length " ++ toString n : String) → vx_Note p l e R s m args below meth c H locs cells slots Q (F0 m pc ls rest) "java/lang/ArrayIndexOutOfBoundsException" tx) : W p l e R s m args below meth c H locs cells slots Q (F0 m pc ls (.int x :: .int i :: .ref a :: rest)) := by
  intro T hT X
  obtain ⟨t, st, q⟩ := k _ rfl T hT X
  refine ⟨t, ?_, q⟩
  have h1 := X.castoreOut hexec (by rw [hT]; exact hP q0 _ ha) ((hK.2 t0 _ ht).1 n (fun j => .int (f j))) (j := i) (by show (i < 0 ∨ (arrV _ _ _).slots.size ≤ _); rw [arrV_size]; exact Classical.byContradiction hout) (g := F0 m pc ls (.int x :: .int i :: .ref a :: rest)) rfl (rest := rest) rfl (by rw [hb]; exact hdg) t
  simp only [arrV_size] at h1
  exact h1 st
theorem vx_saldZ {D : va_G} {cl : List vw_C} {ws : va_W} {tys : List (ClassId × FieldType)} {a : Nat} (hexec : p.tables.exec = Jvm.exec) (hb : c.code = cc) (hK : va_K D cl tys s) (hP : va_P D cl ws H) (q0 t0 : Nat) {cA : ClassId} {n : Nat} {f : Nat → Int32} (ha : ws[q0]? = some (a, .inl (cA, n, .inl f))) (ht : tys[t0]? = some (cA, .short)) {i : Int32} (hout : ¬ vp_in i n) (hdg : decode cc pc = .ok (.saload, 1))
    (k : ∀ tx : String, tx = (toString "Index " ++ toString i ++ toString " out of bounds for length " ++ toString n : String) → vx_Note p l e R s m args below meth c H locs cells slots Q (F0 m pc ls rest) "java/lang/ArrayIndexOutOfBoundsException" tx) : W p l e R s m args below meth c H locs cells slots Q (F0 m pc ls (.int i :: .ref a :: rest)) := by
  intro T hT X
  obtain ⟨t, st, q⟩ := k _ rfl T hT X
  refine ⟨t, ?_, q⟩
  have h1 := X.saloadOut hexec (by rw [hT]; exact hP q0 _ ha) ((hK.2 t0 _ ht).1 n (fun j => .int (f j))) (j := i) (by show (i < 0 ∨ (arrV _ _ _).slots.size ≤ _); rw [arrV_size]; exact Classical.byContradiction hout) (g := F0 m pc ls (.int i :: .ref a :: rest)) rfl (rest := rest) rfl (by rw [hb]; exact hdg) t
  simp only [arrV_size] at h1
  exact h1 st
theorem vx_sastZ {D : va_G} {cl : List vw_C} {ws : va_W} {tys : List (ClassId × FieldType)} {a : Nat} (hexec : p.tables.exec = Jvm.exec) (hb : c.code = cc) (hK : va_K D cl tys s) (hP : va_P D cl ws H) (q0 t0 : Nat) {cA : ClassId} {n : Nat} {f : Nat → Int32} (ha : ws[q0]? = some (a, .inl (cA, n, .inl f))) (ht : tys[t0]? = some (cA, .short)) {i : Int32} {x : Int32} (hout : ¬ vp_in i n) (hdg : decode cc pc = .ok (.sastore, 1))
    (k : ∀ tx : String, tx = (toString "Index " ++ toString i ++ toString " out of bounds for length " ++ toString n : String) → vx_Note p l e R s m args below meth c H locs cells slots Q (F0 m pc ls rest) "java/lang/ArrayIndexOutOfBoundsException" tx) : W p l e R s m args below meth c H locs cells slots Q (F0 m pc ls (.int x :: .int i :: .ref a :: rest)) := by
  intro T hT X
  obtain ⟨t, st, q⟩ := k _ rfl T hT X
  refine ⟨t, ?_, q⟩
  have h1 := X.sastoreOut hexec (by rw [hT]; exact hP q0 _ ha) ((hK.2 t0 _ ht).1 n (fun j => .int (f j))) (j := i) (by show (i < 0 ∨ (arrV _ _ _).slots.size ≤ _); rw [arrV_size]; exact Classical.byContradiction hout) (g := F0 m pc ls (.int x :: .int i :: .ref a :: rest)) rfl (rest := rest) rfl (by rw [hb]; exact hdg) t
  simp only [arrV_size] at h1
  exact h1 st
theorem vx_laldZ {D : va_G} {cl : List vw_C} {ws : va_W} {tys : List (ClassId × FieldType)} {a : Nat} (hexec : p.tables.exec = Jvm.exec) (hb : c.code = cc) (hK : va_K D cl tys s) (hP : va_P D cl ws H) (q0 t0 : Nat) {cA : ClassId} {n : Nat} {f : Nat → Int64} (ha : ws[q0]? = some (a, .inl (cA, n, .inr (.inl f)))) (ht : tys[t0]? = some (cA, .long)) {i : Int32} (hout : ¬ vp_in i n) (hdg : decode cc pc = .ok (.laload, 1))
    (k : ∀ tx : String, tx = (toString "Index " ++ toString i ++ toString " out of bounds for length " ++ toString n : String) → vx_Note p l e R s m args below meth c H locs cells slots Q (F0 m pc ls rest) "java/lang/ArrayIndexOutOfBoundsException" tx) : W p l e R s m args below meth c H locs cells slots Q (F0 m pc ls (.int i :: .ref a :: rest)) := by
  intro T hT X
  obtain ⟨t, st, q⟩ := k _ rfl T hT X
  refine ⟨t, ?_, q⟩
  have h1 := X.laloadOut hexec (by rw [hT]; exact hP q0 _ ha) ((hK.2 t0 _ ht).1 n (fun j => .long (f j))) (j := i) (by show (i < 0 ∨ (arrV _ _ _).slots.size ≤ _); rw [arrV_size]; exact Classical.byContradiction hout) (g := F0 m pc ls (.int i :: .ref a :: rest)) rfl (rest := rest) rfl (by rw [hb]; exact hdg) t
  simp only [arrV_size] at h1
  exact h1 st
theorem vx_lastZ {D : va_G} {cl : List vw_C} {ws : va_W} {tys : List (ClassId × FieldType)} {a : Nat} (hexec : p.tables.exec = Jvm.exec) (hb : c.code = cc) (hK : va_K D cl tys s) (hP : va_P D cl ws H) (q0 t0 : Nat) {cA : ClassId} {n : Nat} {f : Nat → Int64} (ha : ws[q0]? = some (a, .inl (cA, n, .inr (.inl f)))) (ht : tys[t0]? = some (cA, .long)) {i : Int32} {x : Int64} (hout : ¬ vp_in i n) (hdg : decode cc pc = .ok (.lastore, 1))
    (k : ∀ tx : String, tx = (toString "Index " ++ toString i ++ toString " out of bounds for length " ++ toString n : String) → vx_Note p l e R s m args below meth c H locs cells slots Q (F0 m pc ls rest) "java/lang/ArrayIndexOutOfBoundsException" tx) : W p l e R s m args below meth c H locs cells slots Q (F0 m pc ls (.long x :: .int i :: .ref a :: rest)) := by
  intro T hT X
  obtain ⟨t, st, q⟩ := k _ rfl T hT X
  refine ⟨t, ?_, q⟩
  have h1 := X.lastoreOut hexec (by rw [hT]; exact hP q0 _ ha) ((hK.2 t0 _ ht).1 n (fun j => .long (f j))) (j := i) (by show (i < 0 ∨ (arrV _ _ _).slots.size ≤ _); rw [arrV_size]; exact Classical.byContradiction hout) (g := F0 m pc ls (.long x :: .int i :: .ref a :: rest)) rfl (rest := rest) rfl (by rw [hb]; exact hdg) t
  simp only [arrV_size] at h1
  exact h1 st
theorem vx_faldZ {D : va_G} {cl : List vw_C} {ws : va_W} {tys : List (ClassId × FieldType)} {a : Nat} (hexec : p.tables.exec = Jvm.exec) (hb : c.code = cc) (hK : va_K D cl tys s) (hP : va_P D cl ws H) (q0 t0 : Nat) {cA : ClassId} {n : Nat} {f : Nat → UInt32} (ha : ws[q0]? = some (a, .inl (cA, n, .inr (.inr (.inl f))))) (ht : tys[t0]? = some (cA, .float)) {i : Int32} (hout : ¬ vp_in i n) (hdg : decode cc pc = .ok (.faload, 1))
    (k : ∀ tx : String, tx = (toString "Index " ++ toString i ++ toString " out of bounds for length " ++ toString n : String) → vx_Note p l e R s m args below meth c H locs cells slots Q (F0 m pc ls rest) "java/lang/ArrayIndexOutOfBoundsException" tx) : W p l e R s m args below meth c H locs cells slots Q (F0 m pc ls (.int i :: .ref a :: rest)) := by
  intro T hT X
  obtain ⟨t, st, q⟩ := k _ rfl T hT X
  refine ⟨t, ?_, q⟩
  have h1 := X.faloadOut hexec (by rw [hT]; exact hP q0 _ ha) ((hK.2 t0 _ ht).1 n (fun j => .float (f j))) (j := i) (by show (i < 0 ∨ (arrV _ _ _).slots.size ≤ _); rw [arrV_size]; exact Classical.byContradiction hout) (g := F0 m pc ls (.int i :: .ref a :: rest)) rfl (rest := rest) rfl (by rw [hb]; exact hdg) t
  simp only [arrV_size] at h1
  exact h1 st
theorem vx_fastZ {D : va_G} {cl : List vw_C} {ws : va_W} {tys : List (ClassId × FieldType)} {a : Nat} (hexec : p.tables.exec = Jvm.exec) (hb : c.code = cc) (hK : va_K D cl tys s) (hP : va_P D cl ws H) (q0 t0 : Nat) {cA : ClassId} {n : Nat} {f : Nat → UInt32} (ha : ws[q0]? = some (a, .inl (cA, n, .inr (.inr (.inl f))))) (ht : tys[t0]? = some (cA, .float)) {i : Int32} {x : UInt32} (hout : ¬ vp_in i n) (hdg : decode cc pc = .ok (.fastore, 1))
    (k : ∀ tx : String, tx = (toString "Index " ++ toString i ++ toString " out of bounds for length " ++ toString n : String) → vx_Note p l e R s m args below meth c H locs cells slots Q (F0 m pc ls rest) "java/lang/ArrayIndexOutOfBoundsException" tx) : W p l e R s m args below meth c H locs cells slots Q (F0 m pc ls (.float x :: .int i :: .ref a :: rest)) := by
  intro T hT X
  obtain ⟨t, st, q⟩ := k _ rfl T hT X
  refine ⟨t, ?_, q⟩
  have h1 := X.fastoreOut hexec (by rw [hT]; exact hP q0 _ ha) ((hK.2 t0 _ ht).1 n (fun j => .float (f j))) (j := i) (by show (i < 0 ∨ (arrV _ _ _).slots.size ≤ _); rw [arrV_size]; exact Classical.byContradiction hout) (g := F0 m pc ls (.float x :: .int i :: .ref a :: rest)) rfl (rest := rest) rfl (by rw [hb]; exact hdg) t
  simp only [arrV_size] at h1
  exact h1 st
theorem vx_daldZ {D : va_G} {cl : List vw_C} {ws : va_W} {tys : List (ClassId × FieldType)} {a : Nat} (hexec : p.tables.exec = Jvm.exec) (hb : c.code = cc) (hK : va_K D cl tys s) (hP : va_P D cl ws H) (q0 t0 : Nat) {cA : ClassId} {n : Nat} {f : Nat → UInt64} (ha : ws[q0]? = some (a, .inl (cA, n, .inr (.inr (.inr (.inl f)))))) (ht : tys[t0]? = some (cA, .double)) {i : Int32} (hout : ¬ vp_in i n) (hdg : decode cc pc = .ok (.daload, 1))
    (k : ∀ tx : String, tx = (toString "Index " ++ toString i ++ toString " out of bounds for length " ++ toString n : String) → vx_Note p l e R s m args below meth c H locs cells slots Q (F0 m pc ls rest) "java/lang/ArrayIndexOutOfBoundsException" tx) : W p l e R s m args below meth c H locs cells slots Q (F0 m pc ls (.int i :: .ref a :: rest)) := by
  intro T hT X
  obtain ⟨t, st, q⟩ := k _ rfl T hT X
  refine ⟨t, ?_, q⟩
  have h1 := X.daloadOut hexec (by rw [hT]; exact hP q0 _ ha) ((hK.2 t0 _ ht).1 n (fun j => .double (f j))) (j := i) (by show (i < 0 ∨ (arrV _ _ _).slots.size ≤ _); rw [arrV_size]; exact Classical.byContradiction hout) (g := F0 m pc ls (.int i :: .ref a :: rest)) rfl (rest := rest) rfl (by rw [hb]; exact hdg) t
  simp only [arrV_size] at h1
  exact h1 st
theorem vx_dastZ {D : va_G} {cl : List vw_C} {ws : va_W} {tys : List (ClassId × FieldType)} {a : Nat} (hexec : p.tables.exec = Jvm.exec) (hb : c.code = cc) (hK : va_K D cl tys s) (hP : va_P D cl ws H) (q0 t0 : Nat) {cA : ClassId} {n : Nat} {f : Nat → UInt64} (ha : ws[q0]? = some (a, .inl (cA, n, .inr (.inr (.inr (.inl f)))))) (ht : tys[t0]? = some (cA, .double)) {i : Int32} {x : UInt64} (hout : ¬ vp_in i n) (hdg : decode cc pc = .ok (.dastore, 1))
    (k : ∀ tx : String, tx = (toString "Index " ++ toString i ++ toString " out of bounds for length " ++ toString n : String) → vx_Note p l e R s m args below meth c H locs cells slots Q (F0 m pc ls rest) "java/lang/ArrayIndexOutOfBoundsException" tx) : W p l e R s m args below meth c H locs cells slots Q (F0 m pc ls (.double x :: .int i :: .ref a :: rest)) := by
  intro T hT X
  obtain ⟨t, st, q⟩ := k _ rfl T hT X
  refine ⟨t, ?_, q⟩
  have h1 := X.dastoreOut hexec (by rw [hT]; exact hP q0 _ ha) ((hK.2 t0 _ ht).1 n (fun j => .double (f j))) (j := i) (by show (i < 0 ∨ (arrV _ _ _).slots.size ≤ _); rw [arrV_size]; exact Classical.byContradiction hout) (g := F0 m pc ls (.double x :: .int i :: .ref a :: rest)) rfl (rest := rest) rfl (by rw [hb]; exact hdg) t
  simp only [arrV_size] at h1
  exact h1 st
theorem vx_arraylengthN (hexec : p.tables.exec = Jvm.exec) (hb : c.code = cc) (hdg : decode cc pc = .ok (.arraylength, 1)) (k : vx_NoteN p l e R s m args below meth c H locs cells slots Q (F0 m pc ls rest)) : W p l e R s m args below meth c H locs cells slots Q (F0 m pc ls (.null :: rest)) := by
  intro T hT X
  obtain ⟨t, st, q⟩ := k T hT X
  exact ⟨t, X.arraylengthNull hexec (g := F0 m pc ls (.null :: rest)) rfl (rest := rest) rfl (by rw [hb]; exact hdg) t st, q⟩
theorem vx_ialoadN (hexec : p.tables.exec = Jvm.exec) (hb : c.code = cc) {i : Int32} (hdg : decode cc pc = .ok (.iaload, 1)) (k : vx_NoteN p l e R s m args below meth c H locs cells slots Q (F0 m pc ls rest)) : W p l e R s m args below meth c H locs cells slots Q (F0 m pc ls (.int i :: .null :: rest)) := by
  intro T hT X
  obtain ⟨t, st, q⟩ := k T hT X
  exact ⟨t, X.ialoadNull hexec (g := F0 m pc ls (.int i :: .null :: rest)) rfl (rest := rest) rfl (by rw [hb]; exact hdg) t st, q⟩
theorem vx_laloadN (hexec : p.tables.exec = Jvm.exec) (hb : c.code = cc) {i : Int32} (hdg : decode cc pc = .ok (.laload, 1)) (k : vx_NoteN p l e R s m args below meth c H locs cells slots Q (F0 m pc ls rest)) : W p l e R s m args below meth c H locs cells slots Q (F0 m pc ls (.int i :: .null :: rest)) := by
  intro T hT X
  obtain ⟨t, st, q⟩ := k T hT X
  exact ⟨t, X.laloadNull hexec (g := F0 m pc ls (.int i :: .null :: rest)) rfl (rest := rest) rfl (by rw [hb]; exact hdg) t st, q⟩
theorem vx_faloadN (hexec : p.tables.exec = Jvm.exec) (hb : c.code = cc) {i : Int32} (hdg : decode cc pc = .ok (.faload, 1)) (k : vx_NoteN p l e R s m args below meth c H locs cells slots Q (F0 m pc ls rest)) : W p l e R s m args below meth c H locs cells slots Q (F0 m pc ls (.int i :: .null :: rest)) := by
  intro T hT X
  obtain ⟨t, st, q⟩ := k T hT X
  exact ⟨t, X.faloadNull hexec (g := F0 m pc ls (.int i :: .null :: rest)) rfl (rest := rest) rfl (by rw [hb]; exact hdg) t st, q⟩
theorem vx_daloadN (hexec : p.tables.exec = Jvm.exec) (hb : c.code = cc) {i : Int32} (hdg : decode cc pc = .ok (.daload, 1)) (k : vx_NoteN p l e R s m args below meth c H locs cells slots Q (F0 m pc ls rest)) : W p l e R s m args below meth c H locs cells slots Q (F0 m pc ls (.int i :: .null :: rest)) := by
  intro T hT X
  obtain ⟨t, st, q⟩ := k T hT X
  exact ⟨t, X.daloadNull hexec (g := F0 m pc ls (.int i :: .null :: rest)) rfl (rest := rest) rfl (by rw [hb]; exact hdg) t st, q⟩
theorem vx_aaloadN (hexec : p.tables.exec = Jvm.exec) (hb : c.code = cc) {i : Int32} (hdg : decode cc pc = .ok (.aaload, 1)) (k : vx_NoteN p l e R s m args below meth c H locs cells slots Q (F0 m pc ls rest)) : W p l e R s m args below meth c H locs cells slots Q (F0 m pc ls (.int i :: .null :: rest)) := by
  intro T hT X
  obtain ⟨t, st, q⟩ := k T hT X
  exact ⟨t, X.aaloadNull hexec (g := F0 m pc ls (.int i :: .null :: rest)) rfl (rest := rest) rfl (by rw [hb]; exact hdg) t st, q⟩
theorem vx_baloadN (hexec : p.tables.exec = Jvm.exec) (hb : c.code = cc) {i : Int32} (hdg : decode cc pc = .ok (.baload, 1)) (k : vx_NoteN p l e R s m args below meth c H locs cells slots Q (F0 m pc ls rest)) : W p l e R s m args below meth c H locs cells slots Q (F0 m pc ls (.int i :: .null :: rest)) := by
  intro T hT X
  obtain ⟨t, st, q⟩ := k T hT X
  exact ⟨t, X.baloadNull hexec (g := F0 m pc ls (.int i :: .null :: rest)) rfl (rest := rest) rfl (by rw [hb]; exact hdg) t st, q⟩
theorem vx_caloadN (hexec : p.tables.exec = Jvm.exec) (hb : c.code = cc) {i : Int32} (hdg : decode cc pc = .ok (.caload, 1)) (k : vx_NoteN p l e R s m args below meth c H locs cells slots Q (F0 m pc ls rest)) : W p l e R s m args below meth c H locs cells slots Q (F0 m pc ls (.int i :: .null :: rest)) := by
  intro T hT X
  obtain ⟨t, st, q⟩ := k T hT X
  exact ⟨t, X.caloadNull hexec (g := F0 m pc ls (.int i :: .null :: rest)) rfl (rest := rest) rfl (by rw [hb]; exact hdg) t st, q⟩
theorem vx_saloadN (hexec : p.tables.exec = Jvm.exec) (hb : c.code = cc) {i : Int32} (hdg : decode cc pc = .ok (.saload, 1)) (k : vx_NoteN p l e R s m args below meth c H locs cells slots Q (F0 m pc ls rest)) : W p l e R s m args below meth c H locs cells slots Q (F0 m pc ls (.int i :: .null :: rest)) := by
  intro T hT X
  obtain ⟨t, st, q⟩ := k T hT X
  exact ⟨t, X.saloadNull hexec (g := F0 m pc ls (.int i :: .null :: rest)) rfl (rest := rest) rfl (by rw [hb]; exact hdg) t st, q⟩
theorem vx_iastoreN (hexec : p.tables.exec = Jvm.exec) (hb : c.code = cc) {x : Int32} {i : Int32} (hdg : decode cc pc = .ok (.iastore, 1)) (k : vx_NoteN p l e R s m args below meth c H locs cells slots Q (F0 m pc ls rest)) : W p l e R s m args below meth c H locs cells slots Q (F0 m pc ls (.int x :: .int i :: .null :: rest)) := by
  intro T hT X
  obtain ⟨t, st, q⟩ := k T hT X
  exact ⟨t, X.iastoreNull hexec (g := F0 m pc ls (.int x :: .int i :: .null :: rest)) rfl (rest := rest) rfl (by rw [hb]; exact hdg) t st, q⟩
theorem vx_lastoreN (hexec : p.tables.exec = Jvm.exec) (hb : c.code = cc) {x : Int64} {i : Int32} (hdg : decode cc pc = .ok (.lastore, 1)) (k : vx_NoteN p l e R s m args below meth c H locs cells slots Q (F0 m pc ls rest)) : W p l e R s m args below meth c H locs cells slots Q (F0 m pc ls (.long x :: .int i :: .null :: rest)) := by
  intro T hT X
  obtain ⟨t, st, q⟩ := k T hT X
  exact ⟨t, X.lastoreNull hexec (g := F0 m pc ls (.long x :: .int i :: .null :: rest)) rfl (rest := rest) rfl (by rw [hb]; exact hdg) t st, q⟩
theorem vx_fastoreN (hexec : p.tables.exec = Jvm.exec) (hb : c.code = cc) {x : UInt32} {i : Int32} (hdg : decode cc pc = .ok (.fastore, 1)) (k : vx_NoteN p l e R s m args below meth c H locs cells slots Q (F0 m pc ls rest)) : W p l e R s m args below meth c H locs cells slots Q (F0 m pc ls (.float x :: .int i :: .null :: rest)) := by
  intro T hT X
  obtain ⟨t, st, q⟩ := k T hT X
  exact ⟨t, X.fastoreNull hexec (g := F0 m pc ls (.float x :: .int i :: .null :: rest)) rfl (rest := rest) rfl (by rw [hb]; exact hdg) t st, q⟩
theorem vx_dastoreN (hexec : p.tables.exec = Jvm.exec) (hb : c.code = cc) {x : UInt64} {i : Int32} (hdg : decode cc pc = .ok (.dastore, 1)) (k : vx_NoteN p l e R s m args below meth c H locs cells slots Q (F0 m pc ls rest)) : W p l e R s m args below meth c H locs cells slots Q (F0 m pc ls (.double x :: .int i :: .null :: rest)) := by
  intro T hT X
  obtain ⟨t, st, q⟩ := k T hT X
  exact ⟨t, X.dastoreNull hexec (g := F0 m pc ls (.double x :: .int i :: .null :: rest)) rfl (rest := rest) rfl (by rw [hb]; exact hdg) t st, q⟩
theorem vx_bastoreN (hexec : p.tables.exec = Jvm.exec) (hb : c.code = cc) {x : Int32} {i : Int32} (hdg : decode cc pc = .ok (.bastore, 1)) (k : vx_NoteN p l e R s m args below meth c H locs cells slots Q (F0 m pc ls rest)) : W p l e R s m args below meth c H locs cells slots Q (F0 m pc ls (.int x :: .int i :: .null :: rest)) := by
  intro T hT X
  obtain ⟨t, st, q⟩ := k T hT X
  exact ⟨t, X.bastoreNull hexec (g := F0 m pc ls (.int x :: .int i :: .null :: rest)) rfl (rest := rest) rfl (by rw [hb]; exact hdg) t st, q⟩
theorem vx_castoreN (hexec : p.tables.exec = Jvm.exec) (hb : c.code = cc) {x : Int32} {i : Int32} (hdg : decode cc pc = .ok (.castore, 1)) (k : vx_NoteN p l e R s m args below meth c H locs cells slots Q (F0 m pc ls rest)) : W p l e R s m args below meth c H locs cells slots Q (F0 m pc ls (.int x :: .int i :: .null :: rest)) := by
  intro T hT X
  obtain ⟨t, st, q⟩ := k T hT X
  exact ⟨t, X.castoreNull hexec (g := F0 m pc ls (.int x :: .int i :: .null :: rest)) rfl (rest := rest) rfl (by rw [hb]; exact hdg) t st, q⟩
theorem vx_sastoreN (hexec : p.tables.exec = Jvm.exec) (hb : c.code = cc) {x : Int32} {i : Int32} (hdg : decode cc pc = .ok (.sastore, 1)) (k : vx_NoteN p l e R s m args below meth c H locs cells slots Q (F0 m pc ls rest)) : W p l e R s m args below meth c H locs cells slots Q (F0 m pc ls (.int x :: .int i :: .null :: rest)) := by
  intro T hT X
  obtain ⟨t, st, q⟩ := k T hT X
  exact ⟨t, X.sastoreNull hexec (g := F0 m pc ls (.int x :: .int i :: .null :: rest)) rfl (rest := rest) rfl (by rw [hb]; exact hdg) t st, q⟩
theorem vx_invokeN {own C : String} {index maxL : Nat} {y : MethodName} {bytes : ByteArray} {ret : Option FieldType} (hexec : p.tables.exec = Jvm.exec) (hb : c.code = cc) (hown : s.vm.findClass own = some m.cls) (hlink : (Cond.methodLink own index y).before args s = true) (hinst : (Cond.instanceMethod y).before args s = true) (hcode : (Cond.code y bytes maxL ret).before args s = true) (hsel : (Cond.selects C y y).before args s = true)
    (hx : y.cls ≠ "java/lang/invoke/MethodHandle" ∧ y.cls ≠ "java/lang/invoke/VarHandle") {As : List Value} (hlen : (parseMethodDescriptor y.desc).map (fun d => d.parameters.length) = some As.length) (hdg : decode cc pc = .ok (.invokevirtual index, 3))
    (k : vx_NoteN p l e R s m args below meth c H locs cells slots Q (F0 m pc ls rest)) {st0 : List Value} (hst : st0 = As.reverse ++ .null :: rest) : W p l e R s m args below meth c H locs cells slots Q (F0 m pc ls st0) := by
  intro T hT X
  obtain ⟨r0, r, hn, hrm, hstR, hsigR⟩ := va_Decl.of hinst hcode
  obtain ⟨c2, r2, m2, q1, q2, q3, q4, kP, hkP, hkPi⟩ := Cond.selects_spec hsel
  cases hn.symm.trans q3
  have hl9 : As.length = r.sig.parameters.length := by
    rw [hsigR] at hlen
    exact (Option.some.inj hlen).symm
  obtain ⟨vm', X1, st1⟩ := X.invokevirtualNull hexec hown hlink hn hrm hstR hkP hkPi hx (g := F0 m pc ls st0) rfl (argsL := As) (rest := rest) hl9 hst (by rw [hb]; exact hdg)
  obtain ⟨t, st, q⟩ := k (T.setVm vm') hT X1
  exact ⟨t, st1 t st, q⟩
theorem vx_newarrayZ {atype : ArrayType} (hexec : p.tables.exec = Jvm.exec) (hb : c.code = cc) {n : Int32} (h0 : n < 0) (hdg : decode cc pc = .ok (.newarray atype, 2)) (k : ∀ tx : String, tx = toString n → vx_Note p l e R s m args below meth c H locs cells slots Q (F0 m pc ls rest) "java/lang/NegativeArraySizeException" tx) : W p l e R s m args below meth c H locs cells slots Q (F0 m pc ls (.int n :: rest)) := by
  intro T hT X
  obtain ⟨t, st, q⟩ := k _ rfl T hT X
  exact ⟨t, X.newarrayNegative hexec (g := F0 m pc ls (.int n :: rest)) rfl h0 (rest := rest) rfl (by rw [hb]; exact hdg) t st, q⟩
end
end VXM
/-! ===== END ===== -/

/-! ===== BEGIN printed: names, fields, word lists, decode rows ===== -/
def RX0 : String := "LedgerStream$Batch"
def TX0 : u_T := fun k => match k with
  | 0 => ("LedgerStream$Batch", "size", "I", false)
  | 1 => ("LedgerStream$Batch", "payers", "LLedgerStream$Row;", true)
  | 2 => ("LedgerStream$Batch", "payees", "LLedgerStream$Row;", true)
  | _ => ("LedgerStream$Batch", "amounts", "LLedgerStream$Row;", true)
def tyX0 : Nat → FieldType := fun k => match k with
  | 0 => .int
  | 1 => .object "LedgerStream$Row"
  | 2 => .object "LedgerStream$Row"
  | _ => .object "LedgerStream$Row"
abbrev wsX00 : List Cond := u_ws RX0 TX0 4
theorem nmX0 : ∀ a, a < 4 → ∀ b, b < 4 → a ≠ b → (TX0 a).2.1 ≠ (TX0 b).2.1 := by decide +kernel
theorem tyX0_ok : ∀ k, k < 4 → parseFieldDescriptor (TX0 k).2.2.1 = some (tyX0 k) := by decide +kernel
abbrev cX0_init : ByteArray := prog_2_method_1_code
def yX0_init : MethodName := ⟨RX0, "<init>", "()V"⟩
abbrev cX0_append : ByteArray := prog_2_method_2_code
def yX0_append : MethodName := ⟨RX0, "append", "(III)V"⟩
abbrev cX0_remove : ByteArray := prog_2_method_3_code
def yX0_remove : MethodName := ⟨RX0, "remove", "(II)V"⟩
def RX1 : String := "LedgerStream$Books"
def TX1 : u_T := fun k => match k with
  | 0 => ("LedgerStream$Books", "size", "I", false)
  | 1 => ("LedgerStream$Books", "currencies", "LLedgerStream$Row;", true)
  | 2 => ("LedgerStream$Books", "limits", "LLedgerStream$Row;", true)
  | 3 => ("LedgerStream$Books", "balances", "LLedgerStream$Row;", true)
  | 4 => ("LedgerStream$Books", "outsides", "LLedgerStream$Row;", true)
  | 5 => ("LedgerStream$Books", "exchanges", "LLedgerStream$Row;", true)
  | _ => ("LedgerStream$Books", "rates", "LLedgerStream$Row;", true)
def tyX1 : Nat → FieldType := fun k => match k with
  | 0 => .int
  | 1 => .object "LedgerStream$Row"
  | 2 => .object "LedgerStream$Row"
  | 3 => .object "LedgerStream$Row"
  | 4 => .object "LedgerStream$Row"
  | 5 => .object "LedgerStream$Row"
  | _ => .object "LedgerStream$Row"
abbrev wsX10 : List Cond := u_ws RX1 TX1 7
theorem nmX1 : ∀ a, a < 7 → ∀ b, b < 7 → a ≠ b → (TX1 a).2.1 ≠ (TX1 b).2.1 := by decide +kernel
theorem tyX1_ok : ∀ k, k < 7 → parseFieldDescriptor (TX1 k).2.2.1 = some (tyX1 k) := by decide +kernel
abbrev cX1_init : ByteArray := prog_3_method_1_code
def yX1_init : MethodName := ⟨RX1, "<init>", "()V"⟩
abbrev cX1_open : ByteArray := prog_3_method_2_code
def yX1_open : MethodName := ⟨RX1, "open", "(II)I"⟩
abbrev cX1_receivedFor : ByteArray := prog_3_method_3_code
def yX1_receivedFor : MethodName := ⟨RX1, "receivedFor", "(III)I"⟩
abbrev cX1_move : ByteArray := prog_3_method_4_code
def yX1_move : MethodName := ⟨RX1, "move", "(IIII)V"⟩
abbrev cX1_change : ByteArray := prog_3_method_5_code
def yX1_change : MethodName := ⟨RX1, "change", "(III)V"⟩
abbrev cX1_sumOf : ByteArray := prog_3_method_6_code
def yX1_sumOf : MethodName := ⟨RX1, "sumOf", "(I)J"⟩
def RX2 : String := "LedgerStream$Call"
def TX2 : u_T := fun k => match k with
  | 0 => ("LedgerStream$Call", "method", "C", true)
  | 1 => ("LedgerStream$Call", "key", "I", true)
  | 2 => ("LedgerStream$Call", "first", "I", true)
  | 3 => ("LedgerStream$Call", "second", "I", true)
  | 4 => ("LedgerStream$Call", "third", "I", true)
  | 5 => ("LedgerStream$Call", "fourth", "I", true)
  | 6 => ("LedgerStream$Call", "madeOn", "I", false)
  | _ => ("LedgerStream$Call", "answer", "I", false)
def tyX2 : Nat → FieldType := fun k => match k with
  | 0 => .char
  | 1 => .int
  | 2 => .int
  | 3 => .int
  | 4 => .int
  | 5 => .int
  | 6 => .int
  | _ => .int
abbrev wsX20 : List Cond := u_ws RX2 TX2 8
theorem nmX2 : ∀ a, a < 8 → ∀ b, b < 8 → a ≠ b → (TX2 a).2.1 ≠ (TX2 b).2.1 := by decide +kernel
theorem tyX2_ok : ∀ k, k < 8 → parseFieldDescriptor (TX2 k).2.2.1 = some (tyX2 k) := by decide +kernel
abbrev cX2_init : ByteArray := prog_4_method_1_code
def yX2_init : MethodName := ⟨RX2, "<init>", "(CIIIII)V"⟩
abbrev cX2_isLike : ByteArray := prog_4_method_2_code
def yX2_isLike : MethodName := ⟨RX2, "isLike", "(LLedgerStream$Call;)Z"⟩
def RX3 : String := "LedgerStream$Holds"
def TX3 : u_T := fun k => match k with
  | 0 => ("LedgerStream$Holds", "size", "I", false)
  | 1 => ("LedgerStream$Holds", "payers", "LLedgerStream$Row;", true)
  | 2 => ("LedgerStream$Holds", "payees", "LLedgerStream$Row;", true)
  | 3 => ("LedgerStream$Holds", "amounts", "LLedgerStream$Row;", true)
  | 4 => ("LedgerStream$Holds", "lastDays", "LLedgerStream$Row;", true)
  | _ => ("LedgerStream$Holds", "states", "LLedgerStream$Row;", true)
def tyX3 : Nat → FieldType := fun k => match k with
  | 0 => .int
  | 1 => .object "LedgerStream$Row"
  | 2 => .object "LedgerStream$Row"
  | 3 => .object "LedgerStream$Row"
  | 4 => .object "LedgerStream$Row"
  | _ => .object "LedgerStream$Row"
abbrev wsX30 : List Cond := u_ws RX3 TX3 6
theorem nmX3 : ∀ a, a < 6 → ∀ b, b < 6 → a ≠ b → (TX3 a).2.1 ≠ (TX3 b).2.1 := by decide +kernel
theorem tyX3_ok : ∀ k, k < 6 → parseFieldDescriptor (TX3 k).2.2.1 = some (tyX3 k) := by decide +kernel
abbrev cX3_init : ByteArray := prog_5_method_1_code
def yX3_init : MethodName := ⟨RX3, "<init>", "()V"⟩
abbrev cX3_append : ByteArray := prog_5_method_2_code
def yX3_append : MethodName := ⟨RX3, "append", "(IIII)I"⟩
abbrev cX3_isActive : ByteArray := prog_5_method_3_code
def yX3_isActive : MethodName := ⟨RX3, "isActive", "(I)Z"⟩
abbrev cX3_heldFrom : ByteArray := prog_5_method_4_code
def yX3_heldFrom : MethodName := ⟨RX3, "heldFrom", "(I)J"⟩
abbrev cX3_expireBefore : ByteArray := prog_5_method_5_code
def yX3_expireBefore : MethodName := ⟨RX3, "expireBefore", "(I)I"⟩
def RX4 : String := "LedgerStream$Journal"
def TX4 : u_T := fun k => match k with
  | 0 => ("LedgerStream$Journal", "size", "I", false)
  | 1 => ("LedgerStream$Journal", "kinds", "LLedgerStream$Row;", true)
  | 2 => ("LedgerStream$Journal", "payers", "LLedgerStream$Row;", true)
  | 3 => ("LedgerStream$Journal", "payees", "LLedgerStream$Row;", true)
  | 4 => ("LedgerStream$Journal", "paidAmounts", "LLedgerStream$Row;", true)
  | 5 => ("LedgerStream$Journal", "receivedAmounts", "LLedgerStream$Row;", true)
  | 6 => ("LedgerStream$Journal", "days", "LLedgerStream$Row;", true)
  | _ => ("LedgerStream$Journal", "reversals", "LLedgerStream$Row;", true)
def tyX4 : Nat → FieldType := fun k => match k with
  | 0 => .int
  | 1 => .object "LedgerStream$Row"
  | 2 => .object "LedgerStream$Row"
  | 3 => .object "LedgerStream$Row"
  | 4 => .object "LedgerStream$Row"
  | 5 => .object "LedgerStream$Row"
  | 6 => .object "LedgerStream$Row"
  | _ => .object "LedgerStream$Row"
abbrev wsX40 : List Cond := u_ws RX4 TX4 8
theorem nmX4 : ∀ a, a < 8 → ∀ b, b < 8 → a ≠ b → (TX4 a).2.1 ≠ (TX4 b).2.1 := by decide +kernel
theorem tyX4_ok : ∀ k, k < 8 → parseFieldDescriptor (TX4 k).2.2.1 = some (tyX4 k) := by decide +kernel
abbrev cX4_init : ByteArray := prog_6_method_1_code
def yX4_init : MethodName := ⟨RX4, "<init>", "()V"⟩
abbrev cX4_append : ByteArray := prog_6_method_2_code
def yX4_append : MethodName := ⟨RX4, "append", "(CIIIII)I"⟩
abbrev cX4_isReversed : ByteArray := prog_6_method_3_code
def yX4_isReversed : MethodName := ⟨RX4, "isReversed", "(I)Z"⟩
abbrev cX4_replay : ByteArray := prog_6_method_4_code
def yX4_replay : MethodName := ⟨RX4, "replay", "(II)J"⟩
abbrev cX4_effectOn : ByteArray := prog_6_method_5_code
def yX4_effectOn : MethodName := ⟨RX4, "effectOn", "(II)J"⟩
abbrev cX4_countReversed : ByteArray := prog_6_method_6_code
def yX4_countReversed : MethodName := ⟨RX4, "countReversed", "()I"⟩
abbrev cX4_sumPaid : ByteArray := prog_6_method_7_code
def yX4_sumPaid : MethodName := ⟨RX4, "sumPaid", "()J"⟩
def RX5 : String := "LedgerStream$Memory"
def TX5 : u_T := fun k => match k with
  | 0 => ("LedgerStream$Memory", "size", "I", false)
  | _ => ("LedgerStream$Memory", "calls", "[LLedgerStream$Call;", true)
def tyX5 : Nat → FieldType := fun k => match k with
  | 0 => .int
  | _ => .array (.object "LedgerStream$Call")
abbrev wsX50 : List Cond := u_ws RX5 TX5 2
theorem nmX5 : ∀ a, a < 2 → ∀ b, b < 2 → a ≠ b → (TX5 a).2.1 ≠ (TX5 b).2.1 := by decide +kernel
theorem tyX5_ok : ∀ k, k < 2 → parseFieldDescriptor (TX5 k).2.2.1 = some (tyX5 k) := by decide +kernel
abbrev cX5_init : ByteArray := prog_7_method_1_code
def yX5_init : MethodName := ⟨RX5, "<init>", "()V"⟩
abbrev cX5_find : ByteArray := prog_7_method_2_code
def yX5_find : MethodName := ⟨RX5, "find", "(II)LLedgerStream$Call;"⟩
abbrev cX5_hasKey : ByteArray := prog_7_method_3_code
def yX5_hasKey : MethodName := ⟨RX5, "hasKey", "(II)Z"⟩
abbrev cX5_hasCallLike : ByteArray := prog_7_method_4_code
def yX5_hasCallLike : MethodName := ⟨RX5, "hasCallLike", "(LLedgerStream$Call;I)Z"⟩
abbrev cX5_answerTo : ByteArray := prog_7_method_5_code
def yX5_answerTo : MethodName := ⟨RX5, "answerTo", "(II)I"⟩
abbrev cX5_keep : ByteArray := prog_7_method_6_code
def yX5_keep : MethodName := ⟨RX5, "keep", "(LLedgerStream$Call;II)I"⟩
abbrev cX5_countOn : ByteArray := prog_7_method_7_code
def yX5_countOn : MethodName := ⟨RX5, "countOn", "(I)I"⟩
def RX6 : String := "LedgerStream$Row"
def TX6 : u_T := fun k => match k with
  | _ => ("LedgerStream$Row", "cells", "[J", true)
def tyX6 : Nat → FieldType := fun k => match k with
  | _ => .array .long
abbrev wsX60 : List Cond := u_ws RX6 TX6 1
theorem nmX6 : ∀ a, a < 1 → ∀ b, b < 1 → a ≠ b → (TX6 a).2.1 ≠ (TX6 b).2.1 := by decide +kernel
theorem tyX6_ok : ∀ k, k < 1 → parseFieldDescriptor (TX6 k).2.2.1 = some (tyX6 k) := by decide +kernel
abbrev cX6_init : ByteArray := prog_8_method_1_code
def yX6_init : MethodName := ⟨RX6, "<init>", "(I)V"⟩
abbrev cX6_at : ByteArray := prog_8_method_2_code
def yX6_at : MethodName := ⟨RX6, "at", "(I)J"⟩
abbrev cX6_intAt : ByteArray := prog_8_method_3_code
def yX6_intAt : MethodName := ⟨RX6, "intAt", "(I)I"⟩
abbrev cX6_put : ByteArray := prog_8_method_4_code
def yX6_put : MethodName := ⟨RX6, "put", "(IJ)V"⟩
abbrev cX6_add : ByteArray := prog_8_method_5_code
def yX6_add : MethodName := ⟨RX6, "add", "(IJ)V"⟩
def RX7 : String := "LedgerStream"
def TX7 : u_T := fun k => match k with
  | 0 => ("LedgerStream", "books", "LLedgerStream$Books;", true)
  | 1 => ("LedgerStream", "journal", "LLedgerStream$Journal;", true)
  | 2 => ("LedgerStream", "holds", "LLedgerStream$Holds;", true)
  | 3 => ("LedgerStream", "batch", "LLedgerStream$Batch;", true)
  | 4 => ("LedgerStream", "memory", "LLedgerStream$Memory;", true)
  | 5 => ("LedgerStream", "sums", "LLedgerStream$Row;", true)
  | _ => ("LedgerStream", "today", "I", false)
def tyX7 : Nat → FieldType := fun k => match k with
  | 0 => .object "LedgerStream$Books"
  | 1 => .object "LedgerStream$Journal"
  | 2 => .object "LedgerStream$Holds"
  | 3 => .object "LedgerStream$Batch"
  | 4 => .object "LedgerStream$Memory"
  | 5 => .object "LedgerStream$Row"
  | _ => .int
abbrev wsX70 : List Cond := u_ws RX7 TX7 7
theorem nmX7 : ∀ a, a < 7 → ∀ b, b < 7 → a ≠ b → (TX7 a).2.1 ≠ (TX7 b).2.1 := by decide +kernel
theorem tyX7_ok : ∀ k, k < 7 → parseFieldDescriptor (TX7 k).2.2.1 = some (tyX7 k) := by decide +kernel
abbrev cX7_init : ByteArray := prog_1_method_1_code
def yX7_init : MethodName := ⟨RX7, "<init>", "()V"⟩
abbrev cX7_openAccount : ByteArray := prog_1_method_2_code
def yX7_openAccount : MethodName := ⟨RX7, "openAccount", "(II)I"⟩
abbrev cX7_setLimit : ByteArray := prog_1_method_3_code
def yX7_setLimit : MethodName := ⟨RX7, "setLimit", "(II)I"⟩
abbrev cX7_setRate : ByteArray := prog_1_method_4_code
def yX7_setRate : MethodName := ⟨RX7, "setRate", "(II)I"⟩
abbrev cX7_deposit : ByteArray := prog_1_method_5_code
def yX7_deposit : MethodName := ⟨RX7, "deposit", "(III)I"⟩
abbrev cX7_withdraw : ByteArray := prog_1_method_6_code
def yX7_withdraw : MethodName := ⟨RX7, "withdraw", "(III)I"⟩
abbrev cX7_transfer : ByteArray := prog_1_method_7_code
def yX7_transfer : MethodName := ⟨RX7, "transfer", "(IIII)I"⟩
abbrev cX7_hold : ByteArray := prog_1_method_8_code
def yX7_hold : MethodName := ⟨RX7, "hold", "(IIIII)I"⟩
abbrev cX7_capture : ByteArray := prog_1_method_9_code
def yX7_capture : MethodName := ⟨RX7, "capture", "(III)I"⟩
abbrev cX7_release : ByteArray := prog_1_method_10_code
def yX7_release : MethodName := ⟨RX7, "release", "(I)I"⟩
abbrev cX7_reverse : ByteArray := prog_1_method_11_code
def yX7_reverse : MethodName := ⟨RX7, "reverse", "(II)I"⟩
abbrev cX7_addPayment : ByteArray := prog_1_method_12_code
def yX7_addPayment : MethodName := ⟨RX7, "addPayment", "(III)I"⟩
abbrev cX7_removePayment : ByteArray := prog_1_method_13_code
def yX7_removePayment : MethodName := ⟨RX7, "removePayment", "(I)I"⟩
abbrev cX7_settle : ByteArray := prog_1_method_14_code
def yX7_settle : MethodName := ⟨RX7, "settle", "(I)I"⟩
abbrev cX7_closeDay : ByteArray := prog_1_method_15_code
def yX7_closeDay : MethodName := ⟨RX7, "closeDay", "()I"⟩
abbrev cX7_batchSize : ByteArray := prog_1_method_16_code
def yX7_batchSize : MethodName := ⟨RX7, "batchSize", "()I"⟩
abbrev cX7_cut : ByteArray := prog_1_method_17_code
def yX7_cut : MethodName := ⟨RX7, "cut", "()I"⟩
abbrev cX7_cutByTrying : ByteArray := prog_1_method_18_code
def yX7_cutByTrying : MethodName := ⟨RX7, "cutByTrying", "()I"⟩
abbrev cX7_netOf : ByteArray := prog_1_method_19_code
def yX7_netOf : MethodName := ⟨RX7, "netOf", "(I)J"⟩
abbrev cX7_accounts : ByteArray := prog_1_method_20_code
def yX7_accounts : MethodName := ⟨RX7, "accounts", "()I"⟩
abbrev cX7_day : ByteArray := prog_1_method_21_code
def yX7_day : MethodName := ⟨RX7, "day", "()I"⟩
abbrev cX7_balance : ByteArray := prog_1_method_22_code
def yX7_balance : MethodName := ⟨RX7, "balance", "(I)J"⟩
abbrev cX7_available : ByteArray := prog_1_method_23_code
def yX7_available : MethodName := ⟨RX7, "available", "(I)J"⟩
abbrev cX7_balanceByReplay : ByteArray := prog_1_method_24_code
def yX7_balanceByReplay : MethodName := ⟨RX7, "balanceByReplay", "(I)J"⟩
abbrev cX7_balanceAt : ByteArray := prog_1_method_25_code
def yX7_balanceAt : MethodName := ⟨RX7, "balanceAt", "(II)J"⟩
abbrev cX7_houseBalance : ByteArray := prog_1_method_26_code
def yX7_houseBalance : MethodName := ⟨RX7, "houseBalance", "(IZ)J"⟩
abbrev cX7_worth : ByteArray := prog_1_method_27_code
def yX7_worth : MethodName := ⟨RX7, "worth", "(I)J"⟩
abbrev cX7_transactions : ByteArray := prog_1_method_28_code
def yX7_transactions : MethodName := ⟨RX7, "transactions", "()I"⟩
abbrev cX7_kindOf : ByteArray := prog_1_method_29_code
def yX7_kindOf : MethodName := ⟨RX7, "kindOf", "(I)C"⟩
abbrev cX7_payerOf : ByteArray := prog_1_method_30_code
def yX7_payerOf : MethodName := ⟨RX7, "payerOf", "(I)I"⟩
abbrev cX7_payeeOf : ByteArray := prog_1_method_31_code
def yX7_payeeOf : MethodName := ⟨RX7, "payeeOf", "(I)I"⟩
abbrev cX7_paidOf : ByteArray := prog_1_method_32_code
def yX7_paidOf : MethodName := ⟨RX7, "paidOf", "(I)I"⟩
abbrev cX7_receivedOf : ByteArray := prog_1_method_33_code
def yX7_receivedOf : MethodName := ⟨RX7, "receivedOf", "(I)I"⟩
abbrev cX7_reversalOf : ByteArray := prog_1_method_34_code
def yX7_reversalOf : MethodName := ⟨RX7, "reversalOf", "(I)I"⟩
abbrev cX7_stateOf : ByteArray := prog_1_method_35_code
def yX7_stateOf : MethodName := ⟨RX7, "stateOf", "(I)C"⟩
abbrev cX7_lastDayOf : ByteArray := prog_1_method_36_code
def yX7_lastDayOf : MethodName := ⟨RX7, "lastDayOf", "(I)I"⟩
abbrev cX7_keys : ByteArray := prog_1_method_37_code
def yX7_keys : MethodName := ⟨RX7, "keys", "()I"⟩
abbrev cX7_answerOf : ByteArray := prog_1_method_38_code
def yX7_answerOf : MethodName := ⟨RX7, "answerOf", "(I)I"⟩
abbrev cX7_isBalanced : ByteArray := prog_1_method_39_code
def yX7_isBalanced : MethodName := ⟨RX7, "isBalanced", "()Z"⟩
abbrev cX7_reversedShare : ByteArray := prog_1_method_40_code
def yX7_reversedShare : MethodName := ⟨RX7, "reversedShare", "()F"⟩
abbrev cX7_meanPaid : ByteArray := prog_1_method_41_code
def yX7_meanPaid : MethodName := ⟨RX7, "meanPaid", "()D"⟩
abbrev cX7_requireCurrency : ByteArray := prog_1_method_42_code
def yX7_requireCurrency : MethodName := ⟨RX7, "requireCurrency", "(I)V"⟩
abbrev cX7_requireLimit : ByteArray := prog_1_method_43_code
def yX7_requireLimit : MethodName := ⟨RX7, "requireLimit", "(I)V"⟩
abbrev cX7_requireAmount : ByteArray := prog_1_method_44_code
def yX7_requireAmount : MethodName := ⟨RX7, "requireAmount", "(I)V"⟩
abbrev cX7_requireNewKey : ByteArray := prog_1_method_45_code
def yX7_requireNewKey : MethodName := ⟨RX7, "requireNewKey", "(I)V"⟩
abbrev cX7_requireAccount : ByteArray := prog_1_method_46_code
def yX7_requireAccount : MethodName := ⟨RX7, "requireAccount", "(I)V"⟩
abbrev cX7_requireTwoAccounts : ByteArray := prog_1_method_47_code
def yX7_requireTwoAccounts : MethodName := ⟨RX7, "requireTwoAccounts", "(II)V"⟩
abbrev cX7_requireTransaction : ByteArray := prog_1_method_48_code
def yX7_requireTransaction : MethodName := ⟨RX7, "requireTransaction", "(I)V"⟩
abbrev cX7_requireHold : ByteArray := prog_1_method_49_code
def yX7_requireHold : MethodName := ⟨RX7, "requireHold", "(I)V"⟩
abbrev cX7_requireActiveHold : ByteArray := prog_1_method_50_code
def yX7_requireActiveHold : MethodName := ⟨RX7, "requireActiveHold", "(I)V"⟩
abbrev cX7_requireSpendable : ByteArray := prog_1_method_51_code
def yX7_requireSpendable : MethodName := ⟨RX7, "requireSpendable", "(II)V"⟩
abbrev cX7_requireSomethingReceived : ByteArray := prog_1_method_52_code
def yX7_requireSomethingReceived : MethodName := ⟨RX7, "requireSomethingReceived", "(I)V"⟩
abbrev cX7_requireRoomInJournal : ByteArray := prog_1_method_53_code
def yX7_requireRoomInJournal : MethodName := ⟨RX7, "requireRoomInJournal", "()V"⟩
abbrev cX7_spendable : ByteArray := prog_1_method_54_code
def yX7_spendable : MethodName := ⟨RX7, "spendable", "(I)J"⟩
abbrev cX7_post : ByteArray := prog_1_method_55_code
def yX7_post : MethodName := ⟨RX7, "post", "(CIIII)I"⟩
abbrev cX7_cutBySums : ByteArray := prog_1_method_56_code
def yX7_cutBySums : MethodName := ⟨RX7, "cutBySums", "()I"⟩
abbrev cX7_hasNoNegativeSum : ByteArray := prog_1_method_57_code
def yX7_hasNoNegativeSum : MethodName := ⟨RX7, "hasNoNegativeSum", "()Z"⟩
abbrev cX7_canSettleTogether : ByteArray := prog_1_method_58_code
def yX7_canSettleTogether : MethodName := ⟨RX7, "canSettleTogether", "(I)Z"⟩
abbrev cX7_netOfFirst : ByteArray := prog_1_method_59_code
def yX7_netOfFirst : MethodName := ⟨RX7, "netOfFirst", "(II)J"⟩
abbrev cX7_receivedByPayment : ByteArray := prog_1_method_60_code
def yX7_receivedByPayment : MethodName := ⟨RX7, "receivedByPayment", "(I)I"⟩
def RX8 : String := "LedgerStreamModel"
def TX8 : u_T := fun k => match k with
  | 0 => ("LedgerStreamModel", "currencies", "[I", true)
  | 1 => ("LedgerStreamModel", "limits", "[I", true)
  | 2 => ("LedgerStreamModel", "rates", "[I", true)
  | 3 => ("LedgerStreamModel", "balances", "[J", true)
  | 4 => ("LedgerStreamModel", "outside", "[J", true)
  | 5 => ("LedgerStreamModel", "exchange", "[J", true)
  | 6 => ("LedgerStreamModel", "nets", "[J", true)
  | 7 => ("LedgerStreamModel", "kinds", "[I", true)
  | 8 => ("LedgerStreamModel", "payers", "[I", true)
  | 9 => ("LedgerStreamModel", "payees", "[I", true)
  | 10 => ("LedgerStreamModel", "paid", "[I", true)
  | 11 => ("LedgerStreamModel", "received", "[I", true)
  | 12 => ("LedgerStreamModel", "days", "[I", true)
  | 13 => ("LedgerStreamModel", "reversals", "[I", true)
  | 14 => ("LedgerStreamModel", "states", "[I", true)
  | 15 => ("LedgerStreamModel", "holders", "[I", true)
  | 16 => ("LedgerStreamModel", "takers", "[I", true)
  | 17 => ("LedgerStreamModel", "amounts", "[I", true)
  | 18 => ("LedgerStreamModel", "lastDays", "[I", true)
  | 19 => ("LedgerStreamModel", "batchPayers", "[I", true)
  | 20 => ("LedgerStreamModel", "batchPayees", "[I", true)
  | 21 => ("LedgerStreamModel", "batchAmounts", "[I", true)
  | 22 => ("LedgerStreamModel", "methods", "[I", true)
  | 23 => ("LedgerStreamModel", "arguments", "[I", true)
  | 24 => ("LedgerStreamModel", "answers", "[I", true)
  | 25 => ("LedgerStreamModel", "keyDays", "[I", true)
  | 26 => ("LedgerStreamModel", "thrown", "I", false)
  | 27 => ("LedgerStreamModel", "accounts", "I", false)
  | 28 => ("LedgerStreamModel", "made", "I", false)
  | 29 => ("LedgerStreamModel", "holds", "I", false)
  | 30 => ("LedgerStreamModel", "waiting", "I", false)
  | _ => ("LedgerStreamModel", "day", "I", false)
def tyX8 : Nat → FieldType := fun k => match k with
  | 0 => .array .int
  | 1 => .array .int
  | 2 => .array .int
  | 3 => .array .long
  | 4 => .array .long
  | 5 => .array .long
  | 6 => .array .long
  | 7 => .array .int
  | 8 => .array .int
  | 9 => .array .int
  | 10 => .array .int
  | 11 => .array .int
  | 12 => .array .int
  | 13 => .array .int
  | 14 => .array .int
  | 15 => .array .int
  | 16 => .array .int
  | 17 => .array .int
  | 18 => .array .int
  | 19 => .array .int
  | 20 => .array .int
  | 21 => .array .int
  | 22 => .array .int
  | 23 => .array .int
  | 24 => .array .int
  | 25 => .array .int
  | 26 => .int
  | 27 => .int
  | 28 => .int
  | 29 => .int
  | 30 => .int
  | _ => .int
abbrev wsX80 : List Cond := u_ws RX8 TX8 32
theorem nmX8 : ∀ a, a < 32 → ∀ b, b < 32 → a ≠ b → (TX8 a).2.1 ≠ (TX8 b).2.1 := by decide +kernel
theorem tyX8_ok : ∀ k, k < 32 → parseFieldDescriptor (TX8 k).2.2.1 = some (tyX8 k) := by decide +kernel
abbrev cX8_init : ByteArray := prog_10_method_1_code
def yX8_init : MethodName := ⟨RX8, "<init>", "()V"⟩
abbrev cX8_thrown : ByteArray := prog_10_method_2_code
def yX8_thrown : MethodName := ⟨RX8, "thrown", "()I"⟩
abbrev cX8_in : ByteArray := prog_10_method_3_code
def yX8_in : MethodName := ⟨RX8, "in", "(III)Z"⟩
abbrev cX8_plain : ByteArray := prog_10_method_4_code
def yX8_plain : MethodName := ⟨RX8, "plain", "(I)I"⟩
abbrev cX8_checked : ByteArray := prog_10_method_6_code
def yX8_checked : MethodName := ⟨RX8, "checked", "(Z)I"⟩
abbrev cX8_isAccount : ByteArray := prog_10_method_7_code
def yX8_isAccount : MethodName := ⟨RX8, "isAccount", "(I)Z"⟩
abbrev cX8_isAmount : ByteArray := prog_10_method_8_code
def yX8_isAmount : MethodName := ⟨RX8, "isAmount", "(I)Z"⟩
abbrev cX8_openAccount : ByteArray := prog_10_method_9_code
def yX8_openAccount : MethodName := ⟨RX8, "openAccount", "(II)I"⟩
abbrev cX8_heldOf : ByteArray := prog_10_method_10_code
def yX8_heldOf : MethodName := ⟨RX8, "heldOf", "(I)J"⟩
abbrev cX8_availableOf : ByteArray := prog_10_method_11_code
def yX8_availableOf : MethodName := ⟨RX8, "availableOf", "(I)J"⟩
abbrev cX8_setLimit : ByteArray := prog_10_method_12_code
def yX8_setLimit : MethodName := ⟨RX8, "setLimit", "(II)I"⟩
abbrev cX8_setRate : ByteArray := prog_10_method_13_code
def yX8_setRate : MethodName := ⟨RX8, "setRate", "(II)I"⟩
abbrev cX8_receivedFor : ByteArray := prog_10_method_14_code
def yX8_receivedFor : MethodName := ⟨RX8, "receivedFor", "(III)I"⟩
abbrev cX8_isRepeated : ByteArray := prog_10_method_15_code
def yX8_isRepeated : MethodName := ⟨RX8, "isRepeated", "(IIIIII)Z"⟩
abbrev cX8_isBadKey : ByteArray := prog_10_method_16_code
def yX8_isBadKey : MethodName := ⟨RX8, "isBadKey", "(I)Z"⟩
abbrev cX8_remembers : ByteArray := prog_10_method_17_code
def yX8_remembers : MethodName := ⟨RX8, "remembers", "(IIIIIII)I"⟩
abbrev cX8_currencyOf : ByteArray := prog_10_method_18_code
def yX8_currencyOf : MethodName := ⟨RX8, "currencyOf", "(II)I"⟩
abbrev cX8_makes : ByteArray := prog_10_method_19_code
def yX8_makes : MethodName := ⟨RX8, "makes", "(IIIII)I"⟩
abbrev cX8_deposit : ByteArray := prog_10_method_20_code
def yX8_deposit : MethodName := ⟨RX8, "deposit", "(III)I"⟩
abbrev cX8_withdraw : ByteArray := prog_10_method_21_code
def yX8_withdraw : MethodName := ⟨RX8, "withdraw", "(III)I"⟩
abbrev cX8_transfer : ByteArray := prog_10_method_22_code
def yX8_transfer : MethodName := ⟨RX8, "transfer", "(IIII)I"⟩
abbrev cX8_holds : ByteArray := prog_10_method_23_code
def yX8_holds : MethodName := ⟨RX8, "holds", "(IIII)I"⟩
abbrev cX8_hold : ByteArray := prog_10_method_24_code
def yX8_hold : MethodName := ⟨RX8, "hold", "(IIIII)I"⟩
abbrev cX8_isHold : ByteArray := prog_10_method_25_code
def yX8_isHold : MethodName := ⟨RX8, "isHold", "(I)Z"⟩
abbrev cX8_captures : ByteArray := prog_10_method_26_code
def yX8_captures : MethodName := ⟨RX8, "captures", "(II)I"⟩
abbrev cX8_capture : ByteArray := prog_10_method_27_code
def yX8_capture : MethodName := ⟨RX8, "capture", "(III)I"⟩
abbrev cX8_release : ByteArray := prog_10_method_28_code
def yX8_release : MethodName := ⟨RX8, "release", "(I)I"⟩
abbrev cX8_isTransaction : ByteArray := prog_10_method_29_code
def yX8_isTransaction : MethodName := ⟨RX8, "isTransaction", "(I)Z"⟩
abbrev cX8_lacks : ByteArray := prog_10_method_30_code
def yX8_lacks : MethodName := ⟨RX8, "lacks", "(II)Z"⟩
abbrev cX8_reverses : ByteArray := prog_10_method_31_code
def yX8_reverses : MethodName := ⟨RX8, "reverses", "(I)I"⟩
abbrev cX8_reverse : ByteArray := prog_10_method_32_code
def yX8_reverse : MethodName := ⟨RX8, "reverse", "(II)I"⟩
abbrev cX8_addPayment : ByteArray := prog_10_method_33_code
def yX8_addPayment : MethodName := ⟨RX8, "addPayment", "(III)I"⟩
abbrev cX8_takesOut : ByteArray := prog_10_method_34_code
def yX8_takesOut : MethodName := ⟨RX8, "takesOut", "(II)V"⟩
abbrev cX8_removePayment : ByteArray := prog_10_method_35_code
def yX8_removePayment : MethodName := ⟨RX8, "removePayment", "(I)I"⟩
abbrev cX8_receivedIn : ByteArray := prog_10_method_36_code
def yX8_receivedIn : MethodName := ⟨RX8, "receivedIn", "(I)I"⟩
abbrev cX8_layNets : ByteArray := prog_10_method_37_code
def yX8_layNets : MethodName := ⟨RX8, "layNets", "(I)V"⟩
abbrev cX8_canSettle : ByteArray := prog_10_method_38_code
def yX8_canSettle : MethodName := ⟨RX8, "canSettle", "(I)Z"⟩
abbrev cX8_cutOf : ByteArray := prog_10_method_39_code
def yX8_cutOf : MethodName := ⟨RX8, "cutOf", "()I"⟩
abbrev cX8_settles : ByteArray := prog_10_method_40_code
def yX8_settles : MethodName := ⟨RX8, "settles", "()I"⟩
abbrev cX8_settle : ByteArray := prog_10_method_41_code
def yX8_settle : MethodName := ⟨RX8, "settle", "(I)I"⟩
abbrev cX8_closeDay : ByteArray := prog_10_method_42_code
def yX8_closeDay : MethodName := ⟨RX8, "closeDay", "()I"⟩
abbrev cX8_batchSize : ByteArray := prog_10_method_43_code
def yX8_batchSize : MethodName := ⟨RX8, "batchSize", "()I"⟩
abbrev cX8_cut : ByteArray := prog_10_method_44_code
def yX8_cut : MethodName := ⟨RX8, "cut", "()I"⟩
abbrev cX8_cutByTrying : ByteArray := prog_10_method_45_code
def yX8_cutByTrying : MethodName := ⟨RX8, "cutByTrying", "()I"⟩
abbrev cX8_netOf : ByteArray := prog_10_method_46_code
def yX8_netOf : MethodName := ⟨RX8, "netOf", "(I)J"⟩
abbrev cX8_accounts : ByteArray := prog_10_method_47_code
def yX8_accounts : MethodName := ⟨RX8, "accounts", "()I"⟩
abbrev cX8_day : ByteArray := prog_10_method_48_code
def yX8_day : MethodName := ⟨RX8, "day", "()I"⟩
abbrev cX8_balance : ByteArray := prog_10_method_49_code
def yX8_balance : MethodName := ⟨RX8, "balance", "(I)J"⟩
abbrev cX8_available : ByteArray := prog_10_method_50_code
def yX8_available : MethodName := ⟨RX8, "available", "(I)J"⟩
abbrev cX8_replayed : ByteArray := prog_10_method_51_code
def yX8_replayed : MethodName := ⟨RX8, "replayed", "(II)J"⟩
abbrev cX8_balanceByReplay : ByteArray := prog_10_method_52_code
def yX8_balanceByReplay : MethodName := ⟨RX8, "balanceByReplay", "(I)J"⟩
abbrev cX8_balanceAt : ByteArray := prog_10_method_53_code
def yX8_balanceAt : MethodName := ⟨RX8, "balanceAt", "(II)J"⟩
abbrev cX8_houseBalance : ByteArray := prog_10_method_54_code
def yX8_houseBalance : MethodName := ⟨RX8, "houseBalance", "(IZ)J"⟩
abbrev cX8_worth : ByteArray := prog_10_method_55_code
def yX8_worth : MethodName := ⟨RX8, "worth", "(I)J"⟩
abbrev cX8_transactions : ByteArray := prog_10_method_56_code
def yX8_transactions : MethodName := ⟨RX8, "transactions", "()I"⟩
abbrev cX8_kindOf : ByteArray := prog_10_method_57_code
def yX8_kindOf : MethodName := ⟨RX8, "kindOf", "(I)C"⟩
abbrev cX8_sideOf : ByteArray := prog_10_method_58_code
def yX8_sideOf : MethodName := ⟨RX8, "sideOf", "(I[I)I"⟩
abbrev cX8_payerOf : ByteArray := prog_10_method_59_code
def yX8_payerOf : MethodName := ⟨RX8, "payerOf", "(I)I"⟩
abbrev cX8_payeeOf : ByteArray := prog_10_method_60_code
def yX8_payeeOf : MethodName := ⟨RX8, "payeeOf", "(I)I"⟩
abbrev cX8_paidOf : ByteArray := prog_10_method_61_code
def yX8_paidOf : MethodName := ⟨RX8, "paidOf", "(I)I"⟩
abbrev cX8_receivedOf : ByteArray := prog_10_method_62_code
def yX8_receivedOf : MethodName := ⟨RX8, "receivedOf", "(I)I"⟩
abbrev cX8_reversalOf : ByteArray := prog_10_method_63_code
def yX8_reversalOf : MethodName := ⟨RX8, "reversalOf", "(I)I"⟩
abbrev cX8_stateOf : ByteArray := prog_10_method_64_code
def yX8_stateOf : MethodName := ⟨RX8, "stateOf", "(I)C"⟩
abbrev cX8_lastDayOf : ByteArray := prog_10_method_65_code
def yX8_lastDayOf : MethodName := ⟨RX8, "lastDayOf", "(I)I"⟩
abbrev cX8_keys : ByteArray := prog_10_method_66_code
def yX8_keys : MethodName := ⟨RX8, "keys", "()I"⟩
abbrev cX8_answerOf : ByteArray := prog_10_method_67_code
def yX8_answerOf : MethodName := ⟨RX8, "answerOf", "(I)I"⟩
abbrev cX8_isBalanced : ByteArray := prog_10_method_68_code
def yX8_isBalanced : MethodName := ⟨RX8, "isBalanced", "()Z"⟩
abbrev cX8_reversedShare : ByteArray := prog_10_method_69_code
def yX8_reversedShare : MethodName := ⟨RX8, "reversedShare", "()F"⟩
abbrev cX8_meanPaid : ByteArray := prog_10_method_70_code
def yX8_meanPaid : MethodName := ⟨RX8, "meanPaid", "()D"⟩
def RJx145de : String := "java/io/Serializable"
def TJx145de : u_T := fun k => match k with
  | _ => ("", "", "", false)
def tyJx145de : Nat → FieldType := fun k => match k with
  | _ => .int
abbrev wsJx145de0 : List Cond := u_ws RJx145de TJx145de 0
theorem nmJx145de : ∀ a, a < 0 → ∀ b, b < 0 → a ≠ b → (TJx145de a).2.1 ≠ (TJx145de b).2.1 := by decide +kernel
theorem tyJx145de_ok : ∀ k, k < 0 → parseFieldDescriptor (TJx145de k).2.2.1 = some (tyJx145de k) := by decide +kernel
def RJx00060 : String := "java/lang/ArrayIndexOutOfBoundsException"
def TJx00060 : u_T := fun k => match k with
  | 0 => ("java/lang/Throwable", "backtrace", "Ljava/lang/Object;", false)
  | 1 => ("java/lang/Throwable", "detailMessage", "Ljava/lang/String;", false)
  | 2 => ("java/lang/Throwable", "cause", "Ljava/lang/Throwable;", false)
  | 3 => ("java/lang/Throwable", "stackTrace", "[Ljava/lang/StackTraceElement;", false)
  | 4 => ("java/lang/Throwable", "depth", "I", false)
  | _ => ("java/lang/Throwable", "suppressedExceptions", "Ljava/util/List;", false)
def tyJx00060 : Nat → FieldType := fun k => match k with
  | 0 => .object "java/lang/Object"
  | 1 => .object "java/lang/String"
  | 2 => .object "java/lang/Throwable"
  | 3 => .array (.object "java/lang/StackTraceElement")
  | 4 => .int
  | _ => .object "java/util/List"
abbrev wsJx000600 : List Cond := u_ws RJx00060 TJx00060 6
theorem nmJx00060 : ∀ a, a < 6 → ∀ b, b < 6 → a ≠ b → (TJx00060 a).2.1 ≠ (TJx00060 b).2.1 := by decide +kernel
theorem tyJx00060_ok : ∀ k, k < 6 → parseFieldDescriptor (TJx00060 k).2.2.1 = some (tyJx00060 k) := by decide +kernel
abbrev cJx00060_init_a7421 : ByteArray := prog_13_method_2_code
def yJx00060_init_a7421 : MethodName := ⟨RJx00060, "<init>", "(Ljava/lang/String;)V"⟩
def RJ9 : String := "java/lang/Math"
def TJ9 : u_T := fun k => match k with
  | _ => ("", "", "", false)
def tyJ9 : Nat → FieldType := fun k => match k with
  | _ => .int
abbrev wsJ90 : List Cond := u_ws RJ9 TJ9 0
theorem nmJ9 : ∀ a, a < 0 → ∀ b, b < 0 → a ≠ b → (TJ9 a).2.1 ≠ (TJ9 b).2.1 := by decide +kernel
theorem tyJ9_ok : ∀ k, k < 0 → parseFieldDescriptor (TJ9 k).2.2.1 = some (tyJ9 k) := by decide +kernel
abbrev cJ9_min_7cf53 : ByteArray := prog_18_method_69_code
def yJ9_min_7cf53 : MethodName := ⟨RJ9, "min", "(II)I"⟩
def RJ0 : String := "java/lang/String"
def TJ0 : u_T := fun k => match k with
  | 0 => ("java/lang/String", "value", "[B", true)
  | _ => ("java/lang/String", "coder", "B", true)
def tyJ0 : Nat → FieldType := fun k => match k with
  | 0 => .array .byte
  | _ => .byte
abbrev wsJ00 : List Cond := u_ws RJ0 TJ0 2
theorem nmJ0 : ∀ a, a < 2 → ∀ b, b < 2 → a ≠ b → (TJ0 a).2.1 ≠ (TJ0 b).2.1 := by decide +kernel
theorem tyJ0_ok : ∀ k, k < 2 → parseFieldDescriptor (TJ0 k).2.2.1 = some (tyJ0 k) := by decide +kernel
def RL : String := "LedgerStreamLaw"
abbrev cL_openAccount : ByteArray := method_3_code
def yL_openAccount : MethodName := ⟨RL, "openAccount", "(LLedgerStream;II[J)I"⟩
abbrev cL_setLimit : ByteArray := method_4_code
def yL_setLimit : MethodName := ⟨RL, "setLimit", "(LLedgerStream;II[J)I"⟩
abbrev cL_setRate : ByteArray := method_5_code
def yL_setRate : MethodName := ⟨RL, "setRate", "(LLedgerStream;II[J)I"⟩
abbrev cL_deposit : ByteArray := method_6_code
def yL_deposit : MethodName := ⟨RL, "deposit", "(LLedgerStream;III[J)I"⟩
abbrev cL_withdraw : ByteArray := method_7_code
def yL_withdraw : MethodName := ⟨RL, "withdraw", "(LLedgerStream;III[J)I"⟩
abbrev cL_transfer : ByteArray := method_8_code
def yL_transfer : MethodName := ⟨RL, "transfer", "(LLedgerStream;IIII[J)I"⟩
abbrev cL_hold : ByteArray := method_9_code
def yL_hold : MethodName := ⟨RL, "hold", "(LLedgerStream;IIIII[J)I"⟩
abbrev cL_capture : ByteArray := method_10_code
def yL_capture : MethodName := ⟨RL, "capture", "(LLedgerStream;III[J)I"⟩
abbrev cL_release : ByteArray := method_11_code
def yL_release : MethodName := ⟨RL, "release", "(LLedgerStream;I[J)I"⟩
abbrev cL_reverse : ByteArray := method_12_code
def yL_reverse : MethodName := ⟨RL, "reverse", "(LLedgerStream;II[J)I"⟩
abbrev cL_addPayment : ByteArray := method_13_code
def yL_addPayment : MethodName := ⟨RL, "addPayment", "(LLedgerStream;III[J)I"⟩
abbrev cL_removePayment : ByteArray := method_14_code
def yL_removePayment : MethodName := ⟨RL, "removePayment", "(LLedgerStream;I[J)I"⟩
abbrev cL_settle : ByteArray := method_15_code
def yL_settle : MethodName := ⟨RL, "settle", "(LLedgerStream;I[J)I"⟩
abbrev cL_netOf : ByteArray := method_16_code
def yL_netOf : MethodName := ⟨RL, "netOf", "(LLedgerStream;I[J)I"⟩
abbrev cL_balance : ByteArray := method_17_code
def yL_balance : MethodName := ⟨RL, "balance", "(LLedgerStream;I[J)I"⟩
abbrev cL_available : ByteArray := method_18_code
def yL_available : MethodName := ⟨RL, "available", "(LLedgerStream;I[J)I"⟩
abbrev cL_balanceByReplay : ByteArray := method_19_code
def yL_balanceByReplay : MethodName := ⟨RL, "balanceByReplay", "(LLedgerStream;I[J)I"⟩
abbrev cL_balanceAt : ByteArray := method_20_code
def yL_balanceAt : MethodName := ⟨RL, "balanceAt", "(LLedgerStream;II[J)I"⟩
abbrev cL_houseBalance : ByteArray := method_21_code
def yL_houseBalance : MethodName := ⟨RL, "houseBalance", "(LLedgerStream;IZ[J)I"⟩
abbrev cL_worth : ByteArray := method_22_code
def yL_worth : MethodName := ⟨RL, "worth", "(LLedgerStream;I[J)I"⟩
abbrev cL_kindOf : ByteArray := method_23_code
def yL_kindOf : MethodName := ⟨RL, "kindOf", "(LLedgerStream;I[J)I"⟩
abbrev cL_payerOf : ByteArray := method_24_code
def yL_payerOf : MethodName := ⟨RL, "payerOf", "(LLedgerStream;I[J)I"⟩
abbrev cL_payeeOf : ByteArray := method_25_code
def yL_payeeOf : MethodName := ⟨RL, "payeeOf", "(LLedgerStream;I[J)I"⟩
abbrev cL_paidOf : ByteArray := method_26_code
def yL_paidOf : MethodName := ⟨RL, "paidOf", "(LLedgerStream;I[J)I"⟩
abbrev cL_receivedOf : ByteArray := method_27_code
def yL_receivedOf : MethodName := ⟨RL, "receivedOf", "(LLedgerStream;I[J)I"⟩
abbrev cL_reversalOf : ByteArray := method_28_code
def yL_reversalOf : MethodName := ⟨RL, "reversalOf", "(LLedgerStream;I[J)I"⟩
abbrev cL_stateOf : ByteArray := method_29_code
def yL_stateOf : MethodName := ⟨RL, "stateOf", "(LLedgerStream;I[J)I"⟩
abbrev cL_lastDayOf : ByteArray := method_30_code
def yL_lastDayOf : MethodName := ⟨RL, "lastDayOf", "(LLedgerStream;I[J)I"⟩
abbrev cL_answerOf : ByteArray := method_31_code
def yL_answerOf : MethodName := ⟨RL, "answerOf", "(LLedgerStream;I[J)I"⟩
abbrev cL_reversedShare : ByteArray := method_32_code
def yL_reversedShare : MethodName := ⟨RL, "reversedShare", "(LLedgerStream;[D)I"⟩
abbrev cL_meanPaid : ByteArray := method_33_code
def yL_meanPaid : MethodName := ⟨RL, "meanPaid", "(LLedgerStream;[D)I"⟩
abbrev cL_law : ByteArray := code
def yL_law : MethodName := ⟨RL, "law", "([I)Z"⟩
abbrev vwCl : List vw_C := [(RJ0, TJ0, 2), (RJx00060, TJx00060, 6), (RX0, TX0, 4), (RX1, TX1, 7), (RX2, TX2, 8), (RX3, TX3, 6), (RX4, TX4, 8), (RX5, TX5, 2), (RX6, TX6, 1), (RX7, TX7, 7), (RX8, TX8, 32)]
end
section
/-! PART 02: a small logic over the kit's rows: an abstract heap as a function, and a reader of straight-line code -/
/-- an abstract cell: an array, or an object of a class of vwCl -/
abbrev hl_C : Type := vp_A ⊕ (Nat × List Value)
/-- an abstract heap -/
abbrev hl_H : Type := Nat → Option hl_C
def hl_set (h : hl_H) (a : Nat) (x : hl_C) : hl_H := fun q => if q = a then some x else h q
/-- the launch's numbers: the classes, the four array classes (int, long, double, Call), the heap at the law's entry -/
abbrev hl_G : Type := va_G × (ClassId × ClassId × ClassId × ClassId) × Heap
def hl_tys (G : hl_G) : List (ClassId × FieldType) := [(G.2.1.1, .int), (G.2.1.2.1, .long), (G.2.1.2.2.1, .double), (G.2.1.2.2.2, .object RX2)]
def hl_A (G : hl_G) : Nat → Prop := fun q => G.2.2.size ≤ q
def hl_cls (G : hl_G) (x : vp_A) : ClassId := match x.2 with
  | .inl _ => G.2.1.1
  | .inr (.inl _) => G.2.1.2.1
  | .inr (.inr (.inl _)) => G.2.1.1
  | .inr (.inr (.inr (.inl _))) => G.2.1.2.2.1
  | .inr (.inr (.inr (.inr _))) => G.2.1.2.2.2
def hl_tr (G : hl_G) (x : hl_C) : va_E := match x with
  | .inl a => .inl (hl_cls G a, a)
  | .inr o => .inr o
/-- the machine's heap holds the abstract one -/
def hl_P (G : hl_G) (h : hl_H) (H : Heap) : Prop := ∃ w : va_W, (∀ (a : Nat) (x : hl_C), h a = some x → ∃ k : Nat, w[k]? = some (a, hl_tr G x)) ∧ va_P G.1 vwCl w H ∧ va_D (hl_A G) w
theorem hl_P.of {G : hl_G} {h : hl_H} {H : Heap} (hh : hl_P G h H) {h' : hl_H} (hs : ∀ (a : Nat) (x : hl_C), h' a = some x → h a = some x) : hl_P G h' H := by
  obtain ⟨w, h1, h2, h3⟩ := hh
  exact ⟨w, fun a x q => h1 a x (hs a x q), h2, h3⟩
theorem hl_P.put {G : hl_G} {h : hl_H} {H1 : Heap} {w : va_W} {a k : Nat} {x0 : va_E} {x : hl_C} (h1 : ∀ (a : Nat) (x : hl_C), h a = some x → ∃ k : Nat, w[k]? = some (a, hl_tr G x)) (hk : w[k]? = some (a, x0)) (hD0 : va_D (hl_A G) w) (hP : va_P G.1 vwCl (w.set k (a, hl_tr G x)) H1) (hD : va_D (hl_A G) (w.set k (a, hl_tr G x))) : hl_P G (hl_set h a x) H1 := by
  have hl := (List.getElem?_eq_some_iff.mp hk).1
  refine ⟨_, fun b y hb => ?_, hP, hD⟩
  by_cases hba : b = a
  · subst hba
    simp only [hl_set, if_pos rfl] at hb
    cases hb
    exact ⟨k, by rw [List.getElem?_set_self hl]⟩
  · simp only [hl_set, if_neg hba] at hb
    obtain ⟨j, hj⟩ := h1 b y hb
    have hjk : k ≠ j := by
      intro z
      subst z
      rw [hk] at hj
      cases hj
      exact hba rfl
    exact ⟨j, by rw [List.getElem?_set_ne hjk]; exact hj⟩
theorem hl_P.push {G : hl_G} {h : hl_H} {H1 : Heap} {w : va_W} {a : Nat} {x : hl_C} (h1 : ∀ (a : Nat) (x : hl_C), h a = some x → ∃ k : Nat, w[k]? = some (a, hl_tr G x)) (hP : va_P G.1 vwCl (w ++ [(a, hl_tr G x)]) H1) (hD : va_D (hl_A G) (w ++ [(a, hl_tr G x)])) : h a = none ∧ hl_P G (hl_set h a x) H1 := by
  have hn : h a = none := by
    cases hh : h a with
    | none => rfl
    | some y =>
      obtain ⟨k, hk⟩ := h1 a y hh
      have hl := (List.getElem?_eq_some_iff.mp hk).1
      have e1 : (w ++ [(a, hl_tr G x)])[k]? = some (a, hl_tr G y) := by rw [List.getElem?_append_left hl]; exact hk
      have e2 : (w ++ [(a, hl_tr G x)])[w.length]? = some (a, hl_tr G x) := by simp
      have := hD.1 k w.length _ _ e1 e2 rfl
      omega
  refine ⟨hn, _, fun b y hb => ?_, hP, hD⟩
  by_cases hba : b = a
  · subst hba
    simp only [hl_set, if_pos rfl] at hb
    cases hb
    exact ⟨w.length, by simp⟩
  · simp only [hl_set, if_neg hba] at hb
    obtain ⟨j, hj⟩ := h1 b y hb
    have hl := (List.getElem?_eq_some_iff.mp hj).1
    exact ⟨j, by rw [List.getElem?_append_left hl]; exact hj⟩
/-- the exceptions that the class throws -/
def hl_ex : List String := ["java/lang/IllegalStateException", "java/lang/IllegalArgumentException", "java/lang/UnsupportedOperationException", "java/lang/IndexOutOfBoundsException", "java/util/NoSuchElementException", "java/lang/ArithmeticException"]
def hl_nF (w : Jvm.Cond) : Bool := match w with | .fieldLinkNest _ _ _ _ _ _ => true | _ => false
def hl_nM (w : Jvm.Cond) : Bool := match w with | .methodLinkNest _ _ _ _ => true | _ => false
def hl_nS (w : Jvm.Cond) : Bool := match w with | .stringRef _ _ _ => true | _ => false
def hl_Ev (G : hl_G) (U : State) : Prop := va_K G.1 vwCl (hl_tys G) U ∧ vx_Zq Bundle.tN "UNASSIGNED_STACK" Bundle.steD (hl_A G) U G.2.2 ∧ vx_Zq Bundle.tN "SUPPRESSED_SENTINEL" Bundle.listD (hl_A G) U G.2.2 ∧ (∀ own n a b d host, Jvm.Cond.fieldLinkNest own n a b d host ∈ lw_tbl → va_Nw (Jvm.Cond.fieldLinkNest own n a b d host) U) ∧ (∀ own n y host, Jvm.Cond.methodLinkNest own n y host ∈ lw_tbl → va_Nw (Jvm.Cond.methodLinkNest own n y host) U) ∧ (∀ own n tx, Jvm.Cond.stringRef own n tx ∈ lw_tbl → ∃ a, vk_R own n tx a U) ∧ (∀ y, Jvm.Cond.declares y ∈ lw_tbl → va_Nw (Jvm.Cond.declares y) U) ∧ (∀ C T, Jvm.Cond.castable C T ∈ lw_tbl → va_Nw (Jvm.Cond.castable C T) U) ∧ (∀ E ∈ hl_ex, ∀ F ∈ hl_ex, E ≠ F → va_Nc E F U) ∧ va_AO RX2 U
theorem hl_Ev.warm {G : hl_G} {u U : State} (hW : u.WarmedH U.vm) (h : hl_Ev G u) : hl_Ev G U := by
  obtain ⟨h1, h2, h3, h4, h5, h6, h7, h8, h9, h10⟩ := h
  refine ⟨va_K.moved hW.alike h1, vx_Zq.moved hW.alike h2, vx_Zq.moved hW.alike h3, fun own n a b d host q => va_Nw.warmF hW (h4 _ _ _ _ _ _ q), fun own n y host q => va_Nw.warmM hW (h5 _ _ _ _ q), fun own n tx q => ?_, fun y q => va_Nw.warmD hW (h7 _ q), fun C T q => va_Nw.warmC hW (h8 _ _ q), fun E hE F hF n => (h9 E hE F hF n).moved hW.alike, h10.moved hW.alike⟩
  obtain ⟨a, ha⟩ := h6 own n tx q
  exact ⟨a, vk_R.warm hW ha⟩
theorem hl_Ev.same {G : hl_G} {u U : State} (hv : u.vm = U.vm) (h : hl_Ev G u) : hl_Ev G U := by
  obtain ⟨h1, h2, h3, h4, h5, h6, h7, h8, h9, h10⟩ := h
  have ha : u.vm.Alike U.vm := by rw [hv]; exact Vm.Alike.refl _
  refine ⟨va_K.moved ha h1, vx_Zq.moved ha h2, vx_Zq.moved ha h3, fun own n a b d host q => va_Nw.same rfl hv (h4 _ _ _ _ _ _ q), fun own n y host q => va_Nw.same rfl hv (h5 _ _ _ _ q), fun own n tx q => ?_, fun y q => va_Nw.same rfl hv (h7 _ q), fun C T q => va_Nw.same rfl hv (h8 _ _ q), fun E hE F hF n => (h9 E hE F hF n).moved ha, h10.moved ha⟩
  obtain ⟨a, ha⟩ := h6 own n tx q
  exact ⟨a, vk_R.same hv.symm ha⟩
/-! locals -/
def hl_rd : List (Nat × Value) → Nat → Option Value
  | [], _ => none
  | (j, v) :: r, i => if j = i then some v else hl_rd r i
def hl_f1 (i : Nat) : List (Nat × Value) → List (Nat × Value)
  | [] => []
  | (j, v) :: r => if j = i then hl_f1 i r else if j + 1 = i then (if v.category = 2 then hl_f1 i r else (j, v) :: hl_f1 i r) else (j, v) :: hl_f1 i r
def hl_f2 (i : Nat) : List (Nat × Value) → List (Nat × Value)
  | [] => []
  | (j, v) :: r => if j = i then hl_f2 i r else if j = i + 1 then hl_f2 i r else if j + 1 = i then (if v.category = 2 then hl_f2 i r else (j, v) :: hl_f2 i r) else (j, v) :: hl_f2 i r
theorem hl_f1_eq (i : Nat) : ∀ l : List (Nat × Value), l.filter (fun q => !(q.1 == i) && !(q.1 + 1 == i && q.2.category == 2)) = hl_f1 i l
  | [] => rfl
  | (j, v) :: r => by
    have ih := hl_f1_eq i r
    simp only [List.filter_cons, hl_f1, ih]
    by_cases h1 : j = i
    · simp [h1]
    · by_cases h2 : j + 1 = i
      · by_cases h3 : v.category = 2
        · simp [h1, h2, h3]
        · simp [h1, h2, h3]
      · simp [h1, h2]
theorem hl_f2_eq (i : Nat) : ∀ l : List (Nat × Value), l.filter (fun q => !(q.1 == i) && (!(q.1 == i + 1) && !(q.1 + 1 == i && q.2.category == 2))) = hl_f2 i l
  | [] => rfl
  | (j, v) :: r => by
    have ih := hl_f2_eq i r
    simp only [List.filter_cons, hl_f2, ih]
    by_cases h1 : j = i
    · simp [h1]
    · by_cases h4 : j = i + 1
      · simp [h4]
      · by_cases h2 : j + 1 = i
        · by_cases h3 : v.category = 2
          · simp [h1, h2, h3, h4]
          · simp [h1, h2, h3, h4]
        · simp [h1, h2, h4]
/-- the locals stay in their order -/
def hl_ins (i : Nat) (v : Value) : List (Nat × Value) → List (Nat × Value)
  | [] => [(i, v)]
  | (j, u) :: r => if i < j then (i, v) :: (j, u) :: r else (j, u) :: hl_ins i v r
theorem hl_ins_mem {i : Nat} {v : Value} : ∀ {l : List (Nat × Value)} {q : Nat × Value}, q ∈ hl_ins i v l → q = (i, v) ∨ q ∈ l
  | [], q, h => Or.inl (List.mem_singleton.mp h)
  | (j, u) :: r, q, h => by
    simp only [hl_ins] at h
    by_cases hij : i < j
    · rw [if_pos hij] at h
      rcases List.mem_cons.mp h with h | h
      · exact Or.inl h
      · exact Or.inr h
    · rw [if_neg hij] at h
      rcases List.mem_cons.mp h with h | h
      · exact Or.inr (List.mem_cons.mpr (Or.inl h))
      · rcases hl_ins_mem h with h | h
        · exact Or.inl h
        · exact Or.inr (List.mem_cons_of_mem _ h)
theorem hl_ins_has {ls : Array Slot} {nL i : Nat} {v : Value} {l : List (Nat × Value)} (h : lv_has ls nL ((i, v) :: l)) : lv_has ls nL (hl_ins i v l) :=
  ⟨h.1, h.2.1, fun q hq => h.2.2 q (by
    rcases hl_ins_mem hq with h9 | h9
    · exact List.mem_cons.mpr (Or.inl h9)
    · exact List.mem_cons_of_mem _ h9)⟩
theorem hl_rd_mem {l : List (Nat × Value)} {i : Nat} {v : Value} (h : hl_rd l i = some v) : (i, v) ∈ l := by
  induction l with
  | nil => cases h
  | cons q r ih =>
    obtain ⟨j, u⟩ := q
    simp only [hl_rd] at h
    by_cases hj : j = i
    · rw [if_pos hj] at h
      cases h
      subst hj
      exact List.mem_cons_self
    · rw [if_neg hj] at h
      exact List.mem_cons_of_mem _ (ih h)
theorem hl_rd_at {ls : Array Slot} {nL : Nat} {l : List (Nat × Value)} (h : lv_has ls nL l) {i : Nat} {v : Value} (hr : hl_rd l i = some v) : ls[i]? = some (.val v) := h.2.2 (i, v) (hl_rd_mem hr)
theorem hl_rd_ix {l : List (Nat × Value)} {i : Nat} {v : Value} (hr : hl_rd l i = some v) : ∃ k : Nat, l[k]? = some (i, v) := List.getElem?_of_mem (hl_rd_mem hr)
/-! the state of a body -/
section HL
variable {p : Program} {l : Launch} {e : Env} {R : Room} {s : State} {m : MethodId} {args : Array Value} {below : List Frame} {meth : Method} {c : Code} {Qf : State → Prop}
/-- what is fixed in a body -/
def hl_X (G : hl_G) (cc : ByteArray) (nL : Nat) (own : String) (p : Program) (R : Room) (s : State) (m : MethodId) (args : Array Value) (c : Code) : Prop :=
  p.tables.exec = Jvm.exec ∧ c.code = cc ∧ c.maxLocals = nL ∧ s.vm.findClass own = some m.cls ∧ (∀ w ∈ lw_tbl.filter goodWord, w.before args s = true) ∧ hl_Ev G s ∧ va_S (hl_A G) G.2.2 s.heap [] ∧ 1 ≤ R.frames ∧ 40 ≤ R.locals
/-- from this point the body comes to Qf -/
def hl_Go (G : hl_G) (nL : Nat) (p : Program) (l : Launch) (e : Env) (R : Room) (s : State) (m : MethodId) (args : Array Value) (below : List Frame) (meth : Method) (c : Code) (Qf : State → Prop) (pc : Nat) (lv : List (Nat × Value)) (st : List Value) (h : hl_H) (ce sl : Nat) : Prop :=
  ∀ (H : Heap) (locs : List Loc) (ls : Array Slot), hl_P G h H → va_S (hl_A G) s.heap H locs → lv_has ls nL lv → W p l e R s m args below meth c H locs ce sl Qf (F0 m pc ls st)
end HL
/-! straight-line code: (pc, target or class, local or field, place of its word, an int constant, a long constant, the instruction) -/
abbrev hl_I : Type := Nat × Nat × Nat × Nat × Int32 × Int64 × Instr
def hl_len (i : Instr) : Nat := match i with
  | .iload _ | .aload _ | .lload _ | .fload _ | .dload _ | .istore _ | .astore _ | .lstore _ | .fstore _ | .dstore _ | .bipush _ | .ldc _ | .newarray _ => 2
  | .sipush _ | .ldc_w _ | .ldc2_w _ | .getfield _ | .putfield _ | .invokevirtual _ | .invokespecial _ | .invokestatic _ | .new _ | .anewarray _ | .goto _ | .ifCond _ _ | .if_icmp _ _ | .ifnull _ | .ifnonnull _ | .iinc _ _ => 3
  | _ => 1
def hl_new (t : Nat) : List Value := match t with
  | 2 => [.int 0, .null, .null, .null]
  | 3 => [.int 0, .null, .null, .null, .null, .null, .null]
  | 4 => [.int 0, .int 0, .int 0, .int 0, .int 0, .int 0, .int 0, .int 0]
  | 5 => [.int 0, .null, .null, .null, .null, .null]
  | 6 => [.int 0, .null, .null, .null, .null, .null, .null, .null]
  | 7 => [.int 0, .null]
  | 8 => [.null]
  | 9 => [.null, .null, .null, .null, .null, .null, .int 0]
  | 10 => [.null, .null, .null, .null, .null, .null, .null, .null, .null, .null, .null, .null, .null, .null, .null, .null, .null, .null, .null, .null, .null, .null, .null, .null, .null, .null, .int 0, .int 0, .int 0, .int 0, .int 0, .int 0]
  | _ => []
def hl_ii (st : List Value) (k : Int32 → Int32 → List Value → Prop) : Prop := match st with | .int y :: .int x :: s => k x y s | _ => False
def hl_i1 (st : List Value) (k : Int32 → List Value → Prop) : Prop := match st with | .int x :: s => k x s | _ => False
def hl_ll (st : List Value) (k : Int64 → Int64 → List Value → Prop) : Prop := match st with | .long y :: .long x :: s => k x y s | _ => False
def hl_l1 (st : List Value) (k : Int64 → List Value → Prop) : Prop := match st with | .long x :: s => k x s | _ => False
def hl_ff (st : List Value) (k : UInt32 → UInt32 → List Value → Prop) : Prop := match st with | .float y :: .float x :: s => k x y s | _ => False
def hl_g1 (st : List Value) (k : UInt32 → List Value → Prop) : Prop := match st with | .float x :: s => k x s | _ => False
def hl_dd (st : List Value) (k : UInt64 → UInt64 → List Value → Prop) : Prop := match st with | .double y :: .double x :: s => k x y s | _ => False
def hl_d1 (st : List Value) (k : UInt64 → List Value → Prop) : Prop := match st with | .double x :: s => k x s | _ => False
def hl_r1 (st : List Value) (k : Nat → List Value → Prop) : Prop := match st with | .ref a :: s => k a s | _ => False
def hl_rv (st : List Value) (k : Value → List Value → Prop) : Prop := match st with | .ref a :: s => k (.ref a) s | .null :: s => k .null s | _ => False
def hl_n1 (st : List Value) (kn : List Value → Prop) (k : List Value → Prop) : Prop := match st with | .ref _ :: s => k s | .null :: s => kn s | _ => False
def hl_v1 (st : List Value) (k : Value → List Value → Prop) : Prop := match st with | v :: s => v.category = 1 ∧ k v s | _ => False
def hl_a1 (st : List Value) (k : Int32 → Nat → List Value → Prop) : Prop := match st with | .int i :: .ref a :: s => k i a s | _ => False
def hl_d2 (st : List Value) (k : List Value → Prop) : Prop := match st with | .long x :: s => k (.long x :: .long x :: s) | .int i :: .ref a :: s => k (.int i :: .ref a :: .int i :: .ref a :: s) | _ => False
def hl_ri (o : Option Value) (k : Int32 → Prop) : Prop := match o with | some (.int x) => k x | _ => False
def hl_rl (o : Option Value) (k : Int64 → Prop) : Prop := match o with | some (.long x) => k x | _ => False
def hl_rg (o : Option Value) (k : UInt32 → Prop) : Prop := match o with | some (.float x) => k x | _ => False
def hl_rd8 (o : Option Value) (k : UInt64 → Prop) : Prop := match o with | some (.double x) => k x | _ => False
def hl_rr (o : Option Value) (k : Value → Prop) : Prop := match o with | some (.ref a) => k (.ref a) | some .null => k .null | _ => False
def hl_gf (o : Option hl_C) (t u : Nat) (k : Value → Prop) : Prop := match o with | some (.inr (ci, fs)) => ci = t ∧ (match fs[u]? with | some v => k v | none => False) | _ => False
def hl_pf (st : List Value) (h : hl_H) (t u : Nat) (c : Int32) (k : List Value → hl_H → Prop) : Prop := match st with
  | .int x :: .ref a :: s => (match h a with | some (.inr (ci, fs)) => ci = t ∧ u < fs.length ∧ (c = 0 ∨ (c = 2 ∧ narrow .char (.int x) = .int x ∧ fits .char (.int x) = true)) ∧ k s (hl_set h a (.inr (ci, fs.set u (.int x)))) | _ => False)
  | .ref b :: .ref a :: s => (match h a with | some (.inr (ci, fs)) => ci = t ∧ u < fs.length ∧ c = 1 ∧ k s (hl_set h a (.inr (ci, fs.set u (.ref b)))) | _ => False)
  | _ => False
def hl_ia (o : Option hl_C) (i : Int32) (k : Int32 → Prop) : Prop := match o with | some (.inl (n, .inl f)) => vp_in i n ∧ k (f i.toNatClampNeg) | _ => False
def hl_la (o : Option hl_C) (i : Int32) (k : Int64 → Prop) : Prop := match o with | some (.inl (n, .inr (.inl f))) => vp_in i n ∧ k (f i.toNatClampNeg) | _ => False
def hl_da (o : Option hl_C) (i : Int32) (k : UInt64 → Prop) : Prop := match o with | some (.inl (n, .inr (.inr (.inr (.inl f))))) => vp_in i n ∧ k (f i.toNatClampNeg) | _ => False
def hl_qa (o : Option hl_C) (i : Int32) (k : Value → Prop) : Prop := match o with | some (.inl (n, .inr (.inr (.inr (.inr f))))) => vp_in i n ∧ k (va_rf (f i.toNatClampNeg)) | _ => False
def hl_al (o : Option hl_C) (k : Int32 → Prop) : Prop := match o with | some (.inl (n, _)) => k (Int32.ofNat n) | _ => False
def hl_is (st : List Value) (h : hl_H) (k : List Value → hl_H → Prop) : Prop := match st with
  | .int x :: .int i :: .ref a :: s => (match h a with | some (.inl (n, .inl f)) => vp_in i n ∧ k s (hl_set h a (.inl (n, .inl (upd f i.toNatClampNeg x)))) | _ => False)
  | _ => False
def hl_ls (st : List Value) (h : hl_H) (k : List Value → hl_H → Prop) : Prop := match st with
  | .long x :: .int i :: .ref a :: s => (match h a with | some (.inl (n, .inr (.inl f))) => vp_in i n ∧ k s (hl_set h a (.inl (n, .inr (.inl (vp_updL f i.toNatClampNeg x))))) | _ => False)
  | _ => False
def hl_ds (st : List Value) (h : hl_H) (k : List Value → hl_H → Prop) : Prop := match st with
  | .double x :: .int i :: .ref a :: s => (match h a with | some (.inl (n, .inr (.inr (.inr (.inl f))))) => vp_in i n ∧ k s (hl_set h a (.inl (n, .inr (.inr (.inr (.inl (vf_upd f i.toNatClampNeg x)))))) ) | _ => False)
  | _ => False
def hl_qs (st : List Value) (h : hl_H) (k : List Value → hl_H → Prop) : Prop := match st with
  | .ref b :: .int i :: .ref a :: s => (match h a with | some (.inl (n, .inr (.inr (.inr (.inr f))))) => vp_in i n ∧ (∃ vs, h b = some (.inr (4, vs))) ∧ k s (hl_set h a (.inl (n, .inr (.inr (.inr (.inr (va_up f i.toNatClampNeg (some b)))))))) | _ => False)
  | _ => False
def hl_na (t : Nat) (n : Int32) : vp_A := (n.toNatClampNeg, match t with | 0 => .inl (fun _ => 0) | 1 => .inr (.inl (fun _ => 0)) | _ => .inr (.inr (.inr (.inl (fun _ => 0)))))
/-- what must hold ahead of a piece of code; 'go' is what must hold where it ends, jumps or calls -/
def hl_wp (go : Nat → List (Nat × Value) → List Value → hl_H → Nat → Nat → Prop) (Rc Rs : Nat) : List hl_I → Nat → List (Nat × Value) → List Value → hl_H → Nat → Nat → Prop
  | [], _, _, _, _, _, _ => False
  | (pc, t, u, k, c, d, i) :: _, 0, lv, st, h, ce, sl => go pc lv st h ce sl
  | (pc, t, u, k, c, d, i) :: r, n + 1, lv, st, h, ce, sl => match i with
    | .iload_n _ => hl_ri (hl_rd lv u) fun x => hl_wp go Rc Rs r n lv (.int x :: st) h ce sl
    | .iload _ => hl_ri (hl_rd lv u) fun x => hl_wp go Rc Rs r n lv (.int x :: st) h ce sl
    | .lload_n _ => hl_rl (hl_rd lv u) fun x => hl_wp go Rc Rs r n lv (.long x :: st) h ce sl
    | .lload _ => hl_rl (hl_rd lv u) fun x => hl_wp go Rc Rs r n lv (.long x :: st) h ce sl
    | .fload _ => hl_rg (hl_rd lv u) fun x => hl_wp go Rc Rs r n lv (.float x :: st) h ce sl
    | .dload _ => hl_rd8 (hl_rd lv u) fun x => hl_wp go Rc Rs r n lv (.double x :: st) h ce sl
    | .aload_n _ => hl_rr (hl_rd lv u) fun v => hl_wp go Rc Rs r n lv (v :: st) h ce sl
    | .aload _ => hl_rr (hl_rd lv u) fun v => hl_wp go Rc Rs r n lv (v :: st) h ce sl
    | .istore_n _ => hl_i1 st fun x s => hl_wp go Rc Rs r n (hl_ins u (.int x) (hl_f1 u lv)) s h ce sl
    | .istore _ => hl_i1 st fun x s => hl_wp go Rc Rs r n (hl_ins u (.int x) (hl_f1 u lv)) s h ce sl
    | .astore_n _ => hl_rv st fun x s => hl_wp go Rc Rs r n (hl_ins u x (hl_f1 u lv)) s h ce sl
    | .astore _ => hl_rv st fun x s => hl_wp go Rc Rs r n (hl_ins u x (hl_f1 u lv)) s h ce sl
    | .fstore _ => hl_g1 st fun x s => hl_wp go Rc Rs r n (hl_ins u (.float x) (hl_f1 u lv)) s h ce sl
    | .lstore_n _ => hl_l1 st fun x s => hl_wp go Rc Rs r n (hl_ins u (.long x) (hl_f2 u lv)) s h ce sl
    | .lstore _ => hl_l1 st fun x s => hl_wp go Rc Rs r n (hl_ins u (.long x) (hl_f2 u lv)) s h ce sl
    | .dstore _ => hl_d1 st fun x s => hl_wp go Rc Rs r n (hl_ins u (.double x) (hl_f2 u lv)) s h ce sl
    | .iinc _ _ => hl_ri (hl_rd lv u) fun x => hl_wp go Rc Rs r n (hl_ins u (.int (x + c)) (hl_f1 u lv)) st h ce sl
    | .iconst _ => hl_wp go Rc Rs r n lv (.int c :: st) h ce sl
    | .bipush _ => hl_wp go Rc Rs r n lv (.int c :: st) h ce sl
    | .sipush _ => hl_wp go Rc Rs r n lv (.int c :: st) h ce sl
    | .ldc _ => if t = 999 then go pc lv st h ce sl else hl_wp go Rc Rs r n lv (.int c :: st) h ce sl
    | .ldc_w _ => if t = 999 then go pc lv st h ce sl else hl_wp go Rc Rs r n lv (.int c :: st) h ce sl
    | .lconst _ => hl_wp go Rc Rs r n lv (.long d :: st) h ce sl
    | .ldc2_w _ => hl_wp go Rc Rs r n lv (.long d :: st) h ce sl
    | .fconst _ => hl_wp go Rc Rs r n lv (.float FP.fconst0 :: st) h ce sl
    | .dconst _ => hl_wp go Rc Rs r n lv (.double FP.dconst0 :: st) h ce sl
    | .aconst_null => hl_wp go Rc Rs r n lv (.null :: st) h ce sl
    | .iadd => hl_ii st fun x y s => hl_wp go Rc Rs r n lv (.int (x + y) :: s) h ce sl
    | .isub => hl_ii st fun x y s => hl_wp go Rc Rs r n lv (.int (x - y) :: s) h ce sl
    | .imul => hl_ii st fun x y s => hl_wp go Rc Rs r n lv (.int (x * y) :: s) h ce sl
    | .iand => hl_ii st fun x y s => hl_wp go Rc Rs r n lv (.int (x &&& y) :: s) h ce sl
    | .ineg => hl_i1 st fun x s => hl_wp go Rc Rs r n lv (.int (-x) :: s) h ce sl
    | .ladd => hl_ll st fun x y s => hl_wp go Rc Rs r n lv (.long (x + y) :: s) h ce sl
    | .lsub => hl_ll st fun x y s => hl_wp go Rc Rs r n lv (.long (x - y) :: s) h ce sl
    | .lmul => hl_ll st fun x y s => hl_wp go Rc Rs r n lv (.long (x * y) :: s) h ce sl
    | .ldiv => hl_ll st fun x y s => ¬ y = 0 ∧ hl_wp go Rc Rs r n lv (.long (x / y) :: s) h ce sl
    | .lneg => hl_l1 st fun x s => hl_wp go Rc Rs r n lv (.long (-x) :: s) h ce sl
    | .i2l => hl_i1 st fun x s => hl_wp go Rc Rs r n lv (.long x.toInt64 :: s) h ce sl
    | .l2i => hl_l1 st fun x s => hl_wp go Rc Rs r n lv (.int x.toInt32 :: s) h ce sl
    | .i2c => hl_i1 st fun x s => hl_wp go Rc Rs r n lv (.int (x.toUInt32 % 65536).toInt32 :: s) h ce sl
    | .i2f => hl_i1 st fun x s => hl_wp go Rc Rs r n lv (.float (FP.i2f x) :: s) h ce sl
    | .i2d => hl_i1 st fun x s => hl_wp go Rc Rs r n lv (.double (FP.i2d x) :: s) h ce sl
    | .l2d => hl_l1 st fun x s => hl_wp go Rc Rs r n lv (.double (FP.l2d x) :: s) h ce sl
    | .f2d => hl_g1 st fun x s => vf_n64 (FP.f2d x) ∧ hl_wp go Rc Rs r n lv (.double (FP.f2d x) :: s) h ce sl
    | .fdiv => hl_ff st fun x y s => vf_n32 (FP.fdiv x y) ∧ hl_wp go Rc Rs r n lv (.float (FP.fdiv x y) :: s) h ce sl
    | .ddiv => hl_dd st fun x y s => vf_n64 (FP.ddiv x y) ∧ hl_wp go Rc Rs r n lv (.double (FP.ddiv x y) :: s) h ce sl
    | .lcmp => hl_ll st fun x y s => hl_wp go Rc Rs r n lv (.int (lg_cmp x y) :: s) h ce sl
    | .fcmp op => hl_ff st fun x y s => hl_wp go Rc Rs r n lv (.int (Op.cmpValue (FP.fcmp x y) op) :: s) h ce sl
    | .dcmp op => hl_dd st fun x y s => hl_wp go Rc Rs r n lv (.int (Op.cmpValue (FP.dcmp x y) op) :: s) h ce sl
    | .dup => hl_v1 st fun v s => hl_wp go Rc Rs r n lv (v :: v :: s) h ce sl
    | .dup2 => hl_d2 st fun s => hl_wp go Rc Rs r n lv s h ce sl
    | .pop => hl_v1 st fun _ s => hl_wp go Rc Rs r n lv s h ce sl
    | .ifCond .eq _ => hl_i1 st fun x s => (x = 0 → go t lv s h ce sl) ∧ (¬ x = 0 → hl_wp go Rc Rs r n lv s h ce sl)
    | .ifCond .ne _ => hl_i1 st fun x s => (¬ x = 0 → go t lv s h ce sl) ∧ (x = 0 → hl_wp go Rc Rs r n lv s h ce sl)
    | .ifCond .lt _ => hl_i1 st fun x s => (x < 0 → go t lv s h ce sl) ∧ (¬ x < 0 → hl_wp go Rc Rs r n lv s h ce sl)
    | .ifCond .ge _ => hl_i1 st fun x s => (0 ≤ x → go t lv s h ce sl) ∧ (¬ 0 ≤ x → hl_wp go Rc Rs r n lv s h ce sl)
    | .ifCond .gt _ => hl_i1 st fun x s => (0 < x → go t lv s h ce sl) ∧ (¬ 0 < x → hl_wp go Rc Rs r n lv s h ce sl)
    | .ifCond .le _ => hl_i1 st fun x s => (x ≤ 0 → go t lv s h ce sl) ∧ (¬ x ≤ 0 → hl_wp go Rc Rs r n lv s h ce sl)
    | .if_icmp .eq _ => hl_ii st fun x y s => (x = y → go t lv s h ce sl) ∧ (¬ x = y → hl_wp go Rc Rs r n lv s h ce sl)
    | .if_icmp .ne _ => hl_ii st fun x y s => (¬ x = y → go t lv s h ce sl) ∧ (x = y → hl_wp go Rc Rs r n lv s h ce sl)
    | .if_icmp .lt _ => hl_ii st fun x y s => (x < y → go t lv s h ce sl) ∧ (¬ x < y → hl_wp go Rc Rs r n lv s h ce sl)
    | .if_icmp .ge _ => hl_ii st fun x y s => (y ≤ x → go t lv s h ce sl) ∧ (¬ y ≤ x → hl_wp go Rc Rs r n lv s h ce sl)
    | .if_icmp .gt _ => hl_ii st fun x y s => (y < x → go t lv s h ce sl) ∧ (¬ y < x → hl_wp go Rc Rs r n lv s h ce sl)
    | .if_icmp .le _ => hl_ii st fun x y s => (x ≤ y → go t lv s h ce sl) ∧ (¬ x ≤ y → hl_wp go Rc Rs r n lv s h ce sl)
    | .ifnull _ => hl_n1 st (fun s => go t lv s h ce sl) (fun s => hl_wp go Rc Rs r n lv s h ce sl)
    | .ifnonnull _ => hl_n1 st (fun s => hl_wp go Rc Rs r n lv s h ce sl) (fun s => go t lv s h ce sl)
    | .goto _ => go t lv st h ce sl
    | .getfield _ => hl_r1 st fun a s => hl_gf (h a) t u fun v => hl_wp go Rc Rs r n lv (v :: s) h ce sl
    | .putfield _ => hl_pf st h t u c fun s h' => hl_wp go Rc Rs r n lv s h' ce sl
    | .iaload => hl_a1 st fun i a s => hl_ia (h a) i fun x => hl_wp go Rc Rs r n lv (.int x :: s) h ce sl
    | .laload => hl_a1 st fun i a s => hl_la (h a) i fun x => hl_wp go Rc Rs r n lv (.long x :: s) h ce sl
    | .daload => hl_a1 st fun i a s => hl_da (h a) i fun x => hl_wp go Rc Rs r n lv (.double x :: s) h ce sl
    | .aaload => hl_a1 st fun i a s => hl_qa (h a) i fun v => hl_wp go Rc Rs r n lv (v :: s) h ce sl
    | .arraylength => hl_r1 st fun a s => hl_al (h a) fun x => hl_wp go Rc Rs r n lv (.int x :: s) h ce sl
    | .iastore => hl_is st h fun s h' => hl_wp go Rc Rs r n lv s h' ce sl
    | .lastore => hl_ls st h fun s h' => hl_wp go Rc Rs r n lv s h' ce sl
    | .dastore => hl_ds st h fun s h' => hl_wp go Rc Rs r n lv s h' ce sl
    | .aastore => hl_qs st h fun s h' => hl_wp go Rc Rs r n lv s h' ce sl
    | .new _ => if t < 100 then (ce + 1 ≤ Rc ∧ sl + u ≤ Rs ∧ ∀ q : Nat, h q = none → hl_wp go Rc Rs r n lv (.ref q :: st) (hl_set h q (.inr (t, hl_new t))) (ce + 1) (sl + u)) else go pc lv st h ce sl
    | .newarray _ => if t = 9 then go pc lv st h ce sl else hl_i1 st fun n9 s => (n9 = c ∧ ce + 1 ≤ Rc ∧ sl + u ≤ Rs ∧ ∀ q : Nat, h q = none → hl_wp go Rc Rs r n lv (.ref q :: s) (hl_set h q (.inl (hl_na t c))) (ce + 1) (sl + u))
    | .invokespecial _ => if t = 1 then hl_r1 st (fun _ s => (s.map fun v => v.category).sum ≤ 8 ∧ hl_wp go Rc Rs r n lv s h ce sl) else go pc lv st h ce sl
    | _ => go pc lv st h ce sl
/-- the class at place t of vwCl -/
def hl_cl (t : Nat) (k : String → u_T → Nat → Bool) : Bool := match vwCl[t]? with
  | some q => k q.1 q.2.1 q.2.2
  | none => false
/-- the words that every body has -/
def hl_T : List Jvm.Cond := lw_tbl.filter goodWord
def hl_isN (w : Jvm.Cond) : Bool := match w with | .fieldLinkNest _ _ _ _ _ _ => true | .methodLinkNest _ _ _ _ => true | _ => false
/-- a field's link: its own, or a nest mate's (d = 1) -/
def hl_fw (own : String) (n k : Nat) (d : Int64) (q : String × String × String × Bool) : Bool := if d = 0 then decide (lw_tbl[k]? = some (Jvm.Cond.fieldLink own n q.1 q.2.1 q.2.2.1)) else decide (lw_tbl[k]? = some (Jvm.Cond.fieldLinkNest own n q.1 q.2.1 q.2.2.1 "LedgerStream"))
/-- a good word of the tables, by its place -/
def hl_w (k : Nat) (w : Jvm.Cond) : Bool := decide (lw_tbl[k]? = some w) && goodWord w
/-- one instruction is what the code says at its place, and what it links to stands among the words -/
def hl_ok1 (own : String) (nL : Nat) (ini : Bool) (pc t u k : Nat) (c : Int32) (d : Int64) (i : Instr) : Bool :=
  match i with
    | .iload_n j => j.val == u
    | .iload j => j == u
    | .lload_n j => j.val == u
    | .lload j => j == u
    | .fload j => j == u
    | .dload j => j == u
    | .aload_n j => j.val == u
    | .aload j => j == u
    | .istore_n j => j.val == u && decide (u < nL)
    | .istore j => j == u && decide (u < nL)
    | .astore_n j => j.val == u && decide (u < nL)
    | .astore j => j == u && decide (u < nL)
    | .fstore j => j == u && decide (u < nL)
    | .lstore_n j => j.val == u && decide (u + 1 < nL)
    | .lstore j => j == u && decide (u + 1 < nL)
    | .dstore j => j == u && decide (u + 1 < nL)
    | .iinc j n => j == u && decide (Int32.ofInt n = c) && decide (u < nL)
    | .iconst n => decide (Int32.ofInt n = c)
    | .bipush n => decide ((Int8.ofInt n).toInt32 = c)
    | .sipush n => decide ((Int16.ofInt n).toInt32 = c)
    | .ldc n => t == 999 || hl_w k (Jvm.Cond.constant own n c)
    | .ldc_w n => t == 999 || hl_w k (Jvm.Cond.constant own n c)
    | .lconst n => decide (Int64.ofNat n.val = d)
    | .ldc2_w n => hl_w k (Jvm.Cond.constantLong own n d)
    | .fconst n => n.val == 0
    | .dconst n => n.val == 0
    | .ifCond _ off => decide ((pc : Int) + off = (t : Int))
    | .if_icmp _ off => decide ((pc : Int) + off = (t : Int))
    | .ifnull off => decide ((pc : Int) + off = (t : Int))
    | .ifnonnull off => decide ((pc : Int) + off = (t : Int))
    | .goto off => decide ((pc : Int) + off = (t : Int))
    | .getfield n => hl_cl t fun _ T N => decide (2 ≤ t) && decide (u < N) && hl_fw own n k d (T u)
    | .putfield n => hl_cl t fun _ T N => decide (2 ≤ t) && decide (u < N) && hl_fw own n k d (T u) && ((T u).2.2.2 == false || (ini && (T u).1 == own && d == 0)) && (match parseFieldDescriptor (T u).2.2.1 with
      | some .int => c == 0
      | some (.object _) => c == 1
      | some (.array _) => c == 1
      | some .char => c == 2
      | _ => false)
    | .new n => t ≥ 100 || (hl_cl t fun C _ N => N == u && decide (2 ≤ t) && hl_w k (Jvm.Cond.classLink own n C))
    | .newarray at9 => t == 9 || (hl_w k (Jvm.Cond.arrayClass (newarray.typeOf at9)) && decide (¬ c < 0) && decide (c.toNatClampNeg = u) && decide (u ≤ 10000) && (match newarray.typeOf at9 with
      | .int => t == 0
      | .long => t == 1
      | .double => t == 2
      | _ => false))
    | .invokespecial n => t == 0 || hl_w k (Jvm.Cond.methodLink own n objectInit)
    | _ => true
def hl_ok (cc : ByteArray) (own : String) (nL : Nat) (ini : Bool) : List hl_I → Bool
  | [] => true
  | (pc, t, u, k, c, d, i) :: r => decide (decode cc pc = .ok (i, hl_len i)) && hl_ok1 own nL ini pc t u k c d i && (match r with | [] => true | q :: _ => q.1 == pc + hl_len i) && hl_ok cc own nL ini r
theorem hl_T_of {k : Nat} {w : Jvm.Cond} (h1 : lw_tbl[k]? = some w) (h2 : goodWord w = true) : w ∈ hl_T := List.mem_filter.mpr ⟨List.mem_of_getElem? h1, h2⟩
theorem hl_w_T {k : Nat} {w : Jvm.Cond} (h : hl_w k w = true) : w ∈ hl_T := by
  simp only [hl_w, Bool.and_eq_true, decide_eq_true_eq] at h
  exact hl_T_of h.1 h.2
theorem hl_cl_spec {t : Nat} {k : String → u_T → Nat → Bool} (h : hl_cl t k = true) : ∃ (C : String) (T : u_T) (N : Nat), vwCl[t]? = some (C, T, N) ∧ k C T N = true := by
  unfold hl_cl at h
  cases hq : vwCl[t]? with
  | none => rw [hq] at h; cases h
  | some q => rw [hq] at h; exact ⟨q.1, q.2.1, q.2.2, rfl, h⟩
theorem hl_tab {t : Nat} {C : String} {T : u_T} {N : Nat} (h : vwCl[t]? = some (C, T, N)) (ht : 2 ≤ t) : ∃ ty : Nat → FieldType, (∀ k, k < N → parseFieldDescriptor (T k).2.2.1 = some (ty k)) ∧ (∀ a, a < N → ∀ b, b < N → a ≠ b → (T a).2.1 ≠ (T b).2.1) ∧ (∀ j, j < N → defaultValue (ty j) = vp_V (hl_new t) j) := by
  match t, h, ht with
  | 2, h, _ => cases h; exact ⟨tyX0, tyX0_ok, nmX0, by decide +kernel⟩
  | 3, h, _ => cases h; exact ⟨tyX1, tyX1_ok, nmX1, by decide +kernel⟩
  | 4, h, _ => cases h; exact ⟨tyX2, tyX2_ok, nmX2, by decide +kernel⟩
  | 5, h, _ => cases h; exact ⟨tyX3, tyX3_ok, nmX3, by decide +kernel⟩
  | 6, h, _ => cases h; exact ⟨tyX4, tyX4_ok, nmX4, by decide +kernel⟩
  | 7, h, _ => cases h; exact ⟨tyX5, tyX5_ok, nmX5, by decide +kernel⟩
  | 8, h, _ => cases h; exact ⟨tyX6, tyX6_ok, nmX6, by decide +kernel⟩
  | 9, h, _ => cases h; exact ⟨tyX7, tyX7_ok, nmX7, by decide +kernel⟩
  | 10, h, _ => cases h; exact ⟨tyX8, tyX8_ok, nmX8, by decide +kernel⟩
  | t + 11, h, _ => simp [vwCl] at h
theorem hl_ii_spec {st : List Value} {k : Int32 → Int32 → List Value → Prop} (h : hl_ii st k) : ∃ x y s, st = .int y :: .int x :: s ∧ k x y s := by
  unfold hl_ii at h
  split at h
  · exact ⟨_, _, _, rfl, h⟩
  · exact h.elim
theorem hl_i1_spec {st : List Value} {k : Int32 → List Value → Prop} (h : hl_i1 st k) : ∃ x s, st = .int x :: s ∧ k x s := by
  unfold hl_i1 at h
  split at h
  · exact ⟨_, _, rfl, h⟩
  · exact h.elim
theorem hl_ll_spec {st : List Value} {k : Int64 → Int64 → List Value → Prop} (h : hl_ll st k) : ∃ x y s, st = .long y :: .long x :: s ∧ k x y s := by
  unfold hl_ll at h
  split at h
  · exact ⟨_, _, _, rfl, h⟩
  · exact h.elim
theorem hl_l1_spec {st : List Value} {k : Int64 → List Value → Prop} (h : hl_l1 st k) : ∃ x s, st = .long x :: s ∧ k x s := by
  unfold hl_l1 at h
  split at h
  · exact ⟨_, _, rfl, h⟩
  · exact h.elim
theorem hl_ff_spec {st : List Value} {k : UInt32 → UInt32 → List Value → Prop} (h : hl_ff st k) : ∃ x y s, st = .float y :: .float x :: s ∧ k x y s := by
  unfold hl_ff at h
  split at h
  · exact ⟨_, _, _, rfl, h⟩
  · exact h.elim
theorem hl_g1_spec {st : List Value} {k : UInt32 → List Value → Prop} (h : hl_g1 st k) : ∃ x s, st = .float x :: s ∧ k x s := by
  unfold hl_g1 at h
  split at h
  · exact ⟨_, _, rfl, h⟩
  · exact h.elim
theorem hl_dd_spec {st : List Value} {k : UInt64 → UInt64 → List Value → Prop} (h : hl_dd st k) : ∃ x y s, st = .double y :: .double x :: s ∧ k x y s := by
  unfold hl_dd at h
  split at h
  · exact ⟨_, _, _, rfl, h⟩
  · exact h.elim
theorem hl_d1_spec {st : List Value} {k : UInt64 → List Value → Prop} (h : hl_d1 st k) : ∃ x s, st = .double x :: s ∧ k x s := by
  unfold hl_d1 at h
  split at h
  · exact ⟨_, _, rfl, h⟩
  · exact h.elim
theorem hl_r1_spec {st : List Value} {k : Nat → List Value → Prop} (h : hl_r1 st k) : ∃ a s, st = .ref a :: s ∧ k a s := by
  unfold hl_r1 at h
  split at h
  · exact ⟨_, _, rfl, h⟩
  · exact h.elim
theorem hl_rv_spec {st : List Value} {k : Value → List Value → Prop} (h : hl_rv st k) : (∃ a s, st = .ref a :: s ∧ k (.ref a) s) ∨ ∃ s, st = .null :: s ∧ k .null s := by
  unfold hl_rv at h
  split at h
  · exact Or.inl ⟨_, _, rfl, h⟩
  · exact Or.inr ⟨_, rfl, h⟩
  · exact h.elim
theorem hl_n1_spec {st : List Value} {kn k : List Value → Prop} (h : hl_n1 st kn k) : (∃ a s, st = .ref a :: s ∧ k s) ∨ ∃ s, st = .null :: s ∧ kn s := by
  unfold hl_n1 at h
  split at h
  · exact Or.inl ⟨_, _, rfl, h⟩
  · exact Or.inr ⟨_, rfl, h⟩
  · exact h.elim
theorem hl_v1_spec {st : List Value} {k : Value → List Value → Prop} (h : hl_v1 st k) : ∃ v s, st = v :: s ∧ v.category = 1 ∧ k v s := by
  unfold hl_v1 at h
  split at h
  · exact ⟨_, _, rfl, h⟩
  · exact h.elim
theorem hl_a1_spec {st : List Value} {k : Int32 → Nat → List Value → Prop} (h : hl_a1 st k) : ∃ i a s, st = .int i :: .ref a :: s ∧ k i a s := by
  unfold hl_a1 at h
  split at h
  · exact ⟨_, _, _, rfl, h⟩
  · exact h.elim
theorem hl_d2_spec {st : List Value} {k : List Value → Prop} (h : hl_d2 st k) : (∃ x s, st = .long x :: s ∧ k (.long x :: .long x :: s)) ∨ ∃ i a s, st = .int i :: .ref a :: s ∧ k (.int i :: .ref a :: .int i :: .ref a :: s) := by
  unfold hl_d2 at h
  split at h
  · exact Or.inl ⟨_, _, rfl, h⟩
  · exact Or.inr ⟨_, _, _, rfl, h⟩
  · exact h.elim
theorem hl_ri_spec {o : Option Value} {k : Int32 → Prop} (h : hl_ri o k) : ∃ x, o = some (.int x) ∧ k x := by
  unfold hl_ri at h
  split at h
  · exact ⟨_, rfl, h⟩
  · exact h.elim
theorem hl_rl_spec {o : Option Value} {k : Int64 → Prop} (h : hl_rl o k) : ∃ x, o = some (.long x) ∧ k x := by
  unfold hl_rl at h
  split at h
  · exact ⟨_, rfl, h⟩
  · exact h.elim
theorem hl_rg_spec {o : Option Value} {k : UInt32 → Prop} (h : hl_rg o k) : ∃ x, o = some (.float x) ∧ k x := by
  unfold hl_rg at h
  split at h
  · exact ⟨_, rfl, h⟩
  · exact h.elim
theorem hl_rd8_spec {o : Option Value} {k : UInt64 → Prop} (h : hl_rd8 o k) : ∃ x, o = some (.double x) ∧ k x := by
  unfold hl_rd8 at h
  split at h
  · exact ⟨_, rfl, h⟩
  · exact h.elim
theorem hl_rr_spec {o : Option Value} {k : Value → Prop} (h : hl_rr o k) : (∃ a, o = some (.ref a) ∧ k (.ref a)) ∨ (o = some .null ∧ k .null) := by
  unfold hl_rr at h
  split at h
  · exact Or.inl ⟨_, rfl, h⟩
  · exact Or.inr ⟨rfl, h⟩
  · exact h.elim
theorem hl_gf_spec {o : Option hl_C} {t u : Nat} {k : Value → Prop} (h : hl_gf o t u k) : ∃ fs v, o = some (.inr (t, fs)) ∧ fs[u]? = some v ∧ k v := by
  unfold hl_gf at h
  split at h
  · obtain ⟨rfl, h⟩ := h
    split at h
    · exact ⟨_, _, rfl, by assumption, h⟩
    · exact h.elim
  · exact h.elim
theorem hl_ia_spec {o : Option hl_C} {i : Int32} {k : Int32 → Prop} (h : hl_ia o i k) : ∃ n f, o = some (.inl (n, .inl f)) ∧ vp_in i n ∧ k (f i.toNatClampNeg) := by
  unfold hl_ia at h
  split at h
  · exact ⟨_, _, rfl, h⟩
  · exact h.elim
theorem hl_la_spec {o : Option hl_C} {i : Int32} {k : Int64 → Prop} (h : hl_la o i k) : ∃ n f, o = some (.inl (n, .inr (.inl f))) ∧ vp_in i n ∧ k (f i.toNatClampNeg) := by
  unfold hl_la at h
  split at h
  · exact ⟨_, _, rfl, h⟩
  · exact h.elim
theorem hl_da_spec {o : Option hl_C} {i : Int32} {k : UInt64 → Prop} (h : hl_da o i k) : ∃ n f, o = some (.inl (n, .inr (.inr (.inr (.inl f))))) ∧ vp_in i n ∧ k (f i.toNatClampNeg) := by
  unfold hl_da at h
  split at h
  · exact ⟨_, _, rfl, h⟩
  · exact h.elim
theorem hl_qa_spec {o : Option hl_C} {i : Int32} {k : Value → Prop} (h : hl_qa o i k) : ∃ n f, o = some (.inl (n, .inr (.inr (.inr (.inr f))))) ∧ vp_in i n ∧ k (va_rf (f i.toNatClampNeg)) := by
  unfold hl_qa at h
  split at h
  · exact ⟨_, _, rfl, h⟩
  · exact h.elim
theorem hl_al_spec {o : Option hl_C} {k : Int32 → Prop} (h : hl_al o k) : ∃ x : vp_A, o = some (.inl x) ∧ k (Int32.ofNat x.1) := by
  unfold hl_al at h
  split at h
  · exact ⟨_, rfl, h⟩
  · exact h.elim
theorem hl_is_spec {st : List Value} {h : hl_H} {k : List Value → hl_H → Prop} (q : hl_is st h k) : ∃ x i a s n f, st = .int x :: .int i :: .ref a :: s ∧ h a = some (.inl (n, .inl f)) ∧ vp_in i n ∧ k s (hl_set h a (.inl (n, .inl (upd f i.toNatClampNeg x)))) := by
  unfold hl_is at q
  split at q
  · split at q
    · exact ⟨_, _, _, _, _, _, rfl, by assumption, q⟩
    · exact q.elim
  · exact q.elim
theorem hl_ls_spec {st : List Value} {h : hl_H} {k : List Value → hl_H → Prop} (q : hl_ls st h k) : ∃ x i a s n f, st = .long x :: .int i :: .ref a :: s ∧ h a = some (.inl (n, .inr (.inl f))) ∧ vp_in i n ∧ k s (hl_set h a (.inl (n, .inr (.inl (vp_updL f i.toNatClampNeg x))))) := by
  unfold hl_ls at q
  split at q
  · split at q
    · exact ⟨_, _, _, _, _, _, rfl, by assumption, q⟩
    · exact q.elim
  · exact q.elim
theorem hl_ds_spec {st : List Value} {h : hl_H} {k : List Value → hl_H → Prop} (q : hl_ds st h k) : ∃ x i a s n f, st = .double x :: .int i :: .ref a :: s ∧ h a = some (.inl (n, .inr (.inr (.inr (.inl f))))) ∧ vp_in i n ∧ k s (hl_set h a (.inl (n, .inr (.inr (.inr (.inl (vf_upd f i.toNatClampNeg x))))))) := by
  unfold hl_ds at q
  split at q
  · split at q
    · exact ⟨_, _, _, _, _, _, rfl, by assumption, q⟩
    · exact q.elim
  · exact q.elim
theorem hl_qs_spec {st : List Value} {h : hl_H} {k : List Value → hl_H → Prop} (q : hl_qs st h k) : ∃ b i a s n f vs, st = .ref b :: .int i :: .ref a :: s ∧ h a = some (.inl (n, .inr (.inr (.inr (.inr f))))) ∧ vp_in i n ∧ h b = some (.inr (4, vs)) ∧ k s (hl_set h a (.inl (n, .inr (.inr (.inr (.inr (va_up f i.toNatClampNeg (some b)))))))) := by
  unfold hl_qs at q
  split at q
  · split at q
    · obtain ⟨q1, ⟨vs, q2⟩, q3⟩ := q
      exact ⟨_, _, _, _, _, _, vs, rfl, by assumption, q1, q2, q3⟩
    · exact q.elim
  · exact q.elim
theorem hl_pf_spec {st : List Value} {h : hl_H} {t u : Nat} {c : Int32} {k : List Value → hl_H → Prop} (q : hl_pf st h t u c k) : ∃ v a s fs, st = v :: .ref a :: s ∧ h a = some (.inr (t, fs)) ∧ u < fs.length ∧ ((∃ x, v = .int x ∧ (c = 0 ∨ (c = 2 ∧ narrow .char (.int x) = .int x ∧ fits .char (.int x) = true))) ∨ (∃ b, v = .ref b ∧ c = 1)) ∧ k s (hl_set h a (.inr (t, fs.set u v))) := by
  unfold hl_pf at q
  split at q
  · split at q
    · obtain ⟨rfl, q1, q2, q3⟩ := q
      exact ⟨_, _, _, _, rfl, by assumption, q1, Or.inl ⟨_, rfl, q2⟩, q3⟩
    · exact q.elim
  · split at q
    · obtain ⟨rfl, q1, q2, q3⟩ := q
      exact ⟨_, _, _, _, rfl, by assumption, q1, Or.inr ⟨_, rfl, q2⟩, q3⟩
    · exact q.elim
  · exact q.elim
section RUN
variable {p : Program} {l : Launch} {e : Env} {R : Room} {s : State} {m : MethodId} {args : Array Value} {below : List Frame} {meth : Method} {c : Code} {Qf : State → Prop}
theorem hl_by {ws : List Jvm.Cond} (ps : List Nat) (h : ws = ps.filterMap (fun i => lw_tbl[i]?)) (hg : ws.all goodWord = true) : ∀ w ∈ ws, w ∈ hl_T := by
  intro w hw
  have h2 := List.all_eq_true.mp hg w hw
  rw [h] at hw
  obtain ⟨i, -, hi⟩ := List.mem_filterMap.mp hw
  exact hl_T_of hi h2
theorem hl_iX0 : ∀ w ∈ wsX00, w ∈ hl_T := hl_by [218, 220, 222, 224] (by decide +kernel) (by decide +kernel)
theorem hl_iX1 : ∀ w ∈ wsX10, w ∈ hl_T := hl_by [114, 116, 118, 120, 122, 124, 126] (by decide +kernel) (by decide +kernel)
theorem hl_iX2 : ∀ w ∈ wsX20, w ∈ hl_T := hl_by [580, 582, 584, 586, 588, 590, 592, 594] (by decide +kernel) (by decide +kernel)
theorem hl_iX3 : ∀ w ∈ wsX30, w ∈ hl_T := hl_by [189, 191, 193, 195, 197, 199] (by decide +kernel) (by decide +kernel)
theorem hl_iX4 : ∀ w ∈ wsX40, w ∈ hl_T := hl_by [152, 154, 156, 158, 160, 162, 164, 166] (by decide +kernel) (by decide +kernel)
theorem hl_iX5 : ∀ w ∈ wsX50, w ∈ hl_T := hl_by [237, 239] (by decide +kernel) (by decide +kernel)
theorem hl_iX6 : ∀ w ∈ wsX60, w ∈ hl_T := hl_by [91] (by decide +kernel) (by decide +kernel)
theorem hl_iX7 : ∀ w ∈ wsX70, w ∈ hl_T := hl_by [251, 253, 255, 257, 259, 261, 263] (by decide +kernel) (by decide +kernel)
theorem hl_iX8 : ∀ w ∈ wsX80, w ∈ hl_T := hl_by [997, 999, 1001, 1003, 1005, 1007, 1009, 1011, 1013, 1015, 1017, 1019, 1021, 1023, 1025, 1027, 1029, 1031, 1033, 1035, 1037, 1039, 1041, 1043, 1045, 1047, 1049, 1051, 1053, 1055, 1057, 1059] (by decide +kernel) (by decide +kernel)
theorem hl_in {t : Nat} {C : String} {T : u_T} {N : Nat} (h : vwCl[t]? = some (C, T, N)) (ht : 2 ≤ t) : ∀ w ∈ u_ws C T N, w ∈ hl_T := by
  match t, h, ht with
  | 2, h, _ => cases h; exact hl_iX0
  | 3, h, _ => cases h; exact hl_iX1
  | 4, h, _ => cases h; exact hl_iX2
  | 5, h, _ => cases h; exact hl_iX3
  | 6, h, _ => cases h; exact hl_iX4
  | 7, h, _ => cases h; exact hl_iX5
  | 8, h, _ => cases h; exact hl_iX6
  | 9, h, _ => cases h; exact hl_iX7
  | 10, h, _ => cases h; exact hl_iX8
  | t + 11, h, _ => simp [vwCl] at h
theorem hl_inst {t : Nat} {C : String} {T : u_T} {N : Nat} (h : vwCl[t]? = some (C, T, N)) (ht : 2 ≤ t) : Jvm.Cond.instantiable C N ∈ hl_T ∧ Jvm.Cond.initialized C ∈ hl_T := by
  match t, h, ht with
  | 2, h, _ => cases h; exact ⟨hl_T_of (k := 203) (by decide +kernel) rfl, hl_T_of (k := 54) (by decide +kernel) rfl⟩
  | 3, h, _ => cases h; exact ⟨hl_T_of (k := 79) (by decide +kernel) rfl, hl_T_of (k := 50) (by decide +kernel) rfl⟩
  | 4, h, _ => cases h; exact ⟨hl_T_of (k := 564) (by decide +kernel) rfl, hl_T_of (k := 66) (by decide +kernel) rfl⟩
  | 5, h, _ => cases h; exact ⟨hl_T_of (k := 170) (by decide +kernel) rfl, hl_T_of (k := 53) (by decide +kernel) rfl⟩
  | 6, h, _ => cases h; exact ⟨hl_T_of (k := 130) (by decide +kernel) rfl, hl_T_of (k := 52) (by decide +kernel) rfl⟩
  | 7, h, _ => cases h; exact ⟨hl_T_of (k := 228) (by decide +kernel) rfl, hl_T_of (k := 55) (by decide +kernel) rfl⟩
  | 8, h, _ => cases h; exact ⟨hl_T_of (k := 85) (by decide +kernel) rfl, hl_T_of (k := 51) (by decide +kernel) rfl⟩
  | 9, h, _ => cases h; exact ⟨hl_T_of (k := 71) (by decide +kernel) rfl, hl_T_of (k := 49) (by decide +kernel) rfl⟩
  | 10, h, _ => cases h; exact ⟨hl_T_of (k := 960) (by decide +kernel) rfl, hl_T_of (k := 56) (by decide +kernel) rfl⟩
  | t + 11, h, _ => simp [vwCl] at h
theorem hl_oi1 : Jvm.Cond.instanceMethod objectInit ∈ hl_T := hl_T_of (k := 76) (by decide +kernel) rfl
theorem hl_oi2 : Jvm.Cond.code objectInit ⟨#[0xb1]⟩ 1 none ∈ hl_T := hl_T_of (k := 77) (by decide +kernel) rfl
theorem hl_fw_0 {own : String} {n k : Nat} {d : Int64} {q : String × String × String × Bool} (h : hl_fw own n k d q = true) (hd : d = 0) : lw_tbl[k]? = some (Jvm.Cond.fieldLink own n q.1 q.2.1 q.2.2.1) := by
  unfold hl_fw at h
  rw [if_pos hd] at h
  exact of_decide_eq_true h
theorem hl_fw_1 {own : String} {n k : Nat} {d : Int64} {q : String × String × String × Bool} (h : hl_fw own n k d q = true) (hd : ¬ d = 0) : lw_tbl[k]? = some (Jvm.Cond.fieldLinkNest own n q.1 q.2.1 q.2.2.1 "LedgerStream") := by
  unfold hl_fw at h
  rw [if_neg hd] at h
  exact of_decide_eq_true h
set_option maxHeartbeats 4000000 in
set_option maxRecDepth 100000 in
theorem hl_run {G : hl_G} {cc : ByteArray} {nL : Nat} {own : String} {ini : Bool} (hX : hl_X G cc nL own p R s m args c) (hini : ini = true → meth.name = "<init>") :
    ∀ (r : List hl_I), hl_ok cc own nL ini r = true → ∀ (nf pc : Nat) (lv : List (Nat × Value)) (st : List Value) (h : hl_H) (ce sl : Nat), r.head?.map (fun q => q.1) = some pc → hl_wp (hl_Go G nL p l e R s m args below meth c Qf) R.cells R.slots r nf lv st h ce sl → hl_Go G nL p l e R s m args below meth c Qf pc lv st h ce sl := by
  obtain ⟨hx, hb, hml, hown, hts, hE, hS0, hRf, hRl⟩ := hX
  have hA : ∀ q : Nat, s.heap.size ≤ q → hl_A G q := fun q h => Nat.le_trans hS0.1 h
  intro r
  induction r with
  | nil => intro _ n pc lv st h ce sl hh; cases hh
  | cons q r ih =>
    obtain ⟨pc0, t, u, k9, c9, d, i⟩ := q
    intro hok nf pc lv st h ce sl hh hw
    have hpc : pc0 = pc := Option.some.inj hh
    subst hpc
    cases nf with
    | zero => exact hw
    | succ nf =>
      simp only [hl_ok, Bool.and_eq_true, decide_eq_true_eq] at hok
      obtain ⟨⟨⟨hd, ok⟩, hnx⟩, hok2⟩ := hok
      have nx : ∀ (lv' : List (Nat × Value)) (st' : List Value) (h' : hl_H) (ce' sl' : Nat), hl_wp (hl_Go G nL p l e R s m args below meth c Qf) R.cells R.slots r nf lv' st' h' ce' sl' → hl_Go G nL p l e R s m args below meth c Qf (pc0 + hl_len i) lv' st' h' ce' sl' := by
        intro lv' st' h' ce' sl' k
        cases r with
        | nil => exact k.elim
        | cons q2 r2 =>
          refine ih hok2 nf _ lv' st' h' ce' sl' ?_ k
          have e9 : q2.1 = pc0 + hl_len i := by simpa using hnx
          simp [e9]
      intro H locs ls hP hS hl
      cases i with
      | iload_n k =>
        obtain ⟨x, hr, hw⟩ := hl_ri_spec hw
        exact lv_iload_n hx hb hd (by simpa [hl_ok1] using ok) (hl_rd_at hl hr) (nx _ _ _ _ _ hw H locs ls hP hS hl)
      | iload k =>
        have hk : k = u := by simpa [hl_ok1] using ok
        subst hk
        obtain ⟨x, hr, hw⟩ := hl_ri_spec hw
        exact lv_iload hx hb hd (hl_rd_at hl hr) (nx _ _ _ _ _ hw H locs ls hP hS hl)
      | lload_n k =>
        obtain ⟨x, hr, hw⟩ := hl_rl_spec hw
        exact lv_lload_n hx hb hd (by simpa [hl_ok1] using ok) (hl_rd_at hl hr) (nx _ _ _ _ _ hw H locs ls hP hS hl)
      | lload k =>
        have hk : k = u := by simpa [hl_ok1] using ok
        subst hk
        obtain ⟨x, hr, hw⟩ := hl_rl_spec hw
        exact lv_lload hx hb hd (hl_rd_at hl hr) (nx _ _ _ _ _ hw H locs ls hP hS hl)
      | fload k =>
        have hk : k = u := by simpa [hl_ok1] using ok
        subst hk
        obtain ⟨x, hr, hw⟩ := hl_rg_spec hw
        exact lv_fload hx hb hd (hl_rd_at hl hr) (nx _ _ _ _ _ hw H locs ls hP hS hl)
      | dload k =>
        have hk : k = u := by simpa [hl_ok1] using ok
        subst hk
        obtain ⟨x, hr, hw⟩ := hl_rd8_spec hw
        exact lv_dload hx hb hd (hl_rd_at hl hr) (nx _ _ _ _ _ hw H locs ls hP hS hl)
      | aload_n k =>
        simp only [hl_wp] at hw
        rcases hl_rr_spec hw with ⟨a, hr, hw⟩ | ⟨hr, hw⟩
        · exact lv_aload_n hx hb hd (by simpa [hl_ok1] using ok) (hl_rd_at hl hr) (nx _ _ _ _ _ hw H locs ls hP hS hl)
        · exact lv_aload_nN hx hb hd (by simpa [hl_ok1] using ok) (hl_rd_at hl hr) (nx _ _ _ _ _ hw H locs ls hP hS hl)
      | aload k =>
        have hk : k = u := by simpa [hl_ok1] using ok
        subst hk
        simp only [hl_wp] at hw
        rcases hl_rr_spec hw with ⟨a, hr, hw⟩ | ⟨hr, hw⟩
        · exact lv_aload hx hb hd (hl_rd_at hl hr) (nx _ _ _ _ _ hw H locs ls hP hS hl)
        · exact lv_aloadN hx hb hd (hl_rd_at hl hr) (nx _ _ _ _ _ hw H locs ls hP hS hl)
      | istore_n k =>
        obtain ⟨x, s1, rfl, hw⟩ := hl_i1_spec hw
        have ok2 : k.val = u ∧ u < nL := by simpa [hl_ok1] using ok
        exact lv_istore_n (lv' := (u, .int x) :: hl_f1 u lv) hx hb hd ok2.1 hl ok2.2 (by rw [hl_f1_eq]) (fun ls' hl' => nx _ _ _ _ _ hw H locs ls' hP hS (hl_ins_has hl'))
      | istore k =>
        have ok2 : k = u ∧ u < nL := by simpa [hl_ok1] using ok
        obtain ⟨hk, hn⟩ := ok2
        subst hk
        obtain ⟨x, s1, rfl, hw⟩ := hl_i1_spec hw
        exact lv_istore (lv' := (k, .int x) :: hl_f1 k lv) hx hb hd hl hn (by rw [hl_f1_eq]) (fun ls' hl' => nx _ _ _ _ _ hw H locs ls' hP hS (hl_ins_has hl'))
      | astore_n k =>
        have ok2 : k.val = u ∧ u < nL := by simpa [hl_ok1] using ok
        simp only [hl_wp] at hw
        rcases hl_rv_spec hw with ⟨x, s1, rfl, hw4⟩ | ⟨s1, rfl, hw4⟩
        · exact lv_astore_n (lv' := (u, .ref x) :: hl_f1 u lv) hx hb hd ok2.1 hl ok2.2 (by rw [hl_f1_eq]) (fun ls' hl' => nx _ _ _ _ _ hw4 H locs ls' hP hS (hl_ins_has hl'))
        · exact lv_astore_nN (lv' := (u, .null) :: hl_f1 u lv) hx hb hd ok2.1 hl ok2.2 (by rw [hl_f1_eq]) (fun ls' hl' => nx _ _ _ _ _ hw4 H locs ls' hP hS (hl_ins_has hl'))
      | astore k =>
        have ok2 : k = u ∧ u < nL := by simpa [hl_ok1] using ok
        obtain ⟨hk, hn⟩ := ok2
        subst hk
        simp only [hl_wp] at hw
        rcases hl_rv_spec hw with ⟨x, s1, rfl, hw4⟩ | ⟨s1, rfl, hw4⟩
        · exact lv_astore (lv' := (k, .ref x) :: hl_f1 k lv) hx hb hd hl hn (by rw [hl_f1_eq]) (fun ls' hl' => nx _ _ _ _ _ hw4 H locs ls' hP hS (hl_ins_has hl'))
        · exact lv_astoreN (lv' := (k, .null) :: hl_f1 k lv) hx hb hd hl hn (by rw [hl_f1_eq]) (fun ls' hl' => nx _ _ _ _ _ hw4 H locs ls' hP hS (hl_ins_has hl'))
      | fstore k =>
        have ok2 : k = u ∧ u < nL := by simpa [hl_ok1] using ok
        obtain ⟨hk, hn⟩ := ok2
        subst hk
        obtain ⟨x, s1, rfl, hw⟩ := hl_g1_spec hw
        exact lv_fstore (lv' := (k, .float x) :: hl_f1 k lv) hx hb hd hl hn (by rw [hl_f1_eq]) (fun ls' hl' => nx _ _ _ _ _ hw H locs ls' hP hS (hl_ins_has hl'))
      | lstore_n k =>
        obtain ⟨x, s1, rfl, hw⟩ := hl_l1_spec hw
        have ok2 : k.val = u ∧ u + 1 < nL := by simpa [hl_ok1] using ok
        exact lv_lstore_n (lv' := (u, .long x) :: hl_f2 u lv) hx hb hd ok2.1 hl ok2.2 (by rw [hl_f2_eq]) (fun ls' hl' => nx _ _ _ _ _ hw H locs ls' hP hS (hl_ins_has hl'))
      | lstore k =>
        have ok2 : k = u ∧ u + 1 < nL := by simpa [hl_ok1] using ok
        obtain ⟨hk, hn⟩ := ok2
        subst hk
        obtain ⟨x, s1, rfl, hw⟩ := hl_l1_spec hw
        exact lv_lstore (lv' := (k, .long x) :: hl_f2 k lv) hx hb hd hl hn (by rw [hl_f2_eq]) (fun ls' hl' => nx _ _ _ _ _ hw H locs ls' hP hS (hl_ins_has hl'))
      | dstore k =>
        have ok2 : k = u ∧ u + 1 < nL := by simpa [hl_ok1] using ok
        obtain ⟨hk, hn⟩ := ok2
        subst hk
        obtain ⟨x, s1, rfl, hw⟩ := hl_d1_spec hw
        exact lv_dstore (lv' := (k, .double x) :: hl_f2 k lv) hx hb hd hl hn (by rw [hl_f2_eq]) (fun ls' hl' => nx _ _ _ _ _ hw H locs ls' hP hS (hl_ins_has hl'))
      | iinc k n =>
        have ok2 : (k = u ∧ Int32.ofInt n = c9) ∧ u < nL := by simpa [hl_ok1] using ok
        obtain ⟨⟨hk, hc⟩, hn⟩ := ok2
        subst hk
        obtain ⟨x, hr, hw⟩ := hl_ri_spec hw
        obtain ⟨j, hj⟩ := hl_rd_ix hr
        exact lv_iinc (v := x + c9) (lv' := (k, .int (x + c9)) :: hl_f1 k lv) hx hb hd hl hj (by rw [hc]) hn (by rw [hl_f1_eq]) (fun ls' hl' => nx _ _ _ _ _ hw H locs ls' hP hS (hl_ins_has hl'))
      | iconst n => exact lv_iconst hx hb hd (by simpa [hl_ok1] using ok) (nx _ _ _ _ _ hw H locs ls hP hS hl)
      | bipush n => exact lv_bipush hx hb hd (by simpa [hl_ok1] using ok) (nx _ _ _ _ _ hw H locs ls hP hS hl)
      | sipush n => exact lv_sipush hx hb hd (by simpa [hl_ok1] using ok) (nx _ _ _ _ _ hw H locs ls hP hS hl)
      | ldc n =>
        by_cases ht : t = 999
        · simp only [hl_wp, if_pos ht] at hw
          exact hw H locs ls hP hS hl
        · simp only [hl_wp, if_neg ht] at hw
          simp only [hl_ok1, Bool.or_eq_true, beq_iff_eq] at ok
          exact lv_ldc hx hb hown (hts _ (hl_w_T (ok.resolve_left ht))) hd (nx _ _ _ _ _ hw H locs ls hP hS hl)
      | ldc_w n =>
        by_cases ht : t = 999
        · simp only [hl_wp, if_pos ht] at hw
          exact hw H locs ls hP hS hl
        · simp only [hl_wp, if_neg ht] at hw
          simp only [hl_ok1, Bool.or_eq_true, beq_iff_eq] at ok
          exact lv_ldcw hx hb hown (hts _ (hl_w_T (ok.resolve_left ht))) hd (nx _ _ _ _ _ hw H locs ls hP hS hl)
      | lconst n => exact lv_lconst hx hb hd (of_decide_eq_true ok) (nx _ _ _ _ _ hw H locs ls hP hS hl)
      | ldc2_w n => exact lv_ldc2 hx hb hown (hts _ (hl_w_T ok)) hd (nx _ _ _ _ _ hw H locs ls hP hS hl)
      | fconst n =>
        have hn : n = 0 := Fin.ext (by simpa [hl_ok1] using ok)
        subst hn
        exact lv_fconst0 hx hb hd (nx _ _ _ _ _ hw H locs ls hP hS hl)
      | dconst n =>
        have hn : n = 0 := Fin.ext (by simpa [hl_ok1] using ok)
        subst hn
        exact lv_dconst0 hx hb hd (nx _ _ _ _ _ hw H locs ls hP hS hl)
      | aconst_null => exact lv_null hx hb hd (nx _ _ _ _ _ hw H locs ls hP hS hl)
      | iadd =>
        obtain ⟨x, y, s1, rfl, hw⟩ := hl_ii_spec hw
        exact lv_iadd hx hb hd (nx _ _ _ _ _ hw H locs ls hP hS hl)
      | isub =>
        obtain ⟨x, y, s1, rfl, hw⟩ := hl_ii_spec hw
        exact lv_isub hx hb hd (nx _ _ _ _ _ hw H locs ls hP hS hl)
      | imul =>
        obtain ⟨x, y, s1, rfl, hw⟩ := hl_ii_spec hw
        exact lv_imul hx hb hd (nx _ _ _ _ _ hw H locs ls hP hS hl)
      | iand =>
        obtain ⟨x, y, s1, rfl, hw⟩ := hl_ii_spec hw
        exact lv_iand hx hb hd (nx _ _ _ _ _ hw H locs ls hP hS hl)
      | ineg =>
        obtain ⟨x, s1, rfl, hw⟩ := hl_i1_spec hw
        exact lv_ineg hx hb hd (nx _ _ _ _ _ hw H locs ls hP hS hl)
      | ladd =>
        obtain ⟨x, y, s1, rfl, hw⟩ := hl_ll_spec hw
        exact lv_ladd hx hb hd (nx _ _ _ _ _ hw H locs ls hP hS hl)
      | lsub =>
        obtain ⟨x, y, s1, rfl, hw⟩ := hl_ll_spec hw
        exact lv_lsub hx hb hd (nx _ _ _ _ _ hw H locs ls hP hS hl)
      | lmul =>
        obtain ⟨x, y, s1, rfl, hw⟩ := hl_ll_spec hw
        exact lv_lmul hx hb hd (nx _ _ _ _ _ hw H locs ls hP hS hl)
      | ldiv =>
        obtain ⟨x, y, s1, rfl, hne, hw⟩ := hl_ll_spec hw
        exact lv_ldiv hx hb hd hne (nx _ _ _ _ _ hw H locs ls hP hS hl)
      | lneg =>
        obtain ⟨x, s1, rfl, hw⟩ := hl_l1_spec hw
        exact lv_lneg hx hb hd (nx _ _ _ _ _ hw H locs ls hP hS hl)
      | i2l =>
        obtain ⟨x, s1, rfl, hw⟩ := hl_i1_spec hw
        exact lv_i2l hx hb hd rfl (nx _ _ _ _ _ hw H locs ls hP hS hl)
      | l2i =>
        obtain ⟨x, s1, rfl, hw⟩ := hl_l1_spec hw
        exact lv_l2i hx hb hd rfl (nx _ _ _ _ _ hw H locs ls hP hS hl)
      | i2c =>
        obtain ⟨x, s1, rfl, hw⟩ := hl_i1_spec hw
        exact lv_i2c hx hb hd rfl (nx _ _ _ _ _ hw H locs ls hP hS hl)
      | i2f =>
        obtain ⟨x, s1, rfl, hw⟩ := hl_i1_spec hw
        exact lv_i2f hx hb hd (nx _ _ _ _ _ hw H locs ls hP hS hl)
      | i2d =>
        obtain ⟨x, s1, rfl, hw⟩ := hl_i1_spec hw
        exact lv_i2d hx hb hd (nx _ _ _ _ _ hw H locs ls hP hS hl)
      | l2d =>
        obtain ⟨x, s1, rfl, hw⟩ := hl_l1_spec hw
        exact lv_l2d hx hb hd (nx _ _ _ _ _ hw H locs ls hP hS hl)
      | f2d =>
        obtain ⟨x, s1, rfl, hne, hw⟩ := hl_g1_spec hw
        exact lv_f2d hx hb hd hne (nx _ _ _ _ _ hw H locs ls hP hS hl)
      | fdiv =>
        obtain ⟨x, y, s1, rfl, hne, hw⟩ := hl_ff_spec hw
        exact lv_fdiv hx hb hd hne (nx _ _ _ _ _ hw H locs ls hP hS hl)
      | ddiv =>
        obtain ⟨x, y, s1, rfl, hne, hw⟩ := hl_dd_spec hw
        exact lv_ddiv hx hb hd hne (nx _ _ _ _ _ hw H locs ls hP hS hl)
      | lcmp =>
        obtain ⟨x, y, s1, rfl, hw⟩ := hl_ll_spec hw
        exact W.lcmp hx hb hd (nx _ _ _ _ _ hw H locs ls hP hS hl)
      | fcmp op =>
        obtain ⟨x, y, s1, rfl, hw⟩ := hl_ff_spec hw
        exact lv_fcmp hx hb hd (nx _ _ _ _ _ hw H locs ls hP hS hl)
      | dcmp op =>
        obtain ⟨x, y, s1, rfl, hw⟩ := hl_dd_spec hw
        exact lv_dcmp hx hb hd (nx _ _ _ _ _ hw H locs ls hP hS hl)
      | dup =>
        obtain ⟨v, s1, rfl, hv, hw⟩ := hl_v1_spec hw
        exact lv_dup hx hb hd hv (nx _ _ _ _ _ hw H locs ls hP hS hl)
      | dup2 =>
        simp only [hl_wp] at hw
        rcases hl_d2_spec hw with ⟨x, s1, rfl, hw⟩ | ⟨x, a, s1, rfl, hw⟩
        · exact lv_dup2_2 hx hb hd rfl (nx _ _ _ _ _ hw H locs ls hP hS hl)
        · exact lv_dup2_11 hx hb hd rfl rfl (nx _ _ _ _ _ hw H locs ls hP hS hl)
      | pop =>
        obtain ⟨v, s1, rfl, hv, hw⟩ := hl_v1_spec hw
        exact lv_pop hx hb hd hv (nx _ _ _ _ _ hw H locs ls hP hS hl)
      | ifCond cd off =>
        have ht : (pc0 : Int) + off = (t : Int) := of_decide_eq_true ok
        cases cd with
        | eq =>
          obtain ⟨x, s1, rfl, hw1, hw2⟩ := hl_i1_spec hw
          exact lv_if_eq hx hb hd ht (fun q => hw1 q H locs ls hP hS hl) (fun q => nx _ _ _ _ _ (hw2 q) H locs ls hP hS hl)
        | ne =>
          obtain ⟨x, s1, rfl, hw1, hw2⟩ := hl_i1_spec hw
          exact lv_if_ne hx hb hd ht (fun q => hw1 q H locs ls hP hS hl) (fun q => nx _ _ _ _ _ (hw2 q) H locs ls hP hS hl)
        | lt =>
          obtain ⟨x, s1, rfl, hw1, hw2⟩ := hl_i1_spec hw
          exact lv_if_lt hx hb hd ht (fun q => hw1 q H locs ls hP hS hl) (fun q => nx _ _ _ _ _ (hw2 q) H locs ls hP hS hl)
        | ge =>
          obtain ⟨x, s1, rfl, hw1, hw2⟩ := hl_i1_spec hw
          exact lv_if_ge hx hb hd ht (fun q => hw1 q H locs ls hP hS hl) (fun q => nx _ _ _ _ _ (hw2 q) H locs ls hP hS hl)
        | gt =>
          obtain ⟨x, s1, rfl, hw1, hw2⟩ := hl_i1_spec hw
          exact lv_if_gt hx hb hd ht (fun q => hw1 q H locs ls hP hS hl) (fun q => nx _ _ _ _ _ (hw2 q) H locs ls hP hS hl)
        | le =>
          obtain ⟨x, s1, rfl, hw1, hw2⟩ := hl_i1_spec hw
          exact lv_if_le hx hb hd ht (fun q => hw1 q H locs ls hP hS hl) (fun q => nx _ _ _ _ _ (hw2 q) H locs ls hP hS hl)
      | if_icmp cd off =>
        have ht : (pc0 : Int) + off = (t : Int) := of_decide_eq_true ok
        cases cd with
        | eq =>
          obtain ⟨x, y, s1, rfl, hw1, hw2⟩ := hl_ii_spec hw
          exact lv_icmp_eq hx hb hd ht (fun q => hw1 q H locs ls hP hS hl) (fun q => nx _ _ _ _ _ (hw2 q) H locs ls hP hS hl)
        | ne =>
          obtain ⟨x, y, s1, rfl, hw1, hw2⟩ := hl_ii_spec hw
          exact lv_icmp_ne hx hb hd ht (fun q => hw1 q H locs ls hP hS hl) (fun q => nx _ _ _ _ _ (hw2 q) H locs ls hP hS hl)
        | lt =>
          obtain ⟨x, y, s1, rfl, hw1, hw2⟩ := hl_ii_spec hw
          exact lv_icmp_lt hx hb hd ht (fun q => hw1 q H locs ls hP hS hl) (fun q => nx _ _ _ _ _ (hw2 q) H locs ls hP hS hl)
        | ge =>
          obtain ⟨x, y, s1, rfl, hw1, hw2⟩ := hl_ii_spec hw
          exact lv_icmp_ge hx hb hd ht (fun q => hw1 q H locs ls hP hS hl) (fun q => nx _ _ _ _ _ (hw2 q) H locs ls hP hS hl)
        | gt =>
          obtain ⟨x, y, s1, rfl, hw1, hw2⟩ := hl_ii_spec hw
          exact lv_icmp_gt hx hb hd ht (fun q => hw1 q H locs ls hP hS hl) (fun q => nx _ _ _ _ _ (hw2 q) H locs ls hP hS hl)
        | le =>
          obtain ⟨x, y, s1, rfl, hw1, hw2⟩ := hl_ii_spec hw
          exact lv_icmp_le hx hb hd ht (fun q => hw1 q H locs ls hP hS hl) (fun q => nx _ _ _ _ _ (hw2 q) H locs ls hP hS hl)
      | ifnull off =>
        have ht : (pc0 : Int) + off = (t : Int) := of_decide_eq_true ok
        simp only [hl_wp] at hw
        rcases hl_n1_spec hw with ⟨a, s1, rfl, hw⟩ | ⟨s1, rfl, hw⟩
        · exact lv_ifnull hx hb hd (nx _ _ _ _ _ hw H locs ls hP hS hl)
        · exact lv_ifnullN hx hb hd ht (hw H locs ls hP hS hl)
      | ifnonnull off =>
        have ht : (pc0 : Int) + off = (t : Int) := of_decide_eq_true ok
        simp only [hl_wp] at hw
        rcases hl_n1_spec hw with ⟨a, s1, rfl, hw⟩ | ⟨s1, rfl, hw⟩
        · exact lv_ifnonnull hx hb hd ht (hw H locs ls hP hS hl)
        · exact lv_ifnonnullN hx hb hd (nx _ _ _ _ _ hw H locs ls hP hS hl)
      | goto off =>
        have ht : (pc0 : Int) + off = (t : Int) := of_decide_eq_true ok
        exact lv_goto hx hb hd ht (hw H locs ls hP hS hl)
      | getfield n =>
        simp only [hl_wp] at hw
        obtain ⟨a, s1, rfl, hw⟩ := hl_r1_spec hw
        obtain ⟨fs, v, ha, hv, hw⟩ := hl_gf_spec hw
        simp only [hl_ok1] at ok
        obtain ⟨C, T, N, hq, hk⟩ := hl_cl_spec ok
        simp only [Bool.and_eq_true, decide_eq_true_eq] at hk
        obtain ⟨⟨h2, hu⟩, hlink⟩ := hk
        have hin := hl_in hq h2
        obtain ⟨w, hw1, hw2, hw3⟩ := id hP
        obtain ⟨k, hk2⟩ := hw1 a _ ha
        by_cases hd0 : d = 0
        · have hlink := hl_fw_0 hlink hd0
          exact va_get (D := G.1) hx hb hts hin hown hE.1 hw2 k hk2 hq u hu (hts _ (hl_T_of hlink rfl)) (fun _ h9 => h9) hv hd (nx _ _ _ _ _ hw H locs ls hP hS hl)
        · have hlink := hl_fw_1 hlink hd0
          exact va_getN (D := G.1) hx hb hts hin hown hE.1 hw2 k hk2 hq u hu (va_Nw.use rfl (hE.2.2.2.1 _ _ _ _ _ _ (List.mem_of_getElem? hlink))) (fun _ h9 => h9) hv hd (nx _ _ _ _ _ hw H locs ls hP hS hl)
      | putfield n =>
        simp only [hl_wp] at hw
        obtain ⟨v, a, s1, fs, rfl, ha, hlen, hv, hw⟩ := hl_pf_spec hw
        simp only [hl_ok1] at ok
        obtain ⟨C, T, N, hq, hk⟩ := hl_cl_spec ok
        simp only [Bool.and_eq_true, decide_eq_true_eq, Bool.or_eq_true, beq_iff_eq] at hk
        obtain ⟨⟨⟨⟨h2, hu⟩, hlink⟩, hfin⟩, hty⟩ := hk
        have hin := hl_in hq h2
        obtain ⟨w, hw1, hw2, hw3⟩ := id hP
        obtain ⟨k, hk2⟩ := hw1 a _ ha
        obtain ⟨ty0, ht1, ht2, -⟩ := hl_tab hq h2
        have hpf : ∃ ty, parseFieldDescriptor (T u).2.2.1 = some ty ∧ narrow ty v = v ∧ fits ty v = true := by
          split at hty
          · have hc : c9 = 0 := by simpa using hty
            rcases hv with ⟨x, rfl, -⟩ | ⟨b, rfl, hc1⟩
            · exact ⟨_, by assumption, rfl, rfl⟩
            · rw [hc] at hc1; exact absurd hc1 (by decide)
          · have hc : c9 = 1 := by simpa using hty
            rcases hv with ⟨x, rfl, hc1 | ⟨hc1, -⟩⟩ | ⟨b, rfl, hc1⟩
            · rw [hc] at hc1; exact absurd hc1 (by decide)
            · rw [hc] at hc1; exact absurd hc1 (by decide)
            · exact ⟨_, by assumption, rfl, rfl⟩
          · have hc : c9 = 1 := by simpa using hty
            rcases hv with ⟨x, rfl, hc1 | ⟨hc1, -⟩⟩ | ⟨b, rfl, hc1⟩
            · rw [hc] at hc1; exact absurd hc1 (by decide)
            · rw [hc] at hc1; exact absurd hc1 (by decide)
            · exact ⟨_, by assumption, rfl, rfl⟩
          · have hc : c9 = 2 := by simpa using hty
            rcases hv with ⟨x, rfl, hc1 | ⟨hc1, hn, hf⟩⟩ | ⟨b, rfl, hc1⟩
            · rw [hc] at hc1; exact absurd hc1 (by decide)
            · exact ⟨_, by assumption, hn, hf⟩
            · rw [hc] at hc1; exact absurd hc1 (by decide)
          · cases hty
        obtain ⟨ty, hp1, hp2, hp3⟩ := hpf
        by_cases hf : (T u).2.2.2 = false
        · by_cases hd0 : d = 0
          · have hlink := hl_fw_0 hlink hd0
            exact va_put (D := G.1) hx hb hts hin ty0 ht1 ht2 hown hE.1 hw2 hw3 hS k hk2 hq u hu (hts _ (hl_T_of hlink rfl)) (fun _ h9 => h9) hf hp1 hp2 hp3 hlen hd (fun H1 locs1 hP1 hD1 hS1 => nx _ _ _ _ _ hw H1 locs1 ls (hl_P.put (x := .inr (t, fs.set u v)) hw1 hk2 hw3 hP1 hD1) hS1 hl)
          · have hlink := hl_fw_1 hlink hd0
            exact va_putN (D := G.1) hx hb hts hin ty0 ht1 ht2 hown hE.1 hw2 hw3 hS k hk2 hq u hu (va_Nw.use rfl (hE.2.2.2.1 _ _ _ _ _ _ (List.mem_of_getElem? hlink))) (fun _ h9 => h9) hf hp1 hp2 hp3 hlen hd (fun H1 locs1 hP1 hD1 hS1 => nx _ _ _ _ _ hw H1 locs1 ls (hl_P.put (x := .inr (t, fs.set u v)) hw1 hk2 hw3 hP1 hD1) hS1 hl)
        · have hf2 : (ini = true ∧ (T u).1 = own) ∧ d = 0 := hfin.resolve_left hf
          have hlink := hl_fw_0 hlink hf2.2
          exact va_putF (D := G.1) hx hb hts hin ty0 ht1 ht2 hown hE.1 hw2 hw3 hS k hk2 hq u hu (hts _ (hl_T_of hlink rfl)) (fun _ h9 => h9) (by simpa using hf) (hini hf2.1.1) hf2.1.2 hp1 hp2 hp3 hlen hd (fun H1 locs1 hP1 hD1 hS1 => nx _ _ _ _ _ hw H1 locs1 ls (hl_P.put (x := .inr (t, fs.set u v)) hw1 hk2 hw3 hP1 hD1) hS1 hl)
      | iaload =>
        simp only [hl_wp] at hw
        obtain ⟨j, a, s1, rfl, hw4⟩ := hl_a1_spec hw
        obtain ⟨n, f, ha, hin, hw5⟩ := hl_ia_spec hw4
        obtain ⟨w, hw1, hw2, hw3⟩ := id hP
        obtain ⟨k, hk2⟩ := hw1 a _ ha
        exact va_iald (D := G.1) hx hb hE.1 hw2 k 0 hk2 rfl hin hd (nx _ _ _ _ _ hw5 H locs ls hP hS hl)
      | laload =>
        simp only [hl_wp] at hw
        obtain ⟨j, a, s1, rfl, hw4⟩ := hl_a1_spec hw
        obtain ⟨n, f, ha, hin, hw5⟩ := hl_la_spec hw4
        obtain ⟨w, hw1, hw2, hw3⟩ := id hP
        obtain ⟨k, hk2⟩ := hw1 a _ ha
        exact va_lald (D := G.1) hx hb hE.1 hw2 k 1 hk2 rfl hin hd (nx _ _ _ _ _ hw5 H locs ls hP hS hl)
      | daload =>
        simp only [hl_wp] at hw
        obtain ⟨j, a, s1, rfl, hw4⟩ := hl_a1_spec hw
        obtain ⟨n, f, ha, hin, hw5⟩ := hl_da_spec hw4
        obtain ⟨w, hw1, hw2, hw3⟩ := id hP
        obtain ⟨k, hk2⟩ := hw1 a _ ha
        exact va_dald (D := G.1) hx hb hE.1 hw2 k 2 hk2 rfl hin hd (nx _ _ _ _ _ hw5 H locs ls hP hS hl)
      | aaload =>
        simp only [hl_wp] at hw
        obtain ⟨j, a, s1, rfl, hw4⟩ := hl_a1_spec hw
        obtain ⟨n, f, ha, hin, hw5⟩ := hl_qa_spec hw4
        obtain ⟨w, hw1, hw2, hw3⟩ := id hP
        obtain ⟨k, hk2⟩ := hw1 a _ ha
        exact va_aldq (D := G.1) (C := RX2) hx hb hE.1 hw2 k 3 hk2 rfl hin hd (nx _ _ _ _ _ hw5 H locs ls hP hS hl)
      | arraylength =>
        simp only [hl_wp] at hw
        obtain ⟨a, s1, rfl, hw4⟩ := hl_r1_spec hw
        obtain ⟨x, ha, hw5⟩ := hl_al_spec hw4
        obtain ⟨w, hw1, hw2, hw3⟩ := id hP
        obtain ⟨k, hk2⟩ := hw1 a _ ha
        obtain ⟨n, f | f | f | f | f⟩ := x
        · exact va_alen (D := G.1) hx hb hE.1 hw2 k 0 hk2 rfl rfl hd (nx _ _ _ _ _ hw5 H locs ls hP hS hl)
        · exact va_alen (D := G.1) hx hb hE.1 hw2 k 1 hk2 rfl rfl hd (nx _ _ _ _ _ hw5 H locs ls hP hS hl)
        · exact va_alen (D := G.1) hx hb hE.1 hw2 k 0 hk2 rfl rfl hd (nx _ _ _ _ _ hw5 H locs ls hP hS hl)
        · exact va_alen (D := G.1) hx hb hE.1 hw2 k 2 hk2 rfl rfl hd (nx _ _ _ _ _ hw5 H locs ls hP hS hl)
        · exact va_alen (D := G.1) hx hb hE.1 hw2 k 3 hk2 rfl rfl hd (nx _ _ _ _ _ hw5 H locs ls hP hS hl)
      | iastore =>
        simp only [hl_wp] at hw
        obtain ⟨x, j, a, s1, n, f, rfl, ha, hin, hw⟩ := hl_is_spec hw
        obtain ⟨w, hw1, hw2, hw3⟩ := id hP
        obtain ⟨k, hk2⟩ := hw1 a _ ha
        exact va_iast (D := G.1) hx hb hE.1 hw2 hw3 hS k 0 hk2 rfl hin hd (fun H1 locs1 hP1 hD1 hS1 => nx _ _ _ _ _ hw H1 locs1 ls (hl_P.put (x := .inl (n, .inl (upd f j.toNatClampNeg x))) hw1 hk2 hw3 hP1 hD1) hS1 hl)
      | lastore =>
        simp only [hl_wp] at hw
        obtain ⟨x, j, a, s1, n, f, rfl, ha, hin, hw⟩ := hl_ls_spec hw
        obtain ⟨w, hw1, hw2, hw3⟩ := id hP
        obtain ⟨k, hk2⟩ := hw1 a _ ha
        exact va_last (D := G.1) hx hb hE.1 hw2 hw3 hS k 1 hk2 rfl hin hd (fun H1 locs1 hP1 hD1 hS1 => nx _ _ _ _ _ hw H1 locs1 ls (hl_P.put (x := .inl (n, .inr (.inl (vp_updL f j.toNatClampNeg x)))) hw1 hk2 hw3 hP1 hD1) hS1 hl)
      | dastore =>
        simp only [hl_wp] at hw
        obtain ⟨x, j, a, s1, n, f, rfl, ha, hin, hw⟩ := hl_ds_spec hw
        obtain ⟨w, hw1, hw2, hw3⟩ := id hP
        obtain ⟨k, hk2⟩ := hw1 a _ ha
        exact va_dast (D := G.1) hx hb hE.1 hw2 hw3 hS k 2 hk2 rfl hin hd (fun H1 locs1 hP1 hD1 hS1 => nx _ _ _ _ _ hw H1 locs1 ls (hl_P.put (x := .inl (n, .inr (.inr (.inr (.inl (vf_upd f j.toNatClampNeg x)))))) hw1 hk2 hw3 hP1 hD1) hS1 hl)
      | aastore =>
        simp only [hl_wp] at hw
        obtain ⟨b, j, a, s1, n, f, vs, rfl, ha, hin, hvs, hw⟩ := hl_qs_spec hw
        obtain ⟨w, hw1, hw2, hw3⟩ := id hP
        obtain ⟨k, hk2⟩ := hw1 a _ ha
        obtain ⟨k3, hk3⟩ := hw1 b _ hvs
        exact va_astq (D := G.1) (r := (RX2, TX2, 8)) hx hb hE.1 hw2 hw3 hS k 3 k3 4 hk2 rfl hk3 rfl hin hd (fun H1 locs1 hP1 hD1 hS1 => nx _ _ _ _ _ hw H1 locs1 ls (hl_P.put (x := .inl (n, .inr (.inr (.inr (.inr (va_up f j.toNatClampNeg (some b)))))) ) hw1 hk2 hw3 hP1 hD1) hS1 hl)
      | new n =>
        by_cases ht : t < 100
        · have hw : (if t < 100 then (ce + 1 ≤ R.cells ∧ sl + u ≤ R.slots ∧ ∀ q : Nat, h q = none → hl_wp (hl_Go G nL p l e R s m args below meth c Qf) R.cells R.slots r nf lv (.ref q :: st) (hl_set h q (.inr (t, hl_new t))) (ce + 1) (sl + u)) else hl_Go G nL p l e R s m args below meth c Qf pc0 lv st h ce sl) := hw
          rw [if_pos ht] at hw
          obtain ⟨hc, hs, hw⟩ := hw
          simp only [hl_ok1, Bool.or_eq_true, decide_eq_true_eq] at ok
          have ok := ok.resolve_left (by omega)
          obtain ⟨C, T, N, hq, hk⟩ := hl_cl_spec ok
          simp only [Bool.and_eq_true, decide_eq_true_eq, beq_iff_eq] at hk
          obtain ⟨⟨hN, h2⟩, hk1⟩ := hk
          subst hN
          have hin := hl_in hq h2
          obtain ⟨hk2, hk3⟩ := hl_inst hq h2
          obtain ⟨w, hw1, hw2, hw3⟩ := id hP
          obtain ⟨ty0, ht1, ht2, ht3⟩ := hl_tab hq h2
          exact va_new (D := G.1) hx hb hts hin ty0 ht1 hown (hts _ (hl_w_T hk1)) (hts _ hk2) (hts _ hk3) hE.1 hw2 hw3 hS hA hq ht3 hc hs hd (fun q H1 hP1 hD1 hS1 => by
            obtain ⟨hn, hP9⟩ := hl_P.push (x := .inr (t, hl_new t)) hw1 hP1 hD1
            exact nx _ _ _ _ _ (hw q hn) H1 locs ls hP9 hS1 hl)
        · have hw : (if t < 100 then (ce + 1 ≤ R.cells ∧ sl + u ≤ R.slots ∧ ∀ q : Nat, h q = none → hl_wp (hl_Go G nL p l e R s m args below meth c Qf) R.cells R.slots r nf lv (.ref q :: st) (hl_set h q (.inr (t, hl_new t))) (ce + 1) (sl + u)) else hl_Go G nL p l e R s m args below meth c Qf pc0 lv st h ce sl) := hw
          rw [if_neg ht] at hw
          exact hw H locs ls hP hS hl
      | newarray at9 =>
        by_cases ht9 : t = 9
        · simp only [hl_wp, if_pos ht9] at hw
          exact hw H locs ls hP hS hl
        simp only [hl_wp, if_neg ht9] at hw
        obtain ⟨n, s1, rfl, hnc, hc, hs, hw4⟩ := hl_i1_spec hw
        subst hnc
        simp only [hl_ok1, Bool.or_eq_true, beq_iff_eq, Bool.and_eq_true, decide_eq_true_eq] at ok
        have ok := ok.resolve_left ht9
        obtain ⟨⟨⟨⟨hk1, hk2⟩, hk3⟩, hk4⟩, hk5⟩ := ok
        subst hk3
        obtain ⟨w, hw1, hw2, hw3⟩ := id hP
        have hby : ∀ k : Nat, k ≤ 8 → n.toNatClampNeg * k ≤ 536870912 := fun k hk => Nat.le_trans (Nat.mul_le_mul hk4 hk) (by decide)
        cases at9 with
        | int =>
          have h0 : t = 0 := by simpa [newarray.typeOf] using hk5
          subst h0
          exact va_newa (D := G.1) (atype := .int) hx hb (hts _ (hl_w_T hk1)) rfl hE.1 hw2 hw3 hS hA (a0 := hl_na 0 n) (fun cA => rfl) hk2 rfl (hby _ (by decide)) hc hs hd (fun q cA H1 hK1 hP1 hD1 hS1 => by
            have e1 : s.vm.findClass ("[" ++ FieldType.int.toString) = some cA := (hK1.2 4 _ rfl).2
            have e2 : s.vm.findClass ("[" ++ FieldType.int.toString) = some G.2.1.1 := (hE.1.2 0 _ rfl).2
            cases Option.some.inj (e1.symm.trans e2)
            obtain ⟨hn, hP9⟩ := hl_P.push (x := .inl (hl_na 0 n)) hw1 hP1 hD1
            exact nx _ _ _ _ _ (hw4 q hn) H1 locs ls hP9 hS1 hl)
        | long =>
          have h0 : t = 1 := by simpa [newarray.typeOf] using hk5
          subst h0
          exact va_newa (D := G.1) (atype := .long) hx hb (hts _ (hl_w_T hk1)) rfl hE.1 hw2 hw3 hS hA (a0 := hl_na 1 n) (fun cA => rfl) hk2 rfl (hby _ (by decide)) hc hs hd (fun q cA H1 hK1 hP1 hD1 hS1 => by
            have e1 : s.vm.findClass ("[" ++ FieldType.long.toString) = some cA := (hK1.2 4 _ rfl).2
            have e2 : s.vm.findClass ("[" ++ FieldType.long.toString) = some G.2.1.2.1 := (hE.1.2 1 _ rfl).2
            cases Option.some.inj (e1.symm.trans e2)
            obtain ⟨hn, hP9⟩ := hl_P.push (x := .inl (hl_na 1 n)) hw1 hP1 hD1
            exact nx _ _ _ _ _ (hw4 q hn) H1 locs ls hP9 hS1 hl)
        | double =>
          have h0 : t = 2 := by simpa [newarray.typeOf] using hk5
          subst h0
          exact va_newa (D := G.1) (atype := .double) hx hb (hts _ (hl_w_T hk1)) rfl hE.1 hw2 hw3 hS hA (a0 := hl_na 2 n) (fun cA => rfl) hk2 rfl (hby _ (by decide)) hc hs hd (fun q cA H1 hK1 hP1 hD1 hS1 => by
            have e1 : s.vm.findClass ("[" ++ FieldType.double.toString) = some cA := (hK1.2 4 _ rfl).2
            have e2 : s.vm.findClass ("[" ++ FieldType.double.toString) = some G.2.1.2.2.1 := (hE.1.2 2 _ rfl).2
            cases Option.some.inj (e1.symm.trans e2)
            obtain ⟨hn, hP9⟩ := hl_P.push (x := .inl (hl_na 2 n)) hw1 hP1 hD1
            exact nx _ _ _ _ _ (hw4 q hn) H1 locs ls hP9 hS1 hl)
        | _ => simp [newarray.typeOf] at hk5
      | invokespecial n =>
        by_cases ht : t = 1
        · subst ht
          obtain ⟨a, s1, rfl, hw9, hw⟩ := hl_r1_spec (k := fun _ s9 => (s9.map fun v => v.category).sum ≤ 8 ∧ hl_wp (hl_Go G nL p l e R s m args below meth c Qf) R.cells R.slots r nf lv s9 h ce sl) hw
          simp only [hl_ok1, Bool.or_eq_true] at ok
          have ok := ok.resolve_left (by decide)
          refine W.objInit hx hb hown (hts _ (hl_w_T ok)) (hts _ hl_oi1) (hts _ hl_oi2) (g := F0 m pc0 ls (.ref a :: s1)) rfl (by rw [hml]; exact hl.1) rfl hd hRf ?_ ?_
          · have := lv_room (m := m) (pc := pc0) (ls := ls) (rest := .ref a :: s1) (st := s1) hw9
            omega
          · exact nx _ _ _ _ _ hw H locs ls hP hS hl
        · have hw : (if t = 1 then hl_r1 st (fun _ s9 => (s9.map fun v => v.category).sum ≤ 8 ∧ hl_wp (hl_Go G nL p l e R s m args below meth c Qf) R.cells R.slots r nf lv s9 h ce sl) else hl_Go G nL p l e R s m args below meth c Qf pc0 lv st h ce sl) := hw
          rw [if_neg ht] at hw
          exact hw H locs ls hP hS hl
      | _ => exact hw H locs ls hP hS hl
end RUN
end
section
/-! PART 03: contracts: a body, its returns, calls, throws -/
/-- a method: its name, code, number of locals, return type -/
abbrev hl_M : Type := MethodName × ByteArray × Nat × Option FieldType
def hl_rm (d k n : Nat) : Room := { frames := d + 6, cells := k, slots := n, locals := 40 * d + 140 }
def hl_Pc (G : hl_G) (av : List Value) (P : hl_H → Prop) : Array Value → State → Prop := fun v U => v = av.toArray ∧ hl_Ev G U ∧ va_S (hl_A G) G.2.2 U.heap [] ∧ ∃ h, hl_P G h U.heap ∧ P h
def hl_Qc (G : hl_G) (Q : Option Value → hl_H → Prop) : Array Value → State → Outcome → State → Prop := fun _ st o t => ∃ (r : Option Value) (h : hl_H), o = .returned r ∧ hl_P G h t.heap ∧ Q r h ∧ va_F (hl_A G) st t
def hl_Xc (G : hl_G) (X : String → hl_H → Prop) : String → State → State → Prop := fun E st t => ∃ h : hl_H, hl_P G h t.heap ∧ X E h ∧ va_F (hl_A G) st t
/-- the contract: called with av in a heap with P, in a room of depth d, it makes at most k cells of n slots, and returns with Q or throws with X -/
def hl_Ct (G : hl_G) (l : Launch) (M : hl_M) (d k n : Nat) (av : List Value) (P : hl_H → Prop) (Q : Option Value → hl_H → Prop) (X : String → hl_H → Prop) : Prop :=
  vx_Met l M.1 (Jvm.Cond.code M.1 M.2.1 M.2.2.1 M.2.2.2 :: hl_T) (hl_rm d k n) (hl_Pc G av P) (hl_Qc G Q) (hl_Xc G X) k n (hl_A G)
theorem hl_blind {G : hl_G} {av : List Value} {P : hl_H → Prop} : FrameBlind (hl_Pc G av P) := by
  intro a U g mk h
  obtain ⟨h1, h2, h3, h4⟩ := h
  exact ⟨h1, hl_Ev.same (U := U.calling g mk a) rfl h2, h3, h4⟩
/-- what a body knows -/
def hl_B (G : hl_G) (M : hl_M) (d k n : Nat) (p : Program) (s : State) (m : MethodId) (args : Array Value) (meth : Method) (c : Code) : Prop :=
  hl_X G M.2.1 M.2.2.1 M.1.cls p (hl_rm d k n) s m args c ∧ meth.locks = false ∧ meth.sig.returnType = M.2.2.2 ∧ meth.name = M.1.name ∧ ∀ x ∈ c.exceptionTable.toList, False
def hl_GM (G : hl_G) (M : hl_M) (d k n : Nat) (Q : Option Value → hl_H → Prop) (X : String → hl_H → Prop) (p : Program) (l : Launch) (e : Env) (s : State) (m : MethodId) (args : Array Value) (below : List Frame) (meth : Method) (c : Code) (pc : Nat) (lv : List (Nat × Value)) (st : List Value) (h : hl_H) (ce sl : Nat) : Prop :=
  hl_Go G M.2.2.1 p l e (hl_rm d k n) s m args below meth c (vx_MQ below (hl_Qc G Q) (hl_Xc G X) args s k n (hl_A G)) pc lv st h ce sl
/-- a throw that no row of the body's table takes -/
def hl_TM (G : hl_G) (M : hl_M) (d k n : Nat) (Q : Option Value → hl_H → Prop) (X : String → hl_H → Prop) (p : Program) (l : Launch) (e : Env) (s : State) (m : MethodId) (args : Array Value) (below : List Frame) (meth : Method) (c : Code) (pc : Nat) (lv : List (Nat × Value)) (st : List Value) (E : String) (h : hl_H) (ce sl : Nat) : Prop :=
  ∀ (H : Heap) (locs : List Loc) (ls : Array Slot) (q : Addr) (cell : Cell), hl_P G h H → va_S (hl_A G) s.heap H locs → lv_has ls M.2.2.1 lv → H[q]? = some cell → cell.vm = .none → s.vm.findClass E = some cell.cls → vx_W p l e (hl_rm d k n) s m args below meth c H locs ce sl (vx_MQ below (hl_Qc G Q) (hl_Xc G X) args s k n (hl_A G)) (F0 m pc ls st) q
theorem hl_ok_drop {cc : ByteArray} {own : String} {nL : Nat} {ini : Bool} : ∀ (j : Nat) (r : List hl_I), hl_ok cc own nL ini r = true → hl_ok cc own nL ini (r.drop j) = true
  | 0, _, h => h
  | _ + 1, [], h => h
  | j + 1, (pc, t, u, k, c, d, i) :: r, h => by
    simp only [hl_ok, Bool.and_eq_true] at h
    exact hl_ok_drop j r h.2
theorem hl_dec {cc : ByteArray} {own : String} {nL : Nat} {ini : Bool} {r : List hl_I} (h : hl_ok cc own nL ini r = true) (j : Nat) {pc t u k : Nat} {c : Int32} {d : Int64} {i : Instr} (hj : r[j]? = some (pc, t, u, k, c, d, i)) : decode cc pc = .ok (i, hl_len i) := by
  have h2 := hl_ok_drop j r h
  have hl := (List.getElem?_eq_some_iff.mp hj)
  obtain ⟨hl1, hl2⟩ := hl
  rw [List.drop_eq_getElem_cons hl1, hl2] at h2
  simp only [hl_ok, Bool.and_eq_true, decide_eq_true_eq] at h2
  exact h2.1.1.1
section CT
variable {G : hl_G} {l : Launch} {M : hl_M} {d k n : Nat} {av : List Value} {P : hl_H → Prop} {Q : Option Value → hl_H → Prop} {X : String → hl_H → Prop}
theorem hl_body (hy : plainName M.1.cls = true) (hn : (lg_sl av).length ≤ M.2.2.1)
    (body : ∀ (p : Program) (e : Env) (s : State) (m : MethodId) (args : Array Value) (below : List Frame) (meth : Method) (c : Code), hl_B G M d k n p s m args meth c → ∀ h, P h → hl_GM G M d k n Q X p l e s m args below meth c 0 (lv_args 0 av) [] h 0 0) : hl_Ct G l M d k n av P Q X := by
  refine vx_ofW (cc := M.2.1) (maxL := M.2.2.1) (ret := M.2.2.2) hy rfl ?_
  intro p e s m args below meth c s₁ B hml ht hv
  obtain ⟨rfl, hE, hS, h, hP, hPh⟩ := hv
  have hts : ∀ w ∈ hl_T, w.before av.toArray s = true := fun w hw => atoms_spec (ws := Jvm.Cond.code M.1 M.2.1 M.2.2.1 M.2.2.2 :: hl_T) B.pre w (List.mem_cons_of_mem _ hw)
  have hB : hl_B G M d k n p s m av.toArray meth c := ⟨⟨B.exec, B.bytes, hml, findClass_of_methodNamed B.named, hts, hE, hS, by show 1 ≤ d + 6; omega, by show 40 ≤ 40 * d + 140; omega⟩, B.notSynchronized, B.returns, (name_of_methodNamed B.named B.method).1, ht⟩
  rw [lg_entry_eq]
  exact body p e s m av.toArray below meth c hB h hPh s.heap [] _ hP va_S.rf (lv_entry av hn)
/-- weaker ends -/
theorem hl_Ct.mono {P' : hl_H → Prop} {Q' : Option Value → hl_H → Prop} {X' : String → hl_H → Prop} (h : hl_Ct G l M d k n av P Q X) (hP : ∀ h, P' h → P h) (hQ : ∀ r h, Q r h → Q' r h) (hX : ∀ E h, X E h → X' E h) : hl_Ct G l M d k n av P' Q' X' := by
  intro p e h1 h2 h3 s m args below h4 h5 h6 h7
  obtain ⟨hv, hE, hS, hh, hPh, hp⟩ := h6
  obtain ⟨nn, o, q1, q2, q3, q4⟩ := h p e h1 h2 h3 s m args below h4 h5 ⟨hv, hE, hS, hh, hPh, hP _ hp⟩ h7
  refine ⟨nn, o, q1, q2, q3, ?_⟩
  rcases q4 with ⟨⟨r, g, e1, e2, e3, e4⟩, L⟩ | ⟨q, e1, E, ce, L, ⟨g, e2, e3, e4⟩, e5⟩
  · exact Or.inl ⟨⟨r, g, e1, e2, hQ _ _ e3, e4⟩, L⟩
  · exact Or.inr ⟨q, e1, E, ce, L, ⟨g, e2, hX _ _ e3, e4⟩, e5⟩
/-- a contract without throws, in the kit's plain form -/
theorem hl_Ct.met (h : hl_Ct G l M d k n av P Q (fun _ _ => False)) : Met l M.1 (Jvm.Cond.code M.1 M.2.1 M.2.2.1 M.2.2.2 :: hl_T) (hl_rm d k n) (hl_Pc G av P) (hl_Qc G Q) k n (hl_A G) := by
  intro p e h1 h2 h3 s m args below h4 h5 h6 h7
  obtain ⟨nn, o, q1, q2, q3, q4⟩ := h p e h1 h2 h3 s m args below h4 h5 h6 h7
  refine ⟨nn, o, q1, q2, q3, ?_⟩
  rcases q4 with q4 | ⟨q, e1, E, ce, L, ⟨g, e2, e3, e4⟩, e5⟩
  · exact q4
  · exact e3.elim
variable {p : Program} {e : Env} {s : State} {m : MethodId} {args : Array Value} {below : List Frame} {meth : Method} {c : Code} {lv : List (Nat × Value)} {st : List Value} {h : hl_H} {ce sl pc : Nat}
theorem hl_seg (B : hl_B G M d k n p s m args meth c) {ini : Bool} {r : List hl_I} (hok : hl_ok M.2.1 M.1.cls M.2.2.1 ini r = true) (hini : ini = true → M.1.name = "<init>") (j nn : Nat) (hj : (r.drop j).head?.map (fun q => q.1) = some pc) (hw : hl_wp (hl_GM G M d k n Q X p l e s m args below meth c) k n (r.drop j) nn lv st h ce sl) : hl_GM G M d k n Q X p l e s m args below meth c pc lv st h ce sl :=
  hl_run B.1 (fun q => by rw [B.2.2.2.1]; exact hini q) _ (hl_ok_drop j r hok) nn pc lv st h ce sl hj hw
/-! fewer locals, in another order -/
theorem hl_lv (B : hl_B G M d k n p s m args meth c) {lv' : List (Nat × Value)} (hlv : ∀ q ∈ lv', q ∈ lv) (hw : hl_GM G M d k n Q X p l e s m args below meth c pc lv' st h ce sl) : hl_GM G M d k n Q X p l e s m args below meth c pc lv st h ce sl :=
  fun H locs ls hP hS hl => hw H locs ls hP hS ⟨hl.1, hl.2.1, fun q hq => hl.2.2 q (hlv q hq)⟩
theorem hl_wid (B : hl_B G M d k n p s m args meth c) {ce' sl' : Nat} (h1 : ce ≤ ce') (h2 : sl ≤ sl') (hw : hl_GM G M d k n Q X p l e s m args below meth c pc lv st h ce' sl') : hl_GM G M d k n Q X p l e s m args below meth c pc lv st h ce sl :=
  fun H locs ls hP hS hl => W.widen h1 h2 (hw H locs ls hP hS hl)
theorem hl_drop (B : hl_B G M d k n p s m args meth c) (lv' : List (Nat × Value)) (hlv : ∀ q ∈ lv', q ∈ lv) (hw : hl_GM G M d k n Q X p l e s m args below meth c pc lv' st h ce sl) : hl_GM G M d k n Q X p l e s m args below meth c pc lv st h ce sl := hl_lv B hlv hw
/-! returns -/
theorem hl_iret (B : hl_B G M d k n p s m args meth c) {v : Int32} {ty : FieldType} (hty : M.2.2.2 = some ty) (hn : narrow ty (.int v) = .int v) (hd : decode M.2.1 pc = .ok (.ireturn, 1)) (hc : ce ≤ k) (hs : sl ≤ n) (hQ : Q (some (.int v)) h) : hl_GM G M d k n Q X p l e s m args below meth c pc lv [.int v] h ce sl := by
  intro H locs ls hP hS hl
  have hlocks := B.2.1
  exact vx_ret (W.widen hc hs (W.zret B.1.1 B.1.2.1 (B.2.2.1.trans hty) hn (fun t ht hW => ⟨_, h, rfl, by rw [ht]; exact hP, hQ, hS.F ht⟩) hS.2.2 hd))
theorem hl_lret (B : hl_B G M d k n p s m args meth c) {v : Int64} (hty : M.2.2.2 = some .long) (hd : decode M.2.1 pc = .ok (.lreturn, 1)) (hc : ce ≤ k) (hs : sl ≤ n) (hQ : Q (some (.long v)) h) : hl_GM G M d k n Q X p l e s m args below meth c pc lv [.long v] h ce sl := by
  intro H locs ls hP hS hl
  have hlocks := B.2.1
  exact vx_ret (W.widen hc hs (W.lret B.1.1 B.1.2.1 (B.2.2.1.trans hty) (fun t ht hW => ⟨_, h, rfl, by rw [ht]; exact hP, hQ, hS.F ht⟩) hS.2.2 hd))
theorem hl_fret (B : hl_B G M d k n p s m args meth c) {v : UInt32} (hty : M.2.2.2 = some .float) (hd : decode M.2.1 pc = .ok (.freturn, 1)) (hc : ce ≤ k) (hs : sl ≤ n) (hQ : Q (some (.float v)) h) : hl_GM G M d k n Q X p l e s m args below meth c pc lv [.float v] h ce sl := by
  intro H locs ls hP hS hl
  have hlocks := B.2.1
  exact vx_ret (W.widen hc hs (W.fret B.1.1 B.1.2.1 (B.2.2.1.trans hty) (fun t ht hW => ⟨_, h, rfl, by rw [ht]; exact hP, hQ, hS.F ht⟩) hS.2.2 hd))
theorem hl_dret (B : hl_B G M d k n p s m args meth c) {v : UInt64} (hty : M.2.2.2 = some .double) (hd : decode M.2.1 pc = .ok (.dreturn, 1)) (hc : ce ≤ k) (hs : sl ≤ n) (hQ : Q (some (.double v)) h) : hl_GM G M d k n Q X p l e s m args below meth c pc lv [.double v] h ce sl := by
  intro H locs ls hP hS hl
  have hlocks := B.2.1
  exact vx_ret (W.widen hc hs (W.dret B.1.1 B.1.2.1 (B.2.2.1.trans hty) (fun t ht hW => ⟨_, h, rfl, by rw [ht]; exact hP, hQ, hS.F ht⟩) hS.2.2 hd))
theorem hl_vret (B : hl_B G M d k n p s m args meth c) (hty : M.2.2.2 = none) (hd : decode M.2.1 pc = .ok (.return_, 1)) (hc : ce ≤ k) (hs : sl ≤ n) (hQ : Q none h) : hl_GM G M d k n Q X p l e s m args below meth c pc lv [] h ce sl := by
  intro H locs ls hP hS hl
  have hlocks := B.2.1
  exact vx_ret (W.widen hc hs (W.vret B.1.1 B.1.2.1 (B.2.2.1.trans hty) (fun t ht hW => ⟨_, h, rfl, by rw [ht]; exact hP, hQ, hS.F ht⟩) hS.2.2 hd))
theorem hl_aret (B : hl_B G M d k n p s m args meth c) {v : Value} {C : String} (hty : M.2.2.2 = some (.object C)) (hv : v = .null ∨ ∃ a, v = .ref a) (hd : decode M.2.1 pc = .ok (.areturn, 1)) (hc : ce ≤ k) (hs : sl ≤ n) (hQ : Q (some v) h) : hl_GM G M d k n Q X p l e s m args below meth c pc lv [v] h ce sl := by
  intro H locs ls hP hS hl
  have hlocks := B.2.1
  exact vx_ret (W.widen hc hs (W.aret B.1.1 B.1.2.1 (B.2.2.1.trans hty) (Or.inl ⟨C, rfl⟩) hv (fun t ht hW => ⟨_, h, rfl, by rw [ht]; exact hP, hQ, hS.F ht⟩) hS.2.2 hd))
/-! a throw leaves the body -/
theorem hl_out (B : hl_B G M d k n p s m args meth c) {E : String} (hc : ce ≤ k) (hs : sl ≤ n) (hX : X E h) : hl_TM G M d k n Q X p l e s m args below meth c pc lv st E h ce sl := by
  intro H locs ls q cell hP hS hl hq hv hcl
  exact vx_out (fun x hx => (B.2.2.2.2 x hx).elim) B.2.1 hq hv hcl (fun t ht hA => ⟨h, by rw [ht]; exact hP, hX, hS.F ht⟩) hS.2.2 hc hs
/-! calls -/
/-- what the tables say of a method that is called -/
def hl_mt (M : hl_M) (na : Nat) : Prop := Jvm.Cond.code M.1 M.2.1 M.2.2.1 M.2.2.2 ∈ hl_T ∧ Jvm.Cond.initialized M.1.cls ∈ hl_T ∧ (M.1.cls ≠ "java/lang/invoke/MethodHandle" ∧ M.1.cls ≠ "java/lang/invoke/VarHandle") ∧ (parseMethodDescriptor M.1.desc).map (fun d => d.parameters.length) = some na
def hl_mv (M : hl_M) (na : Nat) : Prop := hl_mt M na ∧ Jvm.Cond.instanceMethod M.1 ∈ hl_T ∧ Jvm.Cond.selects M.1.cls M.1 M.1 ∈ hl_T
def hl_ms (M : hl_M) (na : Nat) : Prop := hl_mt M na ∧ Jvm.Cond.static M.1 ∈ hl_T
def hl_mi (M : hl_M) (na : Nat) : Prop := hl_mt M na ∧ Jvm.Cond.instanceMethod M.1 ∈ hl_T ∧ M.1.name = "<init>"
theorem hl_T_warm (hts : ∀ w ∈ hl_T, w.before args s = true) : ∀ w ∈ hl_T, ∀ (a' : Array Value) (U : State), s.WarmedH U.vm → w.before a' U = true :=
  fun w hw a' U hW => word_at hW (good_of_word (List.mem_filter.mp hw).2) (hts w hw)
theorem hl_CB {R : Room} {N : hl_M} {d1 k1 n1 na idx kk : Nat} {own : String} (hts : ∀ w ∈ hl_T, w.before args s = true) (hm : hl_mt N na) (hk : hl_w kk (Jvm.Cond.methodLink own idx N.1) = true) (hfr : d1 + 7 ≤ R.frames) (hlo : N.2.2.1 + 159 + 40 * d1 ≤ R.locals) :
    CallB R s args own idx N.1 N.2.1 N.2.2.1 N.2.2.2 (Jvm.Cond.code N.1 N.2.1 N.2.2.1 N.2.2.2 :: hl_T) (hl_rm d1 k1 n1) k1 n1 na := by
  refine ⟨rfl, rfl, by show d1 + 6 + 1 ≤ R.frames; omega, by show 8 + (N.2.2.1 + 11) + (40 * d1 + 140) ≤ R.locals; omega, ?_, List.mem_cons_self, hts _ hm.1, hts _ hm.2.1, hm.2.2.1, fun sig h9 => ?_, hts _ (hl_w_T hk)⟩
  · intro w hw
    rcases List.mem_cons.mp hw with e9 | hw
    · rw [e9]; exact hl_T_warm hts _ hm.1
    · exact hl_T_warm hts w hw
  · have h2 := hm.2.2.2
    rw [h9] at h2
    exact (Option.some.inj h2).symm
theorem hl_S0 {H : Heap} {locs : List Loc} (h0 : va_S (hl_A G) G.2.2 s.heap []) (h1 : va_S (hl_A G) s.heap H locs) : va_S (hl_A G) G.2.2 H [] :=
  ⟨Nat.le_trans h0.1 h1.1, fun q hq hA => by rw [h1.2.1 q (Nat.lt_of_lt_of_le hq h0.1) hA]; exact h0.2.1 q hq hA, fun _ hx => nomatch hx⟩
theorem hl_callV (B : hl_B G M d k n p s m args meth c) {N : hl_M} {d1 k1 n1 na idx kk : Nat} {av1 As rest : List Value} {P1 : hl_H → Prop} {Q1 : Option Value → hl_H → Prop} {X1 : String → hl_H → Prop} (hct : hl_Ct G l N d1 k1 n1 av1 P1 Q1 X1) (hm : hl_mv N na) (hd : decode M.2.1 pc = .ok (.invokevirtual idx, 3)) (hk : hl_w kk (Jvm.Cond.methodLink M.1.cls idx N.1) = true)
    {b ci : Nat} (hav : av1 = .ref b :: As) (hna : As.length = na) {fs : List Value} (hrec : h b = some (.inr (ci, fs))) (hcl : vwCl[ci]?.map (fun q => q.1) = some N.1.cls) (hrest : (rest.map fun v => v.category).sum ≤ 8) (hfr : d1 + 1 ≤ d) (hlo : N.2.2.1 ≤ 21) (hce : ce + k1 ≤ k) (hsl : sl + n1 ≤ n) (hP : P1 h)
    (hQ : ∀ (r : Option Value) (h' : hl_H), Q1 r h' → hl_GM G M d k n Q X p l e s m args below meth c (pc + 3) lv (r.toList ++ rest) h' (ce + k1) (sl + n1))
    (hX : ∀ (E : String) (h' : hl_H), X1 E h' → hl_TM G M d k n Q X p l e s m args below meth c pc lv rest E h' (ce + k1) (sl + n1)) : hl_GM G M d k n Q X p l e s m args below meth c pc lv (As.reverse ++ .ref b :: rest) h ce sl := by
  intro H locs ls hPh hS hl T hT X9
  obtain ⟨⟨hx, hb, hml, hown, hts, hE, hS0, hRf, hRl⟩, hlk, hrt, hnm, hno⟩ := id B
  have hA : ∀ q : Nat, s.heap.size ≤ q → hl_A G q := fun q h => Nat.le_trans hS0.1 h
  have cw : CallW (hl_rm d k n) s args M.1.cls N.1.cls idx N.1 N.2.1 N.2.2.1 N.2.2.2 (Jvm.Cond.code N.1 N.2.1 N.2.2.1 N.2.2.2 :: hl_T) (hl_rm d1 k1 n1) k1 n1 na :=
    ⟨hl_CB hts hm.1 hk (by show d1 + 7 ≤ d + 6; omega) (by show _ ≤ 40 * d + 140; omega), hts _ hm.2.1, hts _ hm.2.2⟩
  obtain ⟨w, hw1, hw2, hw3⟩ := id hPh
  obtain ⟨kq, hkq⟩ := hw1 b _ hrec
  obtain ⟨q9, hq9, hcl9⟩ : ∃ q9, vwCl[ci]? = some q9 ∧ q9.1 = N.1.cls := by
    cases hz : vwCl[ci]? with
    | none => rw [hz] at hcl; cases hcl
    | some q9 => rw [hz] at hcl; exact ⟨q9, rfl, Option.some.inj hcl⟩
  have hrc := va_recv hE.1 hw2 hq9 hkq
  rw [hcl9] at hrc
  have hr := vx_runV (l := l) (e := e) (below := below) (meth := meth) (locs := locs) (cells := ce) (slots := sl) (g := F0 m pc ls (As.reverse ++ .ref b :: rest)) (rest := rest) ⟨hx, hb, hml, hown, hts⟩ hct cw ⟨hl_blind, hrc, fun U hU hW => ⟨by rw [hav], hE.warm hW, by rw [hU]; exact hl_S0 hS0 hS, h, by rw [hU]; exact hPh, hP⟩⟩ rfl hna hl.1 rfl (lv_room hrest) hd ⟨hce, hsl⟩
  rcases hr T hT X9 with ⟨v, st₀, t, T', L, h0, X', hL, e1, e2, ⟨r, h', hv, hP', hQ', hF⟩, st9⟩ | ⟨q, st₀, t, T', L, E, ce9, h0, X', hL, e1, e2, ⟨h', hP', hX', hF⟩, hce9, hcv, hcl2, st9⟩
  · cases hv
    obtain ⟨k1', k2', k3'⟩ := vx_keep h0 e1 hS (fun q _ hq => hq) (fun q hq => hq) hL hF
    obtain ⟨t2, a1, b1⟩ := hQ v h' hQ' T'.heap (locs ++ L) ls (by rw [e1]; exact hP') k3' hl T' rfl X'
    exact ⟨t2, st9 t2 a1, b1⟩
  · obtain ⟨k1', k2', k3'⟩ := vx_keep h0 e1 hS (fun q _ hq => hq) (fun q hq => hq) hL hF
    obtain ⟨t2, a1, b1⟩ := hX E h' hX' T'.heap (locs ++ L) ls q ce9 (by rw [e1]; exact hP') k3' hl (by rw [e1]; exact hce9) hcv hcl2 T' rfl X'
    exact ⟨t2, st9.trans a1, b1⟩
theorem hl_callS (B : hl_B G M d k n p s m args meth c) {N : hl_M} {d1 k1 n1 na idx kk : Nat} {av1 rest : List Value} {P1 : hl_H → Prop} {Q1 : Option Value → hl_H → Prop} {X1 : String → hl_H → Prop} (hct : hl_Ct G l N d1 k1 n1 av1 P1 Q1 X1) (hm : hl_ms N na) (hd : decode M.2.1 pc = .ok (.invokestatic idx, 3)) (hk : hl_w kk (Jvm.Cond.methodLink M.1.cls idx N.1) = true)
    (hna : av1.length = na) (hrest : (rest.map fun v => v.category).sum ≤ 8) (hfr : d1 + 1 ≤ d) (hlo : N.2.2.1 ≤ 21) (hce : ce + k1 ≤ k) (hsl : sl + n1 ≤ n) (hP : P1 h)
    (hQ : ∀ (r : Option Value) (h' : hl_H), Q1 r h' → hl_GM G M d k n Q X p l e s m args below meth c (pc + 3) lv (r.toList ++ rest) h' (ce + k1) (sl + n1))
    (hX : ∀ (E : String) (h' : hl_H), X1 E h' → hl_TM G M d k n Q X p l e s m args below meth c pc lv rest E h' (ce + k1) (sl + n1)) : hl_GM G M d k n Q X p l e s m args below meth c pc lv (av1.reverse ++ rest) h ce sl := by
  intro H locs ls hPh hS hl T hT X9
  obtain ⟨⟨hx, hb, hml, hown, hts, hE, hS0, hRf, hRl⟩, hlk, hrt, hnm, hno⟩ := id B
  have cw : CallB (hl_rm d k n) s args M.1.cls idx N.1 N.2.1 N.2.2.1 N.2.2.2 (Jvm.Cond.code N.1 N.2.1 N.2.2.1 N.2.2.2 :: hl_T) (hl_rm d1 k1 n1) k1 n1 na ∧ (Jvm.Cond.static N.1).before args s = true :=
    ⟨hl_CB hts hm.1 hk (by show d1 + 7 ≤ d + 6; omega) (by show _ ≤ 40 * d + 140; omega), hts _ hm.2⟩
  have hr := vx_runS (l := l) (e := e) (below := below) (meth := meth) (H := H) (locs := locs) (cells := ce) (slots := sl) (g := F0 m pc ls (av1.reverse ++ rest)) (rest := rest) ⟨hx, hb, hml, hown, hts⟩ hct cw ⟨hl_blind, fun U hU hW => ⟨rfl, hE.warm hW, by rw [hU]; exact hl_S0 hS0 hS, h, by rw [hU]; exact hPh, hP⟩⟩ rfl hna hl.1 rfl (lv_room hrest) hd ⟨hce, hsl⟩
  rcases hr T hT X9 with ⟨v, st₀, t, T', L, h0, X', hL, e1, e2, ⟨r, h', hv, hP', hQ', hF⟩, st9⟩ | ⟨q, st₀, t, T', L, E, ce9, h0, X', hL, e1, e2, ⟨h', hP', hX', hF⟩, hce9, hcv, hcl2, st9⟩
  · cases hv
    obtain ⟨k1', k2', k3'⟩ := vx_keep h0 e1 hS (fun q _ hq => hq) (fun q hq => hq) hL hF
    obtain ⟨t2, a1, b1⟩ := hQ v h' hQ' T'.heap (locs ++ L) ls (by rw [e1]; exact hP') k3' hl T' rfl X'
    exact ⟨t2, st9 t2 a1, b1⟩
  · obtain ⟨k1', k2', k3'⟩ := vx_keep h0 e1 hS (fun q _ hq => hq) (fun q hq => hq) hL hF
    obtain ⟨t2, a1, b1⟩ := hX E h' hX' T'.heap (locs ++ L) ls q ce9 (by rw [e1]; exact hP') k3' hl (by rw [e1]; exact hce9) hcv hcl2 T' rfl X'
    exact ⟨t2, st9.trans a1, b1⟩
theorem hl_back {H : Heap} {locs : List Loc} {g : JFrame} {rest : List Value} {R : Room} {Qf : State → Prop} {k1 n1 : Nat} {Q1 : Option Value → hl_H → Prop} {a1 : Array Value} (hS : va_S (hl_A G) s.heap H locs)
    (hr : va_Run p l e R s m args below meth c H locs ce sl k1 n1 g rest (hl_Qc G Q1 a1) (hl_A G))
    (hQ : ∀ (r : Option Value) (h' : hl_H) (H1 : Heap) (locs1 : List Loc), Q1 r h' → hl_P G h' H1 → va_S (hl_A G) s.heap H1 locs1 → W p l e R s m args below meth c H1 locs1 (ce + k1) (sl + n1) Qf { g with pc := g.pc + 3, stack := r.toList ++ rest }) : W p l e R s m args below meth c H locs ce sl Qf g := by
  intro T hT X9
  obtain ⟨v, st₀, t, T', L, h0, X', hL, e1, e2, ⟨r, h', hv, hP', hQ', hF⟩, st9⟩ := hr T hT X9
  cases hv
  obtain ⟨k1', k2', k3'⟩ := vx_keep h0 e1 hS (fun q _ hq => hq) (fun q hq => hq) hL hF
  obtain ⟨t2, a1, b1⟩ := hQ v h' T'.heap (locs ++ L) hQ' (by rw [e1]; exact hP') k3' T' rfl X'
  exact ⟨t2, st9 t2 a1, b1⟩
/-- a constructor -/
theorem hl_callI (B : hl_B G M d k n p s m args meth c) {N : hl_M} {d1 k1 n1 na idx kk : Nat} {av1 As rest : List Value} {P1 : hl_H → Prop} {Q1 : Option Value → hl_H → Prop} (hct : hl_Ct G l N d1 k1 n1 av1 P1 Q1 (fun _ _ => False)) (hm : hl_mi N na) (hvd : N.2.2.2 = none) (hd : decode M.2.1 pc = .ok (.invokespecial idx, 3)) (hk : hl_w kk (Jvm.Cond.methodLink M.1.cls idx N.1) = true)
    {b : Nat} (hav : av1 = .ref b :: As) (hna : As.length = na) (hrest : (rest.map fun v => v.category).sum ≤ 8) (hfr : d1 + 1 ≤ d) (hlo : N.2.2.1 ≤ 21) (hce : ce + k1 ≤ k) (hsl : sl + n1 ≤ n) (hP : P1 h)
    (hQ : ∀ (r : Option Value) (h' : hl_H), Q1 r h' → hl_GM G M d k n Q X p l e s m args below meth c (pc + 3) lv (r.toList ++ rest) h' (ce + k1) (sl + n1)) : hl_GM G M d k n Q X p l e s m args below meth c pc lv (As.reverse ++ .ref b :: rest) h ce sl := by
  intro H locs ls hPh hS hl
  obtain ⟨⟨hx, hb, hml, hown, hts, hE, hS0, hRf, hRl⟩, hlk, hrt, hnm, hno⟩ := id B
  have cb := hl_CB (R := hl_rm d k n) (k1 := k1) (n1 := n1) hts hm.1 hk (by show d1 + 7 ≤ d + 6; omega) (by show _ ≤ 40 * d + 140; omega)
  rw [hvd] at cb
  have hct9 := hct.met
  rw [hvd] at hct9
  exact hl_back hS (va_runI (l := l) (e := e) (below := below) (meth := meth) (H := H) (locs := locs) (cells := ce) (slots := sl) (g := F0 m pc ls (As.reverse ++ .ref b :: rest)) (b := b) (As := As) (rest := rest) ⟨hx, hb, hml, hown, hts⟩ hct9 ⟨cb, hm.2.2, hts _ hm.2.1⟩ ⟨hl_blind, fun U hU hW => ⟨by rw [hav], hE.warm hW, by rw [hU]; exact hl_S0 hS0 hS, h, by rw [hU]; exact hPh, hP⟩⟩ rfl hna hl.1 rfl (lv_room hrest) hd ⟨hce, hsl⟩)
    (fun r h' H1 locs1 q1 q2 q3 => hQ r h' q1 H1 locs1 ls q2 q3 hl)
/-- a nest mate's private constructor -/
theorem hl_callIN (B : hl_B G M d k n p s m args meth c) {N : hl_M} {d1 k1 n1 na idx kk : Nat} {av1 As rest : List Value} {P1 : hl_H → Prop} {Q1 : Option Value → hl_H → Prop} (hct : hl_Ct G l N d1 k1 n1 av1 P1 Q1 (fun _ _ => False)) (hm : hl_mi N na) (hvd : N.2.2.2 = none) (hd : decode M.2.1 pc = .ok (.invokespecial idx, 3)) (hk : lw_tbl[kk]? = some (Jvm.Cond.methodLinkNest M.1.cls idx N.1 "LedgerStream"))
    {b : Nat} (hav : av1 = .ref b :: As) (hna : As.length = na) (hrest : (rest.map fun v => v.category).sum ≤ 8) (hfr : d1 + 1 ≤ d) (hlo : N.2.2.1 ≤ 21) (hce : ce + k1 ≤ k) (hsl : sl + n1 ≤ n) (hP : P1 h)
    (hQ : ∀ (r : Option Value) (h' : hl_H), Q1 r h' → hl_GM G M d k n Q X p l e s m args below meth c (pc + 3) lv (r.toList ++ rest) h' (ce + k1) (sl + n1)) : hl_GM G M d k n Q X p l e s m args below meth c pc lv (As.reverse ++ .ref b :: rest) h ce sl := by
  intro H locs ls hPh hS hl
  obtain ⟨⟨hx, hb, hml, hown, hts, hE, hS0, hRf, hRl⟩, hlk, hrt, hnm, hno⟩ := id B
  have hct9 := hct.met
  rw [hvd] at hct9
  have hcd : Jvm.Cond.code N.1 N.2.1 N.2.2.1 none ∈ hl_T := by have := hm.1.1; rw [hvd] at this; exact this
  have cn : va_CN (hl_rm d k n) s args M.1.cls idx N.1 "LedgerStream" N.2.1 N.2.2.1 none (Jvm.Cond.code N.1 N.2.1 N.2.2.1 none :: hl_T) (hl_rm d1 k1 n1) k1 n1 na := by
    refine ⟨⟨rfl, rfl, by show d1 + 6 + 1 ≤ d + 6; omega, by show 8 + (N.2.2.1 + 11) + (40 * d1 + 140) ≤ 40 * d + 140; omega, ?_, List.mem_cons_self⟩, hts _ hcd, hts _ hm.1.2.1, hm.1.2.2.1, fun sig h9 => ?_, va_Nw.use rfl (hE.2.2.2.2.1 _ _ _ _ (List.mem_of_getElem? hk))⟩
    · intro w hw
      rcases List.mem_cons.mp hw with e9 | hw
      · rw [e9]; exact hl_T_warm hts _ hcd
      · exact hl_T_warm hts w hw
    · have h2 := hm.1.2.2.2
      rw [h9] at h2
      exact (Option.some.inj h2).symm
  exact hl_back hS (va_runIN (l := l) (e := e) (below := below) (meth := meth) (H := H) (locs := locs) (cells := ce) (slots := sl) (g := F0 m pc ls (As.reverse ++ .ref b :: rest)) (b := b) (As := As) (rest := rest) ⟨hx, hb, hml, hown, hts⟩ hct9 ⟨cn, hm.2.2, hts _ hm.2.1⟩ ⟨hl_blind, fun U hU hW => ⟨by rw [hav], hE.warm hW, by rw [hU]; exact hl_S0 hS0 hS, h, by rw [hU]; exact hPh, hP⟩⟩ rfl hna hl.1 rfl (lv_room hrest) hd ⟨hce, hsl⟩)
    (fun r h' H1 locs1 q1 q2 q3 => hQ r h' q1 H1 locs1 ls q2 q3 hl)
/-- a new long array of a length that is no constant -/
theorem hl_newJ (B : hl_B G M d k n p s m args meth c) {x : Int32} {N' kk : Nat} {rest : List Value} (hd : decode M.2.1 pc = .ok (.newarray .long, 2)) (hk : hl_w kk (Jvm.Cond.arrayClass .long) = true) (h0 : ¬ x < 0) (hN : x.toNatClampNeg = N') (hN2 : N' ≤ 10000) (hce : ce + 1 ≤ k) (hsl : sl + N' ≤ n)
    (hw : ∀ q : Nat, h q = none → hl_GM G M d k n Q X p l e s m args below meth c (pc + 2) lv (.ref q :: rest) (hl_set h q (.inl (N', .inr (.inl (fun _ => 0))))) (ce + 1) (sl + N')) : hl_GM G M d k n Q X p l e s m args below meth c pc lv (.int x :: rest) h ce sl := by
  intro H locs ls hP hS hl
  obtain ⟨⟨hx, hb, hml, hown, hts, hE, hS0, hRf, hRl⟩, hlk, hrt, hnm, hno⟩ := id B
  have hA : ∀ q : Nat, s.heap.size ≤ q → hl_A G q := fun q h => Nat.le_trans hS0.1 h
  obtain ⟨w, hw1, hw2, hw3⟩ := id hP
  exact va_newa (D := G.1) (atype := .long) hx hb (hts _ (hl_w_T hk)) rfl hE.1 hw2 hw3 hS hA (a0 := (N', .inr (.inl (fun _ => 0)))) (fun cA => rfl) h0 hN (Nat.le_trans (Nat.mul_le_mul hN2 (by decide : componentBytes .long ≤ 8)) (by decide)) hce hsl hd (fun q cA H1 hK1 hP1 hD1 hS1 => by
    have e1 : s.vm.findClass ("[" ++ FieldType.long.toString) = some cA := (hK1.2 4 _ rfl).2
    have e2 : s.vm.findClass ("[" ++ FieldType.long.toString) = some G.2.1.2.1 := (hE.1.2 1 _ rfl).2
    cases Option.some.inj (e1.symm.trans e2)
    obtain ⟨hn, hP9⟩ := hl_P.push (x := .inl (N', .inr (.inl (fun _ => 0)))) hw1 hP1 hD1
    exact hw q hn H1 locs ls hP9 hS1 hl)
end CT
end
section
/-! PART 04: the programs of the methods, held against their bytes, and what the tables say of them -/
def pX0_init : List hl_I := [(0, 0, 0, 0, 0, 0, .aload_n 0), (1, 1, 0, 207, 0, 0, .invokespecial 3), (4, 0, 0, 0, 0, 0, .aload_n 0), (5, 0, 0, 0, 0, 0, .iconst 0), (6, 2, 0, 210, 0, 0, .putfield 9), (9, 0, 0, 0, 0, 0, .aload_n 0), (10, 8, 1, 208, 0, 0, .new 15), (13, 0, 0, 0, 0, 0, .dup), (14, 0, 0, 0, 12, 0, .bipush 12), (16, 0, 0, 209, 0, 0, .invokespecial 17), (19, 2, 1, 212, 1, 0, .putfield 20), (22, 0, 0, 0, 0, 0, .aload_n 0), (23, 8, 1, 208, 0, 0, .new 15), (26, 0, 0, 0, 0, 0, .dup), (27, 0, 0, 0, 12, 0, .bipush 12), (29, 0, 0, 209, 0, 0, .invokespecial 17), (32, 2, 2, 214, 1, 0, .putfield 24), (35, 0, 0, 0, 0, 0, .aload_n 0), (36, 8, 1, 208, 0, 0, .new 15), (39, 0, 0, 0, 0, 0, .dup), (40, 0, 0, 0, 12, 0, .bipush 12), (42, 0, 0, 209, 0, 0, .invokespecial 17), (45, 2, 3, 216, 1, 0, .putfield 27), (48, 0, 0, 0, 0, 0, .return_)]
set_option maxRecDepth 100000 in
theorem okX0_init : hl_ok cX0_init RX0 1 true pX0_init = true := by decide +kernel
abbrev mX0_init : hl_M := (yX0_init, cX0_init, 1, none)
theorem mtX0_init : hl_mi mX0_init 0 := ⟨⟨hl_T_of (k := 206) (by decide +kernel) rfl, hl_T_of (k := 54) (by decide +kernel) rfl, ⟨by decide +kernel, by decide +kernel⟩, by decide +kernel⟩, hl_T_of (k := 205) (by decide +kernel) rfl, rfl⟩
def pX0_append : List hl_I := [(0, 0, 0, 0, 0, 0, .aload_n 0), (1, 2, 1, 212, 0, 0, .getfield 20), (4, 0, 0, 0, 0, 0, .aload_n 0), (5, 2, 0, 210, 0, 0, .getfield 9), (8, 0, 1, 0, 0, 0, .iload_n 1), (9, 0, 0, 0, 0, 0, .i2l), (10, 0, 0, 772, 0, 0, .invokevirtual 30), (13, 0, 0, 0, 0, 0, .aload_n 0), (14, 2, 2, 214, 0, 0, .getfield 24), (17, 0, 0, 0, 0, 0, .aload_n 0), (18, 2, 0, 210, 0, 0, .getfield 9), (21, 0, 2, 0, 0, 0, .iload_n 2), (22, 0, 0, 0, 0, 0, .i2l), (23, 0, 0, 772, 0, 0, .invokevirtual 30), (26, 0, 0, 0, 0, 0, .aload_n 0), (27, 2, 3, 216, 0, 0, .getfield 27), (30, 0, 0, 0, 0, 0, .aload_n 0), (31, 2, 0, 210, 0, 0, .getfield 9), (34, 0, 3, 0, 0, 0, .iload_n 3), (35, 0, 0, 0, 0, 0, .i2l), (36, 0, 0, 772, 0, 0, .invokevirtual 30), (39, 0, 0, 0, 0, 0, .aload_n 0), (40, 0, 0, 0, 0, 0, .dup), (41, 2, 0, 210, 0, 0, .getfield 9), (44, 0, 0, 0, 1, 0, .iconst 1), (45, 0, 0, 0, 0, 0, .iadd), (46, 2, 0, 210, 0, 0, .putfield 9), (49, 0, 0, 0, 0, 0, .return_)]
set_option maxRecDepth 100000 in
theorem okX0_append : hl_ok cX0_append RX0 4 false pX0_append = true := by decide +kernel
abbrev mX0_append : hl_M := (yX0_append, cX0_append, 4, none)
theorem mtX0_append : hl_mv mX0_append 3 := ⟨⟨hl_T_of (k := 771) (by decide +kernel) rfl, hl_T_of (k := 54) (by decide +kernel) rfl, ⟨by decide +kernel, by decide +kernel⟩, by decide +kernel⟩, hl_T_of (k := 769) (by decide +kernel) rfl, hl_T_of (k := 770) (by decide +kernel) rfl⟩
def pX0_remove : List hl_I := [(0, 0, 1, 0, 0, 0, .iload_n 1), (1, 0, 2, 0, 0, 0, .iload_n 2), (2, 0, 0, 0, 0, 0, .iadd), (3, 0, 3, 0, 0, 0, .istore_n 3), (4, 0, 3, 0, 0, 0, .iload_n 3), (5, 0, 0, 0, 0, 0, .aload_n 0), (6, 2, 0, 210, 0, 0, .getfield 9), (9, 72, 0, 0, 0, 0, .if_icmp .ge 63), (12, 0, 0, 0, 0, 0, .aload_n 0), (13, 2, 1, 212, 0, 0, .getfield 20), (16, 0, 3, 0, 0, 0, .iload_n 3), (17, 0, 2, 0, 0, 0, .iload_n 2), (18, 0, 0, 0, 0, 0, .isub), (19, 0, 0, 0, 0, 0, .aload_n 0), (20, 2, 1, 212, 0, 0, .getfield 20), (23, 0, 3, 0, 0, 0, .iload_n 3), (24, 0, 0, 785, 0, 0, .invokevirtual 34), (27, 0, 0, 772, 0, 0, .invokevirtual 30), (30, 0, 0, 0, 0, 0, .aload_n 0), (31, 2, 2, 214, 0, 0, .getfield 24), (34, 0, 3, 0, 0, 0, .iload_n 3), (35, 0, 2, 0, 0, 0, .iload_n 2), (36, 0, 0, 0, 0, 0, .isub), (37, 0, 0, 0, 0, 0, .aload_n 0), (38, 2, 2, 214, 0, 0, .getfield 24), (41, 0, 3, 0, 0, 0, .iload_n 3), (42, 0, 0, 785, 0, 0, .invokevirtual 34), (45, 0, 0, 772, 0, 0, .invokevirtual 30), (48, 0, 0, 0, 0, 0, .aload_n 0), (49, 2, 3, 216, 0, 0, .getfield 27), (52, 0, 3, 0, 0, 0, .iload_n 3), (53, 0, 2, 0, 0, 0, .iload_n 2), (54, 0, 0, 0, 0, 0, .isub), (55, 0, 0, 0, 0, 0, .aload_n 0), (56, 2, 3, 216, 0, 0, .getfield 27), (59, 0, 3, 0, 0, 0, .iload_n 3), (60, 0, 0, 785, 0, 0, .invokevirtual 34), (63, 0, 0, 772, 0, 0, .invokevirtual 30), (66, 0, 3, 0, 1, 0, .iinc 3 1), (69, 4, 0, 0, 0, 0, .goto (-65)), (72, 0, 0, 0, 0, 0, .aload_n 0), (73, 0, 0, 0, 0, 0, .dup), (74, 2, 0, 210, 0, 0, .getfield 9), (77, 0, 2, 0, 0, 0, .iload_n 2), (78, 0, 0, 0, 0, 0, .isub), (79, 2, 0, 210, 0, 0, .putfield 9), (82, 0, 0, 0, 0, 0, .return_)]
set_option maxRecDepth 100000 in
theorem okX0_remove : hl_ok cX0_remove RX0 4 false pX0_remove = true := by decide +kernel
abbrev mX0_remove : hl_M := (yX0_remove, cX0_remove, 4, none)
theorem mtX0_remove : hl_mv mX0_remove 2 := ⟨⟨hl_T_of (k := 784) (by decide +kernel) rfl, hl_T_of (k := 54) (by decide +kernel) rfl, ⟨by decide +kernel, by decide +kernel⟩, by decide +kernel⟩, hl_T_of (k := 782) (by decide +kernel) rfl, hl_T_of (k := 783) (by decide +kernel) rfl⟩
def pX1_init : List hl_I := [(0, 0, 0, 0, 0, 0, .aload_n 0), (1, 1, 0, 83, 0, 0, .invokespecial 3), (4, 0, 0, 0, 0, 0, .aload_n 0), (5, 0, 0, 0, 0, 0, .iconst 0), (6, 3, 0, 100, 0, 0, .putfield 9), (9, 0, 0, 0, 0, 0, .aload_n 0), (10, 8, 1, 84, 0, 0, .new 15), (13, 0, 0, 0, 0, 0, .dup), (14, 0, 0, 0, 10, 0, .bipush 10), (16, 0, 0, 86, 0, 0, .invokespecial 17), (19, 3, 1, 102, 1, 0, .putfield 20), (22, 0, 0, 0, 0, 0, .aload_n 0), (23, 8, 1, 84, 0, 0, .new 15), (26, 0, 0, 0, 0, 0, .dup), (27, 0, 0, 0, 10, 0, .bipush 10), (29, 0, 0, 86, 0, 0, .invokespecial 17), (32, 3, 2, 104, 1, 0, .putfield 24), (35, 0, 0, 0, 0, 0, .aload_n 0), (36, 8, 1, 84, 0, 0, .new 15), (39, 0, 0, 0, 0, 0, .dup), (40, 0, 0, 0, 10, 0, .bipush 10), (42, 0, 0, 86, 0, 0, .invokespecial 17), (45, 3, 3, 106, 1, 0, .putfield 27), (48, 0, 0, 0, 0, 0, .aload_n 0), (49, 8, 1, 84, 0, 0, .new 15), (52, 0, 0, 0, 0, 0, .dup), (53, 0, 0, 0, 4, 0, .iconst 4), (54, 0, 0, 86, 0, 0, .invokespecial 17), (57, 3, 4, 108, 1, 0, .putfield 30), (60, 0, 0, 0, 0, 0, .aload_n 0), (61, 8, 1, 84, 0, 0, .new 15), (64, 0, 0, 0, 0, 0, .dup), (65, 0, 0, 0, 4, 0, .iconst 4), (66, 0, 0, 86, 0, 0, .invokespecial 17), (69, 3, 5, 110, 1, 0, .putfield 33), (72, 0, 0, 0, 0, 0, .aload_n 0), (73, 8, 1, 84, 0, 0, .new 15), (76, 0, 0, 0, 0, 0, .dup), (77, 0, 0, 0, 4, 0, .iconst 4), (78, 0, 0, 86, 0, 0, .invokespecial 17), (81, 3, 6, 112, 1, 0, .putfield 36), (84, 0, 0, 0, 0, 0, .iconst 0), (85, 0, 1, 0, 0, 0, .istore_n 1), (86, 0, 1, 0, 0, 0, .iload_n 1), (87, 0, 0, 0, 4, 0, .iconst 4), (88, 108, 0, 0, 0, 0, .if_icmp .ge 20), (91, 0, 0, 0, 0, 0, .aload_n 0), (92, 3, 6, 112, 0, 0, .getfield 36), (95, 0, 1, 0, 0, 0, .iload_n 1), (96, 0, 0, 95, 0, 1000, .ldc2_w 39), (99, 0, 0, 96, 0, 0, .invokevirtual 41), (102, 0, 1, 0, 1, 0, .iinc 1 1), (105, 86, 0, 0, 0, 0, .goto (-19)), (108, 0, 0, 0, 0, 0, .return_)]
set_option maxRecDepth 100000 in
theorem okX1_init : hl_ok cX1_init RX1 2 true pX1_init = true := by decide +kernel
abbrev mX1_init : hl_M := (yX1_init, cX1_init, 2, none)
theorem mtX1_init : hl_mi mX1_init 0 := ⟨⟨hl_T_of (k := 82) (by decide +kernel) rfl, hl_T_of (k := 50) (by decide +kernel) rfl, ⟨by decide +kernel, by decide +kernel⟩, by decide +kernel⟩, hl_T_of (k := 81) (by decide +kernel) rfl, rfl⟩
def pX1_open : List hl_I := [(0, 0, 0, 0, 0, 0, .aload_n 0), (1, 3, 0, 100, 0, 0, .getfield 9), (4, 0, 3, 0, 0, 0, .istore_n 3), (5, 0, 0, 0, 0, 0, .aload_n 0), (6, 3, 1, 102, 0, 0, .getfield 20), (9, 0, 3, 0, 0, 0, .iload_n 3), (10, 0, 1, 0, 0, 0, .iload_n 1), (11, 0, 0, 0, 0, 0, .i2l), (12, 0, 0, 96, 0, 0, .invokevirtual 41), (15, 0, 0, 0, 0, 0, .aload_n 0), (16, 3, 2, 104, 0, 0, .getfield 24), (19, 0, 3, 0, 0, 0, .iload_n 3), (20, 0, 2, 0, 0, 0, .iload_n 2), (21, 0, 0, 0, 0, 0, .i2l), (22, 0, 0, 96, 0, 0, .invokevirtual 41), (25, 0, 0, 0, 0, 0, .aload_n 0), (26, 0, 0, 0, 0, 0, .dup), (27, 3, 0, 100, 0, 0, .getfield 9), (30, 0, 0, 0, 1, 0, .iconst 1), (31, 0, 0, 0, 0, 0, .iadd), (32, 3, 0, 100, 0, 0, .putfield 9), (35, 0, 3, 0, 0, 0, .iload_n 3), (36, 0, 0, 0, 0, 0, .ireturn)]
set_option maxRecDepth 100000 in
theorem okX1_open : hl_ok cX1_open RX1 4 false pX1_open = true := by decide +kernel
abbrev mX1_open : hl_M := (yX1_open, cX1_open, 4, (some .int))
theorem mtX1_open : hl_mv mX1_open 2 := ⟨⟨hl_T_of (k := 482) (by decide +kernel) rfl, hl_T_of (k := 50) (by decide +kernel) rfl, ⟨by decide +kernel, by decide +kernel⟩, by decide +kernel⟩, hl_T_of (k := 480) (by decide +kernel) rfl, hl_T_of (k := 481) (by decide +kernel) rfl⟩
def pX1_receivedFor : List hl_I := [(0, 0, 0, 0, 0, 0, .aload_n 0), (1, 3, 1, 102, 0, 0, .getfield 20), (4, 0, 1, 0, 0, 0, .iload_n 1), (5, 0, 0, 322, 0, 0, .invokevirtual 45), (8, 0, 4, 0, 0, 0, .istore 4), (10, 0, 0, 0, 0, 0, .aload_n 0), (11, 3, 1, 102, 0, 0, .getfield 20), (14, 0, 2, 0, 0, 0, .iload_n 2), (15, 0, 0, 322, 0, 0, .invokevirtual 45), (18, 0, 5, 0, 0, 0, .istore 5), (20, 0, 0, 0, 0, 0, .aload_n 0), (21, 3, 6, 112, 0, 0, .getfield 36), (24, 0, 5, 0, 0, 0, .iload 5), (26, 0, 0, 323, 0, 0, .invokevirtual 49), (29, 0, 6, 0, 0, 0, .lstore 6), (31, 0, 4, 0, 0, 0, .iload 4), (33, 0, 5, 0, 0, 0, .iload 5), (35, 45, 0, 0, 0, 0, .if_icmp .eq 10), (38, 0, 6, 0, 0, 0, .lload 6), (40, 0, 0, 0, 0, 1, .lconst 1), (41, 0, 0, 0, 0, 0, .lcmp), (42, 47, 0, 0, 0, 0, .ifCond .ge 5), (45, 0, 3, 0, 0, 0, .iload_n 3), (46, 0, 0, 0, 0, 0, .ireturn), (47, 0, 3, 0, 0, 0, .iload_n 3), (48, 0, 0, 0, 0, 0, .i2l), (49, 0, 0, 0, 0, 0, .aload_n 0), (50, 3, 6, 112, 0, 0, .getfield 36), (53, 0, 4, 0, 0, 0, .iload 4), (55, 0, 0, 323, 0, 0, .invokevirtual 49), (58, 0, 0, 0, 0, 0, .lmul), (59, 0, 6, 0, 0, 0, .lload 6), (61, 0, 0, 0, 0, 0, .ldiv), (62, 0, 0, 0, 0, 0, .l2i), (63, 0, 0, 0, 0, 0, .ireturn)]
set_option maxRecDepth 100000 in
theorem okX1_receivedFor : hl_ok cX1_receivedFor RX1 8 false pX1_receivedFor = true := by decide +kernel
abbrev mX1_receivedFor : hl_M := (yX1_receivedFor, cX1_receivedFor, 8, (some .int))
theorem mtX1_receivedFor : hl_mv mX1_receivedFor 3 := ⟨⟨hl_T_of (k := 321) (by decide +kernel) rfl, hl_T_of (k := 50) (by decide +kernel) rfl, ⟨by decide +kernel, by decide +kernel⟩, by decide +kernel⟩, hl_T_of (k := 319) (by decide +kernel) rfl, hl_T_of (k := 320) (by decide +kernel) rfl⟩
def pX1_move : List hl_I := [(0, 0, 0, 0, 0, 0, .aload_n 0), (1, 3, 1, 102, 0, 0, .getfield 20), (4, 0, 1, 0, 0, 0, .iload_n 1), (5, 0, 0, 0, (-1), 0, .iconst (-1)), (6, 13, 0, 0, 0, 0, .if_icmp .ne 7), (9, 0, 2, 0, 0, 0, .iload_n 2), (10, 14, 0, 0, 0, 0, .goto 4), (13, 0, 1, 0, 0, 0, .iload_n 1), (14, 0, 0, 322, 0, 0, .invokevirtual 45), (17, 0, 5, 0, 0, 0, .istore 5), (19, 0, 0, 0, 0, 0, .aload_n 0), (20, 3, 1, 102, 0, 0, .getfield 20), (23, 0, 2, 0, 0, 0, .iload_n 2), (24, 0, 0, 0, (-1), 0, .iconst (-1)), (25, 32, 0, 0, 0, 0, .if_icmp .ne 7), (28, 0, 1, 0, 0, 0, .iload_n 1), (29, 33, 0, 0, 0, 0, .goto 4), (32, 0, 2, 0, 0, 0, .iload_n 2), (33, 0, 0, 322, 0, 0, .invokevirtual 45), (36, 0, 6, 0, 0, 0, .istore 6), (38, 0, 0, 0, 0, 0, .aload_n 0), (39, 0, 1, 0, 0, 0, .iload_n 1), (40, 0, 5, 0, 0, 0, .iload 5), (42, 0, 3, 0, 0, 0, .iload_n 3), (43, 0, 0, 0, 0, 0, .ineg), (44, 0, 0, 641, 0, 0, .invokevirtual 53), (47, 0, 0, 0, 0, 0, .aload_n 0), (48, 0, 2, 0, 0, 0, .iload_n 2), (49, 0, 6, 0, 0, 0, .iload 6), (51, 0, 4, 0, 0, 0, .iload 4), (53, 0, 0, 641, 0, 0, .invokevirtual 53), (56, 0, 5, 0, 0, 0, .iload 5), (58, 0, 6, 0, 0, 0, .iload 6), (60, 87, 0, 0, 0, 0, .if_icmp .eq 27), (63, 0, 0, 0, 0, 0, .aload_n 0), (64, 3, 5, 110, 0, 0, .getfield 33), (67, 0, 5, 0, 0, 0, .iload 5), (69, 0, 3, 0, 0, 0, .iload_n 3), (70, 0, 0, 0, 0, 0, .i2l), (71, 0, 0, 645, 0, 0, .invokevirtual 57), (74, 0, 0, 0, 0, 0, .aload_n 0), (75, 3, 5, 110, 0, 0, .getfield 33), (78, 0, 6, 0, 0, 0, .iload 6), (80, 0, 4, 0, 0, 0, .iload 4), (82, 0, 0, 0, 0, 0, .ineg), (83, 0, 0, 0, 0, 0, .i2l), (84, 0, 0, 645, 0, 0, .invokevirtual 57), (87, 0, 0, 0, 0, 0, .return_)]
set_option maxRecDepth 100000 in
theorem okX1_move : hl_ok cX1_move RX1 7 false pX1_move = true := by decide +kernel
abbrev mX1_move : hl_M := (yX1_move, cX1_move, 7, none)
theorem mtX1_move : hl_mv mX1_move 4 := ⟨⟨hl_T_of (k := 640) (by decide +kernel) rfl, hl_T_of (k := 50) (by decide +kernel) rfl, ⟨by decide +kernel, by decide +kernel⟩, by decide +kernel⟩, hl_T_of (k := 638) (by decide +kernel) rfl, hl_T_of (k := 639) (by decide +kernel) rfl⟩
def pX1_change : List hl_I := [(0, 0, 1, 0, 0, 0, .iload_n 1), (1, 0, 0, 0, (-1), 0, .iconst (-1)), (2, 18, 0, 0, 0, 0, .if_icmp .ne 16), (5, 0, 0, 0, 0, 0, .aload_n 0), (6, 3, 4, 108, 0, 0, .getfield 30), (9, 0, 2, 0, 0, 0, .iload_n 2), (10, 0, 3, 0, 0, 0, .iload_n 3), (11, 0, 0, 0, 0, 0, .i2l), (12, 0, 0, 645, 0, 0, .invokevirtual 57), (15, 28, 0, 0, 0, 0, .goto 13), (18, 0, 0, 0, 0, 0, .aload_n 0), (19, 3, 3, 106, 0, 0, .getfield 27), (22, 0, 1, 0, 0, 0, .iload_n 1), (23, 0, 3, 0, 0, 0, .iload_n 3), (24, 0, 0, 0, 0, 0, .i2l), (25, 0, 0, 645, 0, 0, .invokevirtual 57), (28, 0, 0, 0, 0, 0, .return_)]
set_option maxRecDepth 100000 in
theorem okX1_change : hl_ok cX1_change RX1 4 false pX1_change = true := by decide +kernel
abbrev mX1_change : hl_M := (yX1_change, cX1_change, 4, none)
theorem mtX1_change : hl_mv mX1_change 3 := ⟨⟨hl_T_of (k := 644) (by decide +kernel) rfl, hl_T_of (k := 50) (by decide +kernel) rfl, ⟨by decide +kernel, by decide +kernel⟩, by decide +kernel⟩, hl_T_of (k := 643) (by decide +kernel) rfl, hl_T_of (k := 15) (by decide +kernel) rfl⟩
def pX1_sumOf : List hl_I := [(0, 0, 0, 0, 0, 0, .aload_n 0), (1, 3, 4, 108, 0, 0, .getfield 30), (4, 0, 1, 0, 0, 0, .iload_n 1), (5, 0, 0, 323, 0, 0, .invokevirtual 49), (8, 0, 0, 0, 0, 0, .aload_n 0), (9, 3, 5, 110, 0, 0, .getfield 33), (12, 0, 1, 0, 0, 0, .iload_n 1), (13, 0, 0, 323, 0, 0, .invokevirtual 49), (16, 0, 0, 0, 0, 0, .ladd), (17, 0, 2, 0, 0, 0, .lstore_n 2), (18, 0, 0, 0, 0, 0, .iconst 0), (19, 0, 4, 0, 0, 0, .istore 4), (21, 0, 4, 0, 0, 0, .iload 4), (23, 0, 0, 0, 0, 0, .aload_n 0), (24, 3, 0, 100, 0, 0, .getfield 9), (27, 63, 0, 0, 0, 0, .if_icmp .ge 36), (30, 0, 0, 0, 0, 0, .aload_n 0), (31, 3, 1, 102, 0, 0, .getfield 20), (34, 0, 4, 0, 0, 0, .iload 4), (36, 0, 0, 323, 0, 0, .invokevirtual 49), (39, 0, 1, 0, 0, 0, .iload_n 1), (40, 0, 0, 0, 0, 0, .i2l), (41, 0, 0, 0, 0, 0, .lcmp), (42, 57, 0, 0, 0, 0, .ifCond .ne 15), (45, 0, 2, 0, 0, 0, .lload_n 2), (46, 0, 0, 0, 0, 0, .aload_n 0), (47, 3, 3, 106, 0, 0, .getfield 27), (50, 0, 4, 0, 0, 0, .iload 4), (52, 0, 0, 323, 0, 0, .invokevirtual 49), (55, 0, 0, 0, 0, 0, .ladd), (56, 0, 2, 0, 0, 0, .lstore_n 2), (57, 0, 4, 0, 1, 0, .iinc 4 1), (60, 21, 0, 0, 0, 0, .goto (-39)), (63, 0, 2, 0, 0, 0, .lload_n 2), (64, 0, 0, 0, 0, 0, .lreturn)]
set_option maxRecDepth 100000 in
theorem okX1_sumOf : hl_ok cX1_sumOf RX1 5 false pX1_sumOf = true := by decide +kernel
abbrev mX1_sumOf : hl_M := (yX1_sumOf, cX1_sumOf, 5, (some .long))
theorem mtX1_sumOf : hl_mv mX1_sumOf 1 := ⟨⟨hl_T_of (k := 371) (by decide +kernel) rfl, hl_T_of (k := 50) (by decide +kernel) rfl, ⟨by decide +kernel, by decide +kernel⟩, by decide +kernel⟩, hl_T_of (k := 369) (by decide +kernel) rfl, hl_T_of (k := 370) (by decide +kernel) rfl⟩
def pX2_init : List hl_I := [(0, 0, 0, 0, 0, 0, .aload_n 0), (1, 1, 0, 568, 0, 0, .invokespecial 1), (4, 0, 0, 0, 0, 0, .aload_n 0), (5, 0, 0, 0, 0, 0, .iconst 0), (6, 4, 6, 576, 0, 0, .putfield 7), (9, 0, 0, 0, 0, 0, .aload_n 0), (10, 0, 0, 0, 0, 0, .iconst 0), (11, 4, 7, 578, 0, 0, .putfield 13), (14, 0, 0, 0, 0, 0, .aload_n 0), (15, 0, 1, 0, 0, 0, .iload_n 1), (16, 4, 0, 569, 2, 0, .putfield 16), (19, 0, 0, 0, 0, 0, .aload_n 0), (20, 0, 2, 0, 0, 0, .iload_n 2), (21, 4, 1, 570, 0, 0, .putfield 20), (24, 0, 0, 0, 0, 0, .aload_n 0), (25, 0, 3, 0, 0, 0, .iload_n 3), (26, 4, 2, 572, 0, 0, .putfield 23), (29, 0, 0, 0, 0, 0, .aload_n 0), (30, 0, 4, 0, 0, 0, .iload 4), (32, 4, 3, 573, 0, 0, .putfield 26), (35, 0, 0, 0, 0, 0, .aload_n 0), (36, 0, 5, 0, 0, 0, .iload 5), (38, 4, 4, 574, 0, 0, .putfield 29), (41, 0, 0, 0, 0, 0, .aload_n 0), (42, 0, 6, 0, 0, 0, .iload 6), (44, 4, 5, 575, 0, 0, .putfield 32), (47, 0, 0, 0, 0, 0, .return_)]
set_option maxRecDepth 100000 in
theorem okX2_init : hl_ok cX2_init RX2 7 true pX2_init = true := by decide +kernel
abbrev mX2_init : hl_M := (yX2_init, cX2_init, 7, none)
theorem mtX2_init : hl_mi mX2_init 6 := ⟨⟨hl_T_of (k := 567) (by decide +kernel) rfl, hl_T_of (k := 66) (by decide +kernel) rfl, ⟨by decide +kernel, by decide +kernel⟩, by decide +kernel⟩, hl_T_of (k := 566) (by decide +kernel) rfl, rfl⟩
def pX2_isLike : List hl_I := [(0, 0, 1, 0, 0, 0, .aload_n 1), (1, 74, 0, 0, 0, 0, .ifnull 73), (4, 0, 0, 0, 0, 0, .aload_n 0), (5, 4, 0, 569, 0, 0, .getfield 16), (8, 0, 1, 0, 0, 0, .aload_n 1), (9, 4, 0, 569, 0, 0, .getfield 16), (12, 74, 0, 0, 0, 0, .if_icmp .ne 62), (15, 0, 0, 0, 0, 0, .aload_n 0), (16, 4, 1, 570, 0, 0, .getfield 20), (19, 0, 1, 0, 0, 0, .aload_n 1), (20, 4, 1, 570, 0, 0, .getfield 20), (23, 74, 0, 0, 0, 0, .if_icmp .ne 51), (26, 0, 0, 0, 0, 0, .aload_n 0), (27, 4, 2, 572, 0, 0, .getfield 23), (30, 0, 1, 0, 0, 0, .aload_n 1), (31, 4, 2, 572, 0, 0, .getfield 23), (34, 74, 0, 0, 0, 0, .if_icmp .ne 40), (37, 0, 0, 0, 0, 0, .aload_n 0), (38, 4, 3, 573, 0, 0, .getfield 26), (41, 0, 1, 0, 0, 0, .aload_n 1), (42, 4, 3, 573, 0, 0, .getfield 26), (45, 74, 0, 0, 0, 0, .if_icmp .ne 29), (48, 0, 0, 0, 0, 0, .aload_n 0), (49, 4, 4, 574, 0, 0, .getfield 29), (52, 0, 1, 0, 0, 0, .aload_n 1), (53, 4, 4, 574, 0, 0, .getfield 29), (56, 74, 0, 0, 0, 0, .if_icmp .ne 18), (59, 0, 0, 0, 0, 0, .aload_n 0), (60, 4, 5, 575, 0, 0, .getfield 32), (63, 0, 1, 0, 0, 0, .aload_n 1), (64, 4, 5, 575, 0, 0, .getfield 32), (67, 74, 0, 0, 0, 0, .if_icmp .ne 7), (70, 0, 0, 0, 1, 0, .iconst 1), (71, 75, 0, 0, 0, 0, .goto 4), (74, 0, 0, 0, 0, 0, .iconst 0), (75, 0, 0, 0, 0, 0, .ireturn)]
set_option maxRecDepth 100000 in
theorem okX2_isLike : hl_ok cX2_isLike RX2 2 false pX2_isLike = true := by decide +kernel
abbrev mX2_isLike : hl_M := (yX2_isLike, cX2_isLike, 2, (some .boolean))
theorem mtX2_isLike : hl_mv mX2_isLike 1 := ⟨⟨hl_T_of (k := 608) (by decide +kernel) rfl, hl_T_of (k := 66) (by decide +kernel) rfl, ⟨by decide +kernel, by decide +kernel⟩, by decide +kernel⟩, hl_T_of (k := 606) (by decide +kernel) rfl, hl_T_of (k := 607) (by decide +kernel) rfl⟩
def pX3_init : List hl_I := [(0, 0, 0, 0, 0, 0, .aload_n 0), (1, 1, 0, 174, 0, 0, .invokespecial 3), (4, 0, 0, 0, 0, 0, .aload_n 0), (5, 0, 0, 0, 0, 0, .iconst 0), (6, 5, 0, 177, 0, 0, .putfield 9), (9, 0, 0, 0, 0, 0, .aload_n 0), (10, 8, 1, 175, 0, 0, .new 15), (13, 0, 0, 0, 0, 0, .dup), (14, 0, 0, 0, 30, 0, .bipush 30), (16, 0, 0, 176, 0, 0, .invokespecial 17), (19, 5, 1, 179, 1, 0, .putfield 20), (22, 0, 0, 0, 0, 0, .aload_n 0), (23, 8, 1, 175, 0, 0, .new 15), (26, 0, 0, 0, 0, 0, .dup), (27, 0, 0, 0, 30, 0, .bipush 30), (29, 0, 0, 176, 0, 0, .invokespecial 17), (32, 5, 2, 181, 1, 0, .putfield 24), (35, 0, 0, 0, 0, 0, .aload_n 0), (36, 8, 1, 175, 0, 0, .new 15), (39, 0, 0, 0, 0, 0, .dup), (40, 0, 0, 0, 30, 0, .bipush 30), (42, 0, 0, 176, 0, 0, .invokespecial 17), (45, 5, 3, 183, 1, 0, .putfield 27), (48, 0, 0, 0, 0, 0, .aload_n 0), (49, 8, 1, 175, 0, 0, .new 15), (52, 0, 0, 0, 0, 0, .dup), (53, 0, 0, 0, 30, 0, .bipush 30), (55, 0, 0, 176, 0, 0, .invokespecial 17), (58, 5, 4, 185, 1, 0, .putfield 30), (61, 0, 0, 0, 0, 0, .aload_n 0), (62, 8, 1, 175, 0, 0, .new 15), (65, 0, 0, 0, 0, 0, .dup), (66, 0, 0, 0, 30, 0, .bipush 30), (68, 0, 0, 176, 0, 0, .invokespecial 17), (71, 5, 5, 187, 1, 0, .putfield 33), (74, 0, 0, 0, 0, 0, .return_)]
set_option maxRecDepth 100000 in
theorem okX3_init : hl_ok cX3_init RX3 1 true pX3_init = true := by decide +kernel
abbrev mX3_init : hl_M := (yX3_init, cX3_init, 1, none)
theorem mtX3_init : hl_mi mX3_init 0 := ⟨⟨hl_T_of (k := 173) (by decide +kernel) rfl, hl_T_of (k := 53) (by decide +kernel) rfl, ⟨by decide +kernel, by decide +kernel⟩, by decide +kernel⟩, hl_T_of (k := 172) (by decide +kernel) rfl, rfl⟩
def pX3_append : List hl_I := [(0, 0, 0, 0, 0, 0, .aload_n 0), (1, 5, 0, 177, 0, 0, .getfield 9), (4, 0, 5, 0, 0, 0, .istore 5), (6, 0, 0, 0, 0, 0, .aload_n 0), (7, 5, 1, 179, 0, 0, .getfield 20), (10, 0, 5, 0, 0, 0, .iload 5), (12, 0, 1, 0, 0, 0, .iload_n 1), (13, 0, 0, 0, 0, 0, .i2l), (14, 0, 0, 284, 0, 0, .invokevirtual 36), (17, 0, 0, 0, 0, 0, .aload_n 0), (18, 5, 2, 181, 0, 0, .getfield 24), (21, 0, 5, 0, 0, 0, .iload 5), (23, 0, 2, 0, 0, 0, .iload_n 2), (24, 0, 0, 0, 0, 0, .i2l), (25, 0, 0, 284, 0, 0, .invokevirtual 36), (28, 0, 0, 0, 0, 0, .aload_n 0), (29, 5, 3, 183, 0, 0, .getfield 27), (32, 0, 5, 0, 0, 0, .iload 5), (34, 0, 3, 0, 0, 0, .iload_n 3), (35, 0, 0, 0, 0, 0, .i2l), (36, 0, 0, 284, 0, 0, .invokevirtual 36), (39, 0, 0, 0, 0, 0, .aload_n 0), (40, 5, 4, 185, 0, 0, .getfield 30), (43, 0, 5, 0, 0, 0, .iload 5), (45, 0, 4, 0, 0, 0, .iload 4), (47, 0, 0, 0, 0, 0, .i2l), (48, 0, 0, 284, 0, 0, .invokevirtual 36), (51, 0, 0, 0, 0, 0, .aload_n 0), (52, 5, 5, 187, 0, 0, .getfield 33), (55, 0, 5, 0, 0, 0, .iload 5), (57, 0, 0, 282, 0, 97, .ldc2_w 40), (60, 0, 0, 284, 0, 0, .invokevirtual 36), (63, 0, 0, 0, 0, 0, .aload_n 0), (64, 0, 0, 0, 0, 0, .dup), (65, 5, 0, 177, 0, 0, .getfield 9), (68, 0, 0, 0, 1, 0, .iconst 1), (69, 0, 0, 0, 0, 0, .iadd), (70, 5, 0, 177, 0, 0, .putfield 9), (73, 0, 5, 0, 0, 0, .iload 5), (75, 0, 0, 0, 0, 0, .ireturn)]
set_option maxRecDepth 100000 in
theorem okX3_append : hl_ok cX3_append RX3 6 false pX3_append = true := by decide +kernel
abbrev mX3_append : hl_M := (yX3_append, cX3_append, 6, (some .int))
theorem mtX3_append : hl_mv mX3_append 4 := ⟨⟨hl_T_of (k := 697) (by decide +kernel) rfl, hl_T_of (k := 53) (by decide +kernel) rfl, ⟨by decide +kernel, by decide +kernel⟩, by decide +kernel⟩, hl_T_of (k := 695) (by decide +kernel) rfl, hl_T_of (k := 696) (by decide +kernel) rfl⟩
def pX3_isActive : List hl_I := [(0, 0, 0, 0, 0, 0, .aload_n 0), (1, 5, 5, 187, 0, 0, .getfield 33), (4, 0, 1, 0, 0, 0, .iload_n 1), (5, 0, 0, 278, 0, 0, .invokevirtual 42), (8, 0, 0, 282, 0, 97, .ldc2_w 40), (11, 0, 0, 0, 0, 0, .lcmp), (12, 19, 0, 0, 0, 0, .ifCond .ne 7), (15, 0, 0, 0, 1, 0, .iconst 1), (16, 20, 0, 0, 0, 0, .goto 4), (19, 0, 0, 0, 0, 0, .iconst 0), (20, 0, 0, 0, 0, 0, .ireturn)]
set_option maxRecDepth 100000 in
theorem okX3_isActive : hl_ok cX3_isActive RX3 2 false pX3_isActive = true := by decide +kernel
abbrev mX3_isActive : hl_M := (yX3_isActive, cX3_isActive, 2, (some .boolean))
theorem mtX3_isActive : hl_mv mX3_isActive 1 := ⟨⟨hl_T_of (k := 277) (by decide +kernel) rfl, hl_T_of (k := 53) (by decide +kernel) rfl, ⟨by decide +kernel, by decide +kernel⟩, by decide +kernel⟩, hl_T_of (k := 275) (by decide +kernel) rfl, hl_T_of (k := 276) (by decide +kernel) rfl⟩
def pX3_heldFrom : List hl_I := [(0, 0, 0, 0, 0, 0, .lconst 0), (1, 0, 2, 0, 0, 0, .lstore_n 2), (2, 0, 0, 0, 0, 0, .iconst 0), (3, 0, 4, 0, 0, 0, .istore 4), (5, 0, 4, 0, 0, 0, .iload 4), (7, 0, 0, 0, 0, 0, .aload_n 0), (8, 5, 0, 177, 0, 0, .getfield 9), (11, 56, 0, 0, 0, 0, .if_icmp .ge 45), (14, 0, 0, 0, 0, 0, .aload_n 0), (15, 0, 4, 0, 0, 0, .iload 4), (17, 0, 0, 274, 0, 0, .invokevirtual 46), (20, 50, 0, 0, 0, 0, .ifCond .eq 30), (23, 0, 0, 0, 0, 0, .aload_n 0), (24, 5, 1, 179, 0, 0, .getfield 20), (27, 0, 4, 0, 0, 0, .iload 4), (29, 0, 0, 278, 0, 0, .invokevirtual 42), (32, 0, 1, 0, 0, 0, .iload_n 1), (33, 0, 0, 0, 0, 0, .i2l), (34, 0, 0, 0, 0, 0, .lcmp), (35, 50, 0, 0, 0, 0, .ifCond .ne 15), (38, 0, 2, 0, 0, 0, .lload_n 2), (39, 0, 0, 0, 0, 0, .aload_n 0), (40, 5, 3, 183, 0, 0, .getfield 27), (43, 0, 4, 0, 0, 0, .iload 4), (45, 0, 0, 278, 0, 0, .invokevirtual 42), (48, 0, 0, 0, 0, 0, .ladd), (49, 0, 2, 0, 0, 0, .lstore_n 2), (50, 0, 4, 0, 1, 0, .iinc 4 1), (53, 5, 0, 0, 0, 0, .goto (-48)), (56, 0, 2, 0, 0, 0, .lload_n 2), (57, 0, 0, 0, 0, 0, .lreturn)]
set_option maxRecDepth 100000 in
theorem okX3_heldFrom : hl_ok cX3_heldFrom RX3 5 false pX3_heldFrom = true := by decide +kernel
abbrev mX3_heldFrom : hl_M := (yX3_heldFrom, cX3_heldFrom, 5, (some .long))
theorem mtX3_heldFrom : hl_mv mX3_heldFrom 1 := ⟨⟨hl_T_of (k := 305) (by decide +kernel) rfl, hl_T_of (k := 53) (by decide +kernel) rfl, ⟨by decide +kernel, by decide +kernel⟩, by decide +kernel⟩, hl_T_of (k := 303) (by decide +kernel) rfl, hl_T_of (k := 304) (by decide +kernel) rfl⟩
def pX3_expireBefore : List hl_I := [(0, 0, 0, 0, 0, 0, .iconst 0), (1, 0, 2, 0, 0, 0, .istore_n 2), (2, 0, 0, 0, 0, 0, .iconst 0), (3, 0, 3, 0, 0, 0, .istore_n 3), (4, 0, 3, 0, 0, 0, .iload_n 3), (5, 0, 0, 0, 0, 0, .aload_n 0), (6, 5, 0, 177, 0, 0, .getfield 9), (9, 54, 0, 0, 0, 0, .if_icmp .ge 45), (12, 0, 0, 0, 0, 0, .aload_n 0), (13, 0, 3, 0, 0, 0, .iload_n 3), (14, 0, 0, 274, 0, 0, .invokevirtual 46), (17, 48, 0, 0, 0, 0, .ifCond .eq 31), (20, 0, 0, 0, 0, 0, .aload_n 0), (21, 5, 4, 185, 0, 0, .getfield 30), (24, 0, 3, 0, 0, 0, .iload_n 3), (25, 0, 0, 278, 0, 0, .invokevirtual 42), (28, 0, 1, 0, 0, 0, .iload_n 1), (29, 0, 0, 0, 0, 0, .i2l), (30, 0, 0, 0, 0, 0, .lcmp), (31, 48, 0, 0, 0, 0, .ifCond .ge 17), (34, 0, 0, 0, 0, 0, .aload_n 0), (35, 5, 5, 187, 0, 0, .getfield 33), (38, 0, 3, 0, 0, 0, .iload_n 3), (39, 0, 0, 283, 0, 120, .ldc2_w 50), (42, 0, 0, 284, 0, 0, .invokevirtual 36), (45, 0, 2, 0, 1, 0, .iinc 2 1), (48, 0, 3, 0, 1, 0, .iinc 3 1), (51, 4, 0, 0, 0, 0, .goto (-47)), (54, 0, 2, 0, 0, 0, .iload_n 2), (55, 0, 0, 0, 0, 0, .ireturn)]
set_option maxRecDepth 100000 in
theorem okX3_expireBefore : hl_ok cX3_expireBefore RX3 4 false pX3_expireBefore = true := by decide +kernel
abbrev mX3_expireBefore : hl_M := (yX3_expireBefore, cX3_expireBefore, 4, (some .int))
theorem mtX3_expireBefore : hl_mv mX3_expireBefore 1 := ⟨⟨hl_T_of (k := 273) (by decide +kernel) rfl, hl_T_of (k := 53) (by decide +kernel) rfl, ⟨by decide +kernel, by decide +kernel⟩, by decide +kernel⟩, hl_T_of (k := 271) (by decide +kernel) rfl, hl_T_of (k := 272) (by decide +kernel) rfl⟩
def pX4_init : List hl_I := [(0, 0, 0, 0, 0, 0, .aload_n 0), (1, 1, 0, 134, 0, 0, .invokespecial 3), (4, 0, 0, 0, 0, 0, .aload_n 0), (5, 0, 0, 0, 0, 0, .iconst 0), (6, 6, 0, 137, 0, 0, .putfield 9), (9, 0, 0, 0, 0, 0, .aload_n 0), (10, 8, 1, 135, 0, 0, .new 15), (13, 0, 0, 0, 0, 0, .dup), (14, 0, 0, 0, 150, 0, .sipush 150), (17, 0, 0, 136, 0, 0, .invokespecial 17), (20, 6, 1, 139, 1, 0, .putfield 20), (23, 0, 0, 0, 0, 0, .aload_n 0), (24, 8, 1, 135, 0, 0, .new 15), (27, 0, 0, 0, 0, 0, .dup), (28, 0, 0, 0, 150, 0, .sipush 150), (31, 0, 0, 136, 0, 0, .invokespecial 17), (34, 6, 2, 141, 1, 0, .putfield 24), (37, 0, 0, 0, 0, 0, .aload_n 0), (38, 8, 1, 135, 0, 0, .new 15), (41, 0, 0, 0, 0, 0, .dup), (42, 0, 0, 0, 150, 0, .sipush 150), (45, 0, 0, 136, 0, 0, .invokespecial 17), (48, 6, 3, 143, 1, 0, .putfield 27), (51, 0, 0, 0, 0, 0, .aload_n 0), (52, 8, 1, 135, 0, 0, .new 15), (55, 0, 0, 0, 0, 0, .dup), (56, 0, 0, 0, 150, 0, .sipush 150), (59, 0, 0, 136, 0, 0, .invokespecial 17), (62, 6, 4, 145, 1, 0, .putfield 30), (65, 0, 0, 0, 0, 0, .aload_n 0), (66, 8, 1, 135, 0, 0, .new 15), (69, 0, 0, 0, 0, 0, .dup), (70, 0, 0, 0, 150, 0, .sipush 150), (73, 0, 0, 136, 0, 0, .invokespecial 17), (76, 6, 5, 147, 1, 0, .putfield 33), (79, 0, 0, 0, 0, 0, .aload_n 0), (80, 8, 1, 135, 0, 0, .new 15), (83, 0, 0, 0, 0, 0, .dup), (84, 0, 0, 0, 150, 0, .sipush 150), (87, 0, 0, 136, 0, 0, .invokespecial 17), (90, 6, 6, 149, 1, 0, .putfield 36), (93, 0, 0, 0, 0, 0, .aload_n 0), (94, 8, 1, 135, 0, 0, .new 15), (97, 0, 0, 0, 0, 0, .dup), (98, 0, 0, 0, 150, 0, .sipush 150), (101, 0, 0, 136, 0, 0, .invokespecial 17), (104, 6, 7, 150, 1, 0, .putfield 39), (107, 0, 0, 0, 0, 0, .return_)]
set_option maxRecDepth 100000 in
theorem okX4_init : hl_ok cX4_init RX4 1 true pX4_init = true := by decide +kernel
abbrev mX4_init : hl_M := (yX4_init, cX4_init, 1, none)
theorem mtX4_init : hl_mi mX4_init 0 := ⟨⟨hl_T_of (k := 133) (by decide +kernel) rfl, hl_T_of (k := 52) (by decide +kernel) rfl, ⟨by decide +kernel, by decide +kernel⟩, by decide +kernel⟩, hl_T_of (k := 132) (by decide +kernel) rfl, rfl⟩
def pX4_append : List hl_I := [(0, 0, 0, 0, 0, 0, .aload_n 0), (1, 6, 0, 137, 0, 0, .getfield 9), (4, 0, 7, 0, 0, 0, .istore 7), (6, 0, 0, 0, 0, 0, .aload_n 0), (7, 6, 1, 139, 0, 0, .getfield 20), (10, 0, 7, 0, 0, 0, .iload 7), (12, 0, 1, 0, 0, 0, .iload_n 1), (13, 0, 0, 0, 0, 0, .i2l), (14, 0, 0, 650, 0, 0, .invokevirtual 42), (17, 0, 0, 0, 0, 0, .aload_n 0), (18, 6, 2, 141, 0, 0, .getfield 24), (21, 0, 7, 0, 0, 0, .iload 7), (23, 0, 2, 0, 0, 0, .iload_n 2), (24, 0, 0, 0, 0, 0, .i2l), (25, 0, 0, 650, 0, 0, .invokevirtual 42), (28, 0, 0, 0, 0, 0, .aload_n 0), (29, 6, 3, 143, 0, 0, .getfield 27), (32, 0, 7, 0, 0, 0, .iload 7), (34, 0, 3, 0, 0, 0, .iload_n 3), (35, 0, 0, 0, 0, 0, .i2l), (36, 0, 0, 650, 0, 0, .invokevirtual 42), (39, 0, 0, 0, 0, 0, .aload_n 0), (40, 6, 4, 145, 0, 0, .getfield 30), (43, 0, 7, 0, 0, 0, .iload 7), (45, 0, 4, 0, 0, 0, .iload 4), (47, 0, 0, 0, 0, 0, .i2l), (48, 0, 0, 650, 0, 0, .invokevirtual 42), (51, 0, 0, 0, 0, 0, .aload_n 0), (52, 6, 5, 147, 0, 0, .getfield 33), (55, 0, 7, 0, 0, 0, .iload 7), (57, 0, 5, 0, 0, 0, .iload 5), (59, 0, 0, 0, 0, 0, .i2l), (60, 0, 0, 650, 0, 0, .invokevirtual 42), (63, 0, 0, 0, 0, 0, .aload_n 0), (64, 6, 6, 149, 0, 0, .getfield 36), (67, 0, 7, 0, 0, 0, .iload 7), (69, 0, 6, 0, 0, 0, .iload 6), (71, 0, 0, 0, 0, 0, .i2l), (72, 0, 0, 650, 0, 0, .invokevirtual 42), (75, 0, 0, 0, 0, 0, .aload_n 0), (76, 6, 7, 150, 0, 0, .getfield 39), (79, 0, 7, 0, 0, 0, .iload 7), (81, 0, 0, 651, 0, (-1), .ldc2_w 46), (84, 0, 0, 650, 0, 0, .invokevirtual 42), (87, 0, 0, 0, 0, 0, .aload_n 0), (88, 0, 0, 0, 0, 0, .dup), (89, 6, 0, 137, 0, 0, .getfield 9), (92, 0, 0, 0, 1, 0, .iconst 1), (93, 0, 0, 0, 0, 0, .iadd), (94, 6, 0, 137, 0, 0, .putfield 9), (97, 0, 7, 0, 0, 0, .iload 7), (99, 0, 0, 0, 0, 0, .ireturn)]
set_option maxRecDepth 100000 in
theorem okX4_append : hl_ok cX4_append RX4 8 false pX4_append = true := by decide +kernel
abbrev mX4_append : hl_M := (yX4_append, cX4_append, 8, (some .int))
theorem mtX4_append : hl_mv mX4_append 6 := ⟨⟨hl_T_of (k := 649) (by decide +kernel) rfl, hl_T_of (k := 52) (by decide +kernel) rfl, ⟨by decide +kernel, by decide +kernel⟩, by decide +kernel⟩, hl_T_of (k := 647) (by decide +kernel) rfl, hl_T_of (k := 648) (by decide +kernel) rfl⟩
def pX4_isReversed : List hl_I := [(0, 0, 0, 0, 0, 0, .aload_n 0), (1, 6, 7, 150, 0, 0, .getfield 39), (4, 0, 1, 0, 0, 0, .iload_n 1), (5, 0, 0, 758, 0, 0, .invokevirtual 48), (8, 0, 0, 651, 0, (-1), .ldc2_w 46), (11, 0, 0, 0, 0, 0, .lcmp), (12, 19, 0, 0, 0, 0, .ifCond .eq 7), (15, 0, 0, 0, 1, 0, .iconst 1), (16, 20, 0, 0, 0, 0, .goto 4), (19, 0, 0, 0, 0, 0, .iconst 0), (20, 0, 0, 0, 0, 0, .ireturn)]
set_option maxRecDepth 100000 in
theorem okX4_isReversed : hl_ok cX4_isReversed RX4 2 false pX4_isReversed = true := by decide +kernel
abbrev mX4_isReversed : hl_M := (yX4_isReversed, cX4_isReversed, 2, (some .boolean))
theorem mtX4_isReversed : hl_mv mX4_isReversed 1 := ⟨⟨hl_T_of (k := 757) (by decide +kernel) rfl, hl_T_of (k := 52) (by decide +kernel) rfl, ⟨by decide +kernel, by decide +kernel⟩, by decide +kernel⟩, hl_T_of (k := 755) (by decide +kernel) rfl, hl_T_of (k := 756) (by decide +kernel) rfl⟩
def pX4_replay : List hl_I := [(0, 0, 0, 0, 0, 0, .lconst 0), (1, 0, 3, 0, 0, 0, .lstore_n 3), (2, 0, 0, 0, 0, 0, .iconst 0), (3, 0, 5, 0, 0, 0, .istore 5), (5, 0, 5, 0, 0, 0, .iload 5), (7, 0, 0, 0, 0, 0, .aload_n 0), (8, 6, 0, 137, 0, 0, .getfield 9), (11, 45, 0, 0, 0, 0, .if_icmp .ge 34), (14, 0, 0, 0, 0, 0, .aload_n 0), (15, 6, 6, 149, 0, 0, .getfield 36), (18, 0, 5, 0, 0, 0, .iload 5), (20, 0, 0, 758, 0, 0, .invokevirtual 48), (23, 0, 2, 0, 0, 0, .iload_n 2), (24, 0, 0, 0, 0, 0, .i2l), (25, 0, 0, 0, 0, 0, .lcmp), (26, 39, 0, 0, 0, 0, .ifCond .gt 13), (29, 0, 3, 0, 0, 0, .lload_n 3), (30, 0, 0, 0, 0, 0, .aload_n 0), (31, 0, 1, 0, 0, 0, .iload_n 1), (32, 0, 5, 0, 0, 0, .iload 5), (34, 0, 0, 826, 0, 0, .invokevirtual 52), (37, 0, 0, 0, 0, 0, .ladd), (38, 0, 3, 0, 0, 0, .lstore_n 3), (39, 0, 5, 0, 1, 0, .iinc 5 1), (42, 5, 0, 0, 0, 0, .goto (-37)), (45, 0, 3, 0, 0, 0, .lload_n 3), (46, 0, 0, 0, 0, 0, .lreturn)]
set_option maxRecDepth 100000 in
theorem okX4_replay : hl_ok cX4_replay RX4 6 false pX4_replay = true := by decide +kernel
abbrev mX4_replay : hl_M := (yX4_replay, cX4_replay, 6, (some .long))
theorem mtX4_replay : hl_mv mX4_replay 2 := ⟨⟨hl_T_of (k := 825) (by decide +kernel) rfl, hl_T_of (k := 52) (by decide +kernel) rfl, ⟨by decide +kernel, by decide +kernel⟩, by decide +kernel⟩, hl_T_of (k := 823) (by decide +kernel) rfl, hl_T_of (k := 824) (by decide +kernel) rfl⟩
def pX4_effectOn : List hl_I := [(0, 0, 0, 0, 0, 0, .aload_n 0), (1, 6, 2, 141, 0, 0, .getfield 24), (4, 0, 2, 0, 0, 0, .iload_n 2), (5, 0, 0, 758, 0, 0, .invokevirtual 48), (8, 0, 1, 0, 0, 0, .iload_n 1), (9, 0, 0, 0, 0, 0, .i2l), (10, 0, 0, 0, 0, 0, .lcmp), (11, 24, 0, 0, 0, 0, .ifCond .ne 13), (14, 0, 0, 0, 0, 0, .aload_n 0), (15, 6, 4, 145, 0, 0, .getfield 30), (18, 0, 2, 0, 0, 0, .iload_n 2), (19, 0, 0, 758, 0, 0, .invokevirtual 48), (22, 0, 0, 0, 0, 0, .lneg), (23, 0, 0, 0, 0, 0, .lreturn), (24, 0, 0, 0, 0, 0, .aload_n 0), (25, 6, 3, 143, 0, 0, .getfield 27), (28, 0, 2, 0, 0, 0, .iload_n 2), (29, 0, 0, 758, 0, 0, .invokevirtual 48), (32, 0, 1, 0, 0, 0, .iload_n 1), (33, 0, 0, 0, 0, 0, .i2l), (34, 0, 0, 0, 0, 0, .lcmp), (35, 49, 0, 0, 0, 0, .ifCond .ne 14), (38, 0, 0, 0, 0, 0, .aload_n 0), (39, 6, 5, 147, 0, 0, .getfield 33), (42, 0, 2, 0, 0, 0, .iload_n 2), (43, 0, 0, 758, 0, 0, .invokevirtual 48), (46, 50, 0, 0, 0, 0, .goto 4), (49, 0, 0, 0, 0, 0, .lconst 0), (50, 0, 0, 0, 0, 0, .lreturn)]
set_option maxRecDepth 100000 in
theorem okX4_effectOn : hl_ok cX4_effectOn RX4 3 false pX4_effectOn = true := by decide +kernel
abbrev mX4_effectOn : hl_M := (yX4_effectOn, cX4_effectOn, 3, (some .long))
theorem mtX4_effectOn : hl_mv mX4_effectOn 2 := ⟨⟨hl_T_of (k := 829) (by decide +kernel) rfl, hl_T_of (k := 52) (by decide +kernel) rfl, ⟨by decide +kernel, by decide +kernel⟩, by decide +kernel⟩, hl_T_of (k := 828) (by decide +kernel) rfl, hl_T_of (k := 22) (by decide +kernel) rfl⟩
def pX4_countReversed : List hl_I := [(0, 0, 0, 0, 0, 0, .iconst 0), (1, 0, 1, 0, 0, 0, .istore_n 1), (2, 0, 0, 0, 0, 0, .iconst 0), (3, 0, 2, 0, 0, 0, .istore_n 2), (4, 0, 2, 0, 0, 0, .iload_n 2), (5, 0, 0, 0, 0, 0, .aload_n 0), (6, 6, 0, 137, 0, 0, .getfield 9), (9, 29, 0, 0, 0, 0, .if_icmp .ge 20), (12, 0, 0, 0, 0, 0, .aload_n 0), (13, 0, 2, 0, 0, 0, .iload_n 2), (14, 0, 0, 947, 0, 0, .invokevirtual 56), (17, 23, 0, 0, 0, 0, .ifCond .eq 6), (20, 0, 1, 0, 1, 0, .iinc 1 1), (23, 0, 2, 0, 1, 0, .iinc 2 1), (26, 4, 0, 0, 0, 0, .goto (-22)), (29, 0, 1, 0, 0, 0, .iload_n 1), (30, 0, 0, 0, 0, 0, .ireturn)]
set_option maxRecDepth 100000 in
theorem okX4_countReversed : hl_ok cX4_countReversed RX4 3 false pX4_countReversed = true := by decide +kernel
abbrev mX4_countReversed : hl_M := (yX4_countReversed, cX4_countReversed, 3, (some .int))
theorem mtX4_countReversed : hl_mv mX4_countReversed 0 := ⟨⟨hl_T_of (k := 946) (by decide +kernel) rfl, hl_T_of (k := 52) (by decide +kernel) rfl, ⟨by decide +kernel, by decide +kernel⟩, by decide +kernel⟩, hl_T_of (k := 944) (by decide +kernel) rfl, hl_T_of (k := 945) (by decide +kernel) rfl⟩
def pX4_sumPaid : List hl_I := [(0, 0, 0, 0, 0, 0, .lconst 0), (1, 0, 1, 0, 0, 0, .lstore_n 1), (2, 0, 0, 0, 0, 0, .iconst 0), (3, 0, 3, 0, 0, 0, .istore_n 3), (4, 0, 3, 0, 0, 0, .iload_n 3), (5, 0, 0, 0, 0, 0, .aload_n 0), (6, 6, 0, 137, 0, 0, .getfield 9), (9, 29, 0, 0, 0, 0, .if_icmp .ge 20), (12, 0, 1, 0, 0, 0, .lload_n 1), (13, 0, 0, 0, 0, 0, .aload_n 0), (14, 6, 4, 145, 0, 0, .getfield 30), (17, 0, 3, 0, 0, 0, .iload_n 3), (18, 0, 0, 758, 0, 0, .invokevirtual 48), (21, 0, 0, 0, 0, 0, .ladd), (22, 0, 1, 0, 0, 0, .lstore_n 1), (23, 0, 3, 0, 1, 0, .iinc 3 1), (26, 4, 0, 0, 0, 0, .goto (-22)), (29, 0, 1, 0, 0, 0, .lload_n 1), (30, 0, 0, 0, 0, 0, .lreturn)]
set_option maxRecDepth 100000 in
theorem okX4_sumPaid : hl_ok cX4_sumPaid RX4 4 false pX4_sumPaid = true := by decide +kernel
abbrev mX4_sumPaid : hl_M := (yX4_sumPaid, cX4_sumPaid, 4, (some .long))
theorem mtX4_sumPaid : hl_mv mX4_sumPaid 0 := ⟨⟨hl_T_of (k := 958) (by decide +kernel) rfl, hl_T_of (k := 52) (by decide +kernel) rfl, ⟨by decide +kernel, by decide +kernel⟩, by decide +kernel⟩, hl_T_of (k := 956) (by decide +kernel) rfl, hl_T_of (k := 957) (by decide +kernel) rfl⟩
def pX5_init : List hl_I := [(0, 0, 0, 0, 0, 0, .aload_n 0), (1, 1, 0, 232, 0, 0, .invokespecial 3), (4, 0, 0, 0, 0, 0, .aload_n 0), (5, 0, 0, 0, 0, 0, .iconst 0), (6, 7, 0, 235, 0, 0, .putfield 9), (9, 0, 0, 0, 0, 0, .aload_n 0), (10, 0, 0, 0, 180, 0, .sipush 180), (13, 0, 0, 0, 0, 0, .anewarray 15), (16, 7, 1, 236, 1, 0, .putfield 17), (19, 0, 0, 0, 0, 0, .return_)]
set_option maxRecDepth 100000 in
theorem okX5_init : hl_ok cX5_init RX5 1 true pX5_init = true := by decide +kernel
abbrev mX5_init : hl_M := (yX5_init, cX5_init, 1, none)
theorem mtX5_init : hl_mi mX5_init 0 := ⟨⟨hl_T_of (k := 231) (by decide +kernel) rfl, hl_T_of (k := 55) (by decide +kernel) rfl, ⟨by decide +kernel, by decide +kernel⟩, by decide +kernel⟩, hl_T_of (k := 230) (by decide +kernel) rfl, rfl⟩
def pX5_find : List hl_I := [(0, 0, 0, 0, 0, 0, .iconst 0), (1, 0, 3, 0, 0, 0, .istore_n 3), (2, 0, 3, 0, 0, 0, .iload_n 3), (3, 0, 0, 0, 0, 0, .aload_n 0), (4, 7, 0, 235, 0, 0, .getfield 9), (7, 61, 0, 0, 0, 0, .if_icmp .ge 54), (10, 0, 3, 0, 0, 0, .iload_n 3), (11, 0, 0, 0, 0, 0, .aload_n 0), (12, 7, 1, 236, 0, 0, .getfield 17), (15, 0, 0, 0, 0, 0, .arraylength), (16, 61, 0, 0, 0, 0, .if_icmp .ge 45), (19, 0, 0, 0, 0, 0, .aload_n 0), (20, 7, 1, 236, 0, 0, .getfield 17), (23, 0, 3, 0, 0, 0, .iload_n 3), (24, 0, 0, 0, 0, 0, .aaload), (25, 0, 4, 0, 0, 0, .astore 4), (27, 0, 4, 0, 0, 0, .aload 4), (29, 55, 0, 0, 0, 0, .ifnull 26), (32, 0, 4, 0, 0, 0, .aload 4), (34, 4, 1, 571, 0, 1, .getfield 21), (37, 0, 1, 0, 0, 0, .iload_n 1), (38, 55, 0, 0, 0, 0, .if_icmp .ne 17), (41, 0, 2, 0, 0, 0, .iload_n 2), (42, 0, 4, 0, 0, 0, .aload 4), (44, 4, 6, 577, 0, 1, .getfield 24), (47, 0, 0, 0, 0, 0, .isub), (48, 0, 0, 0, 2, 0, .iconst 2), (49, 55, 0, 0, 0, 0, .if_icmp .gt 6), (52, 0, 4, 0, 0, 0, .aload 4), (54, 0, 0, 0, 0, 0, .areturn), (55, 0, 3, 0, 1, 0, .iinc 3 1), (58, 2, 0, 0, 0, 0, .goto (-56)), (61, 0, 0, 0, 0, 0, .aconst_null), (62, 0, 0, 0, 0, 0, .areturn)]
set_option maxRecDepth 100000 in
theorem okX5_find : hl_ok cX5_find RX5 5 false pX5_find = true := by decide +kernel
abbrev mX5_find : hl_M := (yX5_find, cX5_find, 5, (some (.object "LedgerStream$Call")))
theorem mtX5_find : hl_mv mX5_find 2 := ⟨⟨hl_T_of (k := 604) (by decide +kernel) rfl, hl_T_of (k := 55) (by decide +kernel) rfl, ⟨by decide +kernel, by decide +kernel⟩, by decide +kernel⟩, hl_T_of (k := 603) (by decide +kernel) rfl, hl_T_of (k := 10) (by decide +kernel) rfl⟩
def pX5_hasKey : List hl_I := [(0, 0, 0, 0, 0, 0, .aload_n 0), (1, 0, 1, 0, 0, 0, .iload_n 1), (2, 0, 2, 0, 0, 0, .iload_n 2), (3, 0, 0, 601, 0, 0, .invokevirtual 27), (6, 13, 0, 0, 0, 0, .ifnull 7), (9, 0, 0, 0, 1, 0, .iconst 1), (10, 14, 0, 0, 0, 0, .goto 4), (13, 0, 0, 0, 0, 0, .iconst 0), (14, 0, 0, 0, 0, 0, .ireturn)]
set_option maxRecDepth 100000 in
theorem okX5_hasKey : hl_ok cX5_hasKey RX5 3 false pX5_hasKey = true := by decide +kernel
abbrev mX5_hasKey : hl_M := (yX5_hasKey, cX5_hasKey, 3, (some .boolean))
theorem mtX5_hasKey : hl_mv mX5_hasKey 2 := ⟨⟨hl_T_of (k := 621) (by decide +kernel) rfl, hl_T_of (k := 55) (by decide +kernel) rfl, ⟨by decide +kernel, by decide +kernel⟩, by decide +kernel⟩, hl_T_of (k := 619) (by decide +kernel) rfl, hl_T_of (k := 620) (by decide +kernel) rfl⟩
def pX5_hasCallLike : List hl_I := [(0, 0, 1, 0, 0, 0, .aload_n 1), (1, 24, 0, 0, 0, 0, .ifnull 23), (4, 0, 1, 0, 0, 0, .aload_n 1), (5, 0, 0, 0, 0, 0, .aload_n 0), (6, 0, 1, 0, 0, 0, .aload_n 1), (7, 4, 1, 571, 0, 1, .getfield 21), (10, 0, 2, 0, 0, 0, .iload_n 2), (11, 0, 0, 601, 0, 0, .invokevirtual 27), (14, 0, 0, 605, 0, 0, .invokevirtual 31), (17, 24, 0, 0, 0, 0, .ifCond .eq 7), (20, 0, 0, 0, 1, 0, .iconst 1), (21, 25, 0, 0, 0, 0, .goto 4), (24, 0, 0, 0, 0, 0, .iconst 0), (25, 0, 0, 0, 0, 0, .ireturn)]
set_option maxRecDepth 100000 in
theorem okX5_hasCallLike : hl_ok cX5_hasCallLike RX5 3 false pX5_hasCallLike = true := by decide +kernel
abbrev mX5_hasCallLike : hl_M := (yX5_hasCallLike, cX5_hasCallLike, 3, (some .boolean))
theorem mtX5_hasCallLike : hl_mv mX5_hasCallLike 2 := ⟨⟨hl_T_of (k := 600) (by decide +kernel) rfl, hl_T_of (k := 55) (by decide +kernel) rfl, ⟨by decide +kernel, by decide +kernel⟩, by decide +kernel⟩, hl_T_of (k := 598) (by decide +kernel) rfl, hl_T_of (k := 599) (by decide +kernel) rfl⟩
def pX5_answerTo : List hl_I := [(0, 0, 0, 0, 0, 0, .aload_n 0), (1, 0, 1, 0, 0, 0, .iload_n 1), (2, 0, 2, 0, 0, 0, .iload_n 2), (3, 0, 0, 601, 0, 0, .invokevirtual 27), (6, 0, 3, 0, 0, 0, .astore_n 3), (7, 0, 3, 0, 0, 0, .aload_n 3), (8, 15, 0, 0, 0, 0, .ifnonnull 7), (11, 0, 0, 0, 0, 0, .iconst 0), (12, 19, 0, 0, 0, 0, .goto 7), (15, 0, 3, 0, 0, 0, .aload_n 3), (16, 4, 7, 579, 0, 1, .getfield 35), (19, 0, 0, 0, 0, 0, .ireturn)]
set_option maxRecDepth 100000 in
theorem okX5_answerTo : hl_ok cX5_answerTo RX5 4 false pX5_answerTo = true := by decide +kernel
abbrev mX5_answerTo : hl_M := (yX5_answerTo, cX5_answerTo, 4, (some .int))
theorem mtX5_answerTo : hl_mv mX5_answerTo 2 := ⟨⟨hl_T_of (k := 612) (by decide +kernel) rfl, hl_T_of (k := 55) (by decide +kernel) rfl, ⟨by decide +kernel, by decide +kernel⟩, by decide +kernel⟩, hl_T_of (k := 610) (by decide +kernel) rfl, hl_T_of (k := 611) (by decide +kernel) rfl⟩
def pX5_keep : List hl_I := [(0, 0, 1, 0, 0, 0, .aload_n 1), (1, 53, 0, 0, 0, 0, .ifnull 52), (4, 0, 0, 0, 0, 0, .aload_n 0), (5, 7, 0, 235, 0, 0, .getfield 9), (8, 53, 0, 0, 0, 0, .ifCond .lt 45), (11, 0, 0, 0, 0, 0, .aload_n 0), (12, 7, 0, 235, 0, 0, .getfield 9), (15, 0, 0, 0, 0, 0, .aload_n 0), (16, 7, 1, 236, 0, 0, .getfield 17), (19, 0, 0, 0, 0, 0, .arraylength), (20, 53, 0, 0, 0, 0, .if_icmp .ge 33), (23, 0, 1, 0, 0, 0, .aload_n 1), (24, 0, 2, 0, 0, 0, .iload_n 2), (25, 4, 6, 577, 0, 1, .putfield 24), (28, 0, 1, 0, 0, 0, .aload_n 1), (29, 0, 3, 0, 0, 0, .iload_n 3), (30, 4, 7, 579, 0, 1, .putfield 35), (33, 0, 0, 0, 0, 0, .aload_n 0), (34, 7, 1, 236, 0, 0, .getfield 17), (37, 0, 0, 0, 0, 0, .aload_n 0), (38, 7, 0, 235, 0, 0, .getfield 9), (41, 0, 1, 0, 0, 0, .aload_n 1), (42, 0, 0, 0, 0, 0, .aastore), (43, 0, 0, 0, 0, 0, .aload_n 0), (44, 0, 0, 0, 0, 0, .dup), (45, 7, 0, 235, 0, 0, .getfield 9), (48, 0, 0, 0, 1, 0, .iconst 1), (49, 0, 0, 0, 0, 0, .iadd), (50, 7, 0, 235, 0, 0, .putfield 9), (53, 0, 3, 0, 0, 0, .iload_n 3), (54, 0, 0, 0, 0, 0, .ireturn)]
set_option maxRecDepth 100000 in
theorem okX5_keep : hl_ok cX5_keep RX5 4 false pX5_keep = true := by decide +kernel
abbrev mX5_keep : hl_M := (yX5_keep, cX5_keep, 4, (some .int))
theorem mtX5_keep : hl_mv mX5_keep 3 := ⟨⟨hl_T_of (k := 655) (by decide +kernel) rfl, hl_T_of (k := 55) (by decide +kernel) rfl, ⟨by decide +kernel, by decide +kernel⟩, by decide +kernel⟩, hl_T_of (k := 653) (by decide +kernel) rfl, hl_T_of (k := 654) (by decide +kernel) rfl⟩
def pX5_countOn : List hl_I := [(0, 0, 0, 0, 0, 0, .iconst 0), (1, 0, 2, 0, 0, 0, .istore_n 2), (2, 0, 0, 0, 0, 0, .iconst 0), (3, 0, 3, 0, 0, 0, .istore_n 3), (4, 0, 3, 0, 0, 0, .iload_n 3), (5, 0, 0, 0, 0, 0, .aload_n 0), (6, 7, 0, 235, 0, 0, .getfield 9), (9, 54, 0, 0, 0, 0, .if_icmp .ge 45), (12, 0, 3, 0, 0, 0, .iload_n 3), (13, 0, 0, 0, 0, 0, .aload_n 0), (14, 7, 1, 236, 0, 0, .getfield 17), (17, 0, 0, 0, 0, 0, .arraylength), (18, 54, 0, 0, 0, 0, .if_icmp .ge 36), (21, 0, 0, 0, 0, 0, .aload_n 0), (22, 7, 1, 236, 0, 0, .getfield 17), (25, 0, 3, 0, 0, 0, .iload_n 3), (26, 0, 0, 0, 0, 0, .aaload), (27, 0, 4, 0, 0, 0, .astore 4), (29, 0, 4, 0, 0, 0, .aload 4), (31, 48, 0, 0, 0, 0, .ifnull 17), (34, 0, 1, 0, 0, 0, .iload_n 1), (35, 0, 4, 0, 0, 0, .aload 4), (37, 4, 6, 577, 0, 1, .getfield 24), (40, 0, 0, 0, 0, 0, .isub), (41, 0, 0, 0, 2, 0, .iconst 2), (42, 48, 0, 0, 0, 0, .if_icmp .gt 6), (45, 0, 2, 0, 1, 0, .iinc 2 1), (48, 0, 3, 0, 1, 0, .iinc 3 1), (51, 4, 0, 0, 0, 0, .goto (-47)), (54, 0, 2, 0, 0, 0, .iload_n 2), (55, 0, 0, 0, 0, 0, .ireturn)]
set_option maxRecDepth 100000 in
theorem okX5_countOn : hl_ok cX5_countOn RX5 5 false pX5_countOn = true := by decide +kernel
abbrev mX5_countOn : hl_M := (yX5_countOn, cX5_countOn, 5, (some .int))
theorem mtX5_countOn : hl_mv mX5_countOn 1 := ⟨⟨hl_T_of (k := 363) (by decide +kernel) rfl, hl_T_of (k := 55) (by decide +kernel) rfl, ⟨by decide +kernel, by decide +kernel⟩, by decide +kernel⟩, hl_T_of (k := 361) (by decide +kernel) rfl, hl_T_of (k := 362) (by decide +kernel) rfl⟩
def pX6_init : List hl_I := [(0, 0, 0, 0, 0, 0, .aload_n 0), (1, 1, 0, 89, 0, 0, .invokespecial 1), (4, 0, 0, 0, 0, 0, .aload_n 0), (5, 0, 1, 0, 0, 0, .iload_n 1), (6, 13, 0, 0, 0, 0, .ifCond .ge 7), (9, 0, 0, 0, 0, 0, .iconst 0), (10, 14, 0, 0, 0, 0, .goto 4), (13, 0, 1, 0, 0, 0, .iload_n 1), (14, 9, 0, 94, 0, 0, .newarray .long), (16, 8, 0, 90, 1, 0, .putfield 7), (19, 0, 0, 0, 0, 0, .return_)]
set_option maxRecDepth 100000 in
theorem okX6_init : hl_ok cX6_init RX6 2 true pX6_init = true := by decide +kernel
abbrev mX6_init : hl_M := (yX6_init, cX6_init, 2, none)
theorem mtX6_init : hl_mi mX6_init 1 := ⟨⟨hl_T_of (k := 88) (by decide +kernel) rfl, hl_T_of (k := 51) (by decide +kernel) rfl, ⟨by decide +kernel, by decide +kernel⟩, by decide +kernel⟩, hl_T_of (k := 87) (by decide +kernel) rfl, rfl⟩
def pX6_at : List hl_I := [(0, 0, 1, 0, 0, 0, .iload_n 1), (1, 22, 0, 0, 0, 0, .ifCond .lt 21), (4, 0, 1, 0, 0, 0, .iload_n 1), (5, 0, 0, 0, 0, 0, .aload_n 0), (6, 8, 0, 90, 0, 0, .getfield 7), (9, 0, 0, 0, 0, 0, .arraylength), (10, 22, 0, 0, 0, 0, .if_icmp .ge 12), (13, 0, 0, 0, 0, 0, .aload_n 0), (14, 8, 0, 90, 0, 0, .getfield 7), (17, 0, 1, 0, 0, 0, .iload_n 1), (18, 0, 0, 0, 0, 0, .laload), (19, 23, 0, 0, 0, 0, .goto 4), (22, 0, 0, 0, 0, 0, .lconst 0), (23, 0, 0, 0, 0, 0, .lreturn)]
set_option maxRecDepth 100000 in
theorem okX6_at : hl_ok cX6_at RX6 2 false pX6_at = true := by decide +kernel
abbrev mX6_at : hl_M := (yX6_at, cX6_at, 2, (some .long))
theorem mtX6_at : hl_mv mX6_at 1 := ⟨⟨hl_T_of (k := 281) (by decide +kernel) rfl, hl_T_of (k := 51) (by decide +kernel) rfl, ⟨by decide +kernel, by decide +kernel⟩, by decide +kernel⟩, hl_T_of (k := 279) (by decide +kernel) rfl, hl_T_of (k := 280) (by decide +kernel) rfl⟩
def pX6_intAt : List hl_I := [(0, 0, 1, 0, 0, 0, .iload_n 1), (1, 23, 0, 0, 0, 0, .ifCond .lt 22), (4, 0, 1, 0, 0, 0, .iload_n 1), (5, 0, 0, 0, 0, 0, .aload_n 0), (6, 8, 0, 90, 0, 0, .getfield 7), (9, 0, 0, 0, 0, 0, .arraylength), (10, 23, 0, 0, 0, 0, .if_icmp .ge 13), (13, 0, 0, 0, 0, 0, .aload_n 0), (14, 8, 0, 90, 0, 0, .getfield 7), (17, 0, 1, 0, 0, 0, .iload_n 1), (18, 0, 0, 0, 0, 0, .laload), (19, 0, 0, 0, 0, 0, .l2i), (20, 24, 0, 0, 0, 0, .goto 4), (23, 0, 0, 0, 0, 0, .iconst 0), (24, 0, 0, 0, 0, 0, .ireturn)]
set_option maxRecDepth 100000 in
theorem okX6_intAt : hl_ok cX6_intAt RX6 2 false pX6_intAt = true := by decide +kernel
abbrev mX6_intAt : hl_M := (yX6_intAt, cX6_intAt, 2, (some .int))
theorem mtX6_intAt : hl_mv mX6_intAt 1 := ⟨⟨hl_T_of (k := 317) (by decide +kernel) rfl, hl_T_of (k := 51) (by decide +kernel) rfl, ⟨by decide +kernel, by decide +kernel⟩, by decide +kernel⟩, hl_T_of (k := 315) (by decide +kernel) rfl, hl_T_of (k := 316) (by decide +kernel) rfl⟩
def pX6_put : List hl_I := [(0, 0, 1, 0, 0, 0, .iload_n 1), (1, 20, 0, 0, 0, 0, .ifCond .lt 19), (4, 0, 1, 0, 0, 0, .iload_n 1), (5, 0, 0, 0, 0, 0, .aload_n 0), (6, 8, 0, 90, 0, 0, .getfield 7), (9, 0, 0, 0, 0, 0, .arraylength), (10, 20, 0, 0, 0, 0, .if_icmp .ge 10), (13, 0, 0, 0, 0, 0, .aload_n 0), (14, 8, 0, 90, 0, 0, .getfield 7), (17, 0, 1, 0, 0, 0, .iload_n 1), (18, 0, 2, 0, 0, 0, .lload_n 2), (19, 0, 0, 0, 0, 0, .lastore), (20, 0, 0, 0, 0, 0, .return_)]
set_option maxRecDepth 100000 in
theorem okX6_put : hl_ok cX6_put RX6 4 false pX6_put = true := by decide +kernel
abbrev mX6_put : hl_M := (yX6_put, cX6_put, 4, none)
theorem mtX6_put : hl_mv mX6_put 2 := ⟨⟨hl_T_of (k := 99) (by decide +kernel) rfl, hl_T_of (k := 51) (by decide +kernel) rfl, ⟨by decide +kernel, by decide +kernel⟩, by decide +kernel⟩, hl_T_of (k := 97) (by decide +kernel) rfl, hl_T_of (k := 98) (by decide +kernel) rfl⟩
def pX6_add : List hl_I := [(0, 0, 1, 0, 0, 0, .iload_n 1), (1, 23, 0, 0, 0, 0, .ifCond .lt 22), (4, 0, 1, 0, 0, 0, .iload_n 1), (5, 0, 0, 0, 0, 0, .aload_n 0), (6, 8, 0, 90, 0, 0, .getfield 7), (9, 0, 0, 0, 0, 0, .arraylength), (10, 23, 0, 0, 0, 0, .if_icmp .ge 13), (13, 0, 0, 0, 0, 0, .aload_n 0), (14, 8, 0, 90, 0, 0, .getfield 7), (17, 0, 1, 0, 0, 0, .iload_n 1), (18, 0, 0, 0, 0, 0, .dup2), (19, 0, 0, 0, 0, 0, .laload), (20, 0, 2, 0, 0, 0, .lload_n 2), (21, 0, 0, 0, 0, 0, .ladd), (22, 0, 0, 0, 0, 0, .lastore), (23, 0, 0, 0, 0, 0, .return_)]
set_option maxRecDepth 100000 in
theorem okX6_add : hl_ok cX6_add RX6 4 false pX6_add = true := by decide +kernel
abbrev mX6_add : hl_M := (yX6_add, cX6_add, 4, none)
theorem mtX6_add : hl_mv mX6_add 2 := ⟨⟨hl_T_of (k := 327) (by decide +kernel) rfl, hl_T_of (k := 51) (by decide +kernel) rfl, ⟨by decide +kernel, by decide +kernel⟩, by decide +kernel⟩, hl_T_of (k := 325) (by decide +kernel) rfl, hl_T_of (k := 326) (by decide +kernel) rfl⟩
def pX7_init : List hl_I := [(0, 0, 0, 0, 0, 0, .aload_n 0), (1, 1, 0, 75, 0, 0, .invokespecial 3), (4, 0, 0, 0, 0, 0, .aload_n 0), (5, 3, 7, 78, 0, 0, .new 9), (8, 0, 0, 0, 0, 0, .dup), (9, 0, 0, 80, 0, 0, .invokespecial 11), (12, 9, 0, 244, 1, 0, .putfield 12), (15, 0, 0, 0, 0, 0, .aload_n 0), (16, 6, 8, 129, 0, 0, .new 16), (19, 0, 0, 0, 0, 0, .dup), (20, 0, 0, 131, 0, 0, .invokespecial 18), (23, 9, 1, 245, 1, 0, .putfield 19), (26, 0, 0, 0, 0, 0, .aload_n 0), (27, 5, 6, 169, 0, 0, .new 23), (30, 0, 0, 0, 0, 0, .dup), (31, 0, 0, 171, 0, 0, .invokespecial 25), (34, 9, 2, 246, 1, 0, .putfield 26), (37, 0, 0, 0, 0, 0, .aload_n 0), (38, 2, 4, 202, 0, 0, .new 30), (41, 0, 0, 0, 0, 0, .dup), (42, 0, 0, 204, 0, 0, .invokespecial 32), (45, 9, 3, 247, 1, 0, .putfield 33), (48, 0, 0, 0, 0, 0, .aload_n 0), (49, 7, 2, 227, 0, 0, .new 37), (52, 0, 0, 0, 0, 0, .dup), (53, 0, 0, 229, 0, 0, .invokespecial 39), (56, 9, 4, 248, 1, 0, .putfield 40), (59, 0, 0, 0, 0, 0, .aload_n 0), (60, 8, 1, 242, 0, 0, .new 44), (63, 0, 0, 0, 0, 0, .dup), (64, 0, 0, 0, 10, 0, .bipush 10), (66, 0, 0, 243, 0, 0, .invokespecial 46), (69, 9, 5, 249, 1, 0, .putfield 49), (72, 0, 0, 0, 0, 0, .aload_n 0), (73, 0, 0, 0, 0, 0, .iconst 0), (74, 9, 6, 250, 0, 0, .putfield 53), (77, 0, 0, 0, 0, 0, .return_)]
set_option maxRecDepth 100000 in
theorem okX7_init : hl_ok cX7_init RX7 1 true pX7_init = true := by decide +kernel
abbrev mX7_init : hl_M := (yX7_init, cX7_init, 1, none)
theorem mtX7_init : hl_mi mX7_init 0 := ⟨⟨hl_T_of (k := 74) (by decide +kernel) rfl, hl_T_of (k := 49) (by decide +kernel) rfl, ⟨by decide +kernel, by decide +kernel⟩, by decide +kernel⟩, hl_T_of (k := 73) (by decide +kernel) rfl, rfl⟩
def pX7_openAccount : List hl_I := [(0, 0, 0, 0, 0, 0, .aload_n 0), (1, 0, 1, 0, 0, 0, .iload_n 1), (2, 0, 0, 381, 0, 0, .invokevirtual 57), (5, 0, 0, 0, 0, 0, .aload_n 0), (6, 0, 2, 0, 0, 0, .iload_n 2), (7, 0, 0, 457, 0, 0, .invokevirtual 60), (10, 0, 0, 0, 0, 0, .aload_n 0), (11, 9, 0, 244, 0, 0, .getfield 12), (14, 3, 0, 101, 0, 1, .getfield 63), (17, 0, 0, 0, 10, 0, .bipush 10), (19, 32, 0, 0, 0, 0, .if_icmp .lt 13), (22, 100, 0, 463, 0, 0, .new 66), (25, 0, 0, 0, 0, 0, .dup), (26, 999, 0, 0, 0, 0, .ldc 68), (28, 0, 0, 473, 0, 0, .invokespecial 70), (31, 0, 0, 0, 0, 0, .athrow), (32, 0, 0, 0, 0, 0, .aload_n 0), (33, 9, 0, 244, 0, 0, .getfield 12), (36, 0, 1, 0, 0, 0, .iload_n 1), (37, 0, 2, 0, 0, 0, .iload_n 2), (38, 0, 0, 479, 0, 0, .invokevirtual 73), (41, 0, 0, 0, 0, 0, .ireturn)]
set_option maxRecDepth 100000 in
theorem okX7_openAccount : hl_ok cX7_openAccount RX7 3 false pX7_openAccount = true := by decide +kernel
abbrev mX7_openAccount : hl_M := (yX7_openAccount, cX7_openAccount, 3, (some .int))
theorem mtX7_openAccount : hl_mv mX7_openAccount 2 := ⟨⟨hl_T_of (k := 380) (by decide +kernel) rfl, hl_T_of (k := 49) (by decide +kernel) rfl, ⟨by decide +kernel, by decide +kernel⟩, by decide +kernel⟩, hl_T_of (k := 378) (by decide +kernel) rfl, hl_T_of (k := 379) (by decide +kernel) rfl⟩
def pX7_setLimit : List hl_I := [(0, 0, 0, 0, 0, 0, .aload_n 0), (1, 0, 1, 0, 0, 0, .iload_n 1), (2, 0, 0, 515, 0, 0, .invokevirtual 77), (5, 0, 0, 0, 0, 0, .aload_n 0), (6, 0, 2, 0, 0, 0, .iload_n 2), (7, 0, 0, 457, 0, 0, .invokevirtual 60), (10, 0, 0, 0, 0, 0, .aload_n 0), (11, 9, 0, 244, 0, 0, .getfield 12), (14, 3, 2, 105, 0, 1, .getfield 80), (17, 0, 1, 0, 0, 0, .iload_n 1), (18, 0, 0, 314, 0, 0, .invokevirtual 83), (21, 0, 3, 0, 0, 0, .istore_n 3), (22, 0, 0, 0, 0, 0, .aload_n 0), (23, 0, 1, 0, 0, 0, .iload_n 1), (24, 0, 0, 297, 0, 0, .invokevirtual 87), (27, 0, 3, 0, 0, 0, .iload_n 3), (28, 0, 0, 0, 0, 0, .i2l), (29, 0, 0, 0, 0, 0, .lsub), (30, 0, 2, 0, 0, 0, .iload_n 2), (31, 0, 0, 0, 0, 0, .i2l), (32, 0, 0, 0, 0, 0, .ladd), (33, 0, 0, 0, 0, 0, .lconst 0), (34, 0, 0, 0, 0, 0, .lcmp), (35, 48, 0, 0, 0, 0, .ifCond .ge 13), (38, 100, 0, 532, 0, 0, .new 91), (41, 0, 0, 0, 0, 0, .dup), (42, 999, 0, 0, 0, 0, .ldc 93), (44, 0, 0, 542, 0, 0, .invokespecial 95), (47, 0, 0, 0, 0, 0, .athrow), (48, 0, 0, 0, 0, 0, .aload_n 0), (49, 9, 0, 244, 0, 0, .getfield 12), (52, 3, 2, 105, 0, 1, .getfield 80), (55, 0, 1, 0, 0, 0, .iload_n 1), (56, 0, 2, 0, 0, 0, .iload_n 2), (57, 0, 0, 0, 0, 0, .i2l), (58, 0, 0, 306, 0, 0, .invokevirtual 96), (61, 0, 3, 0, 0, 0, .iload_n 3), (62, 0, 0, 0, 0, 0, .ireturn)]
set_option maxRecDepth 100000 in
theorem okX7_setLimit : hl_ok cX7_setLimit RX7 4 false pX7_setLimit = true := by decide +kernel
abbrev mX7_setLimit : hl_M := (yX7_setLimit, cX7_setLimit, 4, (some .int))
theorem mtX7_setLimit : hl_mv mX7_setLimit 2 := ⟨⟨hl_T_of (k := 514) (by decide +kernel) rfl, hl_T_of (k := 49) (by decide +kernel) rfl, ⟨by decide +kernel, by decide +kernel⟩, by decide +kernel⟩, hl_T_of (k := 512) (by decide +kernel) rfl, hl_T_of (k := 513) (by decide +kernel) rfl⟩
def pX7_setRate : List hl_I := [(0, 0, 0, 0, 0, 0, .aload_n 0), (1, 0, 1, 0, 0, 0, .iload_n 1), (2, 0, 0, 381, 0, 0, .invokevirtual 57), (5, 0, 2, 0, 0, 0, .iload_n 2), (6, 0, 0, 0, 100, 0, .bipush 100), (8, 18, 0, 0, 0, 0, .if_icmp .lt 10), (11, 0, 2, 0, 0, 0, .iload_n 2), (12, 0, 0, 0, 1000, 0, .sipush 1000), (15, 28, 0, 0, 0, 0, .if_icmp .le 13), (18, 100, 0, 385, 0, 0, .new 100), (21, 0, 0, 0, 0, 0, .dup), (22, 999, 0, 0, 0, 0, .ldc 102), (24, 0, 0, 431, 0, 0, .invokespecial 104), (27, 0, 0, 0, 0, 0, .athrow), (28, 0, 0, 0, 0, 0, .aload_n 0), (29, 9, 0, 244, 0, 0, .getfield 12), (32, 3, 6, 113, 0, 1, .getfield 105), (35, 0, 1, 0, 0, 0, .iload_n 1), (36, 0, 0, 314, 0, 0, .invokevirtual 83), (39, 0, 3, 0, 0, 0, .istore_n 3), (40, 0, 0, 0, 0, 0, .aload_n 0), (41, 9, 0, 244, 0, 0, .getfield 12), (44, 3, 6, 113, 0, 1, .getfield 105), (47, 0, 1, 0, 0, 0, .iload_n 1), (48, 0, 2, 0, 0, 0, .iload_n 2), (49, 0, 0, 0, 0, 0, .i2l), (50, 0, 0, 306, 0, 0, .invokevirtual 96), (53, 0, 3, 0, 0, 0, .iload_n 3), (54, 0, 0, 0, 0, 0, .ireturn)]
set_option maxRecDepth 100000 in
theorem okX7_setRate : hl_ok cX7_setRate RX7 4 false pX7_setRate = true := by decide +kernel
abbrev mX7_setRate : hl_M := (yX7_setRate, cX7_setRate, 4, (some .int))
theorem mtX7_setRate : hl_mv mX7_setRate 2 := ⟨⟨hl_T_of (k := 554) (by decide +kernel) rfl, hl_T_of (k := 49) (by decide +kernel) rfl, ⟨by decide +kernel, by decide +kernel⟩, by decide +kernel⟩, hl_T_of (k := 552) (by decide +kernel) rfl, hl_T_of (k := 553) (by decide +kernel) rfl⟩
def pX7_deposit : List hl_I := [(0, 4, 8, 563, 0, 0, .new 108), (3, 0, 0, 0, 0, 0, .dup), (4, 0, 0, 0, 100, 0, .bipush 100), (6, 0, 1, 0, 0, 0, .iload_n 1), (7, 0, 2, 0, 0, 0, .iload_n 2), (8, 0, 3, 0, 0, 0, .iload_n 3), (9, 0, 0, 0, 0, 0, .iconst 0), (10, 0, 0, 0, 0, 0, .iconst 0), (11, 0, 0, 565, 0, 0, .invokespecial 110), (14, 0, 4, 0, 0, 0, .astore 4), (16, 0, 0, 0, 0, 0, .aload_n 0), (17, 9, 4, 248, 0, 0, .getfield 40), (20, 0, 4, 0, 0, 0, .aload 4), (22, 0, 0, 0, 0, 0, .aload_n 0), (23, 9, 6, 250, 0, 0, .getfield 53), (26, 0, 0, 597, 0, 0, .invokevirtual 113), (29, 45, 0, 0, 0, 0, .ifCond .eq 16), (32, 0, 0, 0, 0, 0, .aload_n 0), (33, 9, 4, 248, 0, 0, .getfield 40), (36, 0, 1, 0, 0, 0, .iload_n 1), (37, 0, 0, 0, 0, 0, .aload_n 0), (38, 9, 6, 250, 0, 0, .getfield 53), (41, 0, 0, 609, 0, 0, .invokevirtual 117), (44, 0, 0, 0, 0, 0, .ireturn), (45, 0, 0, 0, 0, 0, .aload_n 0), (46, 0, 1, 0, 0, 0, .iload_n 1), (47, 0, 0, 613, 0, 0, .invokevirtual 120), (50, 0, 0, 0, 0, 0, .aload_n 0), (51, 0, 3, 0, 0, 0, .iload_n 3), (52, 0, 0, 623, 0, 0, .invokevirtual 123), (55, 0, 0, 0, 0, 0, .aload_n 0), (56, 0, 2, 0, 0, 0, .iload_n 2), (57, 0, 0, 515, 0, 0, .invokevirtual 77), (60, 0, 0, 0, 0, 0, .aload_n 0), (61, 0, 0, 628, 0, 0, .invokevirtual 126), (64, 0, 0, 0, 0, 0, .aload_n 0), (65, 9, 4, 248, 0, 0, .getfield 40), (68, 0, 4, 0, 0, 0, .aload 4), (70, 0, 0, 0, 0, 0, .aload_n 0), (71, 9, 6, 250, 0, 0, .getfield 53), (74, 0, 0, 0, 0, 0, .aload_n 0), (75, 0, 0, 0, 100, 0, .bipush 100), (77, 0, 0, 0, (-1), 0, .iconst (-1)), (78, 0, 2, 0, 0, 0, .iload_n 2), (79, 0, 3, 0, 0, 0, .iload_n 3), (80, 0, 3, 0, 0, 0, .iload_n 3), (81, 0, 0, 633, 0, 0, .invokevirtual 129), (84, 0, 0, 652, 0, 0, .invokevirtual 133), (87, 0, 0, 0, 0, 0, .ireturn)]
set_option maxRecDepth 100000 in
theorem okX7_deposit : hl_ok cX7_deposit RX7 5 false pX7_deposit = true := by decide +kernel
abbrev mX7_deposit : hl_M := (yX7_deposit, cX7_deposit, 5, (some .int))
theorem mtX7_deposit : hl_mv mX7_deposit 3 := ⟨⟨hl_T_of (k := 562) (by decide +kernel) rfl, hl_T_of (k := 49) (by decide +kernel) rfl, ⟨by decide +kernel, by decide +kernel⟩, by decide +kernel⟩, hl_T_of (k := 560) (by decide +kernel) rfl, hl_T_of (k := 561) (by decide +kernel) rfl⟩
def pX7_withdraw : List hl_I := [(0, 4, 8, 563, 0, 0, .new 108), (3, 0, 0, 0, 0, 0, .dup), (4, 0, 0, 0, 119, 0, .bipush 119), (6, 0, 1, 0, 0, 0, .iload_n 1), (7, 0, 2, 0, 0, 0, .iload_n 2), (8, 0, 3, 0, 0, 0, .iload_n 3), (9, 0, 0, 0, 0, 0, .iconst 0), (10, 0, 0, 0, 0, 0, .iconst 0), (11, 0, 0, 565, 0, 0, .invokespecial 110), (14, 0, 4, 0, 0, 0, .astore 4), (16, 0, 0, 0, 0, 0, .aload_n 0), (17, 9, 4, 248, 0, 0, .getfield 40), (20, 0, 4, 0, 0, 0, .aload 4), (22, 0, 0, 0, 0, 0, .aload_n 0), (23, 9, 6, 250, 0, 0, .getfield 53), (26, 0, 0, 597, 0, 0, .invokevirtual 113), (29, 45, 0, 0, 0, 0, .ifCond .eq 16), (32, 0, 0, 0, 0, 0, .aload_n 0), (33, 9, 4, 248, 0, 0, .getfield 40), (36, 0, 1, 0, 0, 0, .iload_n 1), (37, 0, 0, 0, 0, 0, .aload_n 0), (38, 9, 6, 250, 0, 0, .getfield 53), (41, 0, 0, 609, 0, 0, .invokevirtual 117), (44, 0, 0, 0, 0, 0, .ireturn), (45, 0, 0, 0, 0, 0, .aload_n 0), (46, 0, 1, 0, 0, 0, .iload_n 1), (47, 0, 0, 613, 0, 0, .invokevirtual 120), (50, 0, 0, 0, 0, 0, .aload_n 0), (51, 0, 3, 0, 0, 0, .iload_n 3), (52, 0, 0, 623, 0, 0, .invokevirtual 123), (55, 0, 0, 0, 0, 0, .aload_n 0), (56, 0, 2, 0, 0, 0, .iload_n 2), (57, 0, 0, 515, 0, 0, .invokevirtual 77), (60, 0, 0, 0, 0, 0, .aload_n 0), (61, 0, 2, 0, 0, 0, .iload_n 2), (62, 0, 3, 0, 0, 0, .iload_n 3), (63, 0, 0, 663, 0, 0, .invokevirtual 137), (66, 0, 0, 0, 0, 0, .aload_n 0), (67, 0, 0, 628, 0, 0, .invokevirtual 126), (70, 0, 0, 0, 0, 0, .aload_n 0), (71, 9, 4, 248, 0, 0, .getfield 40), (74, 0, 4, 0, 0, 0, .aload 4), (76, 0, 0, 0, 0, 0, .aload_n 0), (77, 9, 6, 250, 0, 0, .getfield 53), (80, 0, 0, 0, 0, 0, .aload_n 0), (81, 0, 0, 0, 119, 0, .bipush 119), (83, 0, 2, 0, 0, 0, .iload_n 2), (84, 0, 0, 0, (-1), 0, .iconst (-1)), (85, 0, 3, 0, 0, 0, .iload_n 3), (86, 0, 3, 0, 0, 0, .iload_n 3), (87, 0, 0, 633, 0, 0, .invokevirtual 129), (90, 0, 0, 652, 0, 0, .invokevirtual 133), (93, 0, 0, 0, 0, 0, .ireturn)]
set_option maxRecDepth 100000 in
theorem okX7_withdraw : hl_ok cX7_withdraw RX7 5 false pX7_withdraw = true := by decide +kernel
abbrev mX7_withdraw : hl_M := (yX7_withdraw, cX7_withdraw, 5, (some .int))
theorem mtX7_withdraw : hl_mv mX7_withdraw 3 := ⟨⟨hl_T_of (k := 662) (by decide +kernel) rfl, hl_T_of (k := 49) (by decide +kernel) rfl, ⟨by decide +kernel, by decide +kernel⟩, by decide +kernel⟩, hl_T_of (k := 660) (by decide +kernel) rfl, hl_T_of (k := 661) (by decide +kernel) rfl⟩
def pX7_transfer : List hl_I := [(0, 4, 8, 563, 0, 0, .new 108), (3, 0, 0, 0, 0, 0, .dup), (4, 0, 0, 0, 116, 0, .bipush 116), (6, 0, 1, 0, 0, 0, .iload_n 1), (7, 0, 2, 0, 0, 0, .iload_n 2), (8, 0, 3, 0, 0, 0, .iload_n 3), (9, 0, 4, 0, 0, 0, .iload 4), (11, 0, 0, 0, 0, 0, .iconst 0), (12, 0, 0, 565, 0, 0, .invokespecial 110), (15, 0, 5, 0, 0, 0, .astore 5), (17, 0, 0, 0, 0, 0, .aload_n 0), (18, 9, 4, 248, 0, 0, .getfield 40), (21, 0, 5, 0, 0, 0, .aload 5), (23, 0, 0, 0, 0, 0, .aload_n 0), (24, 9, 6, 250, 0, 0, .getfield 53), (27, 0, 0, 597, 0, 0, .invokevirtual 113), (30, 46, 0, 0, 0, 0, .ifCond .eq 16), (33, 0, 0, 0, 0, 0, .aload_n 0), (34, 9, 4, 248, 0, 0, .getfield 40), (37, 0, 1, 0, 0, 0, .iload_n 1), (38, 0, 0, 0, 0, 0, .aload_n 0), (39, 9, 6, 250, 0, 0, .getfield 53), (42, 0, 0, 609, 0, 0, .invokevirtual 117), (45, 0, 0, 0, 0, 0, .ireturn), (46, 0, 0, 0, 0, 0, .aload_n 0), (47, 0, 1, 0, 0, 0, .iload_n 1), (48, 0, 0, 613, 0, 0, .invokevirtual 120), (51, 0, 0, 0, 0, 0, .aload_n 0), (52, 0, 4, 0, 0, 0, .iload 4), (54, 0, 0, 623, 0, 0, .invokevirtual 123), (57, 0, 0, 0, 0, 0, .aload_n 0), (58, 0, 2, 0, 0, 0, .iload_n 2), (59, 0, 3, 0, 0, 0, .iload_n 3), (60, 0, 0, 675, 0, 0, .invokevirtual 141), (63, 0, 0, 0, 0, 0, .aload_n 0), (64, 0, 2, 0, 0, 0, .iload_n 2), (65, 0, 4, 0, 0, 0, .iload 4), (67, 0, 0, 663, 0, 0, .invokevirtual 137), (70, 0, 0, 0, 0, 0, .aload_n 0), (71, 9, 0, 244, 0, 0, .getfield 12), (74, 0, 2, 0, 0, 0, .iload_n 2), (75, 0, 3, 0, 0, 0, .iload_n 3), (76, 0, 4, 0, 0, 0, .iload 4), (78, 0, 0, 318, 0, 0, .invokevirtual 144), (81, 0, 6, 0, 0, 0, .istore 6), (83, 0, 0, 0, 0, 0, .aload_n 0), (84, 0, 6, 0, 0, 0, .iload 6), (86, 0, 0, 680, 0, 0, .invokevirtual 148), (89, 0, 0, 0, 0, 0, .aload_n 0), (90, 0, 0, 628, 0, 0, .invokevirtual 126), (93, 0, 0, 0, 0, 0, .aload_n 0), (94, 9, 4, 248, 0, 0, .getfield 40), (97, 0, 5, 0, 0, 0, .aload 5), (99, 0, 0, 0, 0, 0, .aload_n 0), (100, 9, 6, 250, 0, 0, .getfield 53), (103, 0, 0, 0, 0, 0, .aload_n 0), (104, 0, 0, 0, 116, 0, .bipush 116), (106, 0, 2, 0, 0, 0, .iload_n 2), (107, 0, 3, 0, 0, 0, .iload_n 3), (108, 0, 4, 0, 0, 0, .iload 4), (110, 0, 6, 0, 0, 0, .iload 6), (112, 0, 0, 633, 0, 0, .invokevirtual 129), (115, 0, 0, 652, 0, 0, .invokevirtual 133), (118, 0, 0, 0, 0, 0, .ireturn)]
set_option maxRecDepth 100000 in
theorem okX7_transfer : hl_ok cX7_transfer RX7 7 false pX7_transfer = true := by decide +kernel
abbrev mX7_transfer : hl_M := (yX7_transfer, cX7_transfer, 7, (some .int))
theorem mtX7_transfer : hl_mv mX7_transfer 4 := ⟨⟨hl_T_of (k := 674) (by decide +kernel) rfl, hl_T_of (k := 49) (by decide +kernel) rfl, ⟨by decide +kernel, by decide +kernel⟩, by decide +kernel⟩, hl_T_of (k := 672) (by decide +kernel) rfl, hl_T_of (k := 673) (by decide +kernel) rfl⟩
def pX7_hold : List hl_I := [(0, 4, 8, 563, 0, 0, .new 108), (3, 0, 0, 0, 0, 0, .dup), (4, 0, 0, 0, 104, 0, .bipush 104), (6, 0, 1, 0, 0, 0, .iload_n 1), (7, 0, 2, 0, 0, 0, .iload_n 2), (8, 0, 3, 0, 0, 0, .iload_n 3), (9, 0, 4, 0, 0, 0, .iload 4), (11, 0, 5, 0, 0, 0, .iload 5), (13, 0, 0, 565, 0, 0, .invokespecial 110), (16, 0, 6, 0, 0, 0, .astore 6), (18, 0, 0, 0, 0, 0, .aload_n 0), (19, 9, 4, 248, 0, 0, .getfield 40), (22, 0, 6, 0, 0, 0, .aload 6), (24, 0, 0, 0, 0, 0, .aload_n 0), (25, 9, 6, 250, 0, 0, .getfield 53), (28, 0, 0, 597, 0, 0, .invokevirtual 113), (31, 47, 0, 0, 0, 0, .ifCond .eq 16), (34, 0, 0, 0, 0, 0, .aload_n 0), (35, 9, 4, 248, 0, 0, .getfield 40), (38, 0, 1, 0, 0, 0, .iload_n 1), (39, 0, 0, 0, 0, 0, .aload_n 0), (40, 9, 6, 250, 0, 0, .getfield 53), (43, 0, 0, 609, 0, 0, .invokevirtual 117), (46, 0, 0, 0, 0, 0, .ireturn), (47, 0, 0, 0, 0, 0, .aload_n 0), (48, 0, 1, 0, 0, 0, .iload_n 1), (49, 0, 0, 613, 0, 0, .invokevirtual 120), (52, 0, 0, 0, 0, 0, .aload_n 0), (53, 0, 4, 0, 0, 0, .iload 4), (55, 0, 0, 623, 0, 0, .invokevirtual 123), (58, 0, 5, 0, 0, 0, .iload 5), (60, 70, 0, 0, 0, 0, .ifCond .lt 10), (63, 0, 5, 0, 0, 0, .iload 5), (65, 0, 0, 0, 20, 0, .bipush 20), (67, 80, 0, 0, 0, 0, .if_icmp .le 13), (70, 100, 0, 385, 0, 0, .new 100), (73, 0, 0, 0, 0, 0, .dup), (74, 999, 0, 0, 0, 0, .ldc 151), (76, 0, 0, 431, 0, 0, .invokespecial 104), (79, 0, 0, 0, 0, 0, .athrow), (80, 0, 0, 0, 0, 0, .aload_n 0), (81, 0, 2, 0, 0, 0, .iload_n 2), (82, 0, 3, 0, 0, 0, .iload_n 3), (83, 0, 0, 675, 0, 0, .invokevirtual 141), (86, 0, 0, 0, 0, 0, .aload_n 0), (87, 0, 2, 0, 0, 0, .iload_n 2), (88, 0, 4, 0, 0, 0, .iload 4), (90, 0, 0, 663, 0, 0, .invokevirtual 137), (93, 0, 0, 0, 0, 0, .aload_n 0), (94, 9, 2, 246, 0, 0, .getfield 26), (97, 5, 0, 178, 0, 1, .getfield 153), (100, 0, 0, 0, 30, 0, .bipush 30), (102, 115, 0, 0, 0, 0, .if_icmp .lt 13), (105, 100, 0, 463, 0, 0, .new 66), (108, 0, 0, 0, 0, 0, .dup), (109, 999, 0, 0, 0, 0, .ldc 154), (111, 0, 0, 473, 0, 0, .invokespecial 70), (114, 0, 0, 0, 0, 0, .athrow), (115, 0, 0, 0, 0, 0, .aload_n 0), (116, 9, 4, 248, 0, 0, .getfield 40), (119, 0, 6, 0, 0, 0, .aload 6), (121, 0, 0, 0, 0, 0, .aload_n 0), (122, 9, 6, 250, 0, 0, .getfield 53), (125, 0, 0, 0, 0, 0, .aload_n 0), (126, 9, 2, 246, 0, 0, .getfield 26), (129, 0, 2, 0, 0, 0, .iload_n 2), (130, 0, 3, 0, 0, 0, .iload_n 3), (131, 0, 4, 0, 0, 0, .iload 4), (133, 0, 0, 0, 0, 0, .aload_n 0), (134, 9, 6, 250, 0, 0, .getfield 53), (137, 0, 5, 0, 0, 0, .iload 5), (139, 0, 0, 0, 0, 0, .iadd), (140, 0, 0, 694, 0, 0, .invokevirtual 156), (143, 0, 0, 652, 0, 0, .invokevirtual 133), (146, 0, 0, 0, 0, 0, .ireturn)]
set_option maxRecDepth 100000 in
theorem okX7_hold : hl_ok cX7_hold RX7 7 false pX7_hold = true := by decide +kernel
abbrev mX7_hold : hl_M := (yX7_hold, cX7_hold, 7, (some .int))
theorem mtX7_hold : hl_mv mX7_hold 5 := ⟨⟨hl_T_of (k := 691) (by decide +kernel) rfl, hl_T_of (k := 49) (by decide +kernel) rfl, ⟨by decide +kernel, by decide +kernel⟩, by decide +kernel⟩, hl_T_of (k := 689) (by decide +kernel) rfl, hl_T_of (k := 690) (by decide +kernel) rfl⟩
def pX7_capture : List hl_I := [(0, 4, 8, 563, 0, 0, .new 108), (3, 0, 0, 0, 0, 0, .dup), (4, 0, 0, 0, 99, 0, .bipush 99), (6, 0, 1, 0, 0, 0, .iload_n 1), (7, 0, 2, 0, 0, 0, .iload_n 2), (8, 0, 3, 0, 0, 0, .iload_n 3), (9, 0, 0, 0, 0, 0, .iconst 0), (10, 0, 0, 0, 0, 0, .iconst 0), (11, 0, 0, 565, 0, 0, .invokespecial 110), (14, 0, 4, 0, 0, 0, .astore 4), (16, 0, 0, 0, 0, 0, .aload_n 0), (17, 9, 4, 248, 0, 0, .getfield 40), (20, 0, 4, 0, 0, 0, .aload 4), (22, 0, 0, 0, 0, 0, .aload_n 0), (23, 9, 6, 250, 0, 0, .getfield 53), (26, 0, 0, 597, 0, 0, .invokevirtual 113), (29, 45, 0, 0, 0, 0, .ifCond .eq 16), (32, 0, 0, 0, 0, 0, .aload_n 0), (33, 9, 4, 248, 0, 0, .getfield 40), (36, 0, 1, 0, 0, 0, .iload_n 1), (37, 0, 0, 0, 0, 0, .aload_n 0), (38, 9, 6, 250, 0, 0, .getfield 53), (41, 0, 0, 609, 0, 0, .invokevirtual 117), (44, 0, 0, 0, 0, 0, .ireturn), (45, 0, 0, 0, 0, 0, .aload_n 0), (46, 0, 1, 0, 0, 0, .iload_n 1), (47, 0, 0, 613, 0, 0, .invokevirtual 120), (50, 0, 0, 0, 0, 0, .aload_n 0), (51, 0, 3, 0, 0, 0, .iload_n 3), (52, 0, 0, 623, 0, 0, .invokevirtual 123), (55, 0, 0, 0, 0, 0, .aload_n 0), (56, 0, 2, 0, 0, 0, .iload_n 2), (57, 0, 0, 706, 0, 0, .invokevirtual 160), (60, 0, 3, 0, 0, 0, .iload_n 3), (61, 0, 0, 0, 0, 0, .i2l), (62, 0, 0, 0, 0, 0, .aload_n 0), (63, 9, 2, 246, 0, 0, .getfield 26), (66, 5, 3, 184, 0, 1, .getfield 163), (69, 0, 2, 0, 0, 0, .iload_n 2), (70, 0, 0, 301, 0, 0, .invokevirtual 166), (73, 0, 0, 0, 0, 0, .lcmp), (74, 87, 0, 0, 0, 0, .ifCond .le 13), (77, 100, 0, 532, 0, 0, .new 91), (80, 0, 0, 0, 0, 0, .dup), (81, 999, 0, 0, 0, 0, .ldc 169), (83, 0, 0, 542, 0, 0, .invokespecial 95), (86, 0, 0, 0, 0, 0, .athrow), (87, 0, 0, 0, 0, 0, .aload_n 0), (88, 9, 2, 246, 0, 0, .getfield 26), (91, 5, 1, 180, 0, 1, .getfield 171), (94, 0, 2, 0, 0, 0, .iload_n 2), (95, 0, 0, 314, 0, 0, .invokevirtual 83), (98, 0, 5, 0, 0, 0, .istore 5), (100, 0, 0, 0, 0, 0, .aload_n 0), (101, 9, 2, 246, 0, 0, .getfield 26), (104, 5, 2, 182, 0, 1, .getfield 174), (107, 0, 2, 0, 0, 0, .iload_n 2), (108, 0, 0, 314, 0, 0, .invokevirtual 83), (111, 0, 6, 0, 0, 0, .istore 6), (113, 0, 0, 0, 0, 0, .aload_n 0), (114, 9, 0, 244, 0, 0, .getfield 12), (117, 0, 5, 0, 0, 0, .iload 5), (119, 0, 6, 0, 0, 0, .iload 6), (121, 0, 3, 0, 0, 0, .iload_n 3), (122, 0, 0, 318, 0, 0, .invokevirtual 144), (125, 0, 7, 0, 0, 0, .istore 7), (127, 0, 0, 0, 0, 0, .aload_n 0), (128, 0, 7, 0, 0, 0, .iload 7), (130, 0, 0, 680, 0, 0, .invokevirtual 148), (133, 0, 0, 0, 0, 0, .aload_n 0), (134, 0, 0, 628, 0, 0, .invokevirtual 126), (137, 0, 0, 0, 0, 0, .aload_n 0), (138, 9, 2, 246, 0, 0, .getfield 26), (141, 5, 5, 188, 0, 1, .getfield 177), (144, 0, 2, 0, 0, 0, .iload_n 2), (145, 0, 0, 733, 0, 99, .ldc2_w 180), (148, 0, 0, 306, 0, 0, .invokevirtual 96), (151, 0, 0, 0, 0, 0, .aload_n 0), (152, 9, 4, 248, 0, 0, .getfield 40), (155, 0, 4, 0, 0, 0, .aload 4), (157, 0, 0, 0, 0, 0, .aload_n 0), (158, 9, 6, 250, 0, 0, .getfield 53), (161, 0, 0, 0, 0, 0, .aload_n 0), (162, 0, 0, 0, 99, 0, .bipush 99), (164, 0, 5, 0, 0, 0, .iload 5), (166, 0, 6, 0, 0, 0, .iload 6), (168, 0, 3, 0, 0, 0, .iload_n 3), (169, 0, 7, 0, 0, 0, .iload 7), (171, 0, 0, 633, 0, 0, .invokevirtual 129), (174, 0, 0, 652, 0, 0, .invokevirtual 133), (177, 0, 0, 0, 0, 0, .ireturn)]
set_option maxRecDepth 100000 in
theorem okX7_capture : hl_ok cX7_capture RX7 8 false pX7_capture = true := by decide +kernel
abbrev mX7_capture : hl_M := (yX7_capture, cX7_capture, 8, (some .int))
theorem mtX7_capture : hl_mv mX7_capture 3 := ⟨⟨hl_T_of (k := 705) (by decide +kernel) rfl, hl_T_of (k := 49) (by decide +kernel) rfl, ⟨by decide +kernel, by decide +kernel⟩, by decide +kernel⟩, hl_T_of (k := 703) (by decide +kernel) rfl, hl_T_of (k := 704) (by decide +kernel) rfl⟩
def pX7_release : List hl_I := [(0, 0, 0, 0, 0, 0, .aload_n 0), (1, 0, 1, 0, 0, 0, .iload_n 1), (2, 0, 0, 706, 0, 0, .invokevirtual 160), (5, 0, 0, 0, 0, 0, .aload_n 0), (6, 9, 2, 246, 0, 0, .getfield 26), (9, 5, 5, 188, 0, 1, .getfield 177), (12, 0, 1, 0, 0, 0, .iload_n 1), (13, 0, 0, 741, 0, 114, .ldc2_w 182), (16, 0, 0, 306, 0, 0, .invokevirtual 96), (19, 0, 0, 0, 0, 0, .aload_n 0), (20, 9, 2, 246, 0, 0, .getfield 26), (23, 5, 3, 184, 0, 1, .getfield 163), (26, 0, 1, 0, 0, 0, .iload_n 1), (27, 0, 0, 314, 0, 0, .invokevirtual 83), (30, 0, 0, 0, 0, 0, .ireturn)]
set_option maxRecDepth 100000 in
theorem okX7_release : hl_ok cX7_release RX7 2 false pX7_release = true := by decide +kernel
abbrev mX7_release : hl_M := (yX7_release, cX7_release, 2, (some .int))
theorem mtX7_release : hl_mv mX7_release 1 := ⟨⟨hl_T_of (k := 740) (by decide +kernel) rfl, hl_T_of (k := 49) (by decide +kernel) rfl, ⟨by decide +kernel, by decide +kernel⟩, by decide +kernel⟩, hl_T_of (k := 738) (by decide +kernel) rfl, hl_T_of (k := 739) (by decide +kernel) rfl⟩
def pX7_reverse : List hl_I := [(0, 4, 8, 563, 0, 0, .new 108), (3, 0, 0, 0, 0, 0, .dup), (4, 0, 0, 0, 114, 0, .bipush 114), (6, 0, 1, 0, 0, 0, .iload_n 1), (7, 0, 2, 0, 0, 0, .iload_n 2), (8, 0, 0, 0, 0, 0, .iconst 0), (9, 0, 0, 0, 0, 0, .iconst 0), (10, 0, 0, 0, 0, 0, .iconst 0), (11, 0, 0, 565, 0, 0, .invokespecial 110), (14, 0, 3, 0, 0, 0, .astore_n 3), (15, 0, 0, 0, 0, 0, .aload_n 0), (16, 9, 4, 248, 0, 0, .getfield 40), (19, 0, 3, 0, 0, 0, .aload_n 3), (20, 0, 0, 0, 0, 0, .aload_n 0), (21, 9, 6, 250, 0, 0, .getfield 53), (24, 0, 0, 597, 0, 0, .invokevirtual 113), (27, 43, 0, 0, 0, 0, .ifCond .eq 16), (30, 0, 0, 0, 0, 0, .aload_n 0), (31, 9, 4, 248, 0, 0, .getfield 40), (34, 0, 1, 0, 0, 0, .iload_n 1), (35, 0, 0, 0, 0, 0, .aload_n 0), (36, 9, 6, 250, 0, 0, .getfield 53), (39, 0, 0, 609, 0, 0, .invokevirtual 117), (42, 0, 0, 0, 0, 0, .ireturn), (43, 0, 0, 0, 0, 0, .aload_n 0), (44, 0, 1, 0, 0, 0, .iload_n 1), (45, 0, 0, 613, 0, 0, .invokevirtual 120), (48, 0, 0, 0, 0, 0, .aload_n 0), (49, 0, 2, 0, 0, 0, .iload_n 2), (50, 0, 0, 749, 0, 0, .invokevirtual 184), (53, 0, 0, 0, 0, 0, .aload_n 0), (54, 9, 1, 245, 0, 0, .getfield 19), (57, 6, 1, 140, 0, 1, .getfield 187), (60, 0, 2, 0, 0, 0, .iload_n 2), (61, 0, 0, 301, 0, 0, .invokevirtual 166), (64, 0, 0, 741, 0, 114, .ldc2_w 182), (67, 0, 0, 0, 0, 0, .lcmp), (68, 82, 0, 0, 0, 0, .ifCond .eq 14), (71, 0, 0, 0, 0, 0, .aload_n 0), (72, 9, 1, 245, 0, 0, .getfield 19), (75, 0, 2, 0, 0, 0, .iload_n 2), (76, 0, 0, 754, 0, 0, .invokevirtual 190), (79, 92, 0, 0, 0, 0, .ifCond .eq 13), (82, 100, 0, 716, 0, 0, .new 194), (85, 0, 0, 0, 0, 0, .dup), (86, 999, 0, 0, 0, 0, .ldc 196), (88, 0, 0, 726, 0, 0, .invokespecial 198), (91, 0, 0, 0, 0, 0, .athrow), (92, 0, 0, 0, 0, 0, .aload_n 0), (93, 9, 1, 245, 0, 0, .getfield 19), (96, 6, 3, 144, 0, 1, .getfield 199), (99, 0, 2, 0, 0, 0, .iload_n 2), (100, 0, 0, 314, 0, 0, .invokevirtual 83), (103, 0, 4, 0, 0, 0, .istore 4), (105, 0, 0, 0, 0, 0, .aload_n 0), (106, 9, 1, 245, 0, 0, .getfield 19), (109, 6, 5, 148, 0, 1, .getfield 200), (112, 0, 2, 0, 0, 0, .iload_n 2), (113, 0, 0, 314, 0, 0, .invokevirtual 83), (116, 0, 5, 0, 0, 0, .istore 5), (118, 0, 4, 0, 0, 0, .iload 4), (120, 0, 0, 0, (-1), 0, .iconst (-1)), (121, 132, 0, 0, 0, 0, .if_icmp .eq 11), (124, 0, 0, 0, 0, 0, .aload_n 0), (125, 0, 4, 0, 0, 0, .iload 4), (127, 0, 5, 0, 0, 0, .iload 5), (129, 0, 0, 663, 0, 0, .invokevirtual 137), (132, 0, 0, 0, 0, 0, .aload_n 0), (133, 0, 0, 628, 0, 0, .invokevirtual 126), (136, 0, 0, 0, 0, 0, .aload_n 0), (137, 9, 1, 245, 0, 0, .getfield 19), (140, 6, 2, 142, 0, 1, .getfield 203), (143, 0, 2, 0, 0, 0, .iload_n 2), (144, 0, 0, 314, 0, 0, .invokevirtual 83), (147, 0, 6, 0, 0, 0, .istore 6), (149, 0, 0, 0, 0, 0, .aload_n 0), (150, 0, 0, 0, 114, 0, .bipush 114), (152, 0, 4, 0, 0, 0, .iload 4), (154, 0, 6, 0, 0, 0, .iload 6), (156, 0, 5, 0, 0, 0, .iload 5), (158, 0, 0, 0, 0, 0, .aload_n 0), (159, 9, 1, 245, 0, 0, .getfield 19), (162, 6, 4, 146, 0, 1, .getfield 204), (165, 0, 2, 0, 0, 0, .iload_n 2), (166, 0, 0, 314, 0, 0, .invokevirtual 83), (169, 0, 0, 633, 0, 0, .invokevirtual 129), (172, 0, 7, 0, 0, 0, .istore 7), (174, 0, 0, 0, 0, 0, .aload_n 0), (175, 9, 1, 245, 0, 0, .getfield 19), (178, 6, 7, 151, 0, 1, .getfield 207), (181, 0, 2, 0, 0, 0, .iload_n 2), (182, 0, 7, 0, 0, 0, .iload 7), (184, 0, 0, 0, 0, 0, .i2l), (185, 0, 0, 306, 0, 0, .invokevirtual 96), (188, 0, 0, 0, 0, 0, .aload_n 0), (189, 9, 4, 248, 0, 0, .getfield 40), (192, 0, 3, 0, 0, 0, .aload_n 3), (193, 0, 0, 0, 0, 0, .aload_n 0), (194, 9, 6, 250, 0, 0, .getfield 53), (197, 0, 7, 0, 0, 0, .iload 7), (199, 0, 0, 652, 0, 0, .invokevirtual 133), (202, 0, 0, 0, 0, 0, .ireturn)]
set_option maxRecDepth 100000 in
theorem okX7_reverse : hl_ok cX7_reverse RX7 8 false pX7_reverse = true := by decide +kernel
abbrev mX7_reverse : hl_M := (yX7_reverse, cX7_reverse, 8, (some .int))
theorem mtX7_reverse : hl_mv mX7_reverse 2 := ⟨⟨hl_T_of (k := 748) (by decide +kernel) rfl, hl_T_of (k := 49) (by decide +kernel) rfl, ⟨by decide +kernel, by decide +kernel⟩, by decide +kernel⟩, hl_T_of (k := 746) (by decide +kernel) rfl, hl_T_of (k := 747) (by decide +kernel) rfl⟩
def pX7_addPayment : List hl_I := [(0, 0, 0, 0, 0, 0, .aload_n 0), (1, 0, 3, 0, 0, 0, .iload_n 3), (2, 0, 0, 623, 0, 0, .invokevirtual 123), (5, 0, 0, 0, 0, 0, .aload_n 0), (6, 0, 1, 0, 0, 0, .iload_n 1), (7, 0, 2, 0, 0, 0, .iload_n 2), (8, 0, 0, 675, 0, 0, .invokevirtual 141), (11, 0, 0, 0, 0, 0, .aload_n 0), (12, 9, 3, 247, 0, 0, .getfield 33), (15, 2, 0, 211, 0, 1, .getfield 210), (18, 0, 0, 0, 12, 0, .bipush 12), (20, 33, 0, 0, 0, 0, .if_icmp .lt 13), (23, 100, 0, 463, 0, 0, .new 66), (26, 0, 0, 0, 0, 0, .dup), (27, 999, 0, 0, 0, 0, .ldc 211), (29, 0, 0, 473, 0, 0, .invokespecial 70), (32, 0, 0, 0, 0, 0, .athrow), (33, 0, 0, 0, 0, 0, .aload_n 0), (34, 9, 3, 247, 0, 0, .getfield 33), (37, 0, 1, 0, 0, 0, .iload_n 1), (38, 0, 2, 0, 0, 0, .iload_n 2), (39, 0, 3, 0, 0, 0, .iload_n 3), (40, 0, 0, 768, 0, 0, .invokevirtual 213), (43, 0, 0, 0, 0, 0, .aload_n 0), (44, 9, 3, 247, 0, 0, .getfield 33), (47, 2, 0, 211, 0, 1, .getfield 210), (50, 0, 0, 0, 0, 0, .ireturn)]
set_option maxRecDepth 100000 in
theorem okX7_addPayment : hl_ok cX7_addPayment RX7 4 false pX7_addPayment = true := by decide +kernel
abbrev mX7_addPayment : hl_M := (yX7_addPayment, cX7_addPayment, 4, (some .int))
theorem mtX7_addPayment : hl_mv mX7_addPayment 3 := ⟨⟨hl_T_of (k := 766) (by decide +kernel) rfl, hl_T_of (k := 49) (by decide +kernel) rfl, ⟨by decide +kernel, by decide +kernel⟩, by decide +kernel⟩, hl_T_of (k := 764) (by decide +kernel) rfl, hl_T_of (k := 765) (by decide +kernel) rfl⟩
def pX7_removePayment : List hl_I := [(0, 0, 1, 0, 0, 0, .iload_n 1), (1, 15, 0, 0, 0, 0, .ifCond .lt 14), (4, 0, 1, 0, 0, 0, .iload_n 1), (5, 0, 0, 0, 0, 0, .aload_n 0), (6, 9, 3, 247, 0, 0, .getfield 33), (9, 2, 0, 211, 0, 1, .getfield 210), (12, 25, 0, 0, 0, 0, .if_icmp .lt 13), (15, 100, 0, 519, 0, 0, .new 216), (18, 0, 0, 0, 0, 0, .dup), (19, 999, 0, 0, 0, 0, .ldc 218), (21, 0, 0, 529, 0, 0, .invokespecial 220), (24, 0, 0, 0, 0, 0, .athrow), (25, 0, 0, 0, 0, 0, .aload_n 0), (26, 9, 3, 247, 0, 0, .getfield 33), (29, 2, 3, 217, 0, 1, .getfield 221), (32, 0, 1, 0, 0, 0, .iload_n 1), (33, 0, 0, 314, 0, 0, .invokevirtual 83), (36, 0, 2, 0, 0, 0, .istore_n 2), (37, 0, 0, 0, 0, 0, .aload_n 0), (38, 9, 3, 247, 0, 0, .getfield 33), (41, 0, 1, 0, 0, 0, .iload_n 1), (42, 0, 0, 0, 1, 0, .iconst 1), (43, 0, 0, 781, 0, 0, .invokevirtual 222), (46, 0, 2, 0, 0, 0, .iload_n 2), (47, 0, 0, 0, 0, 0, .ireturn)]
set_option maxRecDepth 100000 in
theorem okX7_removePayment : hl_ok cX7_removePayment RX7 3 false pX7_removePayment = true := by decide +kernel
abbrev mX7_removePayment : hl_M := (yX7_removePayment, cX7_removePayment, 3, (some .int))
theorem mtX7_removePayment : hl_mv mX7_removePayment 1 := ⟨⟨hl_T_of (k := 779) (by decide +kernel) rfl, hl_T_of (k := 49) (by decide +kernel) rfl, ⟨by decide +kernel, by decide +kernel⟩, by decide +kernel⟩, hl_T_of (k := 777) (by decide +kernel) rfl, hl_T_of (k := 778) (by decide +kernel) rfl⟩
def pX7_settle : List hl_I := [(0, 4, 8, 563, 0, 0, .new 108), (3, 0, 0, 0, 0, 0, .dup), (4, 0, 0, 0, 98, 0, .bipush 98), (6, 0, 1, 0, 0, 0, .iload_n 1), (7, 0, 0, 0, 0, 0, .iconst 0), (8, 0, 0, 0, 0, 0, .iconst 0), (9, 0, 0, 0, 0, 0, .iconst 0), (10, 0, 0, 0, 0, 0, .iconst 0), (11, 0, 0, 565, 0, 0, .invokespecial 110), (14, 0, 2, 0, 0, 0, .astore_n 2), (15, 0, 0, 0, 0, 0, .aload_n 0), (16, 9, 4, 248, 0, 0, .getfield 40), (19, 0, 2, 0, 0, 0, .aload_n 2), (20, 0, 0, 0, 0, 0, .aload_n 0), (21, 9, 6, 250, 0, 0, .getfield 53), (24, 0, 0, 597, 0, 0, .invokevirtual 113), (27, 43, 0, 0, 0, 0, .ifCond .eq 16), (30, 0, 0, 0, 0, 0, .aload_n 0), (31, 9, 4, 248, 0, 0, .getfield 40), (34, 0, 1, 0, 0, 0, .iload_n 1), (35, 0, 0, 0, 0, 0, .aload_n 0), (36, 9, 6, 250, 0, 0, .getfield 53), (39, 0, 0, 609, 0, 0, .invokevirtual 117), (42, 0, 0, 0, 0, 0, .ireturn), (43, 0, 0, 0, 0, 0, .aload_n 0), (44, 0, 1, 0, 0, 0, .iload_n 1), (45, 0, 0, 613, 0, 0, .invokevirtual 120), (48, 0, 0, 0, 0, 0, .aload_n 0), (49, 0, 0, 293, 0, 0, .invokevirtual 225), (52, 0, 3, 0, 0, 0, .istore_n 3), (53, 0, 3, 0, 0, 0, .iload_n 3), (54, 0, 0, 0, 1, 0, .iconst 1), (55, 68, 0, 0, 0, 0, .if_icmp .ge 13), (58, 100, 0, 532, 0, 0, .new 91), (61, 0, 0, 0, 0, 0, .dup), (62, 999, 0, 0, 0, 0, .ldc 229), (64, 0, 0, 542, 0, 0, .invokespecial 95), (67, 0, 0, 0, 0, 0, .athrow), (68, 0, 0, 0, 0, 0, .iconst 0), (69, 0, 4, 0, 0, 0, .istore 4), (71, 0, 4, 0, 0, 0, .iload 4), (73, 0, 3, 0, 0, 0, .iload_n 3), (74, 151, 0, 0, 0, 0, .if_icmp .ge 77), (77, 0, 0, 0, 0, 0, .aload_n 0), (78, 9, 3, 247, 0, 0, .getfield 33), (81, 2, 1, 213, 0, 1, .getfield 231), (84, 0, 4, 0, 0, 0, .iload 4), (86, 0, 0, 314, 0, 0, .invokevirtual 83), (89, 0, 5, 0, 0, 0, .istore 5), (91, 0, 0, 0, 0, 0, .aload_n 0), (92, 9, 3, 247, 0, 0, .getfield 33), (95, 2, 2, 215, 0, 1, .getfield 232), (98, 0, 4, 0, 0, 0, .iload 4), (100, 0, 0, 314, 0, 0, .invokevirtual 83), (103, 0, 6, 0, 0, 0, .istore 6), (105, 0, 0, 0, 0, 0, .aload_n 0), (106, 9, 3, 247, 0, 0, .getfield 33), (109, 2, 3, 217, 0, 1, .getfield 221), (112, 0, 4, 0, 0, 0, .iload 4), (114, 0, 0, 314, 0, 0, .invokevirtual 83), (117, 0, 7, 0, 0, 0, .istore 7), (119, 0, 0, 0, 0, 0, .aload_n 0), (120, 0, 0, 0, 98, 0, .bipush 98), (122, 0, 5, 0, 0, 0, .iload 5), (124, 0, 6, 0, 0, 0, .iload 6), (126, 0, 7, 0, 0, 0, .iload 7), (128, 0, 0, 0, 0, 0, .aload_n 0), (129, 9, 0, 244, 0, 0, .getfield 12), (132, 0, 5, 0, 0, 0, .iload 5), (134, 0, 6, 0, 0, 0, .iload 6), (136, 0, 7, 0, 0, 0, .iload 7), (138, 0, 0, 318, 0, 0, .invokevirtual 144), (141, 0, 0, 633, 0, 0, .invokevirtual 129), (144, 0, 0, 0, 0, 0, .pop), (145, 0, 4, 0, 1, 0, .iinc 4 1), (148, 71, 0, 0, 0, 0, .goto (-77)), (151, 0, 0, 0, 0, 0, .aload_n 0), (152, 9, 3, 247, 0, 0, .getfield 33), (155, 0, 0, 0, 0, 0, .iconst 0), (156, 0, 3, 0, 0, 0, .iload_n 3), (157, 0, 0, 781, 0, 0, .invokevirtual 222), (160, 0, 0, 0, 0, 0, .aload_n 0), (161, 9, 4, 248, 0, 0, .getfield 40), (164, 0, 2, 0, 0, 0, .aload_n 2), (165, 0, 0, 0, 0, 0, .aload_n 0), (166, 9, 6, 250, 0, 0, .getfield 53), (169, 0, 3, 0, 0, 0, .iload_n 3), (170, 0, 0, 652, 0, 0, .invokevirtual 133), (173, 0, 0, 0, 0, 0, .ireturn)]
set_option maxRecDepth 100000 in
theorem okX7_settle : hl_ok cX7_settle RX7 8 false pX7_settle = true := by decide +kernel
abbrev mX7_settle : hl_M := (yX7_settle, cX7_settle, 8, (some .int))
theorem mtX7_settle : hl_mv mX7_settle 1 := ⟨⟨hl_T_of (k := 792) (by decide +kernel) rfl, hl_T_of (k := 49) (by decide +kernel) rfl, ⟨by decide +kernel, by decide +kernel⟩, by decide +kernel⟩, hl_T_of (k := 790) (by decide +kernel) rfl, hl_T_of (k := 791) (by decide +kernel) rfl⟩
def pX7_closeDay : List hl_I := [(0, 0, 0, 0, 0, 0, .aload_n 0), (1, 0, 0, 0, 0, 0, .dup), (2, 9, 6, 250, 0, 0, .getfield 53), (5, 0, 0, 0, 1, 0, .iconst 1), (6, 0, 0, 0, 0, 0, .iadd), (7, 9, 6, 250, 0, 0, .putfield 53), (10, 0, 0, 0, 0, 0, .aload_n 0), (11, 9, 2, 246, 0, 0, .getfield 26), (14, 0, 0, 0, 0, 0, .aload_n 0), (15, 9, 6, 250, 0, 0, .getfield 53), (18, 0, 0, 270, 0, 0, .invokevirtual 233), (21, 0, 0, 0, 0, 0, .ireturn)]
set_option maxRecDepth 100000 in
theorem okX7_closeDay : hl_ok cX7_closeDay RX7 1 false pX7_closeDay = true := by decide +kernel
abbrev mX7_closeDay : hl_M := (yX7_closeDay, cX7_closeDay, 1, (some .int))
theorem mtX7_closeDay : hl_mv mX7_closeDay 0 := ⟨⟨hl_T_of (k := 269) (by decide +kernel) rfl, hl_T_of (k := 49) (by decide +kernel) rfl, ⟨by decide +kernel, by decide +kernel⟩, by decide +kernel⟩, hl_T_of (k := 267) (by decide +kernel) rfl, hl_T_of (k := 268) (by decide +kernel) rfl⟩
def pX7_batchSize : List hl_I := [(0, 0, 0, 0, 0, 0, .aload_n 0), (1, 9, 3, 247, 0, 0, .getfield 33), (4, 2, 0, 211, 0, 1, .getfield 210), (7, 0, 0, 0, 0, 0, .ireturn)]
set_option maxRecDepth 100000 in
theorem okX7_batchSize : hl_ok cX7_batchSize RX7 1 false pX7_batchSize = true := by decide +kernel
abbrev mX7_batchSize : hl_M := (yX7_batchSize, cX7_batchSize, 1, (some .int))
theorem mtX7_batchSize : hl_mv mX7_batchSize 0 := ⟨⟨hl_T_of (k := 288) (by decide +kernel) rfl, hl_T_of (k := 49) (by decide +kernel) rfl, ⟨by decide +kernel, by decide +kernel⟩, by decide +kernel⟩, hl_T_of (k := 286) (by decide +kernel) rfl, hl_T_of (k := 287) (by decide +kernel) rfl⟩
def pX7_cut : List hl_I := [(0, 0, 0, 0, 0, 0, .aload_n 0), (1, 0, 0, 293, 0, 0, .invokevirtual 225), (4, 0, 0, 0, 0, 0, .ireturn)]
set_option maxRecDepth 100000 in
theorem okX7_cut : hl_ok cX7_cut RX7 1 false pX7_cut = true := by decide +kernel
abbrev mX7_cut : hl_M := (yX7_cut, cX7_cut, 1, (some .int))
theorem mtX7_cut : hl_mv mX7_cut 0 := ⟨⟨hl_T_of (k := 292) (by decide +kernel) rfl, hl_T_of (k := 49) (by decide +kernel) rfl, ⟨by decide +kernel, by decide +kernel⟩, by decide +kernel⟩, hl_T_of (k := 290) (by decide +kernel) rfl, hl_T_of (k := 291) (by decide +kernel) rfl⟩
def pX7_cutByTrying : List hl_I := [(0, 0, 0, 0, 0, 0, .iconst 0), (1, 0, 1, 0, 0, 0, .istore_n 1), (2, 0, 0, 0, 1, 0, .iconst 1), (3, 0, 2, 0, 0, 0, .istore_n 2), (4, 0, 2, 0, 0, 0, .iload_n 2), (5, 0, 0, 0, 0, 0, .aload_n 0), (6, 9, 3, 247, 0, 0, .getfield 33), (9, 2, 0, 211, 0, 1, .getfield 210), (12, 31, 0, 0, 0, 0, .if_icmp .gt 19), (15, 0, 0, 0, 0, 0, .aload_n 0), (16, 0, 2, 0, 0, 0, .iload_n 2), (17, 0, 0, 336, 0, 0, .invokevirtual 236), (20, 25, 0, 0, 0, 0, .ifCond .eq 5), (23, 0, 2, 0, 0, 0, .iload_n 2), (24, 0, 1, 0, 0, 0, .istore_n 1), (25, 0, 2, 0, 1, 0, .iinc 2 1), (28, 4, 0, 0, 0, 0, .goto (-24)), (31, 0, 1, 0, 0, 0, .iload_n 1), (32, 0, 0, 0, 0, 0, .ireturn)]
set_option maxRecDepth 100000 in
theorem okX7_cutByTrying : hl_ok cX7_cutByTrying RX7 3 false pX7_cutByTrying = true := by decide +kernel
abbrev mX7_cutByTrying : hl_M := (yX7_cutByTrying, cX7_cutByTrying, 3, (some .int))
theorem mtX7_cutByTrying : hl_mv mX7_cutByTrying 0 := ⟨⟨hl_T_of (k := 335) (by decide +kernel) rfl, hl_T_of (k := 49) (by decide +kernel) rfl, ⟨by decide +kernel, by decide +kernel⟩, by decide +kernel⟩, hl_T_of (k := 333) (by decide +kernel) rfl, hl_T_of (k := 334) (by decide +kernel) rfl⟩
def pX7_netOf : List hl_I := [(0, 0, 0, 0, 0, 0, .aload_n 0), (1, 0, 1, 0, 0, 0, .iload_n 1), (2, 0, 0, 515, 0, 0, .invokevirtual 77), (5, 0, 0, 0, 0, 0, .aload_n 0), (6, 0, 0, 0, 0, 0, .aload_n 0), (7, 0, 0, 293, 0, 0, .invokevirtual 225), (10, 0, 1, 0, 0, 0, .iload_n 1), (11, 0, 0, 340, 0, 0, .invokevirtual 239), (14, 0, 0, 0, 0, 0, .lreturn)]
set_option maxRecDepth 100000 in
theorem okX7_netOf : hl_ok cX7_netOf RX7 2 false pX7_netOf = true := by decide +kernel
abbrev mX7_netOf : hl_M := (yX7_netOf, cX7_netOf, 2, (some .long))
theorem mtX7_netOf : hl_mv mX7_netOf 1 := ⟨⟨hl_T_of (k := 800) (by decide +kernel) rfl, hl_T_of (k := 49) (by decide +kernel) rfl, ⟨by decide +kernel, by decide +kernel⟩, by decide +kernel⟩, hl_T_of (k := 798) (by decide +kernel) rfl, hl_T_of (k := 799) (by decide +kernel) rfl⟩
def pX7_accounts : List hl_I := [(0, 0, 0, 0, 0, 0, .aload_n 0), (1, 9, 0, 244, 0, 0, .getfield 12), (4, 3, 0, 101, 0, 1, .getfield 63), (7, 0, 0, 0, 0, 0, .ireturn)]
set_option maxRecDepth 100000 in
theorem okX7_accounts : hl_ok cX7_accounts RX7 1 false pX7_accounts = true := by decide +kernel
abbrev mX7_accounts : hl_M := (yX7_accounts, cX7_accounts, 1, (some .int))
theorem mtX7_accounts : hl_mv mX7_accounts 0 := ⟨⟨hl_T_of (k := 347) (by decide +kernel) rfl, hl_T_of (k := 49) (by decide +kernel) rfl, ⟨by decide +kernel, by decide +kernel⟩, by decide +kernel⟩, hl_T_of (k := 345) (by decide +kernel) rfl, hl_T_of (k := 346) (by decide +kernel) rfl⟩
def pX7_day : List hl_I := [(0, 0, 0, 0, 0, 0, .aload_n 0), (1, 9, 6, 250, 0, 0, .getfield 53), (4, 0, 0, 0, 0, 0, .ireturn)]
set_option maxRecDepth 100000 in
theorem okX7_day : hl_ok cX7_day RX7 1 false pX7_day = true := by decide +kernel
abbrev mX7_day : hl_M := (yX7_day, cX7_day, 1, (some .int))
theorem mtX7_day : hl_mv mX7_day 0 := ⟨⟨hl_T_of (k := 351) (by decide +kernel) rfl, hl_T_of (k := 49) (by decide +kernel) rfl, ⟨by decide +kernel, by decide +kernel⟩, by decide +kernel⟩, hl_T_of (k := 349) (by decide +kernel) rfl, hl_T_of (k := 350) (by decide +kernel) rfl⟩
def pX7_balance : List hl_I := [(0, 0, 0, 0, 0, 0, .aload_n 0), (1, 0, 1, 0, 0, 0, .iload_n 1), (2, 0, 0, 515, 0, 0, .invokevirtual 77), (5, 0, 0, 0, 0, 0, .aload_n 0), (6, 9, 0, 244, 0, 0, .getfield 12), (9, 3, 3, 107, 0, 1, .getfield 243), (12, 0, 1, 0, 0, 0, .iload_n 1), (13, 0, 0, 301, 0, 0, .invokevirtual 166), (16, 0, 0, 0, 0, 0, .lreturn)]
set_option maxRecDepth 100000 in
theorem okX7_balance : hl_ok cX7_balance RX7 2 false pX7_balance = true := by decide +kernel
abbrev mX7_balance : hl_M := (yX7_balance, cX7_balance, 2, (some .long))
theorem mtX7_balance : hl_mv mX7_balance 1 := ⟨⟨hl_T_of (k := 807) (by decide +kernel) rfl, hl_T_of (k := 49) (by decide +kernel) rfl, ⟨by decide +kernel, by decide +kernel⟩, by decide +kernel⟩, hl_T_of (k := 805) (by decide +kernel) rfl, hl_T_of (k := 806) (by decide +kernel) rfl⟩
def pX7_available : List hl_I := [(0, 0, 0, 0, 0, 0, .aload_n 0), (1, 0, 1, 0, 0, 0, .iload_n 1), (2, 0, 0, 515, 0, 0, .invokevirtual 77), (5, 0, 0, 0, 0, 0, .aload_n 0), (6, 0, 1, 0, 0, 0, .iload_n 1), (7, 0, 0, 297, 0, 0, .invokevirtual 87), (10, 0, 0, 0, 0, 0, .lreturn)]
set_option maxRecDepth 100000 in
theorem okX7_available : hl_ok cX7_available RX7 2 false pX7_available = true := by decide +kernel
abbrev mX7_available : hl_M := (yX7_available, cX7_available, 2, (some .long))
theorem mtX7_available : hl_mv mX7_available 1 := ⟨⟨hl_T_of (k := 814) (by decide +kernel) rfl, hl_T_of (k := 49) (by decide +kernel) rfl, ⟨by decide +kernel, by decide +kernel⟩, by decide +kernel⟩, hl_T_of (k := 812) (by decide +kernel) rfl, hl_T_of (k := 813) (by decide +kernel) rfl⟩
def pX7_balanceByReplay : List hl_I := [(0, 0, 0, 0, 0, 0, .aload_n 0), (1, 0, 1, 0, 0, 0, .iload_n 1), (2, 0, 0, 515, 0, 0, .invokevirtual 77), (5, 0, 0, 0, 0, 0, .aload_n 0), (6, 9, 1, 245, 0, 0, .getfield 19), (9, 0, 1, 0, 0, 0, .iload_n 1), (10, 0, 0, 0, 0, 0, .aload_n 0), (11, 9, 6, 250, 0, 0, .getfield 53), (14, 0, 0, 822, 0, 0, .invokevirtual 246), (17, 0, 0, 0, 0, 0, .lreturn)]
set_option maxRecDepth 100000 in
theorem okX7_balanceByReplay : hl_ok cX7_balanceByReplay RX7 2 false pX7_balanceByReplay = true := by decide +kernel
abbrev mX7_balanceByReplay : hl_M := (yX7_balanceByReplay, cX7_balanceByReplay, 2, (some .long))
theorem mtX7_balanceByReplay : hl_mv mX7_balanceByReplay 1 := ⟨⟨hl_T_of (k := 821) (by decide +kernel) rfl, hl_T_of (k := 49) (by decide +kernel) rfl, ⟨by decide +kernel, by decide +kernel⟩, by decide +kernel⟩, hl_T_of (k := 819) (by decide +kernel) rfl, hl_T_of (k := 820) (by decide +kernel) rfl⟩
def pX7_balanceAt : List hl_I := [(0, 0, 0, 0, 0, 0, .aload_n 0), (1, 0, 1, 0, 0, 0, .iload_n 1), (2, 0, 0, 515, 0, 0, .invokevirtual 77), (5, 0, 2, 0, 0, 0, .iload_n 2), (6, 17, 0, 0, 0, 0, .ifCond .lt 11), (9, 0, 2, 0, 0, 0, .iload_n 2), (10, 0, 0, 0, 0, 0, .aload_n 0), (11, 9, 6, 250, 0, 0, .getfield 53), (14, 27, 0, 0, 0, 0, .if_icmp .le 13), (17, 100, 0, 385, 0, 0, .new 100), (20, 0, 0, 0, 0, 0, .dup), (21, 999, 0, 0, 0, 0, .ldc 249), (23, 0, 0, 431, 0, 0, .invokespecial 104), (26, 0, 0, 0, 0, 0, .athrow), (27, 0, 0, 0, 0, 0, .aload_n 0), (28, 9, 1, 245, 0, 0, .getfield 19), (31, 0, 1, 0, 0, 0, .iload_n 1), (32, 0, 2, 0, 0, 0, .iload_n 2), (33, 0, 0, 822, 0, 0, .invokevirtual 246), (36, 0, 0, 0, 0, 0, .lreturn)]
set_option maxRecDepth 100000 in
theorem okX7_balanceAt : hl_ok cX7_balanceAt RX7 3 false pX7_balanceAt = true := by decide +kernel
abbrev mX7_balanceAt : hl_M := (yX7_balanceAt, cX7_balanceAt, 3, (some .long))
theorem mtX7_balanceAt : hl_mv mX7_balanceAt 2 := ⟨⟨hl_T_of (k := 836) (by decide +kernel) rfl, hl_T_of (k := 49) (by decide +kernel) rfl, ⟨by decide +kernel, by decide +kernel⟩, by decide +kernel⟩, hl_T_of (k := 834) (by decide +kernel) rfl, hl_T_of (k := 835) (by decide +kernel) rfl⟩
def pX7_houseBalance : List hl_I := [(0, 0, 0, 0, 0, 0, .aload_n 0), (1, 0, 1, 0, 0, 0, .iload_n 1), (2, 0, 0, 381, 0, 0, .invokevirtual 57), (5, 0, 2, 0, 0, 0, .iload_n 2), (6, 23, 0, 0, 0, 0, .ifCond .eq 17), (9, 0, 0, 0, 0, 0, .aload_n 0), (10, 9, 0, 244, 0, 0, .getfield 12), (13, 3, 5, 111, 0, 1, .getfield 251), (16, 0, 1, 0, 0, 0, .iload_n 1), (17, 0, 0, 301, 0, 0, .invokevirtual 166), (20, 34, 0, 0, 0, 0, .goto 14), (23, 0, 0, 0, 0, 0, .aload_n 0), (24, 9, 0, 244, 0, 0, .getfield 12), (27, 3, 4, 109, 0, 1, .getfield 254), (30, 0, 1, 0, 0, 0, .iload_n 1), (31, 0, 0, 301, 0, 0, .invokevirtual 166), (34, 0, 0, 0, 0, 0, .lreturn)]
set_option maxRecDepth 100000 in
theorem okX7_houseBalance : hl_ok cX7_houseBalance RX7 3 false pX7_houseBalance = true := by decide +kernel
abbrev mX7_houseBalance : hl_M := (yX7_houseBalance, cX7_houseBalance, 3, (some .long))
theorem mtX7_houseBalance : hl_mv mX7_houseBalance 2 := ⟨⟨hl_T_of (k := 844) (by decide +kernel) rfl, hl_T_of (k := 49) (by decide +kernel) rfl, ⟨by decide +kernel, by decide +kernel⟩, by decide +kernel⟩, hl_T_of (k := 842) (by decide +kernel) rfl, hl_T_of (k := 843) (by decide +kernel) rfl⟩
def pX7_worth : List hl_I := [(0, 0, 0, 0, 0, 0, .aload_n 0), (1, 0, 1, 0, 0, 0, .iload_n 1), (2, 0, 0, 515, 0, 0, .invokevirtual 77), (5, 0, 0, 0, 0, 0, .aload_n 0), (6, 9, 0, 244, 0, 0, .getfield 12), (9, 3, 3, 107, 0, 1, .getfield 243), (12, 0, 1, 0, 0, 0, .iload_n 1), (13, 0, 0, 301, 0, 0, .invokevirtual 166), (16, 0, 0, 0, 0, 0, .aload_n 0), (17, 9, 0, 244, 0, 0, .getfield 12), (20, 3, 6, 113, 0, 1, .getfield 105), (23, 0, 0, 0, 0, 0, .aload_n 0), (24, 9, 0, 244, 0, 0, .getfield 12), (27, 3, 1, 103, 0, 1, .getfield 257), (30, 0, 1, 0, 0, 0, .iload_n 1), (31, 0, 0, 314, 0, 0, .invokevirtual 83), (34, 0, 0, 301, 0, 0, .invokevirtual 166), (37, 0, 0, 0, 0, 0, .lmul), (38, 0, 0, 0, 0, 0, .lreturn)]
set_option maxRecDepth 100000 in
theorem okX7_worth : hl_ok cX7_worth RX7 2 false pX7_worth = true := by decide +kernel
abbrev mX7_worth : hl_M := (yX7_worth, cX7_worth, 2, (some .long))
theorem mtX7_worth : hl_mv mX7_worth 1 := ⟨⟨hl_T_of (k := 851) (by decide +kernel) rfl, hl_T_of (k := 49) (by decide +kernel) rfl, ⟨by decide +kernel, by decide +kernel⟩, by decide +kernel⟩, hl_T_of (k := 849) (by decide +kernel) rfl, hl_T_of (k := 850) (by decide +kernel) rfl⟩
def pX7_transactions : List hl_I := [(0, 0, 0, 0, 0, 0, .aload_n 0), (1, 9, 1, 245, 0, 0, .getfield 19), (4, 6, 0, 138, 0, 1, .getfield 260), (7, 0, 0, 0, 0, 0, .ireturn)]
set_option maxRecDepth 100000 in
theorem okX7_transactions : hl_ok cX7_transactions RX7 1 false pX7_transactions = true := by decide +kernel
abbrev mX7_transactions : hl_M := (yX7_transactions, cX7_transactions, 1, (some .int))
theorem mtX7_transactions : hl_mv mX7_transactions 0 := ⟨⟨hl_T_of (k := 355) (by decide +kernel) rfl, hl_T_of (k := 49) (by decide +kernel) rfl, ⟨by decide +kernel, by decide +kernel⟩, by decide +kernel⟩, hl_T_of (k := 353) (by decide +kernel) rfl, hl_T_of (k := 354) (by decide +kernel) rfl⟩
def pX7_kindOf : List hl_I := [(0, 0, 0, 0, 0, 0, .aload_n 0), (1, 0, 1, 0, 0, 0, .iload_n 1), (2, 0, 0, 749, 0, 0, .invokevirtual 184), (5, 0, 0, 0, 0, 0, .aload_n 0), (6, 9, 1, 245, 0, 0, .getfield 19), (9, 6, 1, 140, 0, 1, .getfield 187), (12, 0, 1, 0, 0, 0, .iload_n 1), (13, 0, 0, 301, 0, 0, .invokevirtual 166), (16, 0, 0, 0, 0, 0, .l2i), (17, 0, 0, 0, 0, 0, .i2c), (18, 0, 0, 0, 0, 0, .ireturn)]
set_option maxRecDepth 100000 in
theorem okX7_kindOf : hl_ok cX7_kindOf RX7 2 false pX7_kindOf = true := by decide +kernel
abbrev mX7_kindOf : hl_M := (yX7_kindOf, cX7_kindOf, 2, (some .char))
theorem mtX7_kindOf : hl_mv mX7_kindOf 1 := ⟨⟨hl_T_of (k := 858) (by decide +kernel) rfl, hl_T_of (k := 49) (by decide +kernel) rfl, ⟨by decide +kernel, by decide +kernel⟩, by decide +kernel⟩, hl_T_of (k := 856) (by decide +kernel) rfl, hl_T_of (k := 857) (by decide +kernel) rfl⟩
def pX7_payerOf : List hl_I := [(0, 0, 0, 0, 0, 0, .aload_n 0), (1, 0, 1, 0, 0, 0, .iload_n 1), (2, 0, 0, 749, 0, 0, .invokevirtual 184), (5, 0, 0, 0, 0, 0, .aload_n 0), (6, 9, 1, 245, 0, 0, .getfield 19), (9, 6, 2, 142, 0, 1, .getfield 203), (12, 0, 1, 0, 0, 0, .iload_n 1), (13, 0, 0, 314, 0, 0, .invokevirtual 83), (16, 0, 2, 0, 0, 0, .istore_n 2), (17, 0, 2, 0, 0, 0, .iload_n 2), (18, 0, 0, 0, (-1), 0, .iconst (-1)), (19, 33, 0, 0, 0, 0, .if_icmp .ne 14), (22, 100, 0, 716, 0, 0, .new 194), (25, 0, 0, 0, 0, 0, .dup), (26, 999, 0, 0, 0, 0, .ldc_w 261), (29, 0, 0, 726, 0, 0, .invokespecial 198), (32, 0, 0, 0, 0, 0, .athrow), (33, 0, 2, 0, 0, 0, .iload_n 2), (34, 0, 0, 0, 0, 0, .ireturn)]
set_option maxRecDepth 100000 in
theorem okX7_payerOf : hl_ok cX7_payerOf RX7 3 false pX7_payerOf = true := by decide +kernel
abbrev mX7_payerOf : hl_M := (yX7_payerOf, cX7_payerOf, 3, (some .int))
theorem mtX7_payerOf : hl_mv mX7_payerOf 1 := ⟨⟨hl_T_of (k := 865) (by decide +kernel) rfl, hl_T_of (k := 49) (by decide +kernel) rfl, ⟨by decide +kernel, by decide +kernel⟩, by decide +kernel⟩, hl_T_of (k := 863) (by decide +kernel) rfl, hl_T_of (k := 864) (by decide +kernel) rfl⟩
def pX7_payeeOf : List hl_I := [(0, 0, 0, 0, 0, 0, .aload_n 0), (1, 0, 1, 0, 0, 0, .iload_n 1), (2, 0, 0, 749, 0, 0, .invokevirtual 184), (5, 0, 0, 0, 0, 0, .aload_n 0), (6, 9, 1, 245, 0, 0, .getfield 19), (9, 6, 3, 144, 0, 1, .getfield 199), (12, 0, 1, 0, 0, 0, .iload_n 1), (13, 0, 0, 314, 0, 0, .invokevirtual 83), (16, 0, 2, 0, 0, 0, .istore_n 2), (17, 0, 2, 0, 0, 0, .iload_n 2), (18, 0, 0, 0, (-1), 0, .iconst (-1)), (19, 33, 0, 0, 0, 0, .if_icmp .ne 14), (22, 100, 0, 716, 0, 0, .new 194), (25, 0, 0, 0, 0, 0, .dup), (26, 999, 0, 0, 0, 0, .ldc_w 263), (29, 0, 0, 726, 0, 0, .invokespecial 198), (32, 0, 0, 0, 0, 0, .athrow), (33, 0, 2, 0, 0, 0, .iload_n 2), (34, 0, 0, 0, 0, 0, .ireturn)]
set_option maxRecDepth 100000 in
theorem okX7_payeeOf : hl_ok cX7_payeeOf RX7 3 false pX7_payeeOf = true := by decide +kernel
abbrev mX7_payeeOf : hl_M := (yX7_payeeOf, cX7_payeeOf, 3, (some .int))
theorem mtX7_payeeOf : hl_mv mX7_payeeOf 1 := ⟨⟨hl_T_of (k := 873) (by decide +kernel) rfl, hl_T_of (k := 49) (by decide +kernel) rfl, ⟨by decide +kernel, by decide +kernel⟩, by decide +kernel⟩, hl_T_of (k := 871) (by decide +kernel) rfl, hl_T_of (k := 872) (by decide +kernel) rfl⟩
def pX7_paidOf : List hl_I := [(0, 0, 0, 0, 0, 0, .aload_n 0), (1, 0, 1, 0, 0, 0, .iload_n 1), (2, 0, 0, 749, 0, 0, .invokevirtual 184), (5, 0, 0, 0, 0, 0, .aload_n 0), (6, 9, 1, 245, 0, 0, .getfield 19), (9, 6, 4, 146, 0, 1, .getfield 204), (12, 0, 1, 0, 0, 0, .iload_n 1), (13, 0, 0, 314, 0, 0, .invokevirtual 83), (16, 0, 0, 0, 0, 0, .ireturn)]
set_option maxRecDepth 100000 in
theorem okX7_paidOf : hl_ok cX7_paidOf RX7 2 false pX7_paidOf = true := by decide +kernel
abbrev mX7_paidOf : hl_M := (yX7_paidOf, cX7_paidOf, 2, (some .int))
theorem mtX7_paidOf : hl_mv mX7_paidOf 1 := ⟨⟨hl_T_of (k := 881) (by decide +kernel) rfl, hl_T_of (k := 49) (by decide +kernel) rfl, ⟨by decide +kernel, by decide +kernel⟩, by decide +kernel⟩, hl_T_of (k := 879) (by decide +kernel) rfl, hl_T_of (k := 880) (by decide +kernel) rfl⟩
def pX7_receivedOf : List hl_I := [(0, 0, 0, 0, 0, 0, .aload_n 0), (1, 0, 1, 0, 0, 0, .iload_n 1), (2, 0, 0, 749, 0, 0, .invokevirtual 184), (5, 0, 0, 0, 0, 0, .aload_n 0), (6, 9, 1, 245, 0, 0, .getfield 19), (9, 6, 5, 148, 0, 1, .getfield 200), (12, 0, 1, 0, 0, 0, .iload_n 1), (13, 0, 0, 314, 0, 0, .invokevirtual 83), (16, 0, 0, 0, 0, 0, .ireturn)]
set_option maxRecDepth 100000 in
theorem okX7_receivedOf : hl_ok cX7_receivedOf RX7 2 false pX7_receivedOf = true := by decide +kernel
abbrev mX7_receivedOf : hl_M := (yX7_receivedOf, cX7_receivedOf, 2, (some .int))
theorem mtX7_receivedOf : hl_mv mX7_receivedOf 1 := ⟨⟨hl_T_of (k := 888) (by decide +kernel) rfl, hl_T_of (k := 49) (by decide +kernel) rfl, ⟨by decide +kernel, by decide +kernel⟩, by decide +kernel⟩, hl_T_of (k := 886) (by decide +kernel) rfl, hl_T_of (k := 887) (by decide +kernel) rfl⟩
def pX7_reversalOf : List hl_I := [(0, 0, 0, 0, 0, 0, .aload_n 0), (1, 0, 1, 0, 0, 0, .iload_n 1), (2, 0, 0, 749, 0, 0, .invokevirtual 184), (5, 0, 0, 0, 0, 0, .aload_n 0), (6, 9, 1, 245, 0, 0, .getfield 19), (9, 0, 1, 0, 0, 0, .iload_n 1), (10, 0, 0, 754, 0, 0, .invokevirtual 190), (13, 27, 0, 0, 0, 0, .ifCond .ne 14), (16, 100, 0, 716, 0, 0, .new 194), (19, 0, 0, 0, 0, 0, .dup), (20, 999, 0, 0, 0, 0, .ldc_w 265), (23, 0, 0, 726, 0, 0, .invokespecial 198), (26, 0, 0, 0, 0, 0, .athrow), (27, 0, 0, 0, 0, 0, .aload_n 0), (28, 9, 1, 245, 0, 0, .getfield 19), (31, 6, 7, 151, 0, 1, .getfield 207), (34, 0, 1, 0, 0, 0, .iload_n 1), (35, 0, 0, 314, 0, 0, .invokevirtual 83), (38, 0, 0, 0, 0, 0, .ireturn)]
set_option maxRecDepth 100000 in
theorem okX7_reversalOf : hl_ok cX7_reversalOf RX7 2 false pX7_reversalOf = true := by decide +kernel
abbrev mX7_reversalOf : hl_M := (yX7_reversalOf, cX7_reversalOf, 2, (some .int))
theorem mtX7_reversalOf : hl_mv mX7_reversalOf 1 := ⟨⟨hl_T_of (k := 895) (by decide +kernel) rfl, hl_T_of (k := 49) (by decide +kernel) rfl, ⟨by decide +kernel, by decide +kernel⟩, by decide +kernel⟩, hl_T_of (k := 893) (by decide +kernel) rfl, hl_T_of (k := 894) (by decide +kernel) rfl⟩
def pX7_stateOf : List hl_I := [(0, 0, 0, 0, 0, 0, .aload_n 0), (1, 0, 1, 0, 0, 0, .iload_n 1), (2, 0, 0, 710, 0, 0, .invokevirtual 267), (5, 0, 0, 0, 0, 0, .aload_n 0), (6, 9, 2, 246, 0, 0, .getfield 26), (9, 5, 5, 188, 0, 1, .getfield 177), (12, 0, 1, 0, 0, 0, .iload_n 1), (13, 0, 0, 301, 0, 0, .invokevirtual 166), (16, 0, 0, 0, 0, 0, .l2i), (17, 0, 0, 0, 0, 0, .i2c), (18, 0, 0, 0, 0, 0, .ireturn)]
set_option maxRecDepth 100000 in
theorem okX7_stateOf : hl_ok cX7_stateOf RX7 2 false pX7_stateOf = true := by decide +kernel
abbrev mX7_stateOf : hl_M := (yX7_stateOf, cX7_stateOf, 2, (some .char))
theorem mtX7_stateOf : hl_mv mX7_stateOf 1 := ⟨⟨hl_T_of (k := 903) (by decide +kernel) rfl, hl_T_of (k := 49) (by decide +kernel) rfl, ⟨by decide +kernel, by decide +kernel⟩, by decide +kernel⟩, hl_T_of (k := 901) (by decide +kernel) rfl, hl_T_of (k := 902) (by decide +kernel) rfl⟩
def pX7_lastDayOf : List hl_I := [(0, 0, 0, 0, 0, 0, .aload_n 0), (1, 0, 1, 0, 0, 0, .iload_n 1), (2, 0, 0, 710, 0, 0, .invokevirtual 267), (5, 0, 0, 0, 0, 0, .aload_n 0), (6, 9, 2, 246, 0, 0, .getfield 26), (9, 5, 4, 186, 0, 1, .getfield 270), (12, 0, 1, 0, 0, 0, .iload_n 1), (13, 0, 0, 314, 0, 0, .invokevirtual 83), (16, 0, 0, 0, 0, 0, .ireturn)]
set_option maxRecDepth 100000 in
theorem okX7_lastDayOf : hl_ok cX7_lastDayOf RX7 2 false pX7_lastDayOf = true := by decide +kernel
abbrev mX7_lastDayOf : hl_M := (yX7_lastDayOf, cX7_lastDayOf, 2, (some .int))
theorem mtX7_lastDayOf : hl_mv mX7_lastDayOf 1 := ⟨⟨hl_T_of (k := 910) (by decide +kernel) rfl, hl_T_of (k := 49) (by decide +kernel) rfl, ⟨by decide +kernel, by decide +kernel⟩, by decide +kernel⟩, hl_T_of (k := 908) (by decide +kernel) rfl, hl_T_of (k := 909) (by decide +kernel) rfl⟩
def pX7_keys : List hl_I := [(0, 0, 0, 0, 0, 0, .aload_n 0), (1, 9, 4, 248, 0, 0, .getfield 40), (4, 0, 0, 0, 0, 0, .aload_n 0), (5, 9, 6, 250, 0, 0, .getfield 53), (8, 0, 0, 360, 0, 0, .invokevirtual 273), (11, 0, 0, 0, 0, 0, .ireturn)]
set_option maxRecDepth 100000 in
theorem okX7_keys : hl_ok cX7_keys RX7 1 false pX7_keys = true := by decide +kernel
abbrev mX7_keys : hl_M := (yX7_keys, cX7_keys, 1, (some .int))
theorem mtX7_keys : hl_mv mX7_keys 0 := ⟨⟨hl_T_of (k := 359) (by decide +kernel) rfl, hl_T_of (k := 49) (by decide +kernel) rfl, ⟨by decide +kernel, by decide +kernel⟩, by decide +kernel⟩, hl_T_of (k := 357) (by decide +kernel) rfl, hl_T_of (k := 358) (by decide +kernel) rfl⟩
def pX7_answerOf : List hl_I := [(0, 0, 0, 0, 0, 0, .aload_n 0), (1, 9, 4, 248, 0, 0, .getfield 40), (4, 0, 1, 0, 0, 0, .iload_n 1), (5, 0, 0, 0, 0, 0, .aload_n 0), (6, 9, 6, 250, 0, 0, .getfield 53), (9, 0, 0, 618, 0, 0, .invokevirtual 276), (12, 26, 0, 0, 0, 0, .ifCond .ne 14), (15, 100, 0, 716, 0, 0, .new 194), (18, 0, 0, 0, 0, 0, .dup), (19, 999, 0, 0, 0, 0, .ldc_w 280), (22, 0, 0, 726, 0, 0, .invokespecial 198), (25, 0, 0, 0, 0, 0, .athrow), (26, 0, 0, 0, 0, 0, .aload_n 0), (27, 9, 4, 248, 0, 0, .getfield 40), (30, 0, 1, 0, 0, 0, .iload_n 1), (31, 0, 0, 0, 0, 0, .aload_n 0), (32, 9, 6, 250, 0, 0, .getfield 53), (35, 0, 0, 609, 0, 0, .invokevirtual 117), (38, 0, 0, 0, 0, 0, .ireturn)]
set_option maxRecDepth 100000 in
theorem okX7_answerOf : hl_ok cX7_answerOf RX7 2 false pX7_answerOf = true := by decide +kernel
abbrev mX7_answerOf : hl_M := (yX7_answerOf, cX7_answerOf, 2, (some .int))
theorem mtX7_answerOf : hl_mv mX7_answerOf 1 := ⟨⟨hl_T_of (k := 917) (by decide +kernel) rfl, hl_T_of (k := 49) (by decide +kernel) rfl, ⟨by decide +kernel, by decide +kernel⟩, by decide +kernel⟩, hl_T_of (k := 915) (by decide +kernel) rfl, hl_T_of (k := 916) (by decide +kernel) rfl⟩
def pX7_isBalanced : List hl_I := [(0, 0, 0, 0, 0, 0, .iconst 0), (1, 0, 1, 0, 0, 0, .istore_n 1), (2, 0, 1, 0, 0, 0, .iload_n 1), (3, 0, 0, 0, 4, 0, .iconst 4), (4, 28, 0, 0, 0, 0, .if_icmp .ge 24), (7, 0, 0, 0, 0, 0, .aload_n 0), (8, 9, 0, 244, 0, 0, .getfield 12), (11, 0, 1, 0, 0, 0, .iload_n 1), (12, 0, 0, 368, 0, 0, .invokevirtual 282), (15, 0, 0, 0, 0, 0, .lconst 0), (16, 0, 0, 0, 0, 0, .lcmp), (17, 22, 0, 0, 0, 0, .ifCond .eq 5), (20, 0, 0, 0, 0, 0, .iconst 0), (21, 0, 0, 0, 0, 0, .ireturn), (22, 0, 1, 0, 1, 0, .iinc 1 1), (25, 2, 0, 0, 0, 0, .goto (-23)), (28, 0, 0, 0, 1, 0, .iconst 1), (29, 0, 0, 0, 0, 0, .ireturn)]
set_option maxRecDepth 100000 in
theorem okX7_isBalanced : hl_ok cX7_isBalanced RX7 2 false pX7_isBalanced = true := by decide +kernel
abbrev mX7_isBalanced : hl_M := (yX7_isBalanced, cX7_isBalanced, 2, (some .boolean))
theorem mtX7_isBalanced : hl_mv mX7_isBalanced 0 := ⟨⟨hl_T_of (k := 367) (by decide +kernel) rfl, hl_T_of (k := 49) (by decide +kernel) rfl, ⟨by decide +kernel, by decide +kernel⟩, by decide +kernel⟩, hl_T_of (k := 365) (by decide +kernel) rfl, hl_T_of (k := 366) (by decide +kernel) rfl⟩
def pX7_reversedShare : List hl_I := [(0, 0, 0, 0, 0, 0, .aload_n 0), (1, 9, 1, 245, 0, 0, .getfield 19), (4, 6, 0, 138, 0, 1, .getfield 260), (7, 0, 1, 0, 0, 0, .istore_n 1), (8, 0, 1, 0, 0, 0, .iload_n 1), (9, 0, 0, 0, 1, 0, .iconst 1), (10, 24, 0, 0, 0, 0, .if_icmp .ge 14), (13, 100, 0, 940, 0, 0, .new 285), (16, 0, 0, 0, 0, 0, .dup), (17, 999, 0, 0, 0, 0, .ldc_w 287), (20, 0, 0, 942, 0, 0, .invokespecial 289), (23, 0, 0, 0, 0, 0, .athrow), (24, 0, 0, 0, 0, 0, .aload_n 0), (25, 9, 1, 245, 0, 0, .getfield 19), (28, 0, 0, 943, 0, 0, .invokevirtual 290), (31, 0, 0, 0, 0, 0, .i2f), (32, 0, 1, 0, 0, 0, .iload_n 1), (33, 0, 0, 0, 0, 0, .i2f), (34, 0, 0, 0, 0, 0, .fdiv), (35, 0, 0, 0, 0, 0, .freturn)]
set_option maxRecDepth 100000 in
theorem okX7_reversedShare : hl_ok cX7_reversedShare RX7 2 false pX7_reversedShare = true := by decide +kernel
abbrev mX7_reversedShare : hl_M := (yX7_reversedShare, cX7_reversedShare, 2, (some .float))
theorem mtX7_reversedShare : hl_mv mX7_reversedShare 0 := ⟨⟨hl_T_of (k := 939) (by decide +kernel) rfl, hl_T_of (k := 49) (by decide +kernel) rfl, ⟨by decide +kernel, by decide +kernel⟩, by decide +kernel⟩, hl_T_of (k := 937) (by decide +kernel) rfl, hl_T_of (k := 938) (by decide +kernel) rfl⟩
def pX7_meanPaid : List hl_I := [(0, 0, 0, 0, 0, 0, .aload_n 0), (1, 9, 1, 245, 0, 0, .getfield 19), (4, 6, 0, 138, 0, 1, .getfield 260), (7, 0, 1, 0, 0, 0, .istore_n 1), (8, 0, 1, 0, 0, 0, .iload_n 1), (9, 0, 0, 0, 1, 0, .iconst 1), (10, 24, 0, 0, 0, 0, .if_icmp .ge 14), (13, 100, 0, 940, 0, 0, .new 285), (16, 0, 0, 0, 0, 0, .dup), (17, 999, 0, 0, 0, 0, .ldc_w 287), (20, 0, 0, 942, 0, 0, .invokespecial 289), (23, 0, 0, 0, 0, 0, .athrow), (24, 0, 0, 0, 0, 0, .aload_n 0), (25, 9, 1, 245, 0, 0, .getfield 19), (28, 0, 0, 955, 0, 0, .invokevirtual 293), (31, 0, 0, 0, 0, 0, .l2d), (32, 0, 1, 0, 0, 0, .iload_n 1), (33, 0, 0, 0, 0, 0, .i2d), (34, 0, 0, 0, 0, 0, .ddiv), (35, 0, 0, 0, 0, 0, .dreturn)]
set_option maxRecDepth 100000 in
theorem okX7_meanPaid : hl_ok cX7_meanPaid RX7 2 false pX7_meanPaid = true := by decide +kernel
abbrev mX7_meanPaid : hl_M := (yX7_meanPaid, cX7_meanPaid, 2, (some .double))
theorem mtX7_meanPaid : hl_mv mX7_meanPaid 0 := ⟨⟨hl_T_of (k := 954) (by decide +kernel) rfl, hl_T_of (k := 49) (by decide +kernel) rfl, ⟨by decide +kernel, by decide +kernel⟩, by decide +kernel⟩, hl_T_of (k := 952) (by decide +kernel) rfl, hl_T_of (k := 953) (by decide +kernel) rfl⟩
def pX7_requireCurrency : List hl_I := [(0, 0, 1, 0, 0, 0, .iload_n 1), (1, 9, 0, 0, 0, 0, .ifCond .lt 8), (4, 0, 1, 0, 0, 0, .iload_n 1), (5, 0, 0, 0, 4, 0, .iconst 4), (6, 20, 0, 0, 0, 0, .if_icmp .lt 14), (9, 100, 0, 385, 0, 0, .new 100), (12, 0, 0, 0, 0, 0, .dup), (13, 999, 0, 0, 0, 0, .ldc_w 297), (16, 0, 0, 431, 0, 0, .invokespecial 104), (19, 0, 0, 0, 0, 0, .athrow), (20, 0, 0, 0, 0, 0, .return_)]
set_option maxRecDepth 100000 in
theorem okX7_requireCurrency : hl_ok cX7_requireCurrency RX7 2 false pX7_requireCurrency = true := by decide +kernel
abbrev mX7_requireCurrency : hl_M := (yX7_requireCurrency, cX7_requireCurrency, 2, none)
theorem mtX7_requireCurrency : hl_mv mX7_requireCurrency 1 := ⟨⟨hl_T_of (k := 384) (by decide +kernel) rfl, hl_T_of (k := 49) (by decide +kernel) rfl, ⟨by decide +kernel, by decide +kernel⟩, by decide +kernel⟩, hl_T_of (k := 383) (by decide +kernel) rfl, hl_T_of (k := 6) (by decide +kernel) rfl⟩
def pX7_requireLimit : List hl_I := [(0, 0, 1, 0, 0, 0, .iload_n 1), (1, 11, 0, 0, 0, 0, .ifCond .lt 10), (4, 0, 1, 0, 0, 0, .iload_n 1), (5, 0, 0, 461, 1000000, 0, .ldc_w 299), (8, 22, 0, 0, 0, 0, .if_icmp .le 14), (11, 100, 0, 385, 0, 0, .new 100), (14, 0, 0, 0, 0, 0, .dup), (15, 999, 0, 0, 0, 0, .ldc_w 300), (18, 0, 0, 431, 0, 0, .invokespecial 104), (21, 0, 0, 0, 0, 0, .athrow), (22, 0, 0, 0, 0, 0, .return_)]
set_option maxRecDepth 100000 in
theorem okX7_requireLimit : hl_ok cX7_requireLimit RX7 2 false pX7_requireLimit = true := by decide +kernel
abbrev mX7_requireLimit : hl_M := (yX7_requireLimit, cX7_requireLimit, 2, none)
theorem mtX7_requireLimit : hl_mv mX7_requireLimit 1 := ⟨⟨hl_T_of (k := 460) (by decide +kernel) rfl, hl_T_of (k := 49) (by decide +kernel) rfl, ⟨by decide +kernel, by decide +kernel⟩, by decide +kernel⟩, hl_T_of (k := 459) (by decide +kernel) rfl, hl_T_of (k := 8) (by decide +kernel) rfl⟩
def pX7_requireAmount : List hl_I := [(0, 0, 1, 0, 0, 0, .iload_n 1), (1, 0, 0, 0, 1, 0, .iconst 1), (2, 12, 0, 0, 0, 0, .if_icmp .lt 10), (5, 0, 1, 0, 0, 0, .iload_n 1), (6, 0, 0, 461, 1000000, 0, .ldc_w 299), (9, 23, 0, 0, 0, 0, .if_icmp .le 14), (12, 100, 0, 385, 0, 0, .new 100), (15, 0, 0, 0, 0, 0, .dup), (16, 999, 0, 0, 0, 0, .ldc_w 302), (19, 0, 0, 431, 0, 0, .invokespecial 104), (22, 0, 0, 0, 0, 0, .athrow), (23, 0, 0, 0, 0, 0, .return_)]
set_option maxRecDepth 100000 in
theorem okX7_requireAmount : hl_ok cX7_requireAmount RX7 2 false pX7_requireAmount = true := by decide +kernel
abbrev mX7_requireAmount : hl_M := (yX7_requireAmount, cX7_requireAmount, 2, none)
theorem mtX7_requireAmount : hl_mv mX7_requireAmount 1 := ⟨⟨hl_T_of (k := 626) (by decide +kernel) rfl, hl_T_of (k := 49) (by decide +kernel) rfl, ⟨by decide +kernel, by decide +kernel⟩, by decide +kernel⟩, hl_T_of (k := 625) (by decide +kernel) rfl, hl_T_of (k := 12) (by decide +kernel) rfl⟩
def pX7_requireNewKey : List hl_I := [(0, 0, 1, 0, 0, 0, .iload_n 1), (1, 0, 0, 0, 1, 0, .iconst 1), (2, 12, 0, 0, 0, 0, .if_icmp .lt 10), (5, 0, 1, 0, 0, 0, .iload_n 1), (6, 0, 0, 0, 999, 0, .sipush 999), (9, 23, 0, 0, 0, 0, .if_icmp .le 14), (12, 100, 0, 385, 0, 0, .new 100), (15, 0, 0, 0, 0, 0, .dup), (16, 999, 0, 0, 0, 0, .ldc_w 304), (19, 0, 0, 431, 0, 0, .invokespecial 104), (22, 0, 0, 0, 0, 0, .athrow), (23, 0, 0, 0, 0, 0, .aload_n 0), (24, 9, 4, 248, 0, 0, .getfield 40), (27, 0, 1, 0, 0, 0, .iload_n 1), (28, 0, 0, 0, 0, 0, .aload_n 0), (29, 9, 6, 250, 0, 0, .getfield 53), (32, 0, 0, 618, 0, 0, .invokevirtual 276), (35, 49, 0, 0, 0, 0, .ifCond .eq 14), (38, 100, 0, 385, 0, 0, .new 100), (41, 0, 0, 0, 0, 0, .dup), (42, 999, 0, 0, 0, 0, .ldc_w 306), (45, 0, 0, 431, 0, 0, .invokespecial 104), (48, 0, 0, 0, 0, 0, .athrow), (49, 0, 0, 0, 0, 0, .return_)]
set_option maxRecDepth 100000 in
theorem okX7_requireNewKey : hl_ok cX7_requireNewKey RX7 2 false pX7_requireNewKey = true := by decide +kernel
abbrev mX7_requireNewKey : hl_M := (yX7_requireNewKey, cX7_requireNewKey, 2, none)
theorem mtX7_requireNewKey : hl_mv mX7_requireNewKey 1 := ⟨⟨hl_T_of (k := 616) (by decide +kernel) rfl, hl_T_of (k := 49) (by decide +kernel) rfl, ⟨by decide +kernel, by decide +kernel⟩, by decide +kernel⟩, hl_T_of (k := 615) (by decide +kernel) rfl, hl_T_of (k := 11) (by decide +kernel) rfl⟩
def pX7_requireAccount : List hl_I := [(0, 0, 1, 0, 0, 0, .iload_n 1), (1, 15, 0, 0, 0, 0, .ifCond .lt 14), (4, 0, 1, 0, 0, 0, .iload_n 1), (5, 0, 0, 0, 0, 0, .aload_n 0), (6, 9, 0, 244, 0, 0, .getfield 12), (9, 3, 0, 101, 0, 1, .getfield 63), (12, 26, 0, 0, 0, 0, .if_icmp .lt 14), (15, 100, 0, 519, 0, 0, .new 216), (18, 0, 0, 0, 0, 0, .dup), (19, 999, 0, 0, 0, 0, .ldc_w 308), (22, 0, 0, 529, 0, 0, .invokespecial 220), (25, 0, 0, 0, 0, 0, .athrow), (26, 0, 0, 0, 0, 0, .return_)]
set_option maxRecDepth 100000 in
theorem okX7_requireAccount : hl_ok cX7_requireAccount RX7 2 false pX7_requireAccount = true := by decide +kernel
abbrev mX7_requireAccount : hl_M := (yX7_requireAccount, cX7_requireAccount, 2, none)
theorem mtX7_requireAccount : hl_mv mX7_requireAccount 1 := ⟨⟨hl_T_of (k := 518) (by decide +kernel) rfl, hl_T_of (k := 49) (by decide +kernel) rfl, ⟨by decide +kernel, by decide +kernel⟩, by decide +kernel⟩, hl_T_of (k := 517) (by decide +kernel) rfl, hl_T_of (k := 9) (by decide +kernel) rfl⟩
def pX7_requireTwoAccounts : List hl_I := [(0, 0, 1, 0, 0, 0, .iload_n 1), (1, 0, 2, 0, 0, 0, .iload_n 2), (2, 16, 0, 0, 0, 0, .if_icmp .ne 14), (5, 100, 0, 385, 0, 0, .new 100), (8, 0, 0, 0, 0, 0, .dup), (9, 999, 0, 0, 0, 0, .ldc_w 310), (12, 0, 0, 431, 0, 0, .invokespecial 104), (15, 0, 0, 0, 0, 0, .athrow), (16, 0, 0, 0, 0, 0, .aload_n 0), (17, 0, 1, 0, 0, 0, .iload_n 1), (18, 0, 0, 515, 0, 0, .invokevirtual 77), (21, 0, 0, 0, 0, 0, .aload_n 0), (22, 0, 2, 0, 0, 0, .iload_n 2), (23, 0, 0, 515, 0, 0, .invokevirtual 77), (26, 0, 0, 0, 0, 0, .return_)]
set_option maxRecDepth 100000 in
theorem okX7_requireTwoAccounts : hl_ok cX7_requireTwoAccounts RX7 3 false pX7_requireTwoAccounts = true := by decide +kernel
abbrev mX7_requireTwoAccounts : hl_M := (yX7_requireTwoAccounts, cX7_requireTwoAccounts, 3, none)
theorem mtX7_requireTwoAccounts : hl_mv mX7_requireTwoAccounts 2 := ⟨⟨hl_T_of (k := 678) (by decide +kernel) rfl, hl_T_of (k := 49) (by decide +kernel) rfl, ⟨by decide +kernel, by decide +kernel⟩, by decide +kernel⟩, hl_T_of (k := 677) (by decide +kernel) rfl, hl_T_of (k := 17) (by decide +kernel) rfl⟩
def pX7_requireTransaction : List hl_I := [(0, 0, 1, 0, 0, 0, .iload_n 1), (1, 15, 0, 0, 0, 0, .ifCond .lt 14), (4, 0, 1, 0, 0, 0, .iload_n 1), (5, 0, 0, 0, 0, 0, .aload_n 0), (6, 9, 1, 245, 0, 0, .getfield 19), (9, 6, 0, 138, 0, 1, .getfield 260), (12, 26, 0, 0, 0, 0, .if_icmp .lt 14), (15, 100, 0, 519, 0, 0, .new 216), (18, 0, 0, 0, 0, 0, .dup), (19, 999, 0, 0, 0, 0, .ldc_w 312), (22, 0, 0, 529, 0, 0, .invokespecial 220), (25, 0, 0, 0, 0, 0, .athrow), (26, 0, 0, 0, 0, 0, .return_)]
set_option maxRecDepth 100000 in
theorem okX7_requireTransaction : hl_ok cX7_requireTransaction RX7 2 false pX7_requireTransaction = true := by decide +kernel
abbrev mX7_requireTransaction : hl_M := (yX7_requireTransaction, cX7_requireTransaction, 2, none)
theorem mtX7_requireTransaction : hl_mv mX7_requireTransaction 1 := ⟨⟨hl_T_of (k := 752) (by decide +kernel) rfl, hl_T_of (k := 49) (by decide +kernel) rfl, ⟨by decide +kernel, by decide +kernel⟩, by decide +kernel⟩, hl_T_of (k := 751) (by decide +kernel) rfl, hl_T_of (k := 21) (by decide +kernel) rfl⟩
def pX7_requireHold : List hl_I := [(0, 0, 1, 0, 0, 0, .iload_n 1), (1, 15, 0, 0, 0, 0, .ifCond .lt 14), (4, 0, 1, 0, 0, 0, .iload_n 1), (5, 0, 0, 0, 0, 0, .aload_n 0), (6, 9, 2, 246, 0, 0, .getfield 26), (9, 5, 0, 178, 0, 1, .getfield 153), (12, 26, 0, 0, 0, 0, .if_icmp .lt 14), (15, 100, 0, 519, 0, 0, .new 216), (18, 0, 0, 0, 0, 0, .dup), (19, 999, 0, 0, 0, 0, .ldc_w 314), (22, 0, 0, 529, 0, 0, .invokespecial 220), (25, 0, 0, 0, 0, 0, .athrow), (26, 0, 0, 0, 0, 0, .return_)]
set_option maxRecDepth 100000 in
theorem okX7_requireHold : hl_ok cX7_requireHold RX7 2 false pX7_requireHold = true := by decide +kernel
abbrev mX7_requireHold : hl_M := (yX7_requireHold, cX7_requireHold, 2, none)
theorem mtX7_requireHold : hl_mv mX7_requireHold 1 := ⟨⟨hl_T_of (k := 713) (by decide +kernel) rfl, hl_T_of (k := 49) (by decide +kernel) rfl, ⟨by decide +kernel, by decide +kernel⟩, by decide +kernel⟩, hl_T_of (k := 712) (by decide +kernel) rfl, hl_T_of (k := 20) (by decide +kernel) rfl⟩
def pX7_requireActiveHold : List hl_I := [(0, 0, 0, 0, 0, 0, .aload_n 0), (1, 0, 1, 0, 0, 0, .iload_n 1), (2, 0, 0, 710, 0, 0, .invokevirtual 267), (5, 0, 0, 0, 0, 0, .aload_n 0), (6, 9, 2, 246, 0, 0, .getfield 26), (9, 0, 1, 0, 0, 0, .iload_n 1), (10, 0, 0, 715, 0, 0, .invokevirtual 316), (13, 27, 0, 0, 0, 0, .ifCond .ne 14), (16, 100, 0, 716, 0, 0, .new 194), (19, 0, 0, 0, 0, 0, .dup), (20, 999, 0, 0, 0, 0, .ldc_w 319), (23, 0, 0, 726, 0, 0, .invokespecial 198), (26, 0, 0, 0, 0, 0, .athrow), (27, 0, 0, 0, 0, 0, .return_)]
set_option maxRecDepth 100000 in
theorem okX7_requireActiveHold : hl_ok cX7_requireActiveHold RX7 2 false pX7_requireActiveHold = true := by decide +kernel
abbrev mX7_requireActiveHold : hl_M := (yX7_requireActiveHold, cX7_requireActiveHold, 2, none)
theorem mtX7_requireActiveHold : hl_mv mX7_requireActiveHold 1 := ⟨⟨hl_T_of (k := 709) (by decide +kernel) rfl, hl_T_of (k := 49) (by decide +kernel) rfl, ⟨by decide +kernel, by decide +kernel⟩, by decide +kernel⟩, hl_T_of (k := 708) (by decide +kernel) rfl, hl_T_of (k := 19) (by decide +kernel) rfl⟩
def pX7_requireSpendable : List hl_I := [(0, 0, 2, 0, 0, 0, .iload_n 2), (1, 0, 0, 0, 0, 0, .i2l), (2, 0, 0, 0, 0, 0, .aload_n 0), (3, 0, 1, 0, 0, 0, .iload_n 1), (4, 0, 0, 297, 0, 0, .invokevirtual 87), (7, 0, 0, 0, 0, 0, .lcmp), (8, 22, 0, 0, 0, 0, .ifCond .le 14), (11, 100, 0, 532, 0, 0, .new 91), (14, 0, 0, 0, 0, 0, .dup), (15, 999, 0, 0, 0, 0, .ldc_w 321), (18, 0, 0, 542, 0, 0, .invokespecial 95), (21, 0, 0, 0, 0, 0, .athrow), (22, 0, 0, 0, 0, 0, .return_)]
set_option maxRecDepth 100000 in
theorem okX7_requireSpendable : hl_ok cX7_requireSpendable RX7 3 false pX7_requireSpendable = true := by decide +kernel
abbrev mX7_requireSpendable : hl_M := (yX7_requireSpendable, cX7_requireSpendable, 3, none)
theorem mtX7_requireSpendable : hl_mv mX7_requireSpendable 2 := ⟨⟨hl_T_of (k := 666) (by decide +kernel) rfl, hl_T_of (k := 49) (by decide +kernel) rfl, ⟨by decide +kernel, by decide +kernel⟩, by decide +kernel⟩, hl_T_of (k := 665) (by decide +kernel) rfl, hl_T_of (k := 16) (by decide +kernel) rfl⟩
def pX7_requireSomethingReceived : List hl_I := [(0, 0, 1, 0, 0, 0, .iload_n 1), (1, 0, 0, 0, 1, 0, .iconst 1), (2, 16, 0, 0, 0, 0, .if_icmp .ge 14), (5, 100, 0, 532, 0, 0, .new 91), (8, 0, 0, 0, 0, 0, .dup), (9, 999, 0, 0, 0, 0, .ldc_w 323), (12, 0, 0, 542, 0, 0, .invokespecial 95), (15, 0, 0, 0, 0, 0, .athrow), (16, 0, 0, 0, 0, 0, .return_)]
set_option maxRecDepth 100000 in
theorem okX7_requireSomethingReceived : hl_ok cX7_requireSomethingReceived RX7 2 false pX7_requireSomethingReceived = true := by decide +kernel
abbrev mX7_requireSomethingReceived : hl_M := (yX7_requireSomethingReceived, cX7_requireSomethingReceived, 2, none)
theorem mtX7_requireSomethingReceived : hl_mv mX7_requireSomethingReceived 1 := ⟨⟨hl_T_of (k := 683) (by decide +kernel) rfl, hl_T_of (k := 49) (by decide +kernel) rfl, ⟨by decide +kernel, by decide +kernel⟩, by decide +kernel⟩, hl_T_of (k := 682) (by decide +kernel) rfl, hl_T_of (k := 18) (by decide +kernel) rfl⟩
def pX7_requireRoomInJournal : List hl_I := [(0, 0, 0, 0, 0, 0, .aload_n 0), (1, 9, 1, 245, 0, 0, .getfield 19), (4, 6, 0, 138, 0, 1, .getfield 260), (7, 0, 0, 0, 150, 0, .sipush 150), (10, 24, 0, 0, 0, 0, .if_icmp .lt 14), (13, 100, 0, 463, 0, 0, .new 66), (16, 0, 0, 0, 0, 0, .dup), (17, 999, 0, 0, 0, 0, .ldc_w 325), (20, 0, 0, 473, 0, 0, .invokespecial 70), (23, 0, 0, 0, 0, 0, .athrow), (24, 0, 0, 0, 0, 0, .return_)]
set_option maxRecDepth 100000 in
theorem okX7_requireRoomInJournal : hl_ok cX7_requireRoomInJournal RX7 1 false pX7_requireRoomInJournal = true := by decide +kernel
abbrev mX7_requireRoomInJournal : hl_M := (yX7_requireRoomInJournal, cX7_requireRoomInJournal, 1, none)
theorem mtX7_requireRoomInJournal : hl_mv mX7_requireRoomInJournal 0 := ⟨⟨hl_T_of (k := 631) (by decide +kernel) rfl, hl_T_of (k := 49) (by decide +kernel) rfl, ⟨by decide +kernel, by decide +kernel⟩, by decide +kernel⟩, hl_T_of (k := 630) (by decide +kernel) rfl, hl_T_of (k := 13) (by decide +kernel) rfl⟩
def pX7_spendable : List hl_I := [(0, 0, 0, 0, 0, 0, .aload_n 0), (1, 9, 0, 244, 0, 0, .getfield 12), (4, 3, 3, 107, 0, 1, .getfield 243), (7, 0, 1, 0, 0, 0, .iload_n 1), (8, 0, 0, 301, 0, 0, .invokevirtual 166), (11, 0, 0, 0, 0, 0, .aload_n 0), (12, 9, 0, 244, 0, 0, .getfield 12), (15, 3, 2, 105, 0, 1, .getfield 80), (18, 0, 1, 0, 0, 0, .iload_n 1), (19, 0, 0, 301, 0, 0, .invokevirtual 166), (22, 0, 0, 0, 0, 0, .ladd), (23, 0, 0, 0, 0, 0, .aload_n 0), (24, 9, 2, 246, 0, 0, .getfield 26), (27, 0, 1, 0, 0, 0, .iload_n 1), (28, 0, 0, 302, 0, 0, .invokevirtual 327), (31, 0, 0, 0, 0, 0, .lsub), (32, 0, 0, 0, 0, 0, .lreturn)]
set_option maxRecDepth 100000 in
theorem okX7_spendable : hl_ok cX7_spendable RX7 2 false pX7_spendable = true := by decide +kernel
abbrev mX7_spendable : hl_M := (yX7_spendable, cX7_spendable, 2, (some .long))
theorem mtX7_spendable : hl_mv mX7_spendable 1 := ⟨⟨hl_T_of (k := 300) (by decide +kernel) rfl, hl_T_of (k := 49) (by decide +kernel) rfl, ⟨by decide +kernel, by decide +kernel⟩, by decide +kernel⟩, hl_T_of (k := 299) (by decide +kernel) rfl, hl_T_of (k := 1) (by decide +kernel) rfl⟩
def pX7_post : List hl_I := [(0, 0, 0, 0, 0, 0, .aload_n 0), (1, 9, 0, 244, 0, 0, .getfield 12), (4, 0, 2, 0, 0, 0, .iload_n 2), (5, 0, 3, 0, 0, 0, .iload_n 3), (6, 0, 4, 0, 0, 0, .iload 4), (8, 0, 5, 0, 0, 0, .iload 5), (10, 0, 0, 637, 0, 0, .invokevirtual 330), (13, 0, 0, 0, 0, 0, .aload_n 0), (14, 9, 1, 245, 0, 0, .getfield 19), (17, 0, 1, 0, 0, 0, .iload_n 1), (18, 0, 2, 0, 0, 0, .iload_n 2), (19, 0, 3, 0, 0, 0, .iload_n 3), (20, 0, 4, 0, 0, 0, .iload 4), (22, 0, 5, 0, 0, 0, .iload 5), (24, 0, 0, 0, 0, 0, .aload_n 0), (25, 9, 6, 250, 0, 0, .getfield 53), (28, 0, 0, 646, 0, 0, .invokevirtual 334), (31, 0, 0, 0, 0, 0, .ireturn)]
set_option maxRecDepth 100000 in
theorem okX7_post : hl_ok cX7_post RX7 6 false pX7_post = true := by decide +kernel
abbrev mX7_post : hl_M := (yX7_post, cX7_post, 6, (some .int))
theorem mtX7_post : hl_mv mX7_post 5 := ⟨⟨hl_T_of (k := 636) (by decide +kernel) rfl, hl_T_of (k := 49) (by decide +kernel) rfl, ⟨by decide +kernel, by decide +kernel⟩, by decide +kernel⟩, hl_T_of (k := 635) (by decide +kernel) rfl, hl_T_of (k := 14) (by decide +kernel) rfl⟩
def pX7_cutBySums : List hl_I := [(0, 0, 0, 0, 0, 0, .iconst 0), (1, 0, 1, 0, 0, 0, .istore_n 1), (2, 0, 1, 0, 0, 0, .iload_n 1), (3, 0, 0, 0, 0, 0, .aload_n 0), (4, 9, 0, 244, 0, 0, .getfield 12), (7, 3, 0, 101, 0, 1, .getfield 63), (10, 32, 0, 0, 0, 0, .if_icmp .ge 22), (13, 0, 0, 0, 0, 0, .aload_n 0), (14, 9, 5, 249, 0, 0, .getfield 49), (17, 0, 1, 0, 0, 0, .iload_n 1), (18, 0, 0, 0, 0, 0, .aload_n 0), (19, 0, 1, 0, 0, 0, .iload_n 1), (20, 0, 0, 297, 0, 0, .invokevirtual 87), (23, 0, 0, 306, 0, 0, .invokevirtual 96), (26, 0, 1, 0, 1, 0, .iinc 1 1), (29, 2, 0, 0, 0, 0, .goto (-27)), (32, 0, 0, 0, 0, 0, .aload_n 0), (33, 9, 3, 247, 0, 0, .getfield 33), (36, 2, 0, 211, 0, 1, .getfield 210), (39, 0, 0, 0, 150, 0, .sipush 150), (42, 0, 0, 0, 0, 0, .aload_n 0), (43, 9, 1, 245, 0, 0, .getfield 19), (46, 6, 0, 138, 0, 1, .getfield 260), (49, 0, 0, 0, 0, 0, .isub), (50, 0, 0, 307, 0, 0, .invokestatic 337), (53, 0, 1, 0, 0, 0, .istore_n 1), (54, 0, 0, 0, 0, 0, .iconst 0), (55, 0, 2, 0, 0, 0, .istore_n 2), (56, 0, 0, 0, 0, 0, .iconst 0), (57, 0, 3, 0, 0, 0, .istore_n 3), (58, 0, 3, 0, 0, 0, .iload_n 3), (59, 0, 1, 0, 0, 0, .iload_n 1), (60, 146, 0, 0, 0, 0, .if_icmp .ge 86), (63, 0, 0, 0, 0, 0, .aload_n 0), (64, 0, 3, 0, 0, 0, .iload_n 3), (65, 0, 0, 310, 0, 0, .invokevirtual 342), (68, 0, 4, 0, 0, 0, .istore 4), (70, 0, 4, 0, 0, 0, .iload 4), (72, 0, 0, 0, 1, 0, .iconst 1), (73, 78, 0, 0, 0, 0, .if_icmp .ge 5), (76, 0, 2, 0, 0, 0, .iload_n 2), (77, 0, 0, 0, 0, 0, .ireturn), (78, 0, 0, 0, 0, 0, .aload_n 0), (79, 9, 5, 249, 0, 0, .getfield 49), (82, 0, 0, 0, 0, 0, .aload_n 0), (83, 9, 3, 247, 0, 0, .getfield 33), (86, 2, 1, 213, 0, 1, .getfield 231), (89, 0, 3, 0, 0, 0, .iload_n 3), (90, 0, 0, 314, 0, 0, .invokevirtual 83), (93, 0, 0, 0, 0, 0, .aload_n 0), (94, 9, 3, 247, 0, 0, .getfield 33), (97, 2, 3, 217, 0, 1, .getfield 221), (100, 0, 3, 0, 0, 0, .iload_n 3), (101, 0, 0, 301, 0, 0, .invokevirtual 166), (104, 0, 0, 0, 0, 0, .lneg), (105, 0, 0, 324, 0, 0, .invokevirtual 345), (108, 0, 0, 0, 0, 0, .aload_n 0), (109, 9, 5, 249, 0, 0, .getfield 49), (112, 0, 0, 0, 0, 0, .aload_n 0), (113, 9, 3, 247, 0, 0, .getfield 33), (116, 2, 2, 215, 0, 1, .getfield 232), (119, 0, 3, 0, 0, 0, .iload_n 3), (120, 0, 0, 314, 0, 0, .invokevirtual 83), (123, 0, 4, 0, 0, 0, .iload 4), (125, 0, 0, 0, 0, 0, .i2l), (126, 0, 0, 324, 0, 0, .invokevirtual 345), (129, 0, 0, 0, 0, 0, .aload_n 0), (130, 0, 0, 328, 0, 0, .invokevirtual 348), (133, 140, 0, 0, 0, 0, .ifCond .eq 7), (136, 0, 3, 0, 0, 0, .iload_n 3), (137, 0, 0, 0, 1, 0, .iconst 1), (138, 0, 0, 0, 0, 0, .iadd), (139, 0, 2, 0, 0, 0, .istore_n 2), (140, 0, 3, 0, 1, 0, .iinc 3 1), (143, 58, 0, 0, 0, 0, .goto (-85)), (146, 0, 2, 0, 0, 0, .iload_n 2), (147, 0, 0, 0, 0, 0, .ireturn)]
set_option maxRecDepth 100000 in
theorem okX7_cutBySums : hl_ok cX7_cutBySums RX7 5 false pX7_cutBySums = true := by decide +kernel
abbrev mX7_cutBySums : hl_M := (yX7_cutBySums, cX7_cutBySums, 5, (some .int))
theorem mtX7_cutBySums : hl_mv mX7_cutBySums 0 := ⟨⟨hl_T_of (k := 296) (by decide +kernel) rfl, hl_T_of (k := 49) (by decide +kernel) rfl, ⟨by decide +kernel, by decide +kernel⟩, by decide +kernel⟩, hl_T_of (k := 295) (by decide +kernel) rfl, hl_T_of (k := 0) (by decide +kernel) rfl⟩
def pX7_hasNoNegativeSum : List hl_I := [(0, 0, 0, 0, 0, 0, .iconst 0), (1, 0, 1, 0, 0, 0, .istore_n 1), (2, 0, 1, 0, 0, 0, .iload_n 1), (3, 0, 0, 0, 0, 0, .aload_n 0), (4, 9, 0, 244, 0, 0, .getfield 12), (7, 3, 0, 101, 0, 1, .getfield 63), (10, 34, 0, 0, 0, 0, .if_icmp .ge 24), (13, 0, 0, 0, 0, 0, .aload_n 0), (14, 9, 5, 249, 0, 0, .getfield 49), (17, 0, 1, 0, 0, 0, .iload_n 1), (18, 0, 0, 301, 0, 0, .invokevirtual 166), (21, 0, 0, 0, 0, 0, .lconst 0), (22, 0, 0, 0, 0, 0, .lcmp), (23, 28, 0, 0, 0, 0, .ifCond .ge 5), (26, 0, 0, 0, 0, 0, .iconst 0), (27, 0, 0, 0, 0, 0, .ireturn), (28, 0, 1, 0, 1, 0, .iinc 1 1), (31, 2, 0, 0, 0, 0, .goto (-29)), (34, 0, 0, 0, 1, 0, .iconst 1), (35, 0, 0, 0, 0, 0, .ireturn)]
set_option maxRecDepth 100000 in
theorem okX7_hasNoNegativeSum : hl_ok cX7_hasNoNegativeSum RX7 2 false pX7_hasNoNegativeSum = true := by decide +kernel
abbrev mX7_hasNoNegativeSum : hl_M := (yX7_hasNoNegativeSum, cX7_hasNoNegativeSum, 2, (some .boolean))
theorem mtX7_hasNoNegativeSum : hl_mv mX7_hasNoNegativeSum 0 := ⟨⟨hl_T_of (k := 331) (by decide +kernel) rfl, hl_T_of (k := 49) (by decide +kernel) rfl, ⟨by decide +kernel, by decide +kernel⟩, by decide +kernel⟩, hl_T_of (k := 330) (by decide +kernel) rfl, hl_T_of (k := 3) (by decide +kernel) rfl⟩
def pX7_canSettleTogether : List hl_I := [(0, 0, 0, 0, 0, 0, .aload_n 0), (1, 9, 1, 245, 0, 0, .getfield 19), (4, 6, 0, 138, 0, 1, .getfield 260), (7, 0, 1, 0, 0, 0, .iload_n 1), (8, 0, 0, 0, 0, 0, .iadd), (9, 0, 0, 0, 150, 0, .sipush 150), (12, 17, 0, 0, 0, 0, .if_icmp .le 5), (15, 0, 0, 0, 0, 0, .iconst 0), (16, 0, 0, 0, 0, 0, .ireturn), (17, 0, 0, 0, 0, 0, .iconst 0), (18, 0, 2, 0, 0, 0, .istore_n 2), (19, 0, 2, 0, 0, 0, .iload_n 2), (20, 0, 1, 0, 0, 0, .iload_n 1), (21, 41, 0, 0, 0, 0, .if_icmp .ge 20), (24, 0, 0, 0, 0, 0, .aload_n 0), (25, 0, 2, 0, 0, 0, .iload_n 2), (26, 0, 0, 310, 0, 0, .invokevirtual 342), (29, 0, 0, 0, 1, 0, .iconst 1), (30, 35, 0, 0, 0, 0, .if_icmp .ge 5), (33, 0, 0, 0, 0, 0, .iconst 0), (34, 0, 0, 0, 0, 0, .ireturn), (35, 0, 2, 0, 1, 0, .iinc 2 1), (38, 19, 0, 0, 0, 0, .goto (-19)), (41, 0, 0, 0, 0, 0, .iconst 0), (42, 0, 2, 0, 0, 0, .istore_n 2), (43, 0, 2, 0, 0, 0, .iload_n 2), (44, 0, 0, 0, 0, 0, .aload_n 0), (45, 9, 0, 244, 0, 0, .getfield 12), (48, 3, 0, 101, 0, 1, .getfield 63), (51, 79, 0, 0, 0, 0, .if_icmp .ge 28), (54, 0, 0, 0, 0, 0, .aload_n 0), (55, 0, 2, 0, 0, 0, .iload_n 2), (56, 0, 0, 297, 0, 0, .invokevirtual 87), (59, 0, 0, 0, 0, 0, .aload_n 0), (60, 0, 1, 0, 0, 0, .iload_n 1), (61, 0, 2, 0, 0, 0, .iload_n 2), (62, 0, 0, 340, 0, 0, .invokevirtual 239), (65, 0, 0, 0, 0, 0, .ladd), (66, 0, 0, 0, 0, 0, .lconst 0), (67, 0, 0, 0, 0, 0, .lcmp), (68, 73, 0, 0, 0, 0, .ifCond .ge 5), (71, 0, 0, 0, 0, 0, .iconst 0), (72, 0, 0, 0, 0, 0, .ireturn), (73, 0, 2, 0, 1, 0, .iinc 2 1), (76, 43, 0, 0, 0, 0, .goto (-33)), (79, 0, 0, 0, 1, 0, .iconst 1), (80, 0, 0, 0, 0, 0, .ireturn)]
set_option maxRecDepth 100000 in
theorem okX7_canSettleTogether : hl_ok cX7_canSettleTogether RX7 3 false pX7_canSettleTogether = true := by decide +kernel
abbrev mX7_canSettleTogether : hl_M := (yX7_canSettleTogether, cX7_canSettleTogether, 3, (some .boolean))
theorem mtX7_canSettleTogether : hl_mv mX7_canSettleTogether 1 := ⟨⟨hl_T_of (k := 339) (by decide +kernel) rfl, hl_T_of (k := 49) (by decide +kernel) rfl, ⟨by decide +kernel, by decide +kernel⟩, by decide +kernel⟩, hl_T_of (k := 338) (by decide +kernel) rfl, hl_T_of (k := 4) (by decide +kernel) rfl⟩
def pX7_netOfFirst : List hl_I := [(0, 0, 0, 0, 0, 0, .lconst 0), (1, 0, 3, 0, 0, 0, .lstore_n 3), (2, 0, 0, 0, 0, 0, .iconst 0), (3, 0, 5, 0, 0, 0, .istore 5), (5, 0, 5, 0, 0, 0, .iload 5), (7, 0, 1, 0, 0, 0, .iload_n 1), (8, 78, 0, 0, 0, 0, .if_icmp .ge 70), (11, 0, 0, 0, 0, 0, .aload_n 0), (12, 9, 3, 247, 0, 0, .getfield 33), (15, 2, 1, 213, 0, 1, .getfield 231), (18, 0, 5, 0, 0, 0, .iload 5), (20, 0, 0, 301, 0, 0, .invokevirtual 166), (23, 0, 2, 0, 0, 0, .iload_n 2), (24, 0, 0, 0, 0, 0, .i2l), (25, 0, 0, 0, 0, 0, .lcmp), (26, 44, 0, 0, 0, 0, .ifCond .ne 18), (29, 0, 3, 0, 0, 0, .lload_n 3), (30, 0, 0, 0, 0, 0, .aload_n 0), (31, 9, 3, 247, 0, 0, .getfield 33), (34, 2, 3, 217, 0, 1, .getfield 221), (37, 0, 5, 0, 0, 0, .iload 5), (39, 0, 0, 301, 0, 0, .invokevirtual 166), (42, 0, 0, 0, 0, 0, .lsub), (43, 0, 3, 0, 0, 0, .lstore_n 3), (44, 0, 0, 0, 0, 0, .aload_n 0), (45, 9, 3, 247, 0, 0, .getfield 33), (48, 2, 2, 215, 0, 1, .getfield 232), (51, 0, 5, 0, 0, 0, .iload 5), (53, 0, 0, 301, 0, 0, .invokevirtual 166), (56, 0, 2, 0, 0, 0, .iload_n 2), (57, 0, 0, 0, 0, 0, .i2l), (58, 0, 0, 0, 0, 0, .lcmp), (59, 72, 0, 0, 0, 0, .ifCond .ne 13), (62, 0, 3, 0, 0, 0, .lload_n 3), (63, 0, 0, 0, 0, 0, .aload_n 0), (64, 0, 5, 0, 0, 0, .iload 5), (66, 0, 0, 310, 0, 0, .invokevirtual 342), (69, 0, 0, 0, 0, 0, .i2l), (70, 0, 0, 0, 0, 0, .ladd), (71, 0, 3, 0, 0, 0, .lstore_n 3), (72, 0, 5, 0, 1, 0, .iinc 5 1), (75, 5, 0, 0, 0, 0, .goto (-70)), (78, 0, 3, 0, 0, 0, .lload_n 3), (79, 0, 0, 0, 0, 0, .lreturn)]
set_option maxRecDepth 100000 in
theorem okX7_netOfFirst : hl_ok cX7_netOfFirst RX7 6 false pX7_netOfFirst = true := by decide +kernel
abbrev mX7_netOfFirst : hl_M := (yX7_netOfFirst, cX7_netOfFirst, 6, (some .long))
theorem mtX7_netOfFirst : hl_mv mX7_netOfFirst 2 := ⟨⟨hl_T_of (k := 343) (by decide +kernel) rfl, hl_T_of (k := 49) (by decide +kernel) rfl, ⟨by decide +kernel, by decide +kernel⟩, by decide +kernel⟩, hl_T_of (k := 342) (by decide +kernel) rfl, hl_T_of (k := 5) (by decide +kernel) rfl⟩
def pX7_receivedByPayment : List hl_I := [(0, 0, 0, 0, 0, 0, .aload_n 0), (1, 9, 0, 244, 0, 0, .getfield 12), (4, 0, 0, 0, 0, 0, .aload_n 0), (5, 9, 3, 247, 0, 0, .getfield 33), (8, 2, 1, 213, 0, 1, .getfield 231), (11, 0, 1, 0, 0, 0, .iload_n 1), (12, 0, 0, 314, 0, 0, .invokevirtual 83), (15, 0, 0, 0, 0, 0, .aload_n 0), (16, 9, 3, 247, 0, 0, .getfield 33), (19, 2, 2, 215, 0, 1, .getfield 232), (22, 0, 1, 0, 0, 0, .iload_n 1), (23, 0, 0, 314, 0, 0, .invokevirtual 83), (26, 0, 0, 0, 0, 0, .aload_n 0), (27, 9, 3, 247, 0, 0, .getfield 33), (30, 2, 3, 217, 0, 1, .getfield 221), (33, 0, 1, 0, 0, 0, .iload_n 1), (34, 0, 0, 314, 0, 0, .invokevirtual 83), (37, 0, 0, 318, 0, 0, .invokevirtual 144), (40, 0, 0, 0, 0, 0, .ireturn)]
set_option maxRecDepth 100000 in
theorem okX7_receivedByPayment : hl_ok cX7_receivedByPayment RX7 2 false pX7_receivedByPayment = true := by decide +kernel
abbrev mX7_receivedByPayment : hl_M := (yX7_receivedByPayment, cX7_receivedByPayment, 2, (some .int))
theorem mtX7_receivedByPayment : hl_mv mX7_receivedByPayment 1 := ⟨⟨hl_T_of (k := 313) (by decide +kernel) rfl, hl_T_of (k := 49) (by decide +kernel) rfl, ⟨by decide +kernel, by decide +kernel⟩, by decide +kernel⟩, hl_T_of (k := 312) (by decide +kernel) rfl, hl_T_of (k := 2) (by decide +kernel) rfl⟩
def pX8_init : List hl_I := [(0, 0, 0, 0, 0, 0, .aload_n 0), (1, 1, 0, 964, 0, 0, .invokespecial 1), (4, 0, 0, 0, 0, 0, .aload_n 0), (5, 0, 0, 0, 10, 0, .bipush 10), (7, 0, 10, 1062, 10, 0, .newarray .int), (9, 10, 0, 965, 1, 0, .putfield 7), (12, 0, 0, 0, 0, 0, .aload_n 0), (13, 0, 0, 0, 10, 0, .bipush 10), (15, 0, 10, 1062, 10, 0, .newarray .int), (17, 10, 1, 966, 1, 0, .putfield 13), (20, 0, 0, 0, 0, 0, .aload_n 0), (21, 0, 0, 0, 4, 0, .iconst 4), (22, 0, 4, 1062, 4, 0, .newarray .int), (24, 10, 2, 967, 1, 0, .putfield 16), (27, 0, 0, 0, 0, 0, .aload_n 0), (28, 0, 0, 0, 10, 0, .bipush 10), (30, 1, 10, 94, 10, 0, .newarray .long), (32, 10, 3, 968, 1, 0, .putfield 19), (35, 0, 0, 0, 0, 0, .aload_n 0), (36, 0, 0, 0, 4, 0, .iconst 4), (37, 1, 4, 94, 4, 0, .newarray .long), (39, 10, 4, 969, 1, 0, .putfield 23), (42, 0, 0, 0, 0, 0, .aload_n 0), (43, 0, 0, 0, 4, 0, .iconst 4), (44, 1, 4, 94, 4, 0, .newarray .long), (46, 10, 5, 970, 1, 0, .putfield 26), (49, 0, 0, 0, 0, 0, .aload_n 0), (50, 0, 0, 0, 10, 0, .bipush 10), (52, 1, 10, 94, 10, 0, .newarray .long), (54, 10, 6, 971, 1, 0, .putfield 29), (57, 0, 0, 0, 0, 0, .aload_n 0), (58, 0, 0, 0, 150, 0, .sipush 150), (61, 0, 150, 1062, 150, 0, .newarray .int), (63, 10, 7, 972, 1, 0, .putfield 32), (66, 0, 0, 0, 0, 0, .aload_n 0), (67, 0, 0, 0, 150, 0, .sipush 150), (70, 0, 150, 1062, 150, 0, .newarray .int), (72, 10, 8, 973, 1, 0, .putfield 35), (75, 0, 0, 0, 0, 0, .aload_n 0), (76, 0, 0, 0, 150, 0, .sipush 150), (79, 0, 150, 1062, 150, 0, .newarray .int), (81, 10, 9, 974, 1, 0, .putfield 38), (84, 0, 0, 0, 0, 0, .aload_n 0), (85, 0, 0, 0, 150, 0, .sipush 150), (88, 0, 150, 1062, 150, 0, .newarray .int), (90, 10, 10, 975, 1, 0, .putfield 41), (93, 0, 0, 0, 0, 0, .aload_n 0), (94, 0, 0, 0, 150, 0, .sipush 150), (97, 0, 150, 1062, 150, 0, .newarray .int), (99, 10, 11, 976, 1, 0, .putfield 44), (102, 0, 0, 0, 0, 0, .aload_n 0), (103, 0, 0, 0, 150, 0, .sipush 150), (106, 0, 150, 1062, 150, 0, .newarray .int), (108, 10, 12, 977, 1, 0, .putfield 47), (111, 0, 0, 0, 0, 0, .aload_n 0), (112, 0, 0, 0, 150, 0, .sipush 150), (115, 0, 150, 1062, 150, 0, .newarray .int), (117, 10, 13, 978, 1, 0, .putfield 50), (120, 0, 0, 0, 0, 0, .aload_n 0), (121, 0, 0, 0, 30, 0, .bipush 30), (123, 0, 30, 1062, 30, 0, .newarray .int), (125, 10, 14, 979, 1, 0, .putfield 53), (128, 0, 0, 0, 0, 0, .aload_n 0), (129, 0, 0, 0, 30, 0, .bipush 30), (131, 0, 30, 1062, 30, 0, .newarray .int), (133, 10, 15, 980, 1, 0, .putfield 56), (136, 0, 0, 0, 0, 0, .aload_n 0), (137, 0, 0, 0, 30, 0, .bipush 30), (139, 0, 30, 1062, 30, 0, .newarray .int), (141, 10, 16, 981, 1, 0, .putfield 59), (144, 0, 0, 0, 0, 0, .aload_n 0), (145, 0, 0, 0, 30, 0, .bipush 30), (147, 0, 30, 1062, 30, 0, .newarray .int), (149, 10, 17, 982, 1, 0, .putfield 62), (152, 0, 0, 0, 0, 0, .aload_n 0), (153, 0, 0, 0, 30, 0, .bipush 30), (155, 0, 30, 1062, 30, 0, .newarray .int), (157, 10, 18, 983, 1, 0, .putfield 65), (160, 0, 0, 0, 0, 0, .aload_n 0), (161, 0, 0, 0, 12, 0, .bipush 12), (163, 0, 12, 1062, 12, 0, .newarray .int), (165, 10, 19, 984, 1, 0, .putfield 68), (168, 0, 0, 0, 0, 0, .aload_n 0), (169, 0, 0, 0, 12, 0, .bipush 12), (171, 0, 12, 1062, 12, 0, .newarray .int), (173, 10, 20, 985, 1, 0, .putfield 71), (176, 0, 0, 0, 0, 0, .aload_n 0), (177, 0, 0, 0, 12, 0, .bipush 12), (179, 0, 12, 1062, 12, 0, .newarray .int), (181, 10, 21, 986, 1, 0, .putfield 74), (184, 0, 0, 0, 0, 0, .aload_n 0), (185, 0, 0, 0, 1000, 0, .sipush 1000), (188, 0, 1000, 1062, 1000, 0, .newarray .int), (190, 10, 22, 987, 1, 0, .putfield 77), (193, 0, 0, 0, 0, 0, .aload_n 0), (194, 0, 0, 0, 4000, 0, .sipush 4000), (197, 0, 4000, 1062, 4000, 0, .newarray .int), (199, 10, 23, 988, 1, 0, .putfield 80), (202, 0, 0, 0, 0, 0, .aload_n 0), (203, 0, 0, 0, 1000, 0, .sipush 1000), (206, 0, 1000, 1062, 1000, 0, .newarray .int), (208, 10, 24, 989, 1, 0, .putfield 83), (211, 0, 0, 0, 0, 0, .aload_n 0), (212, 0, 0, 0, 1000, 0, .sipush 1000), (215, 0, 1000, 1062, 1000, 0, .newarray .int), (217, 10, 25, 990, 1, 0, .putfield 86), (220, 0, 0, 0, 0, 0, .aload_n 0), (221, 0, 0, 0, 0, 0, .iconst 0), (222, 10, 26, 991, 0, 0, .putfield 89), (225, 0, 0, 0, 0, 0, .aload_n 0), (226, 0, 0, 0, 0, 0, .iconst 0), (227, 10, 27, 992, 0, 0, .putfield 93), (230, 0, 0, 0, 0, 0, .aload_n 0), (231, 0, 0, 0, 0, 0, .iconst 0), (232, 10, 28, 993, 0, 0, .putfield 96), (235, 0, 0, 0, 0, 0, .aload_n 0), (236, 0, 0, 0, 0, 0, .iconst 0), (237, 10, 29, 994, 0, 0, .putfield 99), (240, 0, 0, 0, 0, 0, .aload_n 0), (241, 0, 0, 0, 0, 0, .iconst 0), (242, 10, 30, 995, 0, 0, .putfield 102), (245, 0, 0, 0, 0, 0, .aload_n 0), (246, 0, 0, 0, 0, 0, .iconst 0), (247, 10, 31, 996, 0, 0, .putfield 105), (250, 0, 0, 0, 0, 0, .iconst 0), (251, 0, 1, 0, 0, 0, .istore_n 1), (252, 0, 1, 0, 0, 0, .iload_n 1), (253, 0, 0, 0, 4, 0, .iconst 4), (254, 272, 0, 0, 0, 0, .if_icmp .ge 18), (257, 0, 0, 0, 0, 0, .aload_n 0), (258, 10, 2, 967, 0, 0, .getfield 16), (261, 0, 1, 0, 0, 0, .iload_n 1), (262, 0, 0, 0, 1000, 0, .sipush 1000), (265, 0, 0, 0, 0, 0, .iastore), (266, 0, 1, 0, 1, 0, .iinc 1 1), (269, 252, 0, 0, 0, 0, .goto (-17)), (272, 0, 0, 0, 0, 0, .return_)]
set_option maxRecDepth 100000 in
theorem okX8_init : hl_ok cX8_init RX8 2 true pX8_init = true := by decide +kernel
abbrev mX8_init : hl_M := (yX8_init, cX8_init, 2, none)
theorem mtX8_init : hl_mi mX8_init 0 := ⟨⟨hl_T_of (k := 963) (by decide +kernel) rfl, hl_T_of (k := 56) (by decide +kernel) rfl, ⟨by decide +kernel, by decide +kernel⟩, by decide +kernel⟩, hl_T_of (k := 962) (by decide +kernel) rfl, rfl⟩
def pX8_thrown : List hl_I := [(0, 0, 0, 0, 0, 0, .aload_n 0), (1, 10, 26, 991, 0, 0, .getfield 89), (4, 0, 0, 0, 0, 0, .ireturn)]
set_option maxRecDepth 100000 in
theorem okX8_thrown : hl_ok cX8_thrown RX8 1 false pX8_thrown = true := by decide +kernel
abbrev mX8_thrown : hl_M := (yX8_thrown, cX8_thrown, 1, (some .int))
theorem mtX8_thrown : hl_mv mX8_thrown 0 := ⟨⟨hl_T_of (k := 1066) (by decide +kernel) rfl, hl_T_of (k := 56) (by decide +kernel) rfl, ⟨by decide +kernel, by decide +kernel⟩, by decide +kernel⟩, hl_T_of (k := 1064) (by decide +kernel) rfl, hl_T_of (k := 1065) (by decide +kernel) rfl⟩
def pX8_in : List hl_I := [(0, 0, 0, 0, 0, 0, .iload_n 0), (1, 0, 1, 0, 0, 0, .iload_n 1), (2, 14, 0, 0, 0, 0, .if_icmp .lt 12), (5, 0, 0, 0, 0, 0, .iload_n 0), (6, 0, 2, 0, 0, 0, .iload_n 2), (7, 14, 0, 0, 0, 0, .if_icmp .gt 7), (10, 0, 0, 0, 1, 0, .iconst 1), (11, 15, 0, 0, 0, 0, .goto 4), (14, 0, 0, 0, 0, 0, .iconst 0), (15, 0, 0, 0, 0, 0, .ireturn)]
set_option maxRecDepth 100000 in
theorem okX8_in : hl_ok cX8_in RX8 3 false pX8_in = true := by decide +kernel
abbrev mX8_in : hl_M := (yX8_in, cX8_in, 3, (some .boolean))
theorem mtX8_in : hl_ms mX8_in 3 := ⟨⟨hl_T_of (k := 1073) (by decide +kernel) rfl, hl_T_of (k := 56) (by decide +kernel) rfl, ⟨by decide +kernel, by decide +kernel⟩, by decide +kernel⟩, hl_T_of (k := 1072) (by decide +kernel) rfl⟩
def pX8_plain : List hl_I := [(0, 0, 0, 0, 0, 0, .aload_n 0), (1, 0, 0, 0, 0, 0, .iconst 0), (2, 10, 26, 991, 0, 0, .putfield 89), (5, 0, 1, 0, 0, 0, .iload_n 1), (6, 0, 0, 0, 0, 0, .ireturn)]
set_option maxRecDepth 100000 in
theorem okX8_plain : hl_ok cX8_plain RX8 2 false pX8_plain = true := by decide +kernel
abbrev mX8_plain : hl_M := (yX8_plain, cX8_plain, 2, (some .int))
theorem mtX8_plain : hl_mv mX8_plain 1 := ⟨⟨hl_T_of (k := 1110) (by decide +kernel) rfl, hl_T_of (k := 56) (by decide +kernel) rfl, ⟨by decide +kernel, by decide +kernel⟩, by decide +kernel⟩, hl_T_of (k := 1109) (by decide +kernel) rfl, hl_T_of (k := 28) (by decide +kernel) rfl⟩
def pX8_checked : List hl_I := [(0, 0, 0, 0, 0, 0, .aload_n 0), (1, 0, 1, 0, 0, 0, .iload_n 1), (2, 9, 0, 0, 0, 0, .ifCond .eq 7), (5, 0, 0, 0, 0, 0, .iconst 0), (6, 10, 0, 0, 0, 0, .goto 4), (9, 0, 0, 0, 1, 0, .iconst 1), (10, 10, 26, 991, 0, 0, .putfield 89), (13, 0, 0, 0, 0, 0, .aload_n 0), (14, 10, 26, 991, 0, 0, .getfield 89), (17, 0, 0, 0, 0, 0, .ireturn)]
set_option maxRecDepth 100000 in
theorem okX8_checked : hl_ok cX8_checked RX8 2 false pX8_checked = true := by decide +kernel
abbrev mX8_checked : hl_M := (yX8_checked, cX8_checked, 2, (some .int))
theorem mtX8_checked : hl_mv mX8_checked 1 := ⟨⟨hl_T_of (k := 1098) (by decide +kernel) rfl, hl_T_of (k := 56) (by decide +kernel) rfl, ⟨by decide +kernel, by decide +kernel⟩, by decide +kernel⟩, hl_T_of (k := 1097) (by decide +kernel) rfl, hl_T_of (k := 26) (by decide +kernel) rfl⟩
def pX8_isAccount : List hl_I := [(0, 0, 1, 0, 0, 0, .iload_n 1), (1, 0, 0, 0, 0, 0, .iconst 0), (2, 0, 0, 0, 0, 0, .aload_n 0), (3, 10, 27, 992, 0, 0, .getfield 93), (6, 0, 0, 0, 1, 0, .iconst 1), (7, 0, 0, 0, 0, 0, .isub), (8, 0, 0, 1071, 0, 0, .invokestatic 108), (11, 0, 0, 0, 0, 0, .ireturn)]
set_option maxRecDepth 100000 in
theorem okX8_isAccount : hl_ok cX8_isAccount RX8 2 false pX8_isAccount = true := by decide +kernel
abbrev mX8_isAccount : hl_M := (yX8_isAccount, cX8_isAccount, 2, (some .boolean))
theorem mtX8_isAccount : hl_mv mX8_isAccount 1 := ⟨⟨hl_T_of (k := 1082) (by decide +kernel) rfl, hl_T_of (k := 56) (by decide +kernel) rfl, ⟨by decide +kernel, by decide +kernel⟩, by decide +kernel⟩, hl_T_of (k := 1081) (by decide +kernel) rfl, hl_T_of (k := 23) (by decide +kernel) rfl⟩
def pX8_isAmount : List hl_I := [(0, 0, 0, 0, 0, 0, .iload_n 0), (1, 0, 0, 0, 1, 0, .iconst 1), (2, 0, 0, 1074, 1000000, 0, .ldc 112), (4, 0, 0, 1071, 0, 0, .invokestatic 108), (7, 0, 0, 0, 0, 0, .ireturn)]
set_option maxRecDepth 100000 in
theorem okX8_isAmount : hl_ok cX8_isAmount RX8 1 false pX8_isAmount = true := by decide +kernel
abbrev mX8_isAmount : hl_M := (yX8_isAmount, cX8_isAmount, 1, (some .boolean))
theorem mtX8_isAmount : hl_ms mX8_isAmount 1 := ⟨⟨hl_T_of (k := 1117) (by decide +kernel) rfl, hl_T_of (k := 56) (by decide +kernel) rfl, ⟨by decide +kernel, by decide +kernel⟩, by decide +kernel⟩, hl_T_of (k := 1116) (by decide +kernel) rfl⟩
def pX8_openAccount : List hl_I := [(0, 0, 0, 0, 0, 0, .aload_n 0), (1, 0, 1, 0, 0, 0, .iload_n 1), (2, 0, 0, 0, 0, 0, .iconst 0), (3, 0, 0, 0, 3, 0, .iconst 3), (4, 0, 0, 1071, 0, 0, .invokestatic 108), (7, 20, 0, 0, 0, 0, .ifCond .eq 13), (10, 0, 2, 0, 0, 0, .iload_n 2), (11, 0, 0, 0, 0, 0, .iconst 0), (12, 0, 0, 1074, 1000000, 0, .ldc 112), (14, 0, 0, 1071, 0, 0, .invokestatic 108), (17, 24, 0, 0, 0, 0, .ifCond .ne 7), (20, 0, 0, 0, 1, 0, .iconst 1), (21, 38, 0, 0, 0, 0, .goto 17), (24, 0, 0, 0, 0, 0, .aload_n 0), (25, 10, 27, 992, 0, 0, .getfield 93), (28, 0, 0, 0, 10, 0, .bipush 10), (30, 37, 0, 0, 0, 0, .if_icmp .ne 7), (33, 0, 0, 0, 2, 0, .iconst 2), (34, 38, 0, 0, 0, 0, .goto 4), (37, 0, 0, 0, 0, 0, .iconst 0), (38, 10, 26, 991, 0, 0, .putfield 89), (41, 0, 0, 0, 0, 0, .aload_n 0), (42, 10, 26, 991, 0, 0, .getfield 89), (45, 50, 0, 0, 0, 0, .ifCond .le 5), (48, 0, 0, 0, 0, 0, .iconst 0), (49, 0, 0, 0, 0, 0, .ireturn), (50, 0, 0, 0, 0, 0, .aload_n 0), (51, 10, 0, 965, 0, 0, .getfield 7), (54, 0, 0, 0, 0, 0, .aload_n 0), (55, 10, 27, 992, 0, 0, .getfield 93), (58, 0, 1, 0, 0, 0, .iload_n 1), (59, 0, 0, 0, 0, 0, .iastore), (60, 0, 0, 0, 0, 0, .aload_n 0), (61, 10, 1, 966, 0, 0, .getfield 13), (64, 0, 0, 0, 0, 0, .aload_n 0), (65, 10, 27, 992, 0, 0, .getfield 93), (68, 0, 2, 0, 0, 0, .iload_n 2), (69, 0, 0, 0, 0, 0, .iastore), (70, 0, 0, 0, 0, 0, .aload_n 0), (71, 0, 0, 0, 0, 0, .dup), (72, 10, 27, 992, 0, 0, .getfield 93), (75, 0, 0, 0, 1, 0, .iconst 1), (76, 0, 0, 0, 0, 0, .iadd), (77, 10, 27, 992, 0, 0, .putfield 93), (80, 0, 0, 0, 0, 0, .aload_n 0), (81, 10, 27, 992, 0, 0, .getfield 93), (84, 0, 0, 0, 1, 0, .iconst 1), (85, 0, 0, 0, 0, 0, .isub), (86, 0, 0, 0, 0, 0, .ireturn)]
set_option maxRecDepth 100000 in
theorem okX8_openAccount : hl_ok cX8_openAccount RX8 3 false pX8_openAccount = true := by decide +kernel
abbrev mX8_openAccount : hl_M := (yX8_openAccount, cX8_openAccount, 3, (some .int))
theorem mtX8_openAccount : hl_mv mX8_openAccount 2 := ⟨⟨hl_T_of (k := 1070) (by decide +kernel) rfl, hl_T_of (k := 56) (by decide +kernel) rfl, ⟨by decide +kernel, by decide +kernel⟩, by decide +kernel⟩, hl_T_of (k := 1068) (by decide +kernel) rfl, hl_T_of (k := 1069) (by decide +kernel) rfl⟩
def pX8_heldOf : List hl_I := [(0, 0, 0, 0, 0, 0, .lconst 0), (1, 0, 2, 0, 0, 0, .lstore_n 2), (2, 0, 0, 0, 0, 0, .iconst 0), (3, 0, 4, 0, 0, 0, .istore 4), (5, 0, 4, 0, 0, 0, .iload 4), (7, 0, 0, 0, 0, 0, .aload_n 0), (8, 10, 29, 994, 0, 0, .getfield 99), (11, 58, 0, 0, 0, 0, .if_icmp .ge 47), (14, 0, 2, 0, 0, 0, .lload_n 2), (15, 0, 0, 0, 0, 0, .aload_n 0), (16, 10, 14, 979, 0, 0, .getfield 53), (19, 0, 4, 0, 0, 0, .iload 4), (21, 0, 0, 0, 0, 0, .iaload), (22, 0, 0, 0, 97, 0, .bipush 97), (24, 49, 0, 0, 0, 0, .if_icmp .ne 25), (27, 0, 0, 0, 0, 0, .aload_n 0), (28, 10, 15, 980, 0, 0, .getfield 56), (31, 0, 4, 0, 0, 0, .iload 4), (33, 0, 0, 0, 0, 0, .iaload), (34, 0, 1, 0, 0, 0, .iload_n 1), (35, 49, 0, 0, 0, 0, .if_icmp .ne 14), (38, 0, 0, 0, 0, 0, .aload_n 0), (39, 10, 17, 982, 0, 0, .getfield 62), (42, 0, 4, 0, 0, 0, .iload 4), (44, 0, 0, 0, 0, 0, .iaload), (45, 0, 0, 0, 0, 0, .i2l), (46, 50, 0, 0, 0, 0, .goto 4), (49, 0, 0, 0, 0, 0, .lconst 0), (50, 0, 0, 0, 0, 0, .ladd), (51, 0, 2, 0, 0, 0, .lstore_n 2), (52, 0, 4, 0, 1, 0, .iinc 4 1), (55, 5, 0, 0, 0, 0, .goto (-50)), (58, 0, 2, 0, 0, 0, .lload_n 2), (59, 0, 0, 0, 0, 0, .lreturn)]
set_option maxRecDepth 100000 in
theorem okX8_heldOf : hl_ok cX8_heldOf RX8 5 false pX8_heldOf = true := by decide +kernel
abbrev mX8_heldOf : hl_M := (yX8_heldOf, cX8_heldOf, 5, (some .long))
theorem mtX8_heldOf : hl_mv mX8_heldOf 1 := ⟨⟨hl_T_of (k := 1090) (by decide +kernel) rfl, hl_T_of (k := 56) (by decide +kernel) rfl, ⟨by decide +kernel, by decide +kernel⟩, by decide +kernel⟩, hl_T_of (k := 1089) (by decide +kernel) rfl, hl_T_of (k := 25) (by decide +kernel) rfl⟩
def pX8_availableOf : List hl_I := [(0, 0, 0, 0, 0, 0, .aload_n 0), (1, 10, 3, 968, 0, 0, .getfield 19), (4, 0, 1, 0, 0, 0, .iload_n 1), (5, 0, 0, 0, 0, 0, .laload), (6, 0, 0, 0, 0, 0, .aload_n 0), (7, 10, 1, 966, 0, 0, .getfield 13), (10, 0, 1, 0, 0, 0, .iload_n 1), (11, 0, 0, 0, 0, 0, .iaload), (12, 0, 0, 0, 0, 0, .i2l), (13, 0, 0, 0, 0, 0, .ladd), (14, 0, 0, 0, 0, 0, .aload_n 0), (15, 0, 1, 0, 0, 0, .iload_n 1), (16, 0, 0, 1087, 0, 0, .invokevirtual 113), (19, 0, 0, 0, 0, 0, .lsub), (20, 0, 0, 0, 0, 0, .lreturn)]
set_option maxRecDepth 100000 in
theorem okX8_availableOf : hl_ok cX8_availableOf RX8 2 false pX8_availableOf = true := by decide +kernel
abbrev mX8_availableOf : hl_M := (yX8_availableOf, cX8_availableOf, 2, (some .long))
theorem mtX8_availableOf : hl_mv mX8_availableOf 1 := ⟨⟨hl_T_of (k := 1086) (by decide +kernel) rfl, hl_T_of (k := 56) (by decide +kernel) rfl, ⟨by decide +kernel, by decide +kernel⟩, by decide +kernel⟩, hl_T_of (k := 1085) (by decide +kernel) rfl, hl_T_of (k := 24) (by decide +kernel) rfl⟩
def pX8_setLimit : List hl_I := [(0, 0, 0, 0, 0, 0, .aload_n 0), (1, 0, 0, 0, 0, 0, .aload_n 0), (2, 0, 1, 0, 0, 0, .iload_n 1), (3, 0, 0, 1079, 0, 0, .invokevirtual 117), (6, 13, 0, 0, 0, 0, .ifCond .ne 7), (9, 0, 0, 0, 1, 0, .iconst 1), (10, 53, 0, 0, 0, 0, .goto 43), (13, 0, 2, 0, 0, 0, .iload_n 2), (14, 0, 0, 0, 0, 0, .iconst 0), (15, 0, 0, 1074, 1000000, 0, .ldc 112), (17, 0, 0, 1071, 0, 0, .invokestatic 108), (20, 27, 0, 0, 0, 0, .ifCond .ne 7), (23, 0, 0, 0, 2, 0, .iconst 2), (24, 53, 0, 0, 0, 0, .goto 29), (27, 0, 0, 0, 0, 0, .aload_n 0), (28, 0, 1, 0, 0, 0, .iload_n 1), (29, 0, 0, 1083, 0, 0, .invokevirtual 121), (32, 0, 0, 0, 0, 0, .aload_n 0), (33, 10, 1, 966, 0, 0, .getfield 13), (36, 0, 1, 0, 0, 0, .iload_n 1), (37, 0, 0, 0, 0, 0, .iaload), (38, 0, 0, 0, 0, 0, .i2l), (39, 0, 0, 0, 0, 0, .lsub), (40, 0, 2, 0, 0, 0, .iload_n 2), (41, 0, 0, 0, 0, 0, .i2l), (42, 0, 0, 0, 0, 0, .ladd), (43, 0, 0, 0, 0, 0, .lconst 0), (44, 0, 0, 0, 0, 0, .lcmp), (45, 52, 0, 0, 0, 0, .ifCond .ge 7), (48, 0, 0, 0, 3, 0, .iconst 3), (49, 53, 0, 0, 0, 0, .goto 4), (52, 0, 0, 0, 0, 0, .iconst 0), (53, 10, 26, 991, 0, 0, .putfield 89), (56, 0, 0, 0, 0, 0, .aload_n 0), (57, 10, 26, 991, 0, 0, .getfield 89), (60, 65, 0, 0, 0, 0, .ifCond .le 5), (63, 0, 0, 0, 0, 0, .iconst 0), (64, 0, 0, 0, 0, 0, .ireturn), (65, 0, 0, 0, 0, 0, .aload_n 0), (66, 10, 1, 966, 0, 0, .getfield 13), (69, 0, 1, 0, 0, 0, .iload_n 1), (70, 0, 0, 0, 0, 0, .iaload), (71, 0, 3, 0, 0, 0, .istore_n 3), (72, 0, 0, 0, 0, 0, .aload_n 0), (73, 10, 1, 966, 0, 0, .getfield 13), (76, 0, 1, 0, 0, 0, .iload_n 1), (77, 0, 2, 0, 0, 0, .iload_n 2), (78, 0, 0, 0, 0, 0, .iastore), (79, 0, 3, 0, 0, 0, .iload_n 3), (80, 0, 0, 0, 0, 0, .ireturn)]
set_option maxRecDepth 100000 in
theorem okX8_setLimit : hl_ok cX8_setLimit RX8 4 false pX8_setLimit = true := by decide +kernel
abbrev mX8_setLimit : hl_M := (yX8_setLimit, cX8_setLimit, 4, (some .int))
theorem mtX8_setLimit : hl_mv mX8_setLimit 2 := ⟨⟨hl_T_of (k := 1078) (by decide +kernel) rfl, hl_T_of (k := 56) (by decide +kernel) rfl, ⟨by decide +kernel, by decide +kernel⟩, by decide +kernel⟩, hl_T_of (k := 1076) (by decide +kernel) rfl, hl_T_of (k := 1077) (by decide +kernel) rfl⟩
def pX8_setRate : List hl_I := [(0, 0, 0, 0, 0, 0, .aload_n 0), (1, 0, 1, 0, 0, 0, .iload_n 1), (2, 0, 0, 0, 0, 0, .iconst 0), (3, 0, 0, 0, 3, 0, .iconst 3), (4, 0, 0, 1071, 0, 0, .invokestatic 108), (7, 26, 0, 0, 0, 0, .ifCond .eq 19), (10, 0, 2, 0, 0, 0, .iload_n 2), (11, 0, 0, 0, 100, 0, .bipush 100), (13, 0, 0, 0, 1000, 0, .sipush 1000), (16, 0, 0, 1071, 0, 0, .invokestatic 108), (19, 26, 0, 0, 0, 0, .ifCond .eq 7), (22, 0, 0, 0, 1, 0, .iconst 1), (23, 27, 0, 0, 0, 0, .goto 4), (26, 0, 0, 0, 0, 0, .iconst 0), (27, 0, 0, 1095, 0, 0, .invokevirtual 124), (30, 35, 0, 0, 0, 0, .ifCond .le 5), (33, 0, 0, 0, 0, 0, .iconst 0), (34, 0, 0, 0, 0, 0, .ireturn), (35, 0, 0, 0, 0, 0, .aload_n 0), (36, 10, 2, 967, 0, 0, .getfield 16), (39, 0, 1, 0, 0, 0, .iload_n 1), (40, 0, 0, 0, 0, 0, .iaload), (41, 0, 3, 0, 0, 0, .istore_n 3), (42, 0, 0, 0, 0, 0, .aload_n 0), (43, 10, 2, 967, 0, 0, .getfield 16), (46, 0, 1, 0, 0, 0, .iload_n 1), (47, 0, 2, 0, 0, 0, .iload_n 2), (48, 0, 0, 0, 0, 0, .iastore), (49, 0, 3, 0, 0, 0, .iload_n 3), (50, 0, 0, 0, 0, 0, .ireturn)]
set_option maxRecDepth 100000 in
theorem okX8_setRate : hl_ok cX8_setRate RX8 4 false pX8_setRate = true := by decide +kernel
abbrev mX8_setRate : hl_M := (yX8_setRate, cX8_setRate, 4, (some .int))
theorem mtX8_setRate : hl_mv mX8_setRate 2 := ⟨⟨hl_T_of (k := 1094) (by decide +kernel) rfl, hl_T_of (k := 56) (by decide +kernel) rfl, ⟨by decide +kernel, by decide +kernel⟩, by decide +kernel⟩, hl_T_of (k := 1092) (by decide +kernel) rfl, hl_T_of (k := 1093) (by decide +kernel) rfl⟩
def pX8_receivedFor : List hl_I := [(0, 0, 0, 0, 0, 0, .aload_n 0), (1, 10, 0, 965, 0, 0, .getfield 7), (4, 0, 1, 0, 0, 0, .iload_n 1), (5, 0, 0, 0, 0, 0, .iaload), (6, 0, 4, 0, 0, 0, .istore 4), (8, 0, 0, 0, 0, 0, .aload_n 0), (9, 10, 0, 965, 0, 0, .getfield 7), (12, 0, 2, 0, 0, 0, .iload_n 2), (13, 0, 0, 0, 0, 0, .iaload), (14, 0, 5, 0, 0, 0, .istore 5), (16, 0, 4, 0, 0, 0, .iload 4), (18, 0, 5, 0, 0, 0, .iload 5), (20, 27, 0, 0, 0, 0, .if_icmp .ne 7), (23, 0, 3, 0, 0, 0, .iload_n 3), (24, 48, 0, 0, 0, 0, .goto 24), (27, 0, 3, 0, 0, 0, .iload_n 3), (28, 0, 0, 0, 0, 0, .i2l), (29, 0, 0, 0, 0, 0, .aload_n 0), (30, 10, 2, 967, 0, 0, .getfield 16), (33, 0, 4, 0, 0, 0, .iload 4), (35, 0, 0, 0, 0, 0, .iaload), (36, 0, 0, 0, 0, 0, .i2l), (37, 0, 0, 0, 0, 0, .lmul), (38, 0, 0, 0, 0, 0, .aload_n 0), (39, 10, 2, 967, 0, 0, .getfield 16), (42, 0, 5, 0, 0, 0, .iload 5), (44, 0, 0, 0, 0, 0, .iaload), (45, 0, 0, 0, 0, 0, .i2l), (46, 0, 0, 0, 0, 0, .ldiv), (47, 0, 0, 0, 0, 0, .l2i), (48, 0, 0, 0, 0, 0, .ireturn)]
set_option maxRecDepth 100000 in
theorem okX8_receivedFor : hl_ok cX8_receivedFor RX8 6 false pX8_receivedFor = true := by decide +kernel
abbrev mX8_receivedFor : hl_M := (yX8_receivedFor, cX8_receivedFor, 6, (some .int))
theorem mtX8_receivedFor : hl_mv mX8_receivedFor 3 := ⟨⟨hl_T_of (k := 1141) (by decide +kernel) rfl, hl_T_of (k := 56) (by decide +kernel) rfl, ⟨by decide +kernel, by decide +kernel⟩, by decide +kernel⟩, hl_T_of (k := 1140) (by decide +kernel) rfl, hl_T_of (k := 33) (by decide +kernel) rfl⟩
def pX8_isRepeated : List hl_I := [(0, 0, 1, 0, 0, 0, .iload_n 1), (1, 0, 0, 0, 1, 0, .iconst 1), (2, 0, 0, 0, 999, 0, .sipush 999), (5, 0, 0, 1071, 0, 0, .invokestatic 108), (8, 21, 0, 0, 0, 0, .ifCond .eq 13), (11, 0, 0, 0, 0, 0, .aload_n 0), (12, 10, 22, 987, 0, 0, .getfield 77), (15, 0, 1, 0, 0, 0, .iload_n 1), (16, 0, 0, 0, 0, 0, .iaload), (17, 0, 2, 0, 0, 0, .iload_n 2), (18, 23, 0, 0, 0, 0, .if_icmp .eq 5), (21, 0, 0, 0, 0, 0, .iconst 0), (22, 0, 0, 0, 0, 0, .ireturn), (23, 0, 0, 0, 4, 0, .iconst 4), (24, 0, 1, 0, 0, 0, .iload_n 1), (25, 0, 0, 0, 0, 0, .imul), (26, 0, 7, 0, 0, 0, .istore 7), (28, 0, 0, 0, 0, 0, .aload_n 0), (29, 10, 23, 988, 0, 0, .getfield 80), (32, 0, 7, 0, 0, 0, .iload 7), (34, 0, 0, 0, 0, 0, .iaload), (35, 0, 3, 0, 0, 0, .iload_n 3), (36, 85, 0, 0, 0, 0, .if_icmp .ne 49), (39, 0, 0, 0, 0, 0, .aload_n 0), (40, 10, 23, 988, 0, 0, .getfield 80), (43, 0, 7, 0, 0, 0, .iload 7), (45, 0, 0, 0, 1, 0, .iconst 1), (46, 0, 0, 0, 0, 0, .iadd), (47, 0, 0, 0, 0, 0, .iaload), (48, 0, 4, 0, 0, 0, .iload 4), (50, 85, 0, 0, 0, 0, .if_icmp .ne 35), (53, 0, 0, 0, 0, 0, .aload_n 0), (54, 10, 23, 988, 0, 0, .getfield 80), (57, 0, 7, 0, 0, 0, .iload 7), (59, 0, 0, 0, 2, 0, .iconst 2), (60, 0, 0, 0, 0, 0, .iadd), (61, 0, 0, 0, 0, 0, .iaload), (62, 0, 5, 0, 0, 0, .iload 5), (64, 85, 0, 0, 0, 0, .if_icmp .ne 21), (67, 0, 0, 0, 0, 0, .aload_n 0), (68, 10, 23, 988, 0, 0, .getfield 80), (71, 0, 7, 0, 0, 0, .iload 7), (73, 0, 0, 0, 3, 0, .iconst 3), (74, 0, 0, 0, 0, 0, .iadd), (75, 0, 0, 0, 0, 0, .iaload), (76, 0, 6, 0, 0, 0, .iload 6), (78, 85, 0, 0, 0, 0, .if_icmp .ne 7), (81, 0, 0, 0, 1, 0, .iconst 1), (82, 86, 0, 0, 0, 0, .goto 4), (85, 0, 0, 0, 0, 0, .iconst 0), (86, 0, 0, 0, 0, 0, .ireturn)]
set_option maxRecDepth 100000 in
theorem okX8_isRepeated : hl_ok cX8_isRepeated RX8 8 false pX8_isRepeated = true := by decide +kernel
abbrev mX8_isRepeated : hl_M := (yX8_isRepeated, cX8_isRepeated, 8, (some .boolean))
theorem mtX8_isRepeated : hl_mv mX8_isRepeated 6 := ⟨⟨hl_T_of (k := 1106) (by decide +kernel) rfl, hl_T_of (k := 56) (by decide +kernel) rfl, ⟨by decide +kernel, by decide +kernel⟩, by decide +kernel⟩, hl_T_of (k := 1105) (by decide +kernel) rfl, hl_T_of (k := 27) (by decide +kernel) rfl⟩
def pX8_isBadKey : List hl_I := [(0, 0, 1, 0, 0, 0, .iload_n 1), (1, 0, 0, 0, 1, 0, .iconst 1), (2, 0, 0, 0, 999, 0, .sipush 999), (5, 0, 0, 1071, 0, 0, .invokestatic 108), (8, 20, 0, 0, 0, 0, .ifCond .eq 12), (11, 0, 0, 0, 0, 0, .aload_n 0), (12, 10, 22, 987, 0, 0, .getfield 77), (15, 0, 1, 0, 0, 0, .iload_n 1), (16, 0, 0, 0, 0, 0, .iaload), (17, 24, 0, 0, 0, 0, .ifCond .eq 7), (20, 0, 0, 0, 1, 0, .iconst 1), (21, 25, 0, 0, 0, 0, .goto 4), (24, 0, 0, 0, 0, 0, .iconst 0), (25, 0, 0, 0, 0, 0, .ireturn)]
set_option maxRecDepth 100000 in
theorem okX8_isBadKey : hl_ok cX8_isBadKey RX8 2 false pX8_isBadKey = true := by decide +kernel
abbrev mX8_isBadKey : hl_M := (yX8_isBadKey, cX8_isBadKey, 2, (some .boolean))
theorem mtX8_isBadKey : hl_mv mX8_isBadKey 1 := ⟨⟨hl_T_of (k := 1114) (by decide +kernel) rfl, hl_T_of (k := 56) (by decide +kernel) rfl, ⟨by decide +kernel, by decide +kernel⟩, by decide +kernel⟩, hl_T_of (k := 1113) (by decide +kernel) rfl, hl_T_of (k := 29) (by decide +kernel) rfl⟩
def pX8_remembers : List hl_I := [(0, 0, 0, 0, 0, 0, .aload_n 0), (1, 10, 22, 987, 0, 0, .getfield 77), (4, 0, 2, 0, 0, 0, .iload_n 2), (5, 0, 3, 0, 0, 0, .iload_n 3), (6, 0, 0, 0, 0, 0, .iastore), (7, 0, 0, 0, 0, 0, .aload_n 0), (8, 10, 23, 988, 0, 0, .getfield 80), (11, 0, 0, 0, 4, 0, .iconst 4), (12, 0, 2, 0, 0, 0, .iload_n 2), (13, 0, 0, 0, 0, 0, .imul), (14, 0, 4, 0, 0, 0, .iload 4), (16, 0, 0, 0, 0, 0, .iastore), (17, 0, 0, 0, 0, 0, .aload_n 0), (18, 10, 23, 988, 0, 0, .getfield 80), (21, 0, 0, 0, 4, 0, .iconst 4), (22, 0, 2, 0, 0, 0, .iload_n 2), (23, 0, 0, 0, 0, 0, .imul), (24, 0, 0, 0, 1, 0, .iconst 1), (25, 0, 0, 0, 0, 0, .iadd), (26, 0, 5, 0, 0, 0, .iload 5), (28, 0, 0, 0, 0, 0, .iastore), (29, 0, 0, 0, 0, 0, .aload_n 0), (30, 10, 23, 988, 0, 0, .getfield 80), (33, 0, 0, 0, 4, 0, .iconst 4), (34, 0, 2, 0, 0, 0, .iload_n 2), (35, 0, 0, 0, 0, 0, .imul), (36, 0, 0, 0, 2, 0, .iconst 2), (37, 0, 0, 0, 0, 0, .iadd), (38, 0, 6, 0, 0, 0, .iload 6), (40, 0, 0, 0, 0, 0, .iastore), (41, 0, 0, 0, 0, 0, .aload_n 0), (42, 10, 23, 988, 0, 0, .getfield 80), (45, 0, 0, 0, 4, 0, .iconst 4), (46, 0, 2, 0, 0, 0, .iload_n 2), (47, 0, 0, 0, 0, 0, .imul), (48, 0, 0, 0, 3, 0, .iconst 3), (49, 0, 0, 0, 0, 0, .iadd), (50, 0, 7, 0, 0, 0, .iload 7), (52, 0, 0, 0, 0, 0, .iastore), (53, 0, 0, 0, 0, 0, .aload_n 0), (54, 10, 24, 989, 0, 0, .getfield 83), (57, 0, 2, 0, 0, 0, .iload_n 2), (58, 0, 1, 0, 0, 0, .iload_n 1), (59, 0, 0, 0, 0, 0, .iastore), (60, 0, 0, 0, 0, 0, .aload_n 0), (61, 10, 25, 990, 0, 0, .getfield 86), (64, 0, 2, 0, 0, 0, .iload_n 2), (65, 0, 0, 0, 0, 0, .aload_n 0), (66, 10, 31, 996, 0, 0, .getfield 105), (69, 0, 0, 0, 0, 0, .iastore), (70, 0, 1, 0, 0, 0, .iload_n 1), (71, 0, 0, 0, 0, 0, .ireturn)]
set_option maxRecDepth 100000 in
theorem okX8_remembers : hl_ok cX8_remembers RX8 8 false pX8_remembers = true := by decide +kernel
abbrev mX8_remembers : hl_M := (yX8_remembers, cX8_remembers, 8, (some .int))
theorem mtX8_remembers : hl_mv mX8_remembers 7 := ⟨⟨hl_T_of (k := 1129) (by decide +kernel) rfl, hl_T_of (k := 56) (by decide +kernel) rfl, ⟨by decide +kernel, by decide +kernel⟩, by decide +kernel⟩, hl_T_of (k := 1128) (by decide +kernel) rfl, hl_T_of (k := 32) (by decide +kernel) rfl⟩
def pX8_currencyOf : List hl_I := [(0, 0, 0, 0, 0, 0, .aload_n 0), (1, 10, 0, 965, 0, 0, .getfield 7), (4, 0, 1, 0, 0, 0, .iload_n 1), (5, 12, 0, 0, 0, 0, .ifCond .lt 7), (8, 0, 1, 0, 0, 0, .iload_n 1), (9, 13, 0, 0, 0, 0, .goto 4), (12, 0, 2, 0, 0, 0, .iload_n 2), (13, 0, 0, 0, 0, 0, .iaload), (14, 0, 0, 0, 0, 0, .ireturn)]
set_option maxRecDepth 100000 in
theorem okX8_currencyOf : hl_ok cX8_currencyOf RX8 3 false pX8_currencyOf = true := by decide +kernel
abbrev mX8_currencyOf : hl_M := (yX8_currencyOf, cX8_currencyOf, 3, (some .int))
theorem mtX8_currencyOf : hl_mv mX8_currencyOf 2 := ⟨⟨hl_T_of (k := 1125) (by decide +kernel) rfl, hl_T_of (k := 56) (by decide +kernel) rfl, ⟨by decide +kernel, by decide +kernel⟩, by decide +kernel⟩, hl_T_of (k := 1124) (by decide +kernel) rfl, hl_T_of (k := 31) (by decide +kernel) rfl⟩
def pX8_makes : List hl_I := [(0, 0, 0, 0, 0, 0, .aload_n 0), (1, 0, 2, 0, 0, 0, .iload_n 2), (2, 0, 3, 0, 0, 0, .iload_n 3), (3, 0, 0, 1122, 0, 0, .invokevirtual 128), (6, 0, 6, 0, 0, 0, .istore 6), (8, 0, 0, 0, 0, 0, .aload_n 0), (9, 0, 3, 0, 0, 0, .iload_n 3), (10, 0, 2, 0, 0, 0, .iload_n 2), (11, 0, 0, 1122, 0, 0, .invokevirtual 128), (14, 0, 7, 0, 0, 0, .istore 7), (16, 0, 2, 0, 0, 0, .iload_n 2), (17, 35, 0, 0, 0, 0, .ifCond .lt 18), (20, 0, 0, 0, 0, 0, .aload_n 0), (21, 10, 3, 968, 0, 0, .getfield 19), (24, 0, 2, 0, 0, 0, .iload_n 2), (25, 0, 0, 0, 0, 0, .dup2), (26, 0, 0, 0, 0, 0, .laload), (27, 0, 4, 0, 0, 0, .iload 4), (29, 0, 0, 0, 0, 0, .i2l), (30, 0, 0, 0, 0, 0, .lsub), (31, 0, 0, 0, 0, 0, .lastore), (32, 48, 0, 0, 0, 0, .goto 16), (35, 0, 0, 0, 0, 0, .aload_n 0), (36, 10, 4, 969, 0, 0, .getfield 23), (39, 0, 6, 0, 0, 0, .iload 6), (41, 0, 0, 0, 0, 0, .dup2), (42, 0, 0, 0, 0, 0, .laload), (43, 0, 4, 0, 0, 0, .iload 4), (45, 0, 0, 0, 0, 0, .i2l), (46, 0, 0, 0, 0, 0, .lsub), (47, 0, 0, 0, 0, 0, .lastore), (48, 0, 3, 0, 0, 0, .iload_n 3), (49, 67, 0, 0, 0, 0, .ifCond .lt 18), (52, 0, 0, 0, 0, 0, .aload_n 0), (53, 10, 3, 968, 0, 0, .getfield 19), (56, 0, 3, 0, 0, 0, .iload_n 3), (57, 0, 0, 0, 0, 0, .dup2), (58, 0, 0, 0, 0, 0, .laload), (59, 0, 5, 0, 0, 0, .iload 5), (61, 0, 0, 0, 0, 0, .i2l), (62, 0, 0, 0, 0, 0, .ladd), (63, 0, 0, 0, 0, 0, .lastore), (64, 80, 0, 0, 0, 0, .goto 16), (67, 0, 0, 0, 0, 0, .aload_n 0), (68, 10, 4, 969, 0, 0, .getfield 23), (71, 0, 7, 0, 0, 0, .iload 7), (73, 0, 0, 0, 0, 0, .dup2), (74, 0, 0, 0, 0, 0, .laload), (75, 0, 5, 0, 0, 0, .iload 5), (77, 0, 0, 0, 0, 0, .i2l), (78, 0, 0, 0, 0, 0, .ladd), (79, 0, 0, 0, 0, 0, .lastore), (80, 0, 6, 0, 0, 0, .iload 6), (82, 0, 7, 0, 0, 0, .iload 7), (84, 113, 0, 0, 0, 0, .if_icmp .eq 29), (87, 0, 0, 0, 0, 0, .aload_n 0), (88, 10, 5, 970, 0, 0, .getfield 26), (91, 0, 6, 0, 0, 0, .iload 6), (93, 0, 0, 0, 0, 0, .dup2), (94, 0, 0, 0, 0, 0, .laload), (95, 0, 4, 0, 0, 0, .iload 4), (97, 0, 0, 0, 0, 0, .i2l), (98, 0, 0, 0, 0, 0, .ladd), (99, 0, 0, 0, 0, 0, .lastore), (100, 0, 0, 0, 0, 0, .aload_n 0), (101, 10, 5, 970, 0, 0, .getfield 26), (104, 0, 7, 0, 0, 0, .iload 7), (106, 0, 0, 0, 0, 0, .dup2), (107, 0, 0, 0, 0, 0, .laload), (108, 0, 5, 0, 0, 0, .iload 5), (110, 0, 0, 0, 0, 0, .i2l), (111, 0, 0, 0, 0, 0, .lsub), (112, 0, 0, 0, 0, 0, .lastore), (113, 0, 0, 0, 0, 0, .aload_n 0), (114, 10, 7, 972, 0, 0, .getfield 32), (117, 0, 0, 0, 0, 0, .aload_n 0), (118, 10, 28, 993, 0, 0, .getfield 96), (121, 0, 1, 0, 0, 0, .iload_n 1), (122, 0, 0, 0, 0, 0, .iastore), (123, 0, 0, 0, 0, 0, .aload_n 0), (124, 10, 8, 973, 0, 0, .getfield 35), (127, 0, 0, 0, 0, 0, .aload_n 0), (128, 10, 28, 993, 0, 0, .getfield 96), (131, 0, 2, 0, 0, 0, .iload_n 2), (132, 0, 0, 0, 0, 0, .iastore), (133, 0, 0, 0, 0, 0, .aload_n 0), (134, 10, 9, 974, 0, 0, .getfield 38), (137, 0, 0, 0, 0, 0, .aload_n 0), (138, 10, 28, 993, 0, 0, .getfield 96), (141, 0, 3, 0, 0, 0, .iload_n 3), (142, 0, 0, 0, 0, 0, .iastore), (143, 0, 0, 0, 0, 0, .aload_n 0), (144, 10, 10, 975, 0, 0, .getfield 41), (147, 0, 0, 0, 0, 0, .aload_n 0), (148, 10, 28, 993, 0, 0, .getfield 96), (151, 0, 4, 0, 0, 0, .iload 4), (153, 0, 0, 0, 0, 0, .iastore), (154, 0, 0, 0, 0, 0, .aload_n 0), (155, 10, 11, 976, 0, 0, .getfield 44), (158, 0, 0, 0, 0, 0, .aload_n 0), (159, 10, 28, 993, 0, 0, .getfield 96), (162, 0, 5, 0, 0, 0, .iload 5), (164, 0, 0, 0, 0, 0, .iastore), (165, 0, 0, 0, 0, 0, .aload_n 0), (166, 10, 12, 977, 0, 0, .getfield 47), (169, 0, 0, 0, 0, 0, .aload_n 0), (170, 10, 28, 993, 0, 0, .getfield 96), (173, 0, 0, 0, 0, 0, .aload_n 0), (174, 10, 31, 996, 0, 0, .getfield 105), (177, 0, 0, 0, 0, 0, .iastore), (178, 0, 0, 0, 0, 0, .aload_n 0), (179, 10, 13, 978, 0, 0, .getfield 50), (182, 0, 0, 0, 0, 0, .aload_n 0), (183, 10, 28, 993, 0, 0, .getfield 96), (186, 0, 0, 0, (-1), 0, .iconst (-1)), (187, 0, 0, 0, 0, 0, .iastore), (188, 0, 0, 0, 0, 0, .aload_n 0), (189, 0, 0, 0, 0, 0, .dup), (190, 10, 28, 993, 0, 0, .getfield 96), (193, 0, 0, 0, 1, 0, .iconst 1), (194, 0, 0, 0, 0, 0, .iadd), (195, 10, 28, 993, 0, 0, .putfield 96), (198, 0, 0, 0, 0, 0, .aload_n 0), (199, 10, 28, 993, 0, 0, .getfield 96), (202, 0, 0, 0, 1, 0, .iconst 1), (203, 0, 0, 0, 0, 0, .isub), (204, 0, 0, 0, 0, 0, .ireturn)]
set_option maxRecDepth 100000 in
theorem okX8_makes : hl_ok cX8_makes RX8 8 false pX8_makes = true := by decide +kernel
abbrev mX8_makes : hl_M := (yX8_makes, cX8_makes, 8, (some .int))
theorem mtX8_makes : hl_mv mX8_makes 5 := ⟨⟨hl_T_of (k := 1121) (by decide +kernel) rfl, hl_T_of (k := 56) (by decide +kernel) rfl, ⟨by decide +kernel, by decide +kernel⟩, by decide +kernel⟩, hl_T_of (k := 1120) (by decide +kernel) rfl, hl_T_of (k := 30) (by decide +kernel) rfl⟩
def pX8_deposit : List hl_I := [(0, 0, 0, 0, 0, 0, .aload_n 0), (1, 0, 1, 0, 0, 0, .iload_n 1), (2, 0, 0, 0, 1, 0, .iconst 1), (3, 0, 2, 0, 0, 0, .iload_n 2), (4, 0, 3, 0, 0, 0, .iload_n 3), (5, 0, 0, 0, 0, 0, .iconst 0), (6, 0, 0, 0, 0, 0, .iconst 0), (7, 0, 0, 1103, 0, 0, .invokevirtual 132), (10, 24, 0, 0, 0, 0, .ifCond .eq 14), (13, 0, 0, 0, 0, 0, .aload_n 0), (14, 0, 0, 0, 0, 0, .aload_n 0), (15, 10, 24, 989, 0, 0, .getfield 83), (18, 0, 1, 0, 0, 0, .iload_n 1), (19, 0, 0, 0, 0, 0, .iaload), (20, 0, 0, 1107, 0, 0, .invokevirtual 136), (23, 0, 0, 0, 0, 0, .ireturn), (24, 0, 0, 0, 0, 0, .aload_n 0), (25, 0, 0, 0, 0, 0, .aload_n 0), (26, 0, 1, 0, 0, 0, .iload_n 1), (27, 0, 0, 1111, 0, 0, .invokevirtual 140), (30, 40, 0, 0, 0, 0, .ifCond .ne 10), (33, 0, 3, 0, 0, 0, .iload_n 3), (34, 0, 0, 1115, 0, 0, .invokestatic 143), (37, 44, 0, 0, 0, 0, .ifCond .ne 7), (40, 0, 0, 0, 1, 0, .iconst 1), (41, 71, 0, 0, 0, 0, .goto 30), (44, 0, 0, 0, 0, 0, .aload_n 0), (45, 0, 2, 0, 0, 0, .iload_n 2), (46, 0, 0, 1079, 0, 0, .invokevirtual 117), (49, 56, 0, 0, 0, 0, .ifCond .ne 7), (52, 0, 0, 0, 2, 0, .iconst 2), (53, 71, 0, 0, 0, 0, .goto 18), (56, 0, 0, 0, 0, 0, .aload_n 0), (57, 10, 28, 993, 0, 0, .getfield 96), (60, 0, 0, 0, 150, 0, .sipush 150), (63, 70, 0, 0, 0, 0, .if_icmp .ne 7), (66, 0, 0, 0, 3, 0, .iconst 3), (67, 71, 0, 0, 0, 0, .goto 4), (70, 0, 0, 0, 0, 0, .iconst 0), (71, 10, 26, 991, 0, 0, .putfield 89), (74, 0, 0, 0, 0, 0, .aload_n 0), (75, 10, 26, 991, 0, 0, .getfield 89), (78, 85, 0, 0, 0, 0, .ifCond .le 7), (81, 0, 0, 0, 0, 0, .iconst 0), (82, 105, 0, 0, 0, 0, .goto 23), (85, 0, 0, 0, 0, 0, .aload_n 0), (86, 0, 0, 0, 0, 0, .aload_n 0), (87, 0, 0, 0, 100, 0, .bipush 100), (89, 0, 0, 0, (-1), 0, .iconst (-1)), (90, 0, 2, 0, 0, 0, .iload_n 2), (91, 0, 3, 0, 0, 0, .iload_n 3), (92, 0, 3, 0, 0, 0, .iload_n 3), (93, 0, 0, 1118, 0, 0, .invokevirtual 146), (96, 0, 1, 0, 0, 0, .iload_n 1), (97, 0, 0, 0, 1, 0, .iconst 1), (98, 0, 2, 0, 0, 0, .iload_n 2), (99, 0, 3, 0, 0, 0, .iload_n 3), (100, 0, 0, 0, 0, 0, .iconst 0), (101, 0, 0, 0, 0, 0, .iconst 0), (102, 0, 0, 1126, 0, 0, .invokevirtual 150), (105, 0, 0, 0, 0, 0, .ireturn)]
set_option maxRecDepth 100000 in
theorem okX8_deposit : hl_ok cX8_deposit RX8 4 false pX8_deposit = true := by decide +kernel
abbrev mX8_deposit : hl_M := (yX8_deposit, cX8_deposit, 4, (some .int))
theorem mtX8_deposit : hl_mv mX8_deposit 3 := ⟨⟨hl_T_of (k := 1102) (by decide +kernel) rfl, hl_T_of (k := 56) (by decide +kernel) rfl, ⟨by decide +kernel, by decide +kernel⟩, by decide +kernel⟩, hl_T_of (k := 1100) (by decide +kernel) rfl, hl_T_of (k := 1101) (by decide +kernel) rfl⟩
def pX8_withdraw : List hl_I := [(0, 0, 0, 0, 0, 0, .aload_n 0), (1, 0, 1, 0, 0, 0, .iload_n 1), (2, 0, 0, 0, 2, 0, .iconst 2), (3, 0, 2, 0, 0, 0, .iload_n 2), (4, 0, 3, 0, 0, 0, .iload_n 3), (5, 0, 0, 0, 0, 0, .iconst 0), (6, 0, 0, 0, 0, 0, .iconst 0), (7, 0, 0, 1103, 0, 0, .invokevirtual 132), (10, 24, 0, 0, 0, 0, .ifCond .eq 14), (13, 0, 0, 0, 0, 0, .aload_n 0), (14, 0, 0, 0, 0, 0, .aload_n 0), (15, 10, 24, 989, 0, 0, .getfield 83), (18, 0, 1, 0, 0, 0, .iload_n 1), (19, 0, 0, 0, 0, 0, .iaload), (20, 0, 0, 1107, 0, 0, .invokevirtual 136), (23, 0, 0, 0, 0, 0, .ireturn), (24, 0, 0, 0, 0, 0, .aload_n 0), (25, 0, 0, 0, 0, 0, .aload_n 0), (26, 0, 1, 0, 0, 0, .iload_n 1), (27, 0, 0, 1111, 0, 0, .invokevirtual 140), (30, 40, 0, 0, 0, 0, .ifCond .ne 10), (33, 0, 3, 0, 0, 0, .iload_n 3), (34, 0, 0, 1115, 0, 0, .invokestatic 143), (37, 44, 0, 0, 0, 0, .ifCond .ne 7), (40, 0, 0, 0, 1, 0, .iconst 1), (41, 86, 0, 0, 0, 0, .goto 45), (44, 0, 0, 0, 0, 0, .aload_n 0), (45, 0, 2, 0, 0, 0, .iload_n 2), (46, 0, 0, 1079, 0, 0, .invokevirtual 117), (49, 56, 0, 0, 0, 0, .ifCond .ne 7), (52, 0, 0, 0, 2, 0, .iconst 2), (53, 86, 0, 0, 0, 0, .goto 33), (56, 0, 3, 0, 0, 0, .iload_n 3), (57, 0, 0, 0, 0, 0, .i2l), (58, 0, 0, 0, 0, 0, .aload_n 0), (59, 0, 2, 0, 0, 0, .iload_n 2), (60, 0, 0, 1083, 0, 0, .invokevirtual 121), (63, 0, 0, 0, 0, 0, .lcmp), (64, 71, 0, 0, 0, 0, .ifCond .le 7), (67, 0, 0, 0, 3, 0, .iconst 3), (68, 86, 0, 0, 0, 0, .goto 18), (71, 0, 0, 0, 0, 0, .aload_n 0), (72, 10, 28, 993, 0, 0, .getfield 96), (75, 0, 0, 0, 150, 0, .sipush 150), (78, 85, 0, 0, 0, 0, .if_icmp .ne 7), (81, 0, 0, 0, 4, 0, .iconst 4), (82, 86, 0, 0, 0, 0, .goto 4), (85, 0, 0, 0, 0, 0, .iconst 0), (86, 10, 26, 991, 0, 0, .putfield 89), (89, 0, 0, 0, 0, 0, .aload_n 0), (90, 10, 26, 991, 0, 0, .getfield 89), (93, 100, 0, 0, 0, 0, .ifCond .le 7), (96, 0, 0, 0, 0, 0, .iconst 0), (97, 120, 0, 0, 0, 0, .goto 23), (100, 0, 0, 0, 0, 0, .aload_n 0), (101, 0, 0, 0, 0, 0, .aload_n 0), (102, 0, 0, 0, 119, 0, .bipush 119), (104, 0, 2, 0, 0, 0, .iload_n 2), (105, 0, 0, 0, (-1), 0, .iconst (-1)), (106, 0, 3, 0, 0, 0, .iload_n 3), (107, 0, 3, 0, 0, 0, .iload_n 3), (108, 0, 0, 1118, 0, 0, .invokevirtual 146), (111, 0, 1, 0, 0, 0, .iload_n 1), (112, 0, 0, 0, 2, 0, .iconst 2), (113, 0, 2, 0, 0, 0, .iload_n 2), (114, 0, 3, 0, 0, 0, .iload_n 3), (115, 0, 0, 0, 0, 0, .iconst 0), (116, 0, 0, 0, 0, 0, .iconst 0), (117, 0, 0, 1126, 0, 0, .invokevirtual 150), (120, 0, 0, 0, 0, 0, .ireturn)]
set_option maxRecDepth 100000 in
theorem okX8_withdraw : hl_ok cX8_withdraw RX8 4 false pX8_withdraw = true := by decide +kernel
abbrev mX8_withdraw : hl_M := (yX8_withdraw, cX8_withdraw, 4, (some .int))
theorem mtX8_withdraw : hl_mv mX8_withdraw 3 := ⟨⟨hl_T_of (k := 1133) (by decide +kernel) rfl, hl_T_of (k := 56) (by decide +kernel) rfl, ⟨by decide +kernel, by decide +kernel⟩, by decide +kernel⟩, hl_T_of (k := 1131) (by decide +kernel) rfl, hl_T_of (k := 1132) (by decide +kernel) rfl⟩
def pX8_transfer : List hl_I := [(0, 0, 0, 0, 0, 0, .aload_n 0), (1, 0, 1, 0, 0, 0, .iload_n 1), (2, 0, 0, 0, 3, 0, .iconst 3), (3, 0, 2, 0, 0, 0, .iload_n 2), (4, 0, 3, 0, 0, 0, .iload_n 3), (5, 0, 4, 0, 0, 0, .iload 4), (7, 0, 0, 0, 0, 0, .iconst 0), (8, 0, 0, 1103, 0, 0, .invokevirtual 132), (11, 25, 0, 0, 0, 0, .ifCond .eq 14), (14, 0, 0, 0, 0, 0, .aload_n 0), (15, 0, 0, 0, 0, 0, .aload_n 0), (16, 10, 24, 989, 0, 0, .getfield 83), (19, 0, 1, 0, 0, 0, .iload_n 1), (20, 0, 0, 0, 0, 0, .iaload), (21, 0, 0, 1107, 0, 0, .invokevirtual 136), (24, 0, 0, 0, 0, 0, .ireturn), (25, 0, 0, 0, 0, 0, .aload_n 0), (26, 0, 0, 0, 0, 0, .aload_n 0), (27, 0, 1, 0, 0, 0, .iload_n 1), (28, 0, 0, 1111, 0, 0, .invokevirtual 140), (31, 47, 0, 0, 0, 0, .ifCond .ne 16), (34, 0, 4, 0, 0, 0, .iload 4), (36, 0, 0, 1115, 0, 0, .invokestatic 143), (39, 47, 0, 0, 0, 0, .ifCond .eq 8), (42, 0, 2, 0, 0, 0, .iload_n 2), (43, 0, 3, 0, 0, 0, .iload_n 3), (44, 51, 0, 0, 0, 0, .if_icmp .ne 7), (47, 0, 0, 0, 1, 0, .iconst 1), (48, 113, 0, 0, 0, 0, .goto 65), (51, 0, 0, 0, 0, 0, .aload_n 0), (52, 0, 2, 0, 0, 0, .iload_n 2), (53, 0, 0, 1079, 0, 0, .invokevirtual 117), (56, 67, 0, 0, 0, 0, .ifCond .eq 11), (59, 0, 0, 0, 0, 0, .aload_n 0), (60, 0, 3, 0, 0, 0, .iload_n 3), (61, 0, 0, 1079, 0, 0, .invokevirtual 117), (64, 71, 0, 0, 0, 0, .ifCond .ne 7), (67, 0, 0, 0, 2, 0, .iconst 2), (68, 113, 0, 0, 0, 0, .goto 45), (71, 0, 4, 0, 0, 0, .iload 4), (73, 0, 0, 0, 0, 0, .i2l), (74, 0, 0, 0, 0, 0, .aload_n 0), (75, 0, 2, 0, 0, 0, .iload_n 2), (76, 0, 0, 1083, 0, 0, .invokevirtual 121), (79, 0, 0, 0, 0, 0, .lcmp), (80, 94, 0, 0, 0, 0, .ifCond .gt 14), (83, 0, 0, 0, 0, 0, .aload_n 0), (84, 0, 2, 0, 0, 0, .iload_n 2), (85, 0, 3, 0, 0, 0, .iload_n 3), (86, 0, 4, 0, 0, 0, .iload 4), (88, 0, 0, 1138, 0, 0, .invokevirtual 154), (91, 98, 0, 0, 0, 0, .ifCond .ne 7), (94, 0, 0, 0, 3, 0, .iconst 3), (95, 113, 0, 0, 0, 0, .goto 18), (98, 0, 0, 0, 0, 0, .aload_n 0), (99, 10, 28, 993, 0, 0, .getfield 96), (102, 0, 0, 0, 150, 0, .sipush 150), (105, 112, 0, 0, 0, 0, .if_icmp .ne 7), (108, 0, 0, 0, 4, 0, .iconst 4), (109, 113, 0, 0, 0, 0, .goto 4), (112, 0, 0, 0, 0, 0, .iconst 0), (113, 10, 26, 991, 0, 0, .putfield 89), (116, 0, 0, 0, 0, 0, .aload_n 0), (117, 10, 26, 991, 0, 0, .getfield 89), (120, 127, 0, 0, 0, 0, .ifCond .le 7), (123, 0, 0, 0, 0, 0, .iconst 0), (124, 156, 0, 0, 0, 0, .goto 32), (127, 0, 0, 0, 0, 0, .aload_n 0), (128, 0, 0, 0, 0, 0, .aload_n 0), (129, 0, 0, 0, 116, 0, .bipush 116), (131, 0, 2, 0, 0, 0, .iload_n 2), (132, 0, 3, 0, 0, 0, .iload_n 3), (133, 0, 4, 0, 0, 0, .iload 4), (135, 0, 0, 0, 0, 0, .aload_n 0), (136, 0, 2, 0, 0, 0, .iload_n 2), (137, 0, 3, 0, 0, 0, .iload_n 3), (138, 0, 4, 0, 0, 0, .iload 4), (140, 0, 0, 1138, 0, 0, .invokevirtual 154), (143, 0, 0, 1118, 0, 0, .invokevirtual 146), (146, 0, 1, 0, 0, 0, .iload_n 1), (147, 0, 0, 0, 3, 0, .iconst 3), (148, 0, 2, 0, 0, 0, .iload_n 2), (149, 0, 3, 0, 0, 0, .iload_n 3), (150, 0, 4, 0, 0, 0, .iload 4), (152, 0, 0, 0, 0, 0, .iconst 0), (153, 0, 0, 1126, 0, 0, .invokevirtual 150), (156, 0, 0, 0, 0, 0, .ireturn)]
set_option maxRecDepth 100000 in
theorem okX8_transfer : hl_ok cX8_transfer RX8 5 false pX8_transfer = true := by decide +kernel
abbrev mX8_transfer : hl_M := (yX8_transfer, cX8_transfer, 5, (some .int))
theorem mtX8_transfer : hl_mv mX8_transfer 4 := ⟨⟨hl_T_of (k := 1137) (by decide +kernel) rfl, hl_T_of (k := 56) (by decide +kernel) rfl, ⟨by decide +kernel, by decide +kernel⟩, by decide +kernel⟩, hl_T_of (k := 1135) (by decide +kernel) rfl, hl_T_of (k := 1136) (by decide +kernel) rfl⟩
def pX8_holds : List hl_I := [(0, 0, 0, 0, 0, 0, .aload_n 0), (1, 10, 14, 979, 0, 0, .getfield 53), (4, 0, 0, 0, 0, 0, .aload_n 0), (5, 10, 29, 994, 0, 0, .getfield 99), (8, 0, 0, 0, 97, 0, .bipush 97), (10, 0, 0, 0, 0, 0, .iastore), (11, 0, 0, 0, 0, 0, .aload_n 0), (12, 10, 15, 980, 0, 0, .getfield 56), (15, 0, 0, 0, 0, 0, .aload_n 0), (16, 10, 29, 994, 0, 0, .getfield 99), (19, 0, 1, 0, 0, 0, .iload_n 1), (20, 0, 0, 0, 0, 0, .iastore), (21, 0, 0, 0, 0, 0, .aload_n 0), (22, 10, 16, 981, 0, 0, .getfield 59), (25, 0, 0, 0, 0, 0, .aload_n 0), (26, 10, 29, 994, 0, 0, .getfield 99), (29, 0, 2, 0, 0, 0, .iload_n 2), (30, 0, 0, 0, 0, 0, .iastore), (31, 0, 0, 0, 0, 0, .aload_n 0), (32, 10, 17, 982, 0, 0, .getfield 62), (35, 0, 0, 0, 0, 0, .aload_n 0), (36, 10, 29, 994, 0, 0, .getfield 99), (39, 0, 3, 0, 0, 0, .iload_n 3), (40, 0, 0, 0, 0, 0, .iastore), (41, 0, 0, 0, 0, 0, .aload_n 0), (42, 10, 18, 983, 0, 0, .getfield 65), (45, 0, 0, 0, 0, 0, .aload_n 0), (46, 10, 29, 994, 0, 0, .getfield 99), (49, 0, 0, 0, 0, 0, .aload_n 0), (50, 10, 31, 996, 0, 0, .getfield 105), (53, 0, 4, 0, 0, 0, .iload 4), (55, 0, 0, 0, 0, 0, .iadd), (56, 0, 0, 0, 0, 0, .iastore), (57, 0, 0, 0, 0, 0, .aload_n 0), (58, 0, 0, 0, 0, 0, .dup), (59, 10, 29, 994, 0, 0, .getfield 99), (62, 0, 0, 0, 1, 0, .iconst 1), (63, 0, 0, 0, 0, 0, .iadd), (64, 10, 29, 994, 0, 0, .putfield 99), (67, 0, 0, 0, 0, 0, .aload_n 0), (68, 10, 29, 994, 0, 0, .getfield 99), (71, 0, 0, 0, 1, 0, .iconst 1), (72, 0, 0, 0, 0, 0, .isub), (73, 0, 0, 0, 0, 0, .ireturn)]
set_option maxRecDepth 100000 in
theorem okX8_holds : hl_ok cX8_holds RX8 5 false pX8_holds = true := by decide +kernel
abbrev mX8_holds : hl_M := (yX8_holds, cX8_holds, 5, (some .int))
theorem mtX8_holds : hl_mv mX8_holds 4 := ⟨⟨hl_T_of (k := 1149) (by decide +kernel) rfl, hl_T_of (k := 56) (by decide +kernel) rfl, ⟨by decide +kernel, by decide +kernel⟩, by decide +kernel⟩, hl_T_of (k := 1148) (by decide +kernel) rfl, hl_T_of (k := 34) (by decide +kernel) rfl⟩
def pX8_hold : List hl_I := [(0, 0, 0, 0, 0, 0, .aload_n 0), (1, 0, 1, 0, 0, 0, .iload_n 1), (2, 0, 0, 0, 4, 0, .iconst 4), (3, 0, 2, 0, 0, 0, .iload_n 2), (4, 0, 3, 0, 0, 0, .iload_n 3), (5, 0, 4, 0, 0, 0, .iload 4), (7, 0, 5, 0, 0, 0, .iload 5), (9, 0, 0, 1103, 0, 0, .invokevirtual 132), (12, 26, 0, 0, 0, 0, .ifCond .eq 14), (15, 0, 0, 0, 0, 0, .aload_n 0), (16, 0, 0, 0, 0, 0, .aload_n 0), (17, 10, 24, 989, 0, 0, .getfield 83), (20, 0, 1, 0, 0, 0, .iload_n 1), (21, 0, 0, 0, 0, 0, .iaload), (22, 0, 0, 1107, 0, 0, .invokevirtual 136), (25, 0, 0, 0, 0, 0, .ireturn), (26, 0, 0, 0, 0, 0, .aload_n 0), (27, 0, 0, 0, 0, 0, .aload_n 0), (28, 0, 1, 0, 0, 0, .iload_n 1), (29, 0, 0, 1111, 0, 0, .invokevirtual 140), (32, 59, 0, 0, 0, 0, .ifCond .ne 27), (35, 0, 4, 0, 0, 0, .iload 4), (37, 0, 0, 1115, 0, 0, .invokestatic 143), (40, 59, 0, 0, 0, 0, .ifCond .eq 19), (43, 0, 5, 0, 0, 0, .iload 5), (45, 0, 0, 0, 0, 0, .iconst 0), (46, 0, 0, 0, 20, 0, .bipush 20), (48, 0, 0, 1071, 0, 0, .invokestatic 108), (51, 59, 0, 0, 0, 0, .ifCond .eq 8), (54, 0, 2, 0, 0, 0, .iload_n 2), (55, 0, 3, 0, 0, 0, .iload_n 3), (56, 63, 0, 0, 0, 0, .if_icmp .ne 7), (59, 0, 0, 0, 1, 0, .iconst 1), (60, 113, 0, 0, 0, 0, .goto 53), (63, 0, 0, 0, 0, 0, .aload_n 0), (64, 0, 2, 0, 0, 0, .iload_n 2), (65, 0, 0, 1079, 0, 0, .invokevirtual 117), (68, 79, 0, 0, 0, 0, .ifCond .eq 11), (71, 0, 0, 0, 0, 0, .aload_n 0), (72, 0, 3, 0, 0, 0, .iload_n 3), (73, 0, 0, 1079, 0, 0, .invokevirtual 117), (76, 83, 0, 0, 0, 0, .ifCond .ne 7), (79, 0, 0, 0, 2, 0, .iconst 2), (80, 113, 0, 0, 0, 0, .goto 33), (83, 0, 4, 0, 0, 0, .iload 4), (85, 0, 0, 0, 0, 0, .i2l), (86, 0, 0, 0, 0, 0, .aload_n 0), (87, 0, 2, 0, 0, 0, .iload_n 2), (88, 0, 0, 1083, 0, 0, .invokevirtual 121), (91, 0, 0, 0, 0, 0, .lcmp), (92, 99, 0, 0, 0, 0, .ifCond .le 7), (95, 0, 0, 0, 3, 0, .iconst 3), (96, 113, 0, 0, 0, 0, .goto 17), (99, 0, 0, 0, 0, 0, .aload_n 0), (100, 10, 29, 994, 0, 0, .getfield 99), (103, 0, 0, 0, 30, 0, .bipush 30), (105, 112, 0, 0, 0, 0, .if_icmp .ne 7), (108, 0, 0, 0, 4, 0, .iconst 4), (109, 113, 0, 0, 0, 0, .goto 4), (112, 0, 0, 0, 0, 0, .iconst 0), (113, 10, 26, 991, 0, 0, .putfield 89), (116, 0, 0, 0, 0, 0, .aload_n 0), (117, 10, 26, 991, 0, 0, .getfield 89), (120, 127, 0, 0, 0, 0, .ifCond .le 7), (123, 0, 0, 0, 0, 0, .iconst 0), (124, 149, 0, 0, 0, 0, .goto 25), (127, 0, 0, 0, 0, 0, .aload_n 0), (128, 0, 0, 0, 0, 0, .aload_n 0), (129, 0, 2, 0, 0, 0, .iload_n 2), (130, 0, 3, 0, 0, 0, .iload_n 3), (131, 0, 4, 0, 0, 0, .iload 4), (133, 0, 5, 0, 0, 0, .iload 5), (135, 0, 0, 1146, 0, 0, .invokevirtual 158), (138, 0, 1, 0, 0, 0, .iload_n 1), (139, 0, 0, 0, 4, 0, .iconst 4), (140, 0, 2, 0, 0, 0, .iload_n 2), (141, 0, 3, 0, 0, 0, .iload_n 3), (142, 0, 4, 0, 0, 0, .iload 4), (144, 0, 5, 0, 0, 0, .iload 5), (146, 0, 0, 1126, 0, 0, .invokevirtual 150), (149, 0, 0, 0, 0, 0, .ireturn)]
set_option maxRecDepth 100000 in
theorem okX8_hold : hl_ok cX8_hold RX8 6 false pX8_hold = true := by decide +kernel
abbrev mX8_hold : hl_M := (yX8_hold, cX8_hold, 6, (some .int))
theorem mtX8_hold : hl_mv mX8_hold 5 := ⟨⟨hl_T_of (k := 1145) (by decide +kernel) rfl, hl_T_of (k := 56) (by decide +kernel) rfl, ⟨by decide +kernel, by decide +kernel⟩, by decide +kernel⟩, hl_T_of (k := 1143) (by decide +kernel) rfl, hl_T_of (k := 1144) (by decide +kernel) rfl⟩
def pX8_isHold : List hl_I := [(0, 0, 1, 0, 0, 0, .iload_n 1), (1, 0, 0, 0, 0, 0, .iconst 0), (2, 0, 0, 0, 0, 0, .aload_n 0), (3, 10, 29, 994, 0, 0, .getfield 99), (6, 0, 0, 0, 1, 0, .iconst 1), (7, 0, 0, 0, 0, 0, .isub), (8, 0, 0, 1071, 0, 0, .invokestatic 108), (11, 0, 0, 0, 0, 0, .ireturn)]
set_option maxRecDepth 100000 in
theorem okX8_isHold : hl_ok cX8_isHold RX8 2 false pX8_isHold = true := by decide +kernel
abbrev mX8_isHold : hl_M := (yX8_isHold, cX8_isHold, 2, (some .boolean))
theorem mtX8_isHold : hl_mv mX8_isHold 1 := ⟨⟨hl_T_of (k := 1157) (by decide +kernel) rfl, hl_T_of (k := 56) (by decide +kernel) rfl, ⟨by decide +kernel, by decide +kernel⟩, by decide +kernel⟩, hl_T_of (k := 1156) (by decide +kernel) rfl, hl_T_of (k := 35) (by decide +kernel) rfl⟩
def pX8_captures : List hl_I := [(0, 0, 0, 0, 0, 0, .aload_n 0), (1, 10, 14, 979, 0, 0, .getfield 53), (4, 0, 1, 0, 0, 0, .iload_n 1), (5, 0, 0, 0, 99, 0, .bipush 99), (7, 0, 0, 0, 0, 0, .iastore), (8, 0, 0, 0, 0, 0, .aload_n 0), (9, 0, 0, 0, 99, 0, .bipush 99), (11, 0, 0, 0, 0, 0, .aload_n 0), (12, 10, 15, 980, 0, 0, .getfield 56), (15, 0, 1, 0, 0, 0, .iload_n 1), (16, 0, 0, 0, 0, 0, .iaload), (17, 0, 0, 0, 0, 0, .aload_n 0), (18, 10, 16, 981, 0, 0, .getfield 59), (21, 0, 1, 0, 0, 0, .iload_n 1), (22, 0, 0, 0, 0, 0, .iaload), (23, 0, 2, 0, 0, 0, .iload_n 2), (24, 0, 0, 0, 0, 0, .aload_n 0), (25, 0, 0, 0, 0, 0, .aload_n 0), (26, 10, 15, 980, 0, 0, .getfield 56), (29, 0, 1, 0, 0, 0, .iload_n 1), (30, 0, 0, 0, 0, 0, .iaload), (31, 0, 0, 0, 0, 0, .aload_n 0), (32, 10, 16, 981, 0, 0, .getfield 59), (35, 0, 1, 0, 0, 0, .iload_n 1), (36, 0, 0, 0, 0, 0, .iaload), (37, 0, 2, 0, 0, 0, .iload_n 2), (38, 0, 0, 1138, 0, 0, .invokevirtual 154), (41, 0, 0, 1118, 0, 0, .invokevirtual 146), (44, 0, 0, 0, 0, 0, .ireturn)]
set_option maxRecDepth 100000 in
theorem okX8_captures : hl_ok cX8_captures RX8 3 false pX8_captures = true := by decide +kernel
abbrev mX8_captures : hl_M := (yX8_captures, cX8_captures, 3, (some .int))
theorem mtX8_captures : hl_mv mX8_captures 2 := ⟨⟨hl_T_of (k := 1161) (by decide +kernel) rfl, hl_T_of (k := 56) (by decide +kernel) rfl, ⟨by decide +kernel, by decide +kernel⟩, by decide +kernel⟩, hl_T_of (k := 1160) (by decide +kernel) rfl, hl_T_of (k := 36) (by decide +kernel) rfl⟩
def pX8_capture : List hl_I := [(0, 0, 0, 0, 0, 0, .aload_n 0), (1, 0, 1, 0, 0, 0, .iload_n 1), (2, 0, 0, 0, 5, 0, .iconst 5), (3, 0, 2, 0, 0, 0, .iload_n 2), (4, 0, 3, 0, 0, 0, .iload_n 3), (5, 0, 0, 0, 0, 0, .iconst 0), (6, 0, 0, 0, 0, 0, .iconst 0), (7, 0, 0, 1103, 0, 0, .invokevirtual 132), (10, 24, 0, 0, 0, 0, .ifCond .eq 14), (13, 0, 0, 0, 0, 0, .aload_n 0), (14, 0, 0, 0, 0, 0, .aload_n 0), (15, 10, 24, 989, 0, 0, .getfield 83), (18, 0, 1, 0, 0, 0, .iload_n 1), (19, 0, 0, 0, 0, 0, .iaload), (20, 0, 0, 1107, 0, 0, .invokevirtual 136), (23, 0, 0, 0, 0, 0, .ireturn), (24, 0, 0, 0, 0, 0, .aload_n 0), (25, 0, 0, 0, 0, 0, .aload_n 0), (26, 0, 1, 0, 0, 0, .iload_n 1), (27, 0, 0, 1111, 0, 0, .invokevirtual 140), (30, 40, 0, 0, 0, 0, .ifCond .ne 10), (33, 0, 3, 0, 0, 0, .iload_n 3), (34, 0, 0, 1115, 0, 0, .invokestatic 143), (37, 44, 0, 0, 0, 0, .ifCond .ne 7), (40, 0, 0, 0, 1, 0, .iconst 1), (41, 120, 0, 0, 0, 0, .goto 79), (44, 0, 0, 0, 0, 0, .aload_n 0), (45, 0, 2, 0, 0, 0, .iload_n 2), (46, 0, 0, 1154, 0, 0, .invokevirtual 161), (49, 56, 0, 0, 0, 0, .ifCond .ne 7), (52, 0, 0, 0, 2, 0, .iconst 2), (53, 120, 0, 0, 0, 0, .goto 67), (56, 0, 0, 0, 0, 0, .aload_n 0), (57, 10, 14, 979, 0, 0, .getfield 53), (60, 0, 2, 0, 0, 0, .iload_n 2), (61, 0, 0, 0, 0, 0, .iaload), (62, 0, 0, 0, 97, 0, .bipush 97), (64, 71, 0, 0, 0, 0, .if_icmp .eq 7), (67, 0, 0, 0, 3, 0, .iconst 3), (68, 120, 0, 0, 0, 0, .goto 52), (71, 0, 3, 0, 0, 0, .iload_n 3), (72, 0, 0, 0, 0, 0, .aload_n 0), (73, 10, 17, 982, 0, 0, .getfield 62), (76, 0, 2, 0, 0, 0, .iload_n 2), (77, 0, 0, 0, 0, 0, .iaload), (78, 101, 0, 0, 0, 0, .if_icmp .gt 23), (81, 0, 0, 0, 0, 0, .aload_n 0), (82, 0, 0, 0, 0, 0, .aload_n 0), (83, 10, 15, 980, 0, 0, .getfield 56), (86, 0, 2, 0, 0, 0, .iload_n 2), (87, 0, 0, 0, 0, 0, .iaload), (88, 0, 0, 0, 0, 0, .aload_n 0), (89, 10, 16, 981, 0, 0, .getfield 59), (92, 0, 2, 0, 0, 0, .iload_n 2), (93, 0, 0, 0, 0, 0, .iaload), (94, 0, 3, 0, 0, 0, .iload_n 3), (95, 0, 0, 1138, 0, 0, .invokevirtual 154), (98, 105, 0, 0, 0, 0, .ifCond .ne 7), (101, 0, 0, 0, 4, 0, .iconst 4), (102, 120, 0, 0, 0, 0, .goto 18), (105, 0, 0, 0, 0, 0, .aload_n 0), (106, 10, 28, 993, 0, 0, .getfield 96), (109, 0, 0, 0, 150, 0, .sipush 150), (112, 119, 0, 0, 0, 0, .if_icmp .ne 7), (115, 0, 0, 0, 5, 0, .iconst 5), (116, 120, 0, 0, 0, 0, .goto 4), (119, 0, 0, 0, 0, 0, .iconst 0), (120, 10, 26, 991, 0, 0, .putfield 89), (123, 0, 0, 0, 0, 0, .aload_n 0), (124, 10, 26, 991, 0, 0, .getfield 89), (127, 134, 0, 0, 0, 0, .ifCond .le 7), (130, 0, 0, 0, 0, 0, .iconst 0), (131, 150, 0, 0, 0, 0, .goto 19), (134, 0, 0, 0, 0, 0, .aload_n 0), (135, 0, 0, 0, 0, 0, .aload_n 0), (136, 0, 2, 0, 0, 0, .iload_n 2), (137, 0, 3, 0, 0, 0, .iload_n 3), (138, 0, 0, 1158, 0, 0, .invokevirtual 164), (141, 0, 1, 0, 0, 0, .iload_n 1), (142, 0, 0, 0, 5, 0, .iconst 5), (143, 0, 2, 0, 0, 0, .iload_n 2), (144, 0, 3, 0, 0, 0, .iload_n 3), (145, 0, 0, 0, 0, 0, .iconst 0), (146, 0, 0, 0, 0, 0, .iconst 0), (147, 0, 0, 1126, 0, 0, .invokevirtual 150), (150, 0, 0, 0, 0, 0, .ireturn)]
set_option maxRecDepth 100000 in
theorem okX8_capture : hl_ok cX8_capture RX8 4 false pX8_capture = true := by decide +kernel
abbrev mX8_capture : hl_M := (yX8_capture, cX8_capture, 4, (some .int))
theorem mtX8_capture : hl_mv mX8_capture 3 := ⟨⟨hl_T_of (k := 1153) (by decide +kernel) rfl, hl_T_of (k := 56) (by decide +kernel) rfl, ⟨by decide +kernel, by decide +kernel⟩, by decide +kernel⟩, hl_T_of (k := 1151) (by decide +kernel) rfl, hl_T_of (k := 1152) (by decide +kernel) rfl⟩
def pX8_release : List hl_I := [(0, 0, 0, 0, 0, 0, .aload_n 0), (1, 0, 0, 0, 0, 0, .aload_n 0), (2, 0, 1, 0, 0, 0, .iload_n 1), (3, 0, 0, 1154, 0, 0, .invokevirtual 161), (6, 13, 0, 0, 0, 0, .ifCond .ne 7), (9, 0, 0, 0, 1, 0, .iconst 1), (10, 29, 0, 0, 0, 0, .goto 19), (13, 0, 0, 0, 0, 0, .aload_n 0), (14, 10, 14, 979, 0, 0, .getfield 53), (17, 0, 1, 0, 0, 0, .iload_n 1), (18, 0, 0, 0, 0, 0, .iaload), (19, 0, 0, 0, 97, 0, .bipush 97), (21, 28, 0, 0, 0, 0, .if_icmp .eq 7), (24, 0, 0, 0, 2, 0, .iconst 2), (25, 29, 0, 0, 0, 0, .goto 4), (28, 0, 0, 0, 0, 0, .iconst 0), (29, 10, 26, 991, 0, 0, .putfield 89), (32, 0, 0, 0, 0, 0, .aload_n 0), (33, 10, 26, 991, 0, 0, .getfield 89), (36, 41, 0, 0, 0, 0, .ifCond .le 5), (39, 0, 0, 0, 0, 0, .iconst 0), (40, 0, 0, 0, 0, 0, .ireturn), (41, 0, 0, 0, 0, 0, .aload_n 0), (42, 10, 14, 979, 0, 0, .getfield 53), (45, 0, 1, 0, 0, 0, .iload_n 1), (46, 0, 0, 0, 114, 0, .bipush 114), (48, 0, 0, 0, 0, 0, .iastore), (49, 0, 0, 0, 0, 0, .aload_n 0), (50, 10, 17, 982, 0, 0, .getfield 62), (53, 0, 1, 0, 0, 0, .iload_n 1), (54, 0, 0, 0, 0, 0, .iaload), (55, 0, 0, 0, 0, 0, .ireturn)]
set_option maxRecDepth 100000 in
theorem okX8_release : hl_ok cX8_release RX8 2 false pX8_release = true := by decide +kernel
abbrev mX8_release : hl_M := (yX8_release, cX8_release, 2, (some .int))
theorem mtX8_release : hl_mv mX8_release 1 := ⟨⟨hl_T_of (k := 1165) (by decide +kernel) rfl, hl_T_of (k := 56) (by decide +kernel) rfl, ⟨by decide +kernel, by decide +kernel⟩, by decide +kernel⟩, hl_T_of (k := 1163) (by decide +kernel) rfl, hl_T_of (k := 1164) (by decide +kernel) rfl⟩
def pX8_isTransaction : List hl_I := [(0, 0, 1, 0, 0, 0, .iload_n 1), (1, 0, 0, 0, 0, 0, .iconst 0), (2, 0, 0, 0, 0, 0, .aload_n 0), (3, 10, 28, 993, 0, 0, .getfield 96), (6, 0, 0, 0, 1, 0, .iconst 1), (7, 0, 0, 0, 0, 0, .isub), (8, 0, 0, 1071, 0, 0, .invokestatic 108), (11, 0, 0, 0, 0, 0, .ireturn)]
set_option maxRecDepth 100000 in
theorem okX8_isTransaction : hl_ok cX8_isTransaction RX8 2 false pX8_isTransaction = true := by decide +kernel
abbrev mX8_isTransaction : hl_M := (yX8_isTransaction, cX8_isTransaction, 2, (some .boolean))
theorem mtX8_isTransaction : hl_mv mX8_isTransaction 1 := ⟨⟨hl_T_of (k := 1173) (by decide +kernel) rfl, hl_T_of (k := 56) (by decide +kernel) rfl, ⟨by decide +kernel, by decide +kernel⟩, by decide +kernel⟩, hl_T_of (k := 1172) (by decide +kernel) rfl, hl_T_of (k := 37) (by decide +kernel) rfl⟩
def pX8_lacks : List hl_I := [(0, 0, 1, 0, 0, 0, .iload_n 1), (1, 19, 0, 0, 0, 0, .ifCond .lt 18), (4, 0, 0, 0, 0, 0, .aload_n 0), (5, 0, 1, 0, 0, 0, .iload_n 1), (6, 0, 0, 1083, 0, 0, .invokevirtual 121), (9, 0, 2, 0, 0, 0, .iload_n 2), (10, 0, 0, 0, 0, 0, .i2l), (11, 0, 0, 0, 0, 0, .lcmp), (12, 19, 0, 0, 0, 0, .ifCond .ge 7), (15, 0, 0, 0, 1, 0, .iconst 1), (16, 20, 0, 0, 0, 0, .goto 4), (19, 0, 0, 0, 0, 0, .iconst 0), (20, 0, 0, 0, 0, 0, .ireturn)]
set_option maxRecDepth 100000 in
theorem okX8_lacks : hl_ok cX8_lacks RX8 3 false pX8_lacks = true := by decide +kernel
abbrev mX8_lacks : hl_M := (yX8_lacks, cX8_lacks, 3, (some .boolean))
theorem mtX8_lacks : hl_mv mX8_lacks 2 := ⟨⟨hl_T_of (k := 1177) (by decide +kernel) rfl, hl_T_of (k := 56) (by decide +kernel) rfl, ⟨by decide +kernel, by decide +kernel⟩, by decide +kernel⟩, hl_T_of (k := 1176) (by decide +kernel) rfl, hl_T_of (k := 38) (by decide +kernel) rfl⟩
def pX8_reverses : List hl_I := [(0, 0, 0, 0, 0, 0, .aload_n 0), (1, 0, 0, 0, 114, 0, .bipush 114), (3, 0, 0, 0, 0, 0, .aload_n 0), (4, 10, 9, 974, 0, 0, .getfield 38), (7, 0, 1, 0, 0, 0, .iload_n 1), (8, 0, 0, 0, 0, 0, .iaload), (9, 0, 0, 0, 0, 0, .aload_n 0), (10, 10, 8, 973, 0, 0, .getfield 35), (13, 0, 1, 0, 0, 0, .iload_n 1), (14, 0, 0, 0, 0, 0, .iaload), (15, 0, 0, 0, 0, 0, .aload_n 0), (16, 10, 11, 976, 0, 0, .getfield 44), (19, 0, 1, 0, 0, 0, .iload_n 1), (20, 0, 0, 0, 0, 0, .iaload), (21, 0, 0, 0, 0, 0, .aload_n 0), (22, 10, 10, 975, 0, 0, .getfield 41), (25, 0, 1, 0, 0, 0, .iload_n 1), (26, 0, 0, 0, 0, 0, .iaload), (27, 0, 0, 1118, 0, 0, .invokevirtual 146), (30, 0, 2, 0, 0, 0, .istore_n 2), (31, 0, 0, 0, 0, 0, .aload_n 0), (32, 10, 13, 978, 0, 0, .getfield 50), (35, 0, 1, 0, 0, 0, .iload_n 1), (36, 0, 2, 0, 0, 0, .iload_n 2), (37, 0, 0, 0, 0, 0, .iastore), (38, 0, 2, 0, 0, 0, .iload_n 2), (39, 0, 0, 0, 0, 0, .ireturn)]
set_option maxRecDepth 100000 in
theorem okX8_reverses : hl_ok cX8_reverses RX8 3 false pX8_reverses = true := by decide +kernel
abbrev mX8_reverses : hl_M := (yX8_reverses, cX8_reverses, 3, (some .int))
theorem mtX8_reverses : hl_mv mX8_reverses 1 := ⟨⟨hl_T_of (k := 1181) (by decide +kernel) rfl, hl_T_of (k := 56) (by decide +kernel) rfl, ⟨by decide +kernel, by decide +kernel⟩, by decide +kernel⟩, hl_T_of (k := 1180) (by decide +kernel) rfl, hl_T_of (k := 39) (by decide +kernel) rfl⟩
def pX8_reverse : List hl_I := [(0, 0, 0, 0, 0, 0, .aload_n 0), (1, 0, 1, 0, 0, 0, .iload_n 1), (2, 0, 0, 0, 6, 0, .bipush 6), (4, 0, 2, 0, 0, 0, .iload_n 2), (5, 0, 0, 0, 0, 0, .iconst 0), (6, 0, 0, 0, 0, 0, .iconst 0), (7, 0, 0, 0, 0, 0, .iconst 0), (8, 0, 0, 1103, 0, 0, .invokevirtual 132), (11, 25, 0, 0, 0, 0, .ifCond .eq 14), (14, 0, 0, 0, 0, 0, .aload_n 0), (15, 0, 0, 0, 0, 0, .aload_n 0), (16, 10, 24, 989, 0, 0, .getfield 83), (19, 0, 1, 0, 0, 0, .iload_n 1), (20, 0, 0, 0, 0, 0, .iaload), (21, 0, 0, 1107, 0, 0, .invokevirtual 136), (24, 0, 0, 0, 0, 0, .ireturn), (25, 0, 0, 0, 0, 0, .aload_n 0), (26, 0, 0, 0, 0, 0, .aload_n 0), (27, 0, 1, 0, 0, 0, .iload_n 1), (28, 0, 0, 1111, 0, 0, .invokevirtual 140), (31, 38, 0, 0, 0, 0, .ifCond .eq 7), (34, 0, 0, 0, 1, 0, .iconst 1), (35, 112, 0, 0, 0, 0, .goto 77), (38, 0, 0, 0, 0, 0, .aload_n 0), (39, 0, 2, 0, 0, 0, .iload_n 2), (40, 0, 0, 1170, 0, 0, .invokevirtual 167), (43, 50, 0, 0, 0, 0, .ifCond .ne 7), (46, 0, 0, 0, 2, 0, .iconst 2), (47, 112, 0, 0, 0, 0, .goto 65), (50, 0, 0, 0, 0, 0, .aload_n 0), (51, 10, 7, 972, 0, 0, .getfield 32), (54, 0, 2, 0, 0, 0, .iload_n 2), (55, 0, 0, 0, 0, 0, .iaload), (56, 0, 0, 0, 114, 0, .bipush 114), (58, 70, 0, 0, 0, 0, .if_icmp .eq 12), (61, 0, 0, 0, 0, 0, .aload_n 0), (62, 10, 13, 978, 0, 0, .getfield 50), (65, 0, 2, 0, 0, 0, .iload_n 2), (66, 0, 0, 0, 0, 0, .iaload), (67, 74, 0, 0, 0, 0, .ifCond .lt 7), (70, 0, 0, 0, 3, 0, .iconst 3), (71, 112, 0, 0, 0, 0, .goto 41), (74, 0, 0, 0, 0, 0, .aload_n 0), (75, 0, 0, 0, 0, 0, .aload_n 0), (76, 10, 9, 974, 0, 0, .getfield 38), (79, 0, 2, 0, 0, 0, .iload_n 2), (80, 0, 0, 0, 0, 0, .iaload), (81, 0, 0, 0, 0, 0, .aload_n 0), (82, 10, 11, 976, 0, 0, .getfield 44), (85, 0, 2, 0, 0, 0, .iload_n 2), (86, 0, 0, 0, 0, 0, .iaload), (87, 0, 0, 1174, 0, 0, .invokevirtual 170), (90, 97, 0, 0, 0, 0, .ifCond .eq 7), (93, 0, 0, 0, 4, 0, .iconst 4), (94, 112, 0, 0, 0, 0, .goto 18), (97, 0, 0, 0, 0, 0, .aload_n 0), (98, 10, 28, 993, 0, 0, .getfield 96), (101, 0, 0, 0, 150, 0, .sipush 150), (104, 111, 0, 0, 0, 0, .if_icmp .ne 7), (107, 0, 0, 0, 5, 0, .iconst 5), (108, 112, 0, 0, 0, 0, .goto 4), (111, 0, 0, 0, 0, 0, .iconst 0), (112, 10, 26, 991, 0, 0, .putfield 89), (115, 0, 0, 0, 0, 0, .aload_n 0), (116, 10, 26, 991, 0, 0, .getfield 89), (119, 126, 0, 0, 0, 0, .ifCond .le 7), (122, 0, 0, 0, 0, 0, .iconst 0), (123, 142, 0, 0, 0, 0, .goto 19), (126, 0, 0, 0, 0, 0, .aload_n 0), (127, 0, 0, 0, 0, 0, .aload_n 0), (128, 0, 2, 0, 0, 0, .iload_n 2), (129, 0, 0, 1178, 0, 0, .invokevirtual 174), (132, 0, 1, 0, 0, 0, .iload_n 1), (133, 0, 0, 0, 6, 0, .bipush 6), (135, 0, 2, 0, 0, 0, .iload_n 2), (136, 0, 0, 0, 0, 0, .iconst 0), (137, 0, 0, 0, 0, 0, .iconst 0), (138, 0, 0, 0, 0, 0, .iconst 0), (139, 0, 0, 1126, 0, 0, .invokevirtual 150), (142, 0, 0, 0, 0, 0, .ireturn)]
set_option maxRecDepth 100000 in
theorem okX8_reverse : hl_ok cX8_reverse RX8 3 false pX8_reverse = true := by decide +kernel
abbrev mX8_reverse : hl_M := (yX8_reverse, cX8_reverse, 3, (some .int))
theorem mtX8_reverse : hl_mv mX8_reverse 2 := ⟨⟨hl_T_of (k := 1169) (by decide +kernel) rfl, hl_T_of (k := 56) (by decide +kernel) rfl, ⟨by decide +kernel, by decide +kernel⟩, by decide +kernel⟩, hl_T_of (k := 1167) (by decide +kernel) rfl, hl_T_of (k := 1168) (by decide +kernel) rfl⟩
def pX8_addPayment : List hl_I := [(0, 0, 0, 0, 0, 0, .aload_n 0), (1, 0, 3, 0, 0, 0, .iload_n 3), (2, 0, 0, 1115, 0, 0, .invokestatic 143), (5, 13, 0, 0, 0, 0, .ifCond .eq 8), (8, 0, 1, 0, 0, 0, .iload_n 1), (9, 0, 2, 0, 0, 0, .iload_n 2), (10, 17, 0, 0, 0, 0, .if_icmp .ne 7), (13, 0, 0, 0, 1, 0, .iconst 1), (14, 51, 0, 0, 0, 0, .goto 37), (17, 0, 0, 0, 0, 0, .aload_n 0), (18, 0, 1, 0, 0, 0, .iload_n 1), (19, 0, 0, 1079, 0, 0, .invokevirtual 117), (22, 33, 0, 0, 0, 0, .ifCond .eq 11), (25, 0, 0, 0, 0, 0, .aload_n 0), (26, 0, 2, 0, 0, 0, .iload_n 2), (27, 0, 0, 1079, 0, 0, .invokevirtual 117), (30, 37, 0, 0, 0, 0, .ifCond .ne 7), (33, 0, 0, 0, 2, 0, .iconst 2), (34, 51, 0, 0, 0, 0, .goto 17), (37, 0, 0, 0, 0, 0, .aload_n 0), (38, 10, 30, 995, 0, 0, .getfield 102), (41, 0, 0, 0, 12, 0, .bipush 12), (43, 50, 0, 0, 0, 0, .if_icmp .ne 7), (46, 0, 0, 0, 3, 0, .iconst 3), (47, 51, 0, 0, 0, 0, .goto 4), (50, 0, 0, 0, 0, 0, .iconst 0), (51, 10, 26, 991, 0, 0, .putfield 89), (54, 0, 0, 0, 0, 0, .aload_n 0), (55, 10, 26, 991, 0, 0, .getfield 89), (58, 63, 0, 0, 0, 0, .ifCond .le 5), (61, 0, 0, 0, 0, 0, .iconst 0), (62, 0, 0, 0, 0, 0, .ireturn), (63, 0, 0, 0, 0, 0, .aload_n 0), (64, 10, 19, 984, 0, 0, .getfield 68), (67, 0, 0, 0, 0, 0, .aload_n 0), (68, 10, 30, 995, 0, 0, .getfield 102), (71, 0, 1, 0, 0, 0, .iload_n 1), (72, 0, 0, 0, 0, 0, .iastore), (73, 0, 0, 0, 0, 0, .aload_n 0), (74, 10, 20, 985, 0, 0, .getfield 71), (77, 0, 0, 0, 0, 0, .aload_n 0), (78, 10, 30, 995, 0, 0, .getfield 102), (81, 0, 2, 0, 0, 0, .iload_n 2), (82, 0, 0, 0, 0, 0, .iastore), (83, 0, 0, 0, 0, 0, .aload_n 0), (84, 10, 21, 986, 0, 0, .getfield 74), (87, 0, 0, 0, 0, 0, .aload_n 0), (88, 10, 30, 995, 0, 0, .getfield 102), (91, 0, 3, 0, 0, 0, .iload_n 3), (92, 0, 0, 0, 0, 0, .iastore), (93, 0, 0, 0, 0, 0, .aload_n 0), (94, 0, 0, 0, 0, 0, .dup), (95, 10, 30, 995, 0, 0, .getfield 102), (98, 0, 0, 0, 1, 0, .iconst 1), (99, 0, 0, 0, 0, 0, .iadd), (100, 10, 30, 995, 0, 0, .putfield 102), (103, 0, 0, 0, 0, 0, .aload_n 0), (104, 10, 30, 995, 0, 0, .getfield 102), (107, 0, 0, 0, 0, 0, .ireturn)]
set_option maxRecDepth 100000 in
theorem okX8_addPayment : hl_ok cX8_addPayment RX8 4 false pX8_addPayment = true := by decide +kernel
abbrev mX8_addPayment : hl_M := (yX8_addPayment, cX8_addPayment, 4, (some .int))
theorem mtX8_addPayment : hl_mv mX8_addPayment 3 := ⟨⟨hl_T_of (k := 1185) (by decide +kernel) rfl, hl_T_of (k := 56) (by decide +kernel) rfl, ⟨by decide +kernel, by decide +kernel⟩, by decide +kernel⟩, hl_T_of (k := 1183) (by decide +kernel) rfl, hl_T_of (k := 1184) (by decide +kernel) rfl⟩
def pX8_takesOut : List hl_I := [(0, 0, 0, 0, 0, 0, .aload_n 0), (1, 0, 0, 0, 0, 0, .dup), (2, 10, 30, 995, 0, 0, .getfield 102), (5, 0, 2, 0, 0, 0, .iload_n 2), (6, 0, 0, 0, 0, 0, .isub), (7, 10, 30, 995, 0, 0, .putfield 102), (10, 0, 1, 0, 0, 0, .iload_n 1), (11, 0, 3, 0, 0, 0, .istore_n 3), (12, 0, 3, 0, 0, 0, .iload_n 3), (13, 0, 0, 0, 0, 0, .aload_n 0), (14, 10, 30, 995, 0, 0, .getfield 102), (17, 68, 0, 0, 0, 0, .if_icmp .ge 51), (20, 0, 0, 0, 0, 0, .aload_n 0), (21, 10, 19, 984, 0, 0, .getfield 68), (24, 0, 3, 0, 0, 0, .iload_n 3), (25, 0, 0, 0, 0, 0, .aload_n 0), (26, 10, 19, 984, 0, 0, .getfield 68), (29, 0, 3, 0, 0, 0, .iload_n 3), (30, 0, 2, 0, 0, 0, .iload_n 2), (31, 0, 0, 0, 0, 0, .iadd), (32, 0, 0, 0, 0, 0, .iaload), (33, 0, 0, 0, 0, 0, .iastore), (34, 0, 0, 0, 0, 0, .aload_n 0), (35, 10, 20, 985, 0, 0, .getfield 71), (38, 0, 3, 0, 0, 0, .iload_n 3), (39, 0, 0, 0, 0, 0, .aload_n 0), (40, 10, 20, 985, 0, 0, .getfield 71), (43, 0, 3, 0, 0, 0, .iload_n 3), (44, 0, 2, 0, 0, 0, .iload_n 2), (45, 0, 0, 0, 0, 0, .iadd), (46, 0, 0, 0, 0, 0, .iaload), (47, 0, 0, 0, 0, 0, .iastore), (48, 0, 0, 0, 0, 0, .aload_n 0), (49, 10, 21, 986, 0, 0, .getfield 74), (52, 0, 3, 0, 0, 0, .iload_n 3), (53, 0, 0, 0, 0, 0, .aload_n 0), (54, 10, 21, 986, 0, 0, .getfield 74), (57, 0, 3, 0, 0, 0, .iload_n 3), (58, 0, 2, 0, 0, 0, .iload_n 2), (59, 0, 0, 0, 0, 0, .iadd), (60, 0, 0, 0, 0, 0, .iaload), (61, 0, 0, 0, 0, 0, .iastore), (62, 0, 3, 0, 1, 0, .iinc 3 1), (65, 12, 0, 0, 0, 0, .goto (-53)), (68, 0, 0, 0, 0, 0, .return_)]
set_option maxRecDepth 100000 in
theorem okX8_takesOut : hl_ok cX8_takesOut RX8 4 false pX8_takesOut = true := by decide +kernel
abbrev mX8_takesOut : hl_M := (yX8_takesOut, cX8_takesOut, 4, none)
theorem mtX8_takesOut : hl_mv mX8_takesOut 2 := ⟨⟨hl_T_of (k := 1193) (by decide +kernel) rfl, hl_T_of (k := 56) (by decide +kernel) rfl, ⟨by decide +kernel, by decide +kernel⟩, by decide +kernel⟩, hl_T_of (k := 1192) (by decide +kernel) rfl, hl_T_of (k := 40) (by decide +kernel) rfl⟩
def pX8_removePayment : List hl_I := [(0, 0, 0, 0, 0, 0, .aload_n 0), (1, 0, 1, 0, 0, 0, .iload_n 1), (2, 0, 0, 0, 0, 0, .iconst 0), (3, 0, 0, 0, 0, 0, .aload_n 0), (4, 10, 30, 995, 0, 0, .getfield 102), (7, 0, 0, 0, 1, 0, .iconst 1), (8, 0, 0, 0, 0, 0, .isub), (9, 0, 0, 1071, 0, 0, .invokestatic 108), (12, 0, 0, 1095, 0, 0, .invokevirtual 124), (15, 20, 0, 0, 0, 0, .ifCond .le 5), (18, 0, 0, 0, 0, 0, .iconst 0), (19, 0, 0, 0, 0, 0, .ireturn), (20, 0, 0, 0, 0, 0, .aload_n 0), (21, 10, 21, 986, 0, 0, .getfield 74), (24, 0, 1, 0, 0, 0, .iload_n 1), (25, 0, 0, 0, 0, 0, .iaload), (26, 0, 2, 0, 0, 0, .istore_n 2), (27, 0, 0, 0, 0, 0, .aload_n 0), (28, 0, 1, 0, 0, 0, .iload_n 1), (29, 0, 0, 0, 1, 0, .iconst 1), (30, 0, 0, 1190, 0, 0, .invokevirtual 177), (33, 0, 2, 0, 0, 0, .iload_n 2), (34, 0, 0, 0, 0, 0, .ireturn)]
set_option maxRecDepth 100000 in
theorem okX8_removePayment : hl_ok cX8_removePayment RX8 3 false pX8_removePayment = true := by decide +kernel
abbrev mX8_removePayment : hl_M := (yX8_removePayment, cX8_removePayment, 3, (some .int))
theorem mtX8_removePayment : hl_mv mX8_removePayment 1 := ⟨⟨hl_T_of (k := 1189) (by decide +kernel) rfl, hl_T_of (k := 56) (by decide +kernel) rfl, ⟨by decide +kernel, by decide +kernel⟩, by decide +kernel⟩, hl_T_of (k := 1187) (by decide +kernel) rfl, hl_T_of (k := 1188) (by decide +kernel) rfl⟩
def pX8_receivedIn : List hl_I := [(0, 0, 0, 0, 0, 0, .aload_n 0), (1, 0, 0, 0, 0, 0, .aload_n 0), (2, 10, 19, 984, 0, 0, .getfield 68), (5, 0, 1, 0, 0, 0, .iload_n 1), (6, 0, 0, 0, 0, 0, .iaload), (7, 0, 0, 0, 0, 0, .aload_n 0), (8, 10, 20, 985, 0, 0, .getfield 71), (11, 0, 1, 0, 0, 0, .iload_n 1), (12, 0, 0, 0, 0, 0, .iaload), (13, 0, 0, 0, 0, 0, .aload_n 0), (14, 10, 21, 986, 0, 0, .getfield 74), (17, 0, 1, 0, 0, 0, .iload_n 1), (18, 0, 0, 0, 0, 0, .iaload), (19, 0, 0, 1138, 0, 0, .invokevirtual 154), (22, 0, 0, 0, 0, 0, .ireturn)]
set_option maxRecDepth 100000 in
theorem okX8_receivedIn : hl_ok cX8_receivedIn RX8 2 false pX8_receivedIn = true := by decide +kernel
abbrev mX8_receivedIn : hl_M := (yX8_receivedIn, cX8_receivedIn, 2, (some .int))
theorem mtX8_receivedIn : hl_mv mX8_receivedIn 1 := ⟨⟨hl_T_of (k := 1209) (by decide +kernel) rfl, hl_T_of (k := 56) (by decide +kernel) rfl, ⟨by decide +kernel, by decide +kernel⟩, by decide +kernel⟩, hl_T_of (k := 1208) (by decide +kernel) rfl, hl_T_of (k := 43) (by decide +kernel) rfl⟩
def pX8_layNets : List hl_I := [(0, 0, 0, 0, 0, 0, .iconst 0), (1, 0, 2, 0, 0, 0, .istore_n 2), (2, 0, 2, 0, 0, 0, .iload_n 2), (3, 0, 0, 0, 10, 0, .bipush 10), (5, 21, 0, 0, 0, 0, .if_icmp .ge 16), (8, 0, 0, 0, 0, 0, .aload_n 0), (9, 10, 6, 971, 0, 0, .getfield 29), (12, 0, 2, 0, 0, 0, .iload_n 2), (13, 0, 0, 0, 0, 0, .lconst 0), (14, 0, 0, 0, 0, 0, .lastore), (15, 0, 2, 0, 1, 0, .iinc 2 1), (18, 2, 0, 0, 0, 0, .goto (-16)), (21, 0, 0, 0, 0, 0, .iconst 0), (22, 0, 2, 0, 0, 0, .istore_n 2), (23, 0, 2, 0, 0, 0, .iload_n 2), (24, 0, 1, 0, 0, 0, .iload_n 1), (25, 75, 0, 0, 0, 0, .if_icmp .ge 50), (28, 0, 0, 0, 0, 0, .aload_n 0), (29, 10, 6, 971, 0, 0, .getfield 29), (32, 0, 0, 0, 0, 0, .aload_n 0), (33, 10, 19, 984, 0, 0, .getfield 68), (36, 0, 2, 0, 0, 0, .iload_n 2), (37, 0, 0, 0, 0, 0, .iaload), (38, 0, 0, 0, 0, 0, .dup2), (39, 0, 0, 0, 0, 0, .laload), (40, 0, 0, 0, 0, 0, .aload_n 0), (41, 10, 21, 986, 0, 0, .getfield 74), (44, 0, 2, 0, 0, 0, .iload_n 2), (45, 0, 0, 0, 0, 0, .iaload), (46, 0, 0, 0, 0, 0, .i2l), (47, 0, 0, 0, 0, 0, .lsub), (48, 0, 0, 0, 0, 0, .lastore), (49, 0, 0, 0, 0, 0, .aload_n 0), (50, 10, 6, 971, 0, 0, .getfield 29), (53, 0, 0, 0, 0, 0, .aload_n 0), (54, 10, 20, 985, 0, 0, .getfield 71), (57, 0, 2, 0, 0, 0, .iload_n 2), (58, 0, 0, 0, 0, 0, .iaload), (59, 0, 0, 0, 0, 0, .dup2), (60, 0, 0, 0, 0, 0, .laload), (61, 0, 0, 0, 0, 0, .aload_n 0), (62, 0, 2, 0, 0, 0, .iload_n 2), (63, 0, 0, 1206, 0, 0, .invokevirtual 181), (66, 0, 0, 0, 0, 0, .i2l), (67, 0, 0, 0, 0, 0, .ladd), (68, 0, 0, 0, 0, 0, .lastore), (69, 0, 2, 0, 1, 0, .iinc 2 1), (72, 23, 0, 0, 0, 0, .goto (-49)), (75, 0, 0, 0, 0, 0, .return_)]
set_option maxRecDepth 100000 in
theorem okX8_layNets : hl_ok cX8_layNets RX8 3 false pX8_layNets = true := by decide +kernel
abbrev mX8_layNets : hl_M := (yX8_layNets, cX8_layNets, 3, none)
theorem mtX8_layNets : hl_mv mX8_layNets 1 := ⟨⟨hl_T_of (k := 1213) (by decide +kernel) rfl, hl_T_of (k := 56) (by decide +kernel) rfl, ⟨by decide +kernel, by decide +kernel⟩, by decide +kernel⟩, hl_T_of (k := 1212) (by decide +kernel) rfl, hl_T_of (k := 44) (by decide +kernel) rfl⟩
def pX8_canSettle : List hl_I := [(0, 0, 0, 0, 0, 0, .aload_n 0), (1, 10, 28, 993, 0, 0, .getfield 96), (4, 0, 1, 0, 0, 0, .iload_n 1), (5, 0, 0, 0, 0, 0, .iadd), (6, 0, 0, 0, 150, 0, .sipush 150), (9, 14, 0, 0, 0, 0, .if_icmp .le 5), (12, 0, 0, 0, 0, 0, .iconst 0), (13, 0, 0, 0, 0, 0, .ireturn), (14, 0, 0, 0, 0, 0, .iconst 0), (15, 0, 2, 0, 0, 0, .istore_n 2), (16, 0, 2, 0, 0, 0, .iload_n 2), (17, 0, 1, 0, 0, 0, .iload_n 1), (18, 37, 0, 0, 0, 0, .if_icmp .ge 19), (21, 0, 0, 0, 0, 0, .aload_n 0), (22, 0, 2, 0, 0, 0, .iload_n 2), (23, 0, 0, 1206, 0, 0, .invokevirtual 181), (26, 31, 0, 0, 0, 0, .ifCond .ne 5), (29, 0, 0, 0, 0, 0, .iconst 0), (30, 0, 0, 0, 0, 0, .ireturn), (31, 0, 2, 0, 1, 0, .iinc 2 1), (34, 16, 0, 0, 0, 0, .goto (-18)), (37, 0, 0, 0, 0, 0, .aload_n 0), (38, 0, 1, 0, 0, 0, .iload_n 1), (39, 0, 0, 1210, 0, 0, .invokevirtual 184), (42, 0, 0, 0, 0, 0, .iconst 0), (43, 0, 2, 0, 0, 0, .istore_n 2), (44, 0, 2, 0, 0, 0, .iload_n 2), (45, 0, 0, 0, 0, 0, .aload_n 0), (46, 10, 27, 992, 0, 0, .getfield 93), (49, 77, 0, 0, 0, 0, .if_icmp .ge 28), (52, 0, 0, 0, 0, 0, .aload_n 0), (53, 0, 2, 0, 0, 0, .iload_n 2), (54, 0, 0, 1083, 0, 0, .invokevirtual 121), (57, 0, 0, 0, 0, 0, .aload_n 0), (58, 10, 6, 971, 0, 0, .getfield 29), (61, 0, 2, 0, 0, 0, .iload_n 2), (62, 0, 0, 0, 0, 0, .laload), (63, 0, 0, 0, 0, 0, .ladd), (64, 0, 0, 0, 0, 0, .lconst 0), (65, 0, 0, 0, 0, 0, .lcmp), (66, 71, 0, 0, 0, 0, .ifCond .ge 5), (69, 0, 0, 0, 0, 0, .iconst 0), (70, 0, 0, 0, 0, 0, .ireturn), (71, 0, 2, 0, 1, 0, .iinc 2 1), (74, 44, 0, 0, 0, 0, .goto (-30)), (77, 0, 0, 0, 1, 0, .iconst 1), (78, 0, 0, 0, 0, 0, .ireturn)]
set_option maxRecDepth 100000 in
theorem okX8_canSettle : hl_ok cX8_canSettle RX8 3 false pX8_canSettle = true := by decide +kernel
abbrev mX8_canSettle : hl_M := (yX8_canSettle, cX8_canSettle, 3, (some .boolean))
theorem mtX8_canSettle : hl_mv mX8_canSettle 1 := ⟨⟨hl_T_of (k := 1205) (by decide +kernel) rfl, hl_T_of (k := 56) (by decide +kernel) rfl, ⟨by decide +kernel, by decide +kernel⟩, by decide +kernel⟩, hl_T_of (k := 1204) (by decide +kernel) rfl, hl_T_of (k := 42) (by decide +kernel) rfl⟩
def pX8_cutOf : List hl_I := [(0, 0, 0, 0, 0, 0, .aload_n 0), (1, 10, 30, 995, 0, 0, .getfield 102), (4, 0, 1, 0, 0, 0, .istore_n 1), (5, 0, 1, 0, 0, 0, .iload_n 1), (6, 23, 0, 0, 0, 0, .ifCond .le 17), (9, 0, 0, 0, 0, 0, .aload_n 0), (10, 0, 1, 0, 0, 0, .iload_n 1), (11, 0, 0, 1202, 0, 0, .invokevirtual 188), (14, 23, 0, 0, 0, 0, .ifCond .ne 9), (17, 0, 1, 0, (-1), 0, .iinc 1 (-1)), (20, 5, 0, 0, 0, 0, .goto (-15)), (23, 0, 1, 0, 0, 0, .iload_n 1), (24, 0, 0, 0, 0, 0, .ireturn)]
set_option maxRecDepth 100000 in
theorem okX8_cutOf : hl_ok cX8_cutOf RX8 2 false pX8_cutOf = true := by decide +kernel
abbrev mX8_cutOf : hl_M := (yX8_cutOf, cX8_cutOf, 2, (some .int))
theorem mtX8_cutOf : hl_mv mX8_cutOf 0 := ⟨⟨hl_T_of (k := 1201) (by decide +kernel) rfl, hl_T_of (k := 56) (by decide +kernel) rfl, ⟨by decide +kernel, by decide +kernel⟩, by decide +kernel⟩, hl_T_of (k := 1200) (by decide +kernel) rfl, hl_T_of (k := 41) (by decide +kernel) rfl⟩
def pX8_settles : List hl_I := [(0, 0, 0, 0, 0, 0, .aload_n 0), (1, 0, 0, 1198, 0, 0, .invokevirtual 191), (4, 0, 1, 0, 0, 0, .istore_n 1), (5, 0, 0, 0, 0, 0, .iconst 0), (6, 0, 2, 0, 0, 0, .istore_n 2), (7, 0, 2, 0, 0, 0, .iload_n 2), (8, 0, 1, 0, 0, 0, .iload_n 1), (9, 48, 0, 0, 0, 0, .if_icmp .ge 39), (12, 0, 0, 0, 0, 0, .aload_n 0), (13, 0, 0, 0, 98, 0, .bipush 98), (15, 0, 0, 0, 0, 0, .aload_n 0), (16, 10, 19, 984, 0, 0, .getfield 68), (19, 0, 2, 0, 0, 0, .iload_n 2), (20, 0, 0, 0, 0, 0, .iaload), (21, 0, 0, 0, 0, 0, .aload_n 0), (22, 10, 20, 985, 0, 0, .getfield 71), (25, 0, 2, 0, 0, 0, .iload_n 2), (26, 0, 0, 0, 0, 0, .iaload), (27, 0, 0, 0, 0, 0, .aload_n 0), (28, 10, 21, 986, 0, 0, .getfield 74), (31, 0, 2, 0, 0, 0, .iload_n 2), (32, 0, 0, 0, 0, 0, .iaload), (33, 0, 0, 0, 0, 0, .aload_n 0), (34, 0, 2, 0, 0, 0, .iload_n 2), (35, 0, 0, 1206, 0, 0, .invokevirtual 181), (38, 0, 0, 1118, 0, 0, .invokevirtual 146), (41, 0, 3, 0, 0, 0, .istore_n 3), (42, 0, 2, 0, 1, 0, .iinc 2 1), (45, 7, 0, 0, 0, 0, .goto (-38)), (48, 0, 0, 0, 0, 0, .aload_n 0), (49, 0, 0, 0, 0, 0, .iconst 0), (50, 0, 1, 0, 0, 0, .iload_n 1), (51, 0, 0, 1190, 0, 0, .invokevirtual 177), (54, 0, 1, 0, 0, 0, .iload_n 1), (55, 0, 0, 0, 0, 0, .ireturn)]
set_option maxRecDepth 100000 in
theorem okX8_settles : hl_ok cX8_settles RX8 4 false pX8_settles = true := by decide +kernel
abbrev mX8_settles : hl_M := (yX8_settles, cX8_settles, 4, (some .int))
theorem mtX8_settles : hl_mv mX8_settles 0 := ⟨⟨hl_T_of (k := 1217) (by decide +kernel) rfl, hl_T_of (k := 56) (by decide +kernel) rfl, ⟨by decide +kernel, by decide +kernel⟩, by decide +kernel⟩, hl_T_of (k := 1216) (by decide +kernel) rfl, hl_T_of (k := 45) (by decide +kernel) rfl⟩
def pX8_settle : List hl_I := [(0, 0, 0, 0, 0, 0, .aload_n 0), (1, 0, 1, 0, 0, 0, .iload_n 1), (2, 0, 0, 0, 7, 0, .bipush 7), (4, 0, 0, 0, 0, 0, .iconst 0), (5, 0, 0, 0, 0, 0, .iconst 0), (6, 0, 0, 0, 0, 0, .iconst 0), (7, 0, 0, 0, 0, 0, .iconst 0), (8, 0, 0, 1103, 0, 0, .invokevirtual 132), (11, 25, 0, 0, 0, 0, .ifCond .eq 14), (14, 0, 0, 0, 0, 0, .aload_n 0), (15, 0, 0, 0, 0, 0, .aload_n 0), (16, 10, 24, 989, 0, 0, .getfield 83), (19, 0, 1, 0, 0, 0, .iload_n 1), (20, 0, 0, 0, 0, 0, .iaload), (21, 0, 0, 1107, 0, 0, .invokevirtual 136), (24, 0, 0, 0, 0, 0, .ireturn), (25, 0, 0, 0, 0, 0, .aload_n 0), (26, 0, 0, 0, 0, 0, .aload_n 0), (27, 0, 1, 0, 0, 0, .iload_n 1), (28, 0, 0, 1111, 0, 0, .invokevirtual 140), (31, 38, 0, 0, 0, 0, .ifCond .eq 7), (34, 0, 0, 0, 1, 0, .iconst 1), (35, 50, 0, 0, 0, 0, .goto 15), (38, 0, 0, 0, 0, 0, .aload_n 0), (39, 0, 0, 1198, 0, 0, .invokevirtual 191), (42, 49, 0, 0, 0, 0, .ifCond .ne 7), (45, 0, 0, 0, 2, 0, .iconst 2), (46, 50, 0, 0, 0, 0, .goto 4), (49, 0, 0, 0, 0, 0, .iconst 0), (50, 10, 26, 991, 0, 0, .putfield 89), (53, 0, 0, 0, 0, 0, .aload_n 0), (54, 10, 26, 991, 0, 0, .getfield 89), (57, 64, 0, 0, 0, 0, .ifCond .le 7), (60, 0, 0, 0, 0, 0, .iconst 0), (61, 79, 0, 0, 0, 0, .goto 18), (64, 0, 0, 0, 0, 0, .aload_n 0), (65, 0, 0, 0, 0, 0, .aload_n 0), (66, 0, 0, 1214, 0, 0, .invokevirtual 195), (69, 0, 1, 0, 0, 0, .iload_n 1), (70, 0, 0, 0, 7, 0, .bipush 7), (72, 0, 0, 0, 0, 0, .iconst 0), (73, 0, 0, 0, 0, 0, .iconst 0), (74, 0, 0, 0, 0, 0, .iconst 0), (75, 0, 0, 0, 0, 0, .iconst 0), (76, 0, 0, 1126, 0, 0, .invokevirtual 150), (79, 0, 0, 0, 0, 0, .ireturn)]
set_option maxRecDepth 100000 in
theorem okX8_settle : hl_ok cX8_settle RX8 2 false pX8_settle = true := by decide +kernel
abbrev mX8_settle : hl_M := (yX8_settle, cX8_settle, 2, (some .int))
theorem mtX8_settle : hl_mv mX8_settle 1 := ⟨⟨hl_T_of (k := 1197) (by decide +kernel) rfl, hl_T_of (k := 56) (by decide +kernel) rfl, ⟨by decide +kernel, by decide +kernel⟩, by decide +kernel⟩, hl_T_of (k := 1195) (by decide +kernel) rfl, hl_T_of (k := 1196) (by decide +kernel) rfl⟩
def pX8_closeDay : List hl_I := [(0, 0, 0, 0, 0, 0, .iconst 0), (1, 0, 1, 0, 0, 0, .istore_n 1), (2, 0, 0, 0, 0, 0, .aload_n 0), (3, 0, 0, 0, 0, 0, .dup), (4, 10, 31, 996, 0, 0, .getfield 105), (7, 0, 0, 0, 1, 0, .iconst 1), (8, 0, 0, 0, 0, 0, .iadd), (9, 10, 31, 996, 0, 0, .putfield 105), (12, 0, 0, 0, 0, 0, .iconst 0), (13, 0, 2, 0, 0, 0, .istore_n 2), (14, 0, 2, 0, 0, 0, .iload_n 2), (15, 0, 0, 0, 0, 0, .aload_n 0), (16, 10, 29, 994, 0, 0, .getfield 99), (19, 66, 0, 0, 0, 0, .if_icmp .ge 47), (22, 0, 0, 0, 0, 0, .aload_n 0), (23, 10, 14, 979, 0, 0, .getfield 53), (26, 0, 2, 0, 0, 0, .iload_n 2), (27, 0, 0, 0, 0, 0, .iaload), (28, 0, 0, 0, 97, 0, .bipush 97), (30, 60, 0, 0, 0, 0, .if_icmp .ne 30), (33, 0, 0, 0, 0, 0, .aload_n 0), (34, 10, 18, 983, 0, 0, .getfield 65), (37, 0, 2, 0, 0, 0, .iload_n 2), (38, 0, 0, 0, 0, 0, .iaload), (39, 0, 0, 0, 0, 0, .aload_n 0), (40, 10, 31, 996, 0, 0, .getfield 105), (43, 49, 0, 0, 0, 0, .if_icmp .lt 6), (46, 60, 0, 0, 0, 0, .goto 14), (49, 0, 0, 0, 0, 0, .aload_n 0), (50, 10, 14, 979, 0, 0, .getfield 53), (53, 0, 2, 0, 0, 0, .iload_n 2), (54, 0, 0, 0, 120, 0, .bipush 120), (56, 0, 0, 0, 0, 0, .iastore), (57, 0, 1, 0, 1, 0, .iinc 1 1), (60, 0, 2, 0, 1, 0, .iinc 2 1), (63, 14, 0, 0, 0, 0, .goto (-49)), (66, 0, 0, 0, 1, 0, .iconst 1), (67, 0, 2, 0, 0, 0, .istore_n 2), (68, 0, 2, 0, 0, 0, .iload_n 2), (69, 0, 0, 0, 999, 0, .sipush 999), (72, 112, 0, 0, 0, 0, .if_icmp .gt 40), (75, 0, 0, 0, 0, 0, .aload_n 0), (76, 10, 22, 987, 0, 0, .getfield 77), (79, 0, 2, 0, 0, 0, .iload_n 2), (80, 0, 0, 0, 0, 0, .aload_n 0), (81, 10, 25, 990, 0, 0, .getfield 86), (84, 0, 2, 0, 0, 0, .iload_n 2), (85, 0, 0, 0, 0, 0, .iaload), (86, 0, 0, 0, 3, 0, .iconst 3), (87, 0, 0, 0, 0, 0, .iadd), (88, 0, 0, 0, 0, 0, .aload_n 0), (89, 10, 31, 996, 0, 0, .getfield 105), (92, 99, 0, 0, 0, 0, .if_icmp .gt 7), (95, 0, 0, 0, 0, 0, .iconst 0), (96, 105, 0, 0, 0, 0, .goto 9), (99, 0, 0, 0, 0, 0, .aload_n 0), (100, 10, 22, 987, 0, 0, .getfield 77), (103, 0, 2, 0, 0, 0, .iload_n 2), (104, 0, 0, 0, 0, 0, .iaload), (105, 0, 0, 0, 0, 0, .iastore), (106, 0, 2, 0, 1, 0, .iinc 2 1), (109, 68, 0, 0, 0, 0, .goto (-41)), (112, 0, 0, 0, 0, 0, .aload_n 0), (113, 0, 1, 0, 0, 0, .iload_n 1), (114, 0, 0, 1107, 0, 0, .invokevirtual 136), (117, 0, 0, 0, 0, 0, .ireturn)]
set_option maxRecDepth 100000 in
theorem okX8_closeDay : hl_ok cX8_closeDay RX8 3 false pX8_closeDay = true := by decide +kernel
abbrev mX8_closeDay : hl_M := (yX8_closeDay, cX8_closeDay, 3, (some .int))
theorem mtX8_closeDay : hl_mv mX8_closeDay 0 := ⟨⟨hl_T_of (k := 1221) (by decide +kernel) rfl, hl_T_of (k := 56) (by decide +kernel) rfl, ⟨by decide +kernel, by decide +kernel⟩, by decide +kernel⟩, hl_T_of (k := 1219) (by decide +kernel) rfl, hl_T_of (k := 1220) (by decide +kernel) rfl⟩
def pX8_batchSize : List hl_I := [(0, 0, 0, 0, 0, 0, .aload_n 0), (1, 0, 0, 0, 0, 0, .aload_n 0), (2, 10, 30, 995, 0, 0, .getfield 102), (5, 0, 0, 1107, 0, 0, .invokevirtual 136), (8, 0, 0, 0, 0, 0, .ireturn)]
set_option maxRecDepth 100000 in
theorem okX8_batchSize : hl_ok cX8_batchSize RX8 1 false pX8_batchSize = true := by decide +kernel
abbrev mX8_batchSize : hl_M := (yX8_batchSize, cX8_batchSize, 1, (some .int))
theorem mtX8_batchSize : hl_mv mX8_batchSize 0 := ⟨⟨hl_T_of (k := 1225) (by decide +kernel) rfl, hl_T_of (k := 56) (by decide +kernel) rfl, ⟨by decide +kernel, by decide +kernel⟩, by decide +kernel⟩, hl_T_of (k := 1223) (by decide +kernel) rfl, hl_T_of (k := 1224) (by decide +kernel) rfl⟩
def pX8_cut : List hl_I := [(0, 0, 0, 0, 0, 0, .aload_n 0), (1, 0, 0, 0, 0, 0, .aload_n 0), (2, 0, 0, 1198, 0, 0, .invokevirtual 191), (5, 0, 0, 1107, 0, 0, .invokevirtual 136), (8, 0, 0, 0, 0, 0, .ireturn)]
set_option maxRecDepth 100000 in
theorem okX8_cut : hl_ok cX8_cut RX8 1 false pX8_cut = true := by decide +kernel
abbrev mX8_cut : hl_M := (yX8_cut, cX8_cut, 1, (some .int))
theorem mtX8_cut : hl_mv mX8_cut 0 := ⟨⟨hl_T_of (k := 1229) (by decide +kernel) rfl, hl_T_of (k := 56) (by decide +kernel) rfl, ⟨by decide +kernel, by decide +kernel⟩, by decide +kernel⟩, hl_T_of (k := 1227) (by decide +kernel) rfl, hl_T_of (k := 1228) (by decide +kernel) rfl⟩
def pX8_cutByTrying : List hl_I := [(0, 0, 0, 0, 0, 0, .iconst 0), (1, 0, 1, 0, 0, 0, .istore_n 1), (2, 0, 0, 0, 1, 0, .iconst 1), (3, 0, 2, 0, 0, 0, .istore_n 2), (4, 0, 2, 0, 0, 0, .iload_n 2), (5, 0, 0, 0, 0, 0, .aload_n 0), (6, 10, 30, 995, 0, 0, .getfield 102), (9, 32, 0, 0, 0, 0, .if_icmp .gt 23), (12, 0, 0, 0, 0, 0, .aload_n 0), (13, 0, 2, 0, 0, 0, .iload_n 2), (14, 0, 0, 1202, 0, 0, .invokevirtual 188), (17, 24, 0, 0, 0, 0, .ifCond .eq 7), (20, 0, 2, 0, 0, 0, .iload_n 2), (21, 25, 0, 0, 0, 0, .goto 4), (24, 0, 1, 0, 0, 0, .iload_n 1), (25, 0, 1, 0, 0, 0, .istore_n 1), (26, 0, 2, 0, 1, 0, .iinc 2 1), (29, 4, 0, 0, 0, 0, .goto (-25)), (32, 0, 0, 0, 0, 0, .aload_n 0), (33, 0, 1, 0, 0, 0, .iload_n 1), (34, 0, 0, 1107, 0, 0, .invokevirtual 136), (37, 0, 0, 0, 0, 0, .ireturn)]
set_option maxRecDepth 100000 in
theorem okX8_cutByTrying : hl_ok cX8_cutByTrying RX8 3 false pX8_cutByTrying = true := by decide +kernel
abbrev mX8_cutByTrying : hl_M := (yX8_cutByTrying, cX8_cutByTrying, 3, (some .int))
theorem mtX8_cutByTrying : hl_mv mX8_cutByTrying 0 := ⟨⟨hl_T_of (k := 1233) (by decide +kernel) rfl, hl_T_of (k := 56) (by decide +kernel) rfl, ⟨by decide +kernel, by decide +kernel⟩, by decide +kernel⟩, hl_T_of (k := 1231) (by decide +kernel) rfl, hl_T_of (k := 1232) (by decide +kernel) rfl⟩
def pX8_netOf : List hl_I := [(0, 0, 0, 0, 0, 0, .aload_n 0), (1, 0, 0, 0, 0, 0, .aload_n 0), (2, 0, 1, 0, 0, 0, .iload_n 1), (3, 0, 0, 1079, 0, 0, .invokevirtual 117), (6, 0, 0, 1095, 0, 0, .invokevirtual 124), (9, 14, 0, 0, 0, 0, .ifCond .le 5), (12, 0, 0, 0, 0, 0, .lconst 0), (13, 0, 0, 0, 0, 0, .lreturn), (14, 0, 0, 0, 0, 0, .aload_n 0), (15, 0, 0, 0, 0, 0, .aload_n 0), (16, 0, 0, 1198, 0, 0, .invokevirtual 191), (19, 0, 0, 1210, 0, 0, .invokevirtual 184), (22, 0, 0, 0, 0, 0, .aload_n 0), (23, 10, 6, 971, 0, 0, .getfield 29), (26, 0, 1, 0, 0, 0, .iload_n 1), (27, 0, 0, 0, 0, 0, .laload), (28, 0, 0, 0, 0, 0, .lreturn)]
set_option maxRecDepth 100000 in
theorem okX8_netOf : hl_ok cX8_netOf RX8 2 false pX8_netOf = true := by decide +kernel
abbrev mX8_netOf : hl_M := (yX8_netOf, cX8_netOf, 2, (some .long))
theorem mtX8_netOf : hl_mv mX8_netOf 1 := ⟨⟨hl_T_of (k := 1237) (by decide +kernel) rfl, hl_T_of (k := 56) (by decide +kernel) rfl, ⟨by decide +kernel, by decide +kernel⟩, by decide +kernel⟩, hl_T_of (k := 1235) (by decide +kernel) rfl, hl_T_of (k := 1236) (by decide +kernel) rfl⟩
def pX8_accounts : List hl_I := [(0, 0, 0, 0, 0, 0, .aload_n 0), (1, 0, 0, 0, 0, 0, .aload_n 0), (2, 10, 27, 992, 0, 0, .getfield 93), (5, 0, 0, 1107, 0, 0, .invokevirtual 136), (8, 0, 0, 0, 0, 0, .ireturn)]
set_option maxRecDepth 100000 in
theorem okX8_accounts : hl_ok cX8_accounts RX8 1 false pX8_accounts = true := by decide +kernel
abbrev mX8_accounts : hl_M := (yX8_accounts, cX8_accounts, 1, (some .int))
theorem mtX8_accounts : hl_mv mX8_accounts 0 := ⟨⟨hl_T_of (k := 1241) (by decide +kernel) rfl, hl_T_of (k := 56) (by decide +kernel) rfl, ⟨by decide +kernel, by decide +kernel⟩, by decide +kernel⟩, hl_T_of (k := 1239) (by decide +kernel) rfl, hl_T_of (k := 1240) (by decide +kernel) rfl⟩
def pX8_day : List hl_I := [(0, 0, 0, 0, 0, 0, .aload_n 0), (1, 0, 0, 0, 0, 0, .aload_n 0), (2, 10, 31, 996, 0, 0, .getfield 105), (5, 0, 0, 1107, 0, 0, .invokevirtual 136), (8, 0, 0, 0, 0, 0, .ireturn)]
set_option maxRecDepth 100000 in
theorem okX8_day : hl_ok cX8_day RX8 1 false pX8_day = true := by decide +kernel
abbrev mX8_day : hl_M := (yX8_day, cX8_day, 1, (some .int))
theorem mtX8_day : hl_mv mX8_day 0 := ⟨⟨hl_T_of (k := 1245) (by decide +kernel) rfl, hl_T_of (k := 56) (by decide +kernel) rfl, ⟨by decide +kernel, by decide +kernel⟩, by decide +kernel⟩, hl_T_of (k := 1243) (by decide +kernel) rfl, hl_T_of (k := 1244) (by decide +kernel) rfl⟩
def pX8_balance : List hl_I := [(0, 0, 0, 0, 0, 0, .aload_n 0), (1, 0, 0, 0, 0, 0, .aload_n 0), (2, 0, 1, 0, 0, 0, .iload_n 1), (3, 0, 0, 1079, 0, 0, .invokevirtual 117), (6, 0, 0, 1095, 0, 0, .invokevirtual 124), (9, 16, 0, 0, 0, 0, .ifCond .le 7), (12, 0, 0, 0, 0, 0, .lconst 0), (13, 22, 0, 0, 0, 0, .goto 9), (16, 0, 0, 0, 0, 0, .aload_n 0), (17, 10, 3, 968, 0, 0, .getfield 19), (20, 0, 1, 0, 0, 0, .iload_n 1), (21, 0, 0, 0, 0, 0, .laload), (22, 0, 0, 0, 0, 0, .lreturn)]
set_option maxRecDepth 100000 in
theorem okX8_balance : hl_ok cX8_balance RX8 2 false pX8_balance = true := by decide +kernel
abbrev mX8_balance : hl_M := (yX8_balance, cX8_balance, 2, (some .long))
theorem mtX8_balance : hl_mv mX8_balance 1 := ⟨⟨hl_T_of (k := 1249) (by decide +kernel) rfl, hl_T_of (k := 56) (by decide +kernel) rfl, ⟨by decide +kernel, by decide +kernel⟩, by decide +kernel⟩, hl_T_of (k := 1247) (by decide +kernel) rfl, hl_T_of (k := 1248) (by decide +kernel) rfl⟩
def pX8_available : List hl_I := [(0, 0, 0, 0, 0, 0, .aload_n 0), (1, 0, 0, 0, 0, 0, .aload_n 0), (2, 0, 1, 0, 0, 0, .iload_n 1), (3, 0, 0, 1079, 0, 0, .invokevirtual 117), (6, 0, 0, 1095, 0, 0, .invokevirtual 124), (9, 16, 0, 0, 0, 0, .ifCond .le 7), (12, 0, 0, 0, 0, 0, .lconst 0), (13, 21, 0, 0, 0, 0, .goto 8), (16, 0, 0, 0, 0, 0, .aload_n 0), (17, 0, 1, 0, 0, 0, .iload_n 1), (18, 0, 0, 1083, 0, 0, .invokevirtual 121), (21, 0, 0, 0, 0, 0, .lreturn)]
set_option maxRecDepth 100000 in
theorem okX8_available : hl_ok cX8_available RX8 2 false pX8_available = true := by decide +kernel
abbrev mX8_available : hl_M := (yX8_available, cX8_available, 2, (some .long))
theorem mtX8_available : hl_mv mX8_available 1 := ⟨⟨hl_T_of (k := 1253) (by decide +kernel) rfl, hl_T_of (k := 56) (by decide +kernel) rfl, ⟨by decide +kernel, by decide +kernel⟩, by decide +kernel⟩, hl_T_of (k := 1251) (by decide +kernel) rfl, hl_T_of (k := 1252) (by decide +kernel) rfl⟩
def pX8_replayed : List hl_I := [(0, 0, 0, 0, 0, 0, .lconst 0), (1, 0, 3, 0, 0, 0, .lstore_n 3), (2, 0, 0, 0, 0, 0, .iconst 0), (3, 0, 5, 0, 0, 0, .istore 5), (5, 0, 5, 0, 0, 0, .iload 5), (7, 0, 0, 0, 0, 0, .aload_n 0), (8, 10, 28, 993, 0, 0, .getfield 96), (11, 86, 0, 0, 0, 0, .if_icmp .ge 75), (14, 0, 0, 0, 0, 0, .aload_n 0), (15, 10, 12, 977, 0, 0, .getfield 47), (18, 0, 5, 0, 0, 0, .iload 5), (20, 0, 0, 0, 0, 0, .iaload), (21, 0, 2, 0, 0, 0, .iload_n 2), (22, 28, 0, 0, 0, 0, .if_icmp .le 6), (25, 80, 0, 0, 0, 0, .goto 55), (28, 0, 3, 0, 0, 0, .lload_n 3), (29, 0, 0, 0, 0, 0, .aload_n 0), (30, 10, 8, 973, 0, 0, .getfield 35), (33, 0, 5, 0, 0, 0, .iload 5), (35, 0, 0, 0, 0, 0, .iaload), (36, 0, 1, 0, 0, 0, .iload_n 1), (37, 51, 0, 0, 0, 0, .if_icmp .ne 14), (40, 0, 0, 0, 0, 0, .aload_n 0), (41, 10, 10, 975, 0, 0, .getfield 41), (44, 0, 5, 0, 0, 0, .iload 5), (46, 0, 0, 0, 0, 0, .iaload), (47, 0, 0, 0, 0, 0, .i2l), (48, 52, 0, 0, 0, 0, .goto 4), (51, 0, 0, 0, 0, 0, .lconst 0), (52, 0, 0, 0, 0, 0, .lsub), (53, 0, 3, 0, 0, 0, .lstore_n 3), (54, 0, 3, 0, 0, 0, .lload_n 3), (55, 0, 0, 0, 0, 0, .aload_n 0), (56, 10, 9, 974, 0, 0, .getfield 38), (59, 0, 5, 0, 0, 0, .iload 5), (61, 0, 0, 0, 0, 0, .iaload), (62, 0, 1, 0, 0, 0, .iload_n 1), (63, 77, 0, 0, 0, 0, .if_icmp .ne 14), (66, 0, 0, 0, 0, 0, .aload_n 0), (67, 10, 11, 976, 0, 0, .getfield 44), (70, 0, 5, 0, 0, 0, .iload 5), (72, 0, 0, 0, 0, 0, .iaload), (73, 0, 0, 0, 0, 0, .i2l), (74, 78, 0, 0, 0, 0, .goto 4), (77, 0, 0, 0, 0, 0, .lconst 0), (78, 0, 0, 0, 0, 0, .ladd), (79, 0, 3, 0, 0, 0, .lstore_n 3), (80, 0, 5, 0, 1, 0, .iinc 5 1), (83, 5, 0, 0, 0, 0, .goto (-78)), (86, 0, 3, 0, 0, 0, .lload_n 3), (87, 0, 0, 0, 0, 0, .lreturn)]
set_option maxRecDepth 100000 in
theorem okX8_replayed : hl_ok cX8_replayed RX8 6 false pX8_replayed = true := by decide +kernel
abbrev mX8_replayed : hl_M := (yX8_replayed, cX8_replayed, 6, (some .long))
theorem mtX8_replayed : hl_mv mX8_replayed 2 := ⟨⟨hl_T_of (k := 1261) (by decide +kernel) rfl, hl_T_of (k := 56) (by decide +kernel) rfl, ⟨by decide +kernel, by decide +kernel⟩, by decide +kernel⟩, hl_T_of (k := 1260) (by decide +kernel) rfl, hl_T_of (k := 46) (by decide +kernel) rfl⟩
def pX8_balanceByReplay : List hl_I := [(0, 0, 0, 0, 0, 0, .aload_n 0), (1, 0, 0, 0, 0, 0, .aload_n 0), (2, 0, 1, 0, 0, 0, .iload_n 1), (3, 0, 0, 1079, 0, 0, .invokevirtual 117), (6, 0, 0, 1095, 0, 0, .invokevirtual 124), (9, 16, 0, 0, 0, 0, .ifCond .le 7), (12, 0, 0, 0, 0, 0, .lconst 0), (13, 25, 0, 0, 0, 0, .goto 12), (16, 0, 0, 0, 0, 0, .aload_n 0), (17, 0, 1, 0, 0, 0, .iload_n 1), (18, 0, 0, 0, 0, 0, .aload_n 0), (19, 10, 31, 996, 0, 0, .getfield 105), (22, 0, 0, 1258, 0, 0, .invokevirtual 198), (25, 0, 0, 0, 0, 0, .lreturn)]
set_option maxRecDepth 100000 in
theorem okX8_balanceByReplay : hl_ok cX8_balanceByReplay RX8 2 false pX8_balanceByReplay = true := by decide +kernel
abbrev mX8_balanceByReplay : hl_M := (yX8_balanceByReplay, cX8_balanceByReplay, 2, (some .long))
theorem mtX8_balanceByReplay : hl_mv mX8_balanceByReplay 1 := ⟨⟨hl_T_of (k := 1257) (by decide +kernel) rfl, hl_T_of (k := 56) (by decide +kernel) rfl, ⟨by decide +kernel, by decide +kernel⟩, by decide +kernel⟩, hl_T_of (k := 1255) (by decide +kernel) rfl, hl_T_of (k := 1256) (by decide +kernel) rfl⟩
def pX8_balanceAt : List hl_I := [(0, 0, 0, 0, 0, 0, .aload_n 0), (1, 0, 0, 0, 0, 0, .aload_n 0), (2, 0, 1, 0, 0, 0, .iload_n 1), (3, 0, 0, 1079, 0, 0, .invokevirtual 117), (6, 13, 0, 0, 0, 0, .ifCond .ne 7), (9, 0, 0, 0, 1, 0, .iconst 1), (10, 30, 0, 0, 0, 0, .goto 20), (13, 0, 2, 0, 0, 0, .iload_n 2), (14, 0, 0, 0, 0, 0, .iconst 0), (15, 0, 0, 0, 0, 0, .aload_n 0), (16, 10, 31, 996, 0, 0, .getfield 105), (19, 0, 0, 1071, 0, 0, .invokestatic 108), (22, 29, 0, 0, 0, 0, .ifCond .ne 7), (25, 0, 0, 0, 2, 0, .iconst 2), (26, 30, 0, 0, 0, 0, .goto 4), (29, 0, 0, 0, 0, 0, .iconst 0), (30, 10, 26, 991, 0, 0, .putfield 89), (33, 0, 0, 0, 0, 0, .aload_n 0), (34, 10, 26, 991, 0, 0, .getfield 89), (37, 44, 0, 0, 0, 0, .ifCond .le 7), (40, 0, 0, 0, 0, 0, .lconst 0), (41, 50, 0, 0, 0, 0, .goto 9), (44, 0, 0, 0, 0, 0, .aload_n 0), (45, 0, 1, 0, 0, 0, .iload_n 1), (46, 0, 2, 0, 0, 0, .iload_n 2), (47, 0, 0, 1258, 0, 0, .invokevirtual 198), (50, 0, 0, 0, 0, 0, .lreturn)]
set_option maxRecDepth 100000 in
theorem okX8_balanceAt : hl_ok cX8_balanceAt RX8 3 false pX8_balanceAt = true := by decide +kernel
abbrev mX8_balanceAt : hl_M := (yX8_balanceAt, cX8_balanceAt, 3, (some .long))
theorem mtX8_balanceAt : hl_mv mX8_balanceAt 2 := ⟨⟨hl_T_of (k := 1265) (by decide +kernel) rfl, hl_T_of (k := 56) (by decide +kernel) rfl, ⟨by decide +kernel, by decide +kernel⟩, by decide +kernel⟩, hl_T_of (k := 1263) (by decide +kernel) rfl, hl_T_of (k := 1264) (by decide +kernel) rfl⟩
def pX8_houseBalance : List hl_I := [(0, 0, 0, 0, 0, 0, .aload_n 0), (1, 0, 1, 0, 0, 0, .iload_n 1), (2, 0, 0, 0, 0, 0, .iconst 0), (3, 0, 0, 0, 3, 0, .iconst 3), (4, 0, 0, 1071, 0, 0, .invokestatic 108), (7, 0, 0, 1095, 0, 0, .invokevirtual 124), (10, 15, 0, 0, 0, 0, .ifCond .le 5), (13, 0, 0, 0, 0, 0, .lconst 0), (14, 0, 0, 0, 0, 0, .lreturn), (15, 0, 2, 0, 0, 0, .iload_n 2), (16, 28, 0, 0, 0, 0, .ifCond .eq 12), (19, 0, 0, 0, 0, 0, .aload_n 0), (20, 10, 5, 970, 0, 0, .getfield 26), (23, 0, 1, 0, 0, 0, .iload_n 1), (24, 0, 0, 0, 0, 0, .laload), (25, 34, 0, 0, 0, 0, .goto 9), (28, 0, 0, 0, 0, 0, .aload_n 0), (29, 10, 4, 969, 0, 0, .getfield 23), (32, 0, 1, 0, 0, 0, .iload_n 1), (33, 0, 0, 0, 0, 0, .laload), (34, 0, 0, 0, 0, 0, .lreturn)]
set_option maxRecDepth 100000 in
theorem okX8_houseBalance : hl_ok cX8_houseBalance RX8 3 false pX8_houseBalance = true := by decide +kernel
abbrev mX8_houseBalance : hl_M := (yX8_houseBalance, cX8_houseBalance, 3, (some .long))
theorem mtX8_houseBalance : hl_mv mX8_houseBalance 2 := ⟨⟨hl_T_of (k := 1269) (by decide +kernel) rfl, hl_T_of (k := 56) (by decide +kernel) rfl, ⟨by decide +kernel, by decide +kernel⟩, by decide +kernel⟩, hl_T_of (k := 1267) (by decide +kernel) rfl, hl_T_of (k := 1268) (by decide +kernel) rfl⟩
def pX8_worth : List hl_I := [(0, 0, 0, 0, 0, 0, .aload_n 0), (1, 0, 0, 0, 0, 0, .aload_n 0), (2, 0, 1, 0, 0, 0, .iload_n 1), (3, 0, 0, 1079, 0, 0, .invokevirtual 117), (6, 0, 0, 1095, 0, 0, .invokevirtual 124), (9, 16, 0, 0, 0, 0, .ifCond .le 7), (12, 0, 0, 0, 0, 0, .lconst 0), (13, 35, 0, 0, 0, 0, .goto 22), (16, 0, 0, 0, 0, 0, .aload_n 0), (17, 10, 3, 968, 0, 0, .getfield 19), (20, 0, 1, 0, 0, 0, .iload_n 1), (21, 0, 0, 0, 0, 0, .laload), (22, 0, 0, 0, 0, 0, .aload_n 0), (23, 10, 2, 967, 0, 0, .getfield 16), (26, 0, 0, 0, 0, 0, .aload_n 0), (27, 10, 0, 965, 0, 0, .getfield 7), (30, 0, 1, 0, 0, 0, .iload_n 1), (31, 0, 0, 0, 0, 0, .iaload), (32, 0, 0, 0, 0, 0, .iaload), (33, 0, 0, 0, 0, 0, .i2l), (34, 0, 0, 0, 0, 0, .lmul), (35, 0, 0, 0, 0, 0, .lreturn)]
set_option maxRecDepth 100000 in
theorem okX8_worth : hl_ok cX8_worth RX8 2 false pX8_worth = true := by decide +kernel
abbrev mX8_worth : hl_M := (yX8_worth, cX8_worth, 2, (some .long))
theorem mtX8_worth : hl_mv mX8_worth 1 := ⟨⟨hl_T_of (k := 1273) (by decide +kernel) rfl, hl_T_of (k := 56) (by decide +kernel) rfl, ⟨by decide +kernel, by decide +kernel⟩, by decide +kernel⟩, hl_T_of (k := 1271) (by decide +kernel) rfl, hl_T_of (k := 1272) (by decide +kernel) rfl⟩
def pX8_transactions : List hl_I := [(0, 0, 0, 0, 0, 0, .aload_n 0), (1, 0, 0, 0, 0, 0, .aload_n 0), (2, 10, 28, 993, 0, 0, .getfield 96), (5, 0, 0, 1107, 0, 0, .invokevirtual 136), (8, 0, 0, 0, 0, 0, .ireturn)]
set_option maxRecDepth 100000 in
theorem okX8_transactions : hl_ok cX8_transactions RX8 1 false pX8_transactions = true := by decide +kernel
abbrev mX8_transactions : hl_M := (yX8_transactions, cX8_transactions, 1, (some .int))
theorem mtX8_transactions : hl_mv mX8_transactions 0 := ⟨⟨hl_T_of (k := 1277) (by decide +kernel) rfl, hl_T_of (k := 56) (by decide +kernel) rfl, ⟨by decide +kernel, by decide +kernel⟩, by decide +kernel⟩, hl_T_of (k := 1275) (by decide +kernel) rfl, hl_T_of (k := 1276) (by decide +kernel) rfl⟩
def pX8_kindOf : List hl_I := [(0, 0, 0, 0, 0, 0, .aload_n 0), (1, 0, 0, 0, 0, 0, .aload_n 0), (2, 0, 1, 0, 0, 0, .iload_n 1), (3, 0, 0, 1170, 0, 0, .invokevirtual 167), (6, 0, 0, 1095, 0, 0, .invokevirtual 124), (9, 17, 0, 0, 0, 0, .ifCond .le 8), (12, 0, 0, 0, 97, 0, .bipush 97), (14, 24, 0, 0, 0, 0, .goto 10), (17, 0, 0, 0, 0, 0, .aload_n 0), (18, 10, 7, 972, 0, 0, .getfield 32), (21, 0, 1, 0, 0, 0, .iload_n 1), (22, 0, 0, 0, 0, 0, .iaload), (23, 0, 0, 0, 0, 0, .i2c), (24, 0, 0, 0, 0, 0, .ireturn)]
set_option maxRecDepth 100000 in
theorem okX8_kindOf : hl_ok cX8_kindOf RX8 2 false pX8_kindOf = true := by decide +kernel
abbrev mX8_kindOf : hl_M := (yX8_kindOf, cX8_kindOf, 2, (some .char))
theorem mtX8_kindOf : hl_mv mX8_kindOf 1 := ⟨⟨hl_T_of (k := 1281) (by decide +kernel) rfl, hl_T_of (k := 56) (by decide +kernel) rfl, ⟨by decide +kernel, by decide +kernel⟩, by decide +kernel⟩, hl_T_of (k := 1279) (by decide +kernel) rfl, hl_T_of (k := 1280) (by decide +kernel) rfl⟩
def pX8_sideOf : List hl_I := [(0, 0, 0, 0, 0, 0, .aload_n 0), (1, 0, 0, 0, 0, 0, .aload_n 0), (2, 0, 1, 0, 0, 0, .iload_n 1), (3, 0, 0, 1170, 0, 0, .invokevirtual 167), (6, 13, 0, 0, 0, 0, .ifCond .ne 7), (9, 0, 0, 0, 1, 0, .iconst 1), (10, 24, 0, 0, 0, 0, .goto 14), (13, 0, 2, 0, 0, 0, .aload_n 2), (14, 0, 1, 0, 0, 0, .iload_n 1), (15, 0, 0, 0, 0, 0, .iaload), (16, 23, 0, 0, 0, 0, .ifCond .ge 7), (19, 0, 0, 0, 2, 0, .iconst 2), (20, 24, 0, 0, 0, 0, .goto 4), (23, 0, 0, 0, 0, 0, .iconst 0), (24, 10, 26, 991, 0, 0, .putfield 89), (27, 0, 0, 0, 0, 0, .aload_n 0), (28, 10, 26, 991, 0, 0, .getfield 89), (31, 38, 0, 0, 0, 0, .ifCond .le 7), (34, 0, 0, 0, 0, 0, .iconst 0), (35, 41, 0, 0, 0, 0, .goto 6), (38, 0, 2, 0, 0, 0, .aload_n 2), (39, 0, 1, 0, 0, 0, .iload_n 1), (40, 0, 0, 0, 0, 0, .iaload), (41, 0, 0, 0, 0, 0, .ireturn)]
set_option maxRecDepth 100000 in
theorem okX8_sideOf : hl_ok cX8_sideOf RX8 3 false pX8_sideOf = true := by decide +kernel
abbrev mX8_sideOf : hl_M := (yX8_sideOf, cX8_sideOf, 3, (some .int))
theorem mtX8_sideOf : hl_mv mX8_sideOf 2 := ⟨⟨hl_T_of (k := 1289) (by decide +kernel) rfl, hl_T_of (k := 56) (by decide +kernel) rfl, ⟨by decide +kernel, by decide +kernel⟩, by decide +kernel⟩, hl_T_of (k := 1288) (by decide +kernel) rfl, hl_T_of (k := 47) (by decide +kernel) rfl⟩
def pX8_payerOf : List hl_I := [(0, 0, 0, 0, 0, 0, .aload_n 0), (1, 0, 1, 0, 0, 0, .iload_n 1), (2, 0, 0, 0, 0, 0, .aload_n 0), (3, 10, 8, 973, 0, 0, .getfield 35), (6, 0, 0, 1286, 0, 0, .invokevirtual 202), (9, 0, 0, 0, 0, 0, .ireturn)]
set_option maxRecDepth 100000 in
theorem okX8_payerOf : hl_ok cX8_payerOf RX8 2 false pX8_payerOf = true := by decide +kernel
abbrev mX8_payerOf : hl_M := (yX8_payerOf, cX8_payerOf, 2, (some .int))
theorem mtX8_payerOf : hl_mv mX8_payerOf 1 := ⟨⟨hl_T_of (k := 1285) (by decide +kernel) rfl, hl_T_of (k := 56) (by decide +kernel) rfl, ⟨by decide +kernel, by decide +kernel⟩, by decide +kernel⟩, hl_T_of (k := 1283) (by decide +kernel) rfl, hl_T_of (k := 1284) (by decide +kernel) rfl⟩
def pX8_payeeOf : List hl_I := [(0, 0, 0, 0, 0, 0, .aload_n 0), (1, 0, 1, 0, 0, 0, .iload_n 1), (2, 0, 0, 0, 0, 0, .aload_n 0), (3, 10, 9, 974, 0, 0, .getfield 38), (6, 0, 0, 1286, 0, 0, .invokevirtual 202), (9, 0, 0, 0, 0, 0, .ireturn)]
set_option maxRecDepth 100000 in
theorem okX8_payeeOf : hl_ok cX8_payeeOf RX8 2 false pX8_payeeOf = true := by decide +kernel
abbrev mX8_payeeOf : hl_M := (yX8_payeeOf, cX8_payeeOf, 2, (some .int))
theorem mtX8_payeeOf : hl_mv mX8_payeeOf 1 := ⟨⟨hl_T_of (k := 1293) (by decide +kernel) rfl, hl_T_of (k := 56) (by decide +kernel) rfl, ⟨by decide +kernel, by decide +kernel⟩, by decide +kernel⟩, hl_T_of (k := 1291) (by decide +kernel) rfl, hl_T_of (k := 1292) (by decide +kernel) rfl⟩
def pX8_paidOf : List hl_I := [(0, 0, 0, 0, 0, 0, .aload_n 0), (1, 0, 0, 0, 0, 0, .aload_n 0), (2, 0, 1, 0, 0, 0, .iload_n 1), (3, 0, 0, 1170, 0, 0, .invokevirtual 167), (6, 0, 0, 1095, 0, 0, .invokevirtual 124), (9, 16, 0, 0, 0, 0, .ifCond .le 7), (12, 0, 0, 0, 0, 0, .iconst 0), (13, 22, 0, 0, 0, 0, .goto 9), (16, 0, 0, 0, 0, 0, .aload_n 0), (17, 10, 10, 975, 0, 0, .getfield 41), (20, 0, 1, 0, 0, 0, .iload_n 1), (21, 0, 0, 0, 0, 0, .iaload), (22, 0, 0, 0, 0, 0, .ireturn)]
set_option maxRecDepth 100000 in
theorem okX8_paidOf : hl_ok cX8_paidOf RX8 2 false pX8_paidOf = true := by decide +kernel
abbrev mX8_paidOf : hl_M := (yX8_paidOf, cX8_paidOf, 2, (some .int))
theorem mtX8_paidOf : hl_mv mX8_paidOf 1 := ⟨⟨hl_T_of (k := 1297) (by decide +kernel) rfl, hl_T_of (k := 56) (by decide +kernel) rfl, ⟨by decide +kernel, by decide +kernel⟩, by decide +kernel⟩, hl_T_of (k := 1295) (by decide +kernel) rfl, hl_T_of (k := 1296) (by decide +kernel) rfl⟩
def pX8_receivedOf : List hl_I := [(0, 0, 0, 0, 0, 0, .aload_n 0), (1, 0, 0, 0, 0, 0, .aload_n 0), (2, 0, 1, 0, 0, 0, .iload_n 1), (3, 0, 0, 1170, 0, 0, .invokevirtual 167), (6, 0, 0, 1095, 0, 0, .invokevirtual 124), (9, 16, 0, 0, 0, 0, .ifCond .le 7), (12, 0, 0, 0, 0, 0, .iconst 0), (13, 22, 0, 0, 0, 0, .goto 9), (16, 0, 0, 0, 0, 0, .aload_n 0), (17, 10, 11, 976, 0, 0, .getfield 44), (20, 0, 1, 0, 0, 0, .iload_n 1), (21, 0, 0, 0, 0, 0, .iaload), (22, 0, 0, 0, 0, 0, .ireturn)]
set_option maxRecDepth 100000 in
theorem okX8_receivedOf : hl_ok cX8_receivedOf RX8 2 false pX8_receivedOf = true := by decide +kernel
abbrev mX8_receivedOf : hl_M := (yX8_receivedOf, cX8_receivedOf, 2, (some .int))
theorem mtX8_receivedOf : hl_mv mX8_receivedOf 1 := ⟨⟨hl_T_of (k := 1301) (by decide +kernel) rfl, hl_T_of (k := 56) (by decide +kernel) rfl, ⟨by decide +kernel, by decide +kernel⟩, by decide +kernel⟩, hl_T_of (k := 1299) (by decide +kernel) rfl, hl_T_of (k := 1300) (by decide +kernel) rfl⟩
def pX8_reversalOf : List hl_I := [(0, 0, 0, 0, 0, 0, .aload_n 0), (1, 0, 1, 0, 0, 0, .iload_n 1), (2, 0, 0, 0, 0, 0, .aload_n 0), (3, 10, 13, 978, 0, 0, .getfield 50), (6, 0, 0, 1286, 0, 0, .invokevirtual 202), (9, 0, 0, 0, 0, 0, .ireturn)]
set_option maxRecDepth 100000 in
theorem okX8_reversalOf : hl_ok cX8_reversalOf RX8 2 false pX8_reversalOf = true := by decide +kernel
abbrev mX8_reversalOf : hl_M := (yX8_reversalOf, cX8_reversalOf, 2, (some .int))
theorem mtX8_reversalOf : hl_mv mX8_reversalOf 1 := ⟨⟨hl_T_of (k := 1305) (by decide +kernel) rfl, hl_T_of (k := 56) (by decide +kernel) rfl, ⟨by decide +kernel, by decide +kernel⟩, by decide +kernel⟩, hl_T_of (k := 1303) (by decide +kernel) rfl, hl_T_of (k := 1304) (by decide +kernel) rfl⟩
def pX8_stateOf : List hl_I := [(0, 0, 0, 0, 0, 0, .aload_n 0), (1, 0, 0, 0, 0, 0, .aload_n 0), (2, 0, 1, 0, 0, 0, .iload_n 1), (3, 0, 0, 1154, 0, 0, .invokevirtual 161), (6, 0, 0, 1095, 0, 0, .invokevirtual 124), (9, 17, 0, 0, 0, 0, .ifCond .le 8), (12, 0, 0, 0, 97, 0, .bipush 97), (14, 24, 0, 0, 0, 0, .goto 10), (17, 0, 0, 0, 0, 0, .aload_n 0), (18, 10, 14, 979, 0, 0, .getfield 53), (21, 0, 1, 0, 0, 0, .iload_n 1), (22, 0, 0, 0, 0, 0, .iaload), (23, 0, 0, 0, 0, 0, .i2c), (24, 0, 0, 0, 0, 0, .ireturn)]
set_option maxRecDepth 100000 in
theorem okX8_stateOf : hl_ok cX8_stateOf RX8 2 false pX8_stateOf = true := by decide +kernel
abbrev mX8_stateOf : hl_M := (yX8_stateOf, cX8_stateOf, 2, (some .char))
theorem mtX8_stateOf : hl_mv mX8_stateOf 1 := ⟨⟨hl_T_of (k := 1309) (by decide +kernel) rfl, hl_T_of (k := 56) (by decide +kernel) rfl, ⟨by decide +kernel, by decide +kernel⟩, by decide +kernel⟩, hl_T_of (k := 1307) (by decide +kernel) rfl, hl_T_of (k := 1308) (by decide +kernel) rfl⟩
def pX8_lastDayOf : List hl_I := [(0, 0, 0, 0, 0, 0, .aload_n 0), (1, 0, 0, 0, 0, 0, .aload_n 0), (2, 0, 1, 0, 0, 0, .iload_n 1), (3, 0, 0, 1154, 0, 0, .invokevirtual 161), (6, 0, 0, 1095, 0, 0, .invokevirtual 124), (9, 16, 0, 0, 0, 0, .ifCond .le 7), (12, 0, 0, 0, 0, 0, .iconst 0), (13, 22, 0, 0, 0, 0, .goto 9), (16, 0, 0, 0, 0, 0, .aload_n 0), (17, 10, 18, 983, 0, 0, .getfield 65), (20, 0, 1, 0, 0, 0, .iload_n 1), (21, 0, 0, 0, 0, 0, .iaload), (22, 0, 0, 0, 0, 0, .ireturn)]
set_option maxRecDepth 100000 in
theorem okX8_lastDayOf : hl_ok cX8_lastDayOf RX8 2 false pX8_lastDayOf = true := by decide +kernel
abbrev mX8_lastDayOf : hl_M := (yX8_lastDayOf, cX8_lastDayOf, 2, (some .int))
theorem mtX8_lastDayOf : hl_mv mX8_lastDayOf 1 := ⟨⟨hl_T_of (k := 1313) (by decide +kernel) rfl, hl_T_of (k := 56) (by decide +kernel) rfl, ⟨by decide +kernel, by decide +kernel⟩, by decide +kernel⟩, hl_T_of (k := 1311) (by decide +kernel) rfl, hl_T_of (k := 1312) (by decide +kernel) rfl⟩
def pX8_keys : List hl_I := [(0, 0, 0, 0, 0, 0, .iconst 0), (1, 0, 1, 0, 0, 0, .istore_n 1), (2, 0, 0, 0, 1, 0, .iconst 1), (3, 0, 2, 0, 0, 0, .istore_n 2), (4, 0, 2, 0, 0, 0, .iload_n 2), (5, 0, 0, 0, 999, 0, .sipush 999), (8, 34, 0, 0, 0, 0, .if_icmp .gt 26), (11, 0, 1, 0, 0, 0, .iload_n 1), (12, 0, 0, 0, 0, 0, .aload_n 0), (13, 10, 22, 987, 0, 0, .getfield 77), (16, 0, 2, 0, 0, 0, .iload_n 2), (17, 0, 0, 0, 0, 0, .iaload), (18, 25, 0, 0, 0, 0, .ifCond .le 7), (21, 0, 0, 0, 1, 0, .iconst 1), (22, 26, 0, 0, 0, 0, .goto 4), (25, 0, 0, 0, 0, 0, .iconst 0), (26, 0, 0, 0, 0, 0, .iadd), (27, 0, 1, 0, 0, 0, .istore_n 1), (28, 0, 2, 0, 1, 0, .iinc 2 1), (31, 4, 0, 0, 0, 0, .goto (-27)), (34, 0, 0, 0, 0, 0, .aload_n 0), (35, 0, 1, 0, 0, 0, .iload_n 1), (36, 0, 0, 1107, 0, 0, .invokevirtual 136), (39, 0, 0, 0, 0, 0, .ireturn)]
set_option maxRecDepth 100000 in
theorem okX8_keys : hl_ok cX8_keys RX8 3 false pX8_keys = true := by decide +kernel
abbrev mX8_keys : hl_M := (yX8_keys, cX8_keys, 3, (some .int))
theorem mtX8_keys : hl_mv mX8_keys 0 := ⟨⟨hl_T_of (k := 1317) (by decide +kernel) rfl, hl_T_of (k := 56) (by decide +kernel) rfl, ⟨by decide +kernel, by decide +kernel⟩, by decide +kernel⟩, hl_T_of (k := 1315) (by decide +kernel) rfl, hl_T_of (k := 1316) (by decide +kernel) rfl⟩
def pX8_answerOf : List hl_I := [(0, 0, 0, 0, 0, 0, .aload_n 0), (1, 0, 1, 0, 0, 0, .iload_n 1), (2, 0, 0, 0, 1, 0, .iconst 1), (3, 0, 0, 0, 999, 0, .sipush 999), (6, 0, 0, 1071, 0, 0, .invokestatic 108), (9, 25, 0, 0, 0, 0, .ifCond .eq 16), (12, 0, 0, 0, 0, 0, .aload_n 0), (13, 10, 22, 987, 0, 0, .getfield 77), (16, 0, 1, 0, 0, 0, .iload_n 1), (17, 0, 0, 0, 0, 0, .iaload), (18, 25, 0, 0, 0, 0, .ifCond .le 7), (21, 0, 0, 0, 1, 0, .iconst 1), (22, 26, 0, 0, 0, 0, .goto 4), (25, 0, 0, 0, 0, 0, .iconst 0), (26, 0, 0, 1095, 0, 0, .invokevirtual 124), (29, 36, 0, 0, 0, 0, .ifCond .le 7), (32, 0, 0, 0, 0, 0, .iconst 0), (33, 42, 0, 0, 0, 0, .goto 9), (36, 0, 0, 0, 0, 0, .aload_n 0), (37, 10, 24, 989, 0, 0, .getfield 83), (40, 0, 1, 0, 0, 0, .iload_n 1), (41, 0, 0, 0, 0, 0, .iaload), (42, 0, 0, 0, 0, 0, .ireturn)]
set_option maxRecDepth 100000 in
theorem okX8_answerOf : hl_ok cX8_answerOf RX8 2 false pX8_answerOf = true := by decide +kernel
abbrev mX8_answerOf : hl_M := (yX8_answerOf, cX8_answerOf, 2, (some .int))
theorem mtX8_answerOf : hl_mv mX8_answerOf 1 := ⟨⟨hl_T_of (k := 1321) (by decide +kernel) rfl, hl_T_of (k := 56) (by decide +kernel) rfl, ⟨by decide +kernel, by decide +kernel⟩, by decide +kernel⟩, hl_T_of (k := 1319) (by decide +kernel) rfl, hl_T_of (k := 1320) (by decide +kernel) rfl⟩
def pX8_isBalanced : List hl_I := [(0, 0, 0, 0, 0, 0, .aload_n 0), (1, 0, 0, 0, 0, 0, .iconst 0), (2, 10, 26, 991, 0, 0, .putfield 89), (5, 0, 0, 0, 0, 0, .iconst 0), (6, 0, 1, 0, 0, 0, .istore_n 1), (7, 0, 1, 0, 0, 0, .iload_n 1), (8, 0, 0, 0, 4, 0, .iconst 4), (9, 83, 0, 0, 0, 0, .if_icmp .ge 74), (12, 0, 0, 0, 0, 0, .aload_n 0), (13, 10, 4, 969, 0, 0, .getfield 23), (16, 0, 1, 0, 0, 0, .iload_n 1), (17, 0, 0, 0, 0, 0, .laload), (18, 0, 0, 0, 0, 0, .aload_n 0), (19, 10, 5, 970, 0, 0, .getfield 26), (22, 0, 1, 0, 0, 0, .iload_n 1), (23, 0, 0, 0, 0, 0, .laload), (24, 0, 0, 0, 0, 0, .ladd), (25, 0, 2, 0, 0, 0, .lstore_n 2), (26, 0, 0, 0, 0, 0, .iconst 0), (27, 0, 4, 0, 0, 0, .istore 4), (29, 0, 4, 0, 0, 0, .iload 4), (31, 0, 0, 0, 0, 0, .aload_n 0), (32, 10, 27, 992, 0, 0, .getfield 93), (35, 69, 0, 0, 0, 0, .if_icmp .ge 34), (38, 0, 2, 0, 0, 0, .lload_n 2), (39, 0, 0, 0, 0, 0, .aload_n 0), (40, 10, 0, 965, 0, 0, .getfield 7), (43, 0, 4, 0, 0, 0, .iload 4), (45, 0, 0, 0, 0, 0, .iaload), (46, 0, 1, 0, 0, 0, .iload_n 1), (47, 60, 0, 0, 0, 0, .if_icmp .ne 13), (50, 0, 0, 0, 0, 0, .aload_n 0), (51, 10, 3, 968, 0, 0, .getfield 19), (54, 0, 4, 0, 0, 0, .iload 4), (56, 0, 0, 0, 0, 0, .laload), (57, 61, 0, 0, 0, 0, .goto 4), (60, 0, 0, 0, 0, 0, .lconst 0), (61, 0, 0, 0, 0, 0, .ladd), (62, 0, 2, 0, 0, 0, .lstore_n 2), (63, 0, 4, 0, 1, 0, .iinc 4 1), (66, 29, 0, 0, 0, 0, .goto (-37)), (69, 0, 2, 0, 0, 0, .lload_n 2), (70, 0, 0, 0, 0, 0, .lconst 0), (71, 0, 0, 0, 0, 0, .lcmp), (72, 77, 0, 0, 0, 0, .ifCond .eq 5), (75, 0, 0, 0, 0, 0, .iconst 0), (76, 0, 0, 0, 0, 0, .ireturn), (77, 0, 1, 0, 1, 0, .iinc 1 1), (80, 7, 0, 0, 0, 0, .goto (-73)), (83, 0, 0, 0, 1, 0, .iconst 1), (84, 0, 0, 0, 0, 0, .ireturn)]
set_option maxRecDepth 100000 in
theorem okX8_isBalanced : hl_ok cX8_isBalanced RX8 5 false pX8_isBalanced = true := by decide +kernel
abbrev mX8_isBalanced : hl_M := (yX8_isBalanced, cX8_isBalanced, 5, (some .boolean))
theorem mtX8_isBalanced : hl_mv mX8_isBalanced 0 := ⟨⟨hl_T_of (k := 1325) (by decide +kernel) rfl, hl_T_of (k := 56) (by decide +kernel) rfl, ⟨by decide +kernel, by decide +kernel⟩, by decide +kernel⟩, hl_T_of (k := 1323) (by decide +kernel) rfl, hl_T_of (k := 1324) (by decide +kernel) rfl⟩
def pX8_reversedShare : List hl_I := [(0, 0, 0, 0, 0, 0, .aload_n 0), (1, 0, 0, 0, 0, 0, .aload_n 0), (2, 10, 28, 993, 0, 0, .getfield 96), (5, 12, 0, 0, 0, 0, .ifCond .le 7), (8, 0, 0, 0, 1, 0, .iconst 1), (9, 13, 0, 0, 0, 0, .goto 4), (12, 0, 0, 0, 0, 0, .iconst 0), (13, 0, 0, 1095, 0, 0, .invokevirtual 124), (16, 21, 0, 0, 0, 0, .ifCond .le 5), (19, 0, 0, 0, 0, 0, .fconst 0), (20, 0, 0, 0, 0, 0, .freturn), (21, 0, 0, 0, 0, 0, .iconst 0), (22, 0, 1, 0, 0, 0, .istore_n 1), (23, 0, 0, 0, 0, 0, .iconst 0), (24, 0, 2, 0, 0, 0, .istore_n 2), (25, 0, 2, 0, 0, 0, .iload_n 2), (26, 0, 0, 0, 0, 0, .aload_n 0), (27, 10, 28, 993, 0, 0, .getfield 96), (30, 56, 0, 0, 0, 0, .if_icmp .ge 26), (33, 0, 1, 0, 0, 0, .iload_n 1), (34, 0, 0, 0, 0, 0, .aload_n 0), (35, 10, 13, 978, 0, 0, .getfield 50), (38, 0, 2, 0, 0, 0, .iload_n 2), (39, 0, 0, 0, 0, 0, .iaload), (40, 47, 0, 0, 0, 0, .ifCond .lt 7), (43, 0, 0, 0, 1, 0, .iconst 1), (44, 48, 0, 0, 0, 0, .goto 4), (47, 0, 0, 0, 0, 0, .iconst 0), (48, 0, 0, 0, 0, 0, .iadd), (49, 0, 1, 0, 0, 0, .istore_n 1), (50, 0, 2, 0, 1, 0, .iinc 2 1), (53, 25, 0, 0, 0, 0, .goto (-28)), (56, 0, 1, 0, 0, 0, .iload_n 1), (57, 0, 0, 0, 0, 0, .i2f), (58, 0, 0, 0, 0, 0, .aload_n 0), (59, 10, 28, 993, 0, 0, .getfield 96), (62, 0, 0, 0, 0, 0, .i2f), (63, 0, 0, 0, 0, 0, .fdiv), (64, 0, 0, 0, 0, 0, .freturn)]
set_option maxRecDepth 100000 in
theorem okX8_reversedShare : hl_ok cX8_reversedShare RX8 3 false pX8_reversedShare = true := by decide +kernel
abbrev mX8_reversedShare : hl_M := (yX8_reversedShare, cX8_reversedShare, 3, (some .float))
theorem mtX8_reversedShare : hl_mv mX8_reversedShare 0 := ⟨⟨hl_T_of (k := 1329) (by decide +kernel) rfl, hl_T_of (k := 56) (by decide +kernel) rfl, ⟨by decide +kernel, by decide +kernel⟩, by decide +kernel⟩, hl_T_of (k := 1327) (by decide +kernel) rfl, hl_T_of (k := 1328) (by decide +kernel) rfl⟩
def pX8_meanPaid : List hl_I := [(0, 0, 0, 0, 0, 0, .aload_n 0), (1, 0, 0, 0, 0, 0, .aload_n 0), (2, 10, 28, 993, 0, 0, .getfield 96), (5, 12, 0, 0, 0, 0, .ifCond .le 7), (8, 0, 0, 0, 1, 0, .iconst 1), (9, 13, 0, 0, 0, 0, .goto 4), (12, 0, 0, 0, 0, 0, .iconst 0), (13, 0, 0, 1095, 0, 0, .invokevirtual 124), (16, 21, 0, 0, 0, 0, .ifCond .le 5), (19, 0, 0, 0, 0, 0, .dconst 0), (20, 0, 0, 0, 0, 0, .dreturn), (21, 0, 0, 0, 0, 0, .lconst 0), (22, 0, 1, 0, 0, 0, .lstore_n 1), (23, 0, 0, 0, 0, 0, .iconst 0), (24, 0, 3, 0, 0, 0, .istore_n 3), (25, 0, 3, 0, 0, 0, .iload_n 3), (26, 0, 0, 0, 0, 0, .aload_n 0), (27, 10, 28, 993, 0, 0, .getfield 96), (30, 49, 0, 0, 0, 0, .if_icmp .ge 19), (33, 0, 1, 0, 0, 0, .lload_n 1), (34, 0, 0, 0, 0, 0, .aload_n 0), (35, 10, 10, 975, 0, 0, .getfield 41), (38, 0, 3, 0, 0, 0, .iload_n 3), (39, 0, 0, 0, 0, 0, .iaload), (40, 0, 0, 0, 0, 0, .i2l), (41, 0, 0, 0, 0, 0, .ladd), (42, 0, 1, 0, 0, 0, .lstore_n 1), (43, 0, 3, 0, 1, 0, .iinc 3 1), (46, 25, 0, 0, 0, 0, .goto (-21)), (49, 0, 1, 0, 0, 0, .lload_n 1), (50, 0, 0, 0, 0, 0, .l2d), (51, 0, 0, 0, 0, 0, .aload_n 0), (52, 10, 28, 993, 0, 0, .getfield 96), (55, 0, 0, 0, 0, 0, .i2d), (56, 0, 0, 0, 0, 0, .ddiv), (57, 0, 0, 0, 0, 0, .dreturn)]
set_option maxRecDepth 100000 in
theorem okX8_meanPaid : hl_ok cX8_meanPaid RX8 4 false pX8_meanPaid = true := by decide +kernel
abbrev mX8_meanPaid : hl_M := (yX8_meanPaid, cX8_meanPaid, 4, (some .double))
theorem mtX8_meanPaid : hl_mv mX8_meanPaid 0 := ⟨⟨hl_T_of (k := 1333) (by decide +kernel) rfl, hl_T_of (k := 56) (by decide +kernel) rfl, ⟨by decide +kernel, by decide +kernel⟩, by decide +kernel⟩, hl_T_of (k := 1331) (by decide +kernel) rfl, hl_T_of (k := 1332) (by decide +kernel) rfl⟩
def pL_openAccount : List hl_I := [(0, 0, 3, 0, 0, 0, .aload_n 3), (1, 0, 0, 0, 0, 0, .iconst 0), (2, 0, 0, 0, 0, 0, .aload_n 0), (3, 0, 1, 0, 0, 0, .iload_n 1), (4, 0, 2, 0, 0, 0, .iload_n 2), (5, 0, 0, 377, 0, 0, .invokevirtual 7), (8, 0, 0, 0, 0, 0, .i2l), (9, 0, 0, 0, 0, 0, .lastore), (10, 21, 0, 0, 0, 0, .goto 11), (13, 0, 4, 0, 0, 0, .astore 4), (15, 0, 0, 0, 1, 0, .iconst 1), (16, 0, 0, 0, 0, 0, .ireturn), (17, 0, 4, 0, 0, 0, .astore 4), (19, 0, 0, 0, 2, 0, .iconst 2), (20, 0, 0, 0, 0, 0, .ireturn), (21, 0, 0, 0, 0, 0, .iconst 0), (22, 0, 0, 0, 0, 0, .ireturn)]
set_option maxRecDepth 100000 in
theorem okL_openAccount : hl_ok cL_openAccount RL 5 false pL_openAccount = true := by decide +kernel
def pL_setLimit : List hl_I := [(0, 0, 3, 0, 0, 0, .aload_n 3), (1, 0, 0, 0, 0, 0, .iconst 0), (2, 0, 0, 0, 0, 0, .aload_n 0), (3, 0, 1, 0, 0, 0, .iload_n 1), (4, 0, 2, 0, 0, 0, .iload_n 2), (5, 0, 0, 511, 0, 0, .invokevirtual 17), (8, 0, 0, 0, 0, 0, .i2l), (9, 0, 0, 0, 0, 0, .lastore), (10, 25, 0, 0, 0, 0, .goto 15), (13, 0, 4, 0, 0, 0, .astore 4), (15, 0, 0, 0, 1, 0, .iconst 1), (16, 0, 0, 0, 0, 0, .ireturn), (17, 0, 4, 0, 0, 0, .astore 4), (19, 0, 0, 0, 2, 0, .iconst 2), (20, 0, 0, 0, 0, 0, .ireturn), (21, 0, 4, 0, 0, 0, .astore 4), (23, 0, 0, 0, 3, 0, .iconst 3), (24, 0, 0, 0, 0, 0, .ireturn), (25, 0, 0, 0, 0, 0, .iconst 0), (26, 0, 0, 0, 0, 0, .ireturn)]
set_option maxRecDepth 100000 in
theorem okL_setLimit : hl_ok cL_setLimit RL 5 false pL_setLimit = true := by decide +kernel
def pL_setRate : List hl_I := [(0, 0, 3, 0, 0, 0, .aload_n 3), (1, 0, 0, 0, 0, 0, .iconst 0), (2, 0, 0, 0, 0, 0, .aload_n 0), (3, 0, 1, 0, 0, 0, .iload_n 1), (4, 0, 2, 0, 0, 0, .iload_n 2), (5, 0, 0, 551, 0, 0, .invokevirtual 24), (8, 0, 0, 0, 0, 0, .i2l), (9, 0, 0, 0, 0, 0, .lastore), (10, 17, 0, 0, 0, 0, .goto 7), (13, 0, 4, 0, 0, 0, .astore 4), (15, 0, 0, 0, 1, 0, .iconst 1), (16, 0, 0, 0, 0, 0, .ireturn), (17, 0, 0, 0, 0, 0, .iconst 0), (18, 0, 0, 0, 0, 0, .ireturn)]
set_option maxRecDepth 100000 in
theorem okL_setRate : hl_ok cL_setRate RL 5 false pL_setRate = true := by decide +kernel
def pL_deposit : List hl_I := [(0, 0, 4, 0, 0, 0, .aload 4), (2, 0, 0, 0, 0, 0, .iconst 0), (3, 0, 0, 0, 0, 0, .aload_n 0), (4, 0, 1, 0, 0, 0, .iload_n 1), (5, 0, 2, 0, 0, 0, .iload_n 2), (6, 0, 3, 0, 0, 0, .iload_n 3), (7, 0, 0, 559, 0, 0, .invokevirtual 27), (10, 0, 0, 0, 0, 0, .i2l), (11, 0, 0, 0, 0, 0, .lastore), (12, 27, 0, 0, 0, 0, .goto 15), (15, 0, 5, 0, 0, 0, .astore 5), (17, 0, 0, 0, 1, 0, .iconst 1), (18, 0, 0, 0, 0, 0, .ireturn), (19, 0, 5, 0, 0, 0, .astore 5), (21, 0, 0, 0, 2, 0, .iconst 2), (22, 0, 0, 0, 0, 0, .ireturn), (23, 0, 5, 0, 0, 0, .astore 5), (25, 0, 0, 0, 3, 0, .iconst 3), (26, 0, 0, 0, 0, 0, .ireturn), (27, 0, 0, 0, 0, 0, .iconst 0), (28, 0, 0, 0, 0, 0, .ireturn)]
set_option maxRecDepth 100000 in
theorem okL_deposit : hl_ok cL_deposit RL 6 false pL_deposit = true := by decide +kernel
def pL_withdraw : List hl_I := [(0, 0, 4, 0, 0, 0, .aload 4), (2, 0, 0, 0, 0, 0, .iconst 0), (3, 0, 0, 0, 0, 0, .aload_n 0), (4, 0, 1, 0, 0, 0, .iload_n 1), (5, 0, 2, 0, 0, 0, .iload_n 2), (6, 0, 3, 0, 0, 0, .iload_n 3), (7, 0, 0, 659, 0, 0, .invokevirtual 31), (10, 0, 0, 0, 0, 0, .i2l), (11, 0, 0, 0, 0, 0, .lastore), (12, 31, 0, 0, 0, 0, .goto 19), (15, 0, 5, 0, 0, 0, .astore 5), (17, 0, 0, 0, 1, 0, .iconst 1), (18, 0, 0, 0, 0, 0, .ireturn), (19, 0, 5, 0, 0, 0, .astore 5), (21, 0, 0, 0, 2, 0, .iconst 2), (22, 0, 0, 0, 0, 0, .ireturn), (23, 0, 5, 0, 0, 0, .astore 5), (25, 0, 0, 0, 3, 0, .iconst 3), (26, 0, 0, 0, 0, 0, .ireturn), (27, 0, 5, 0, 0, 0, .astore 5), (29, 0, 0, 0, 4, 0, .iconst 4), (30, 0, 0, 0, 0, 0, .ireturn), (31, 0, 0, 0, 0, 0, .iconst 0), (32, 0, 0, 0, 0, 0, .ireturn)]
set_option maxRecDepth 100000 in
theorem okL_withdraw : hl_ok cL_withdraw RL 6 false pL_withdraw = true := by decide +kernel
def pL_transfer : List hl_I := [(0, 0, 5, 0, 0, 0, .aload 5), (2, 0, 0, 0, 0, 0, .iconst 0), (3, 0, 0, 0, 0, 0, .aload_n 0), (4, 0, 1, 0, 0, 0, .iload_n 1), (5, 0, 2, 0, 0, 0, .iload_n 2), (6, 0, 3, 0, 0, 0, .iload_n 3), (7, 0, 4, 0, 0, 0, .iload 4), (9, 0, 0, 671, 0, 0, .invokevirtual 34), (12, 0, 0, 0, 0, 0, .i2l), (13, 0, 0, 0, 0, 0, .lastore), (14, 33, 0, 0, 0, 0, .goto 19), (17, 0, 6, 0, 0, 0, .astore 6), (19, 0, 0, 0, 1, 0, .iconst 1), (20, 0, 0, 0, 0, 0, .ireturn), (21, 0, 6, 0, 0, 0, .astore 6), (23, 0, 0, 0, 2, 0, .iconst 2), (24, 0, 0, 0, 0, 0, .ireturn), (25, 0, 6, 0, 0, 0, .astore 6), (27, 0, 0, 0, 3, 0, .iconst 3), (28, 0, 0, 0, 0, 0, .ireturn), (29, 0, 6, 0, 0, 0, .astore 6), (31, 0, 0, 0, 4, 0, .iconst 4), (32, 0, 0, 0, 0, 0, .ireturn), (33, 0, 0, 0, 0, 0, .iconst 0), (34, 0, 0, 0, 0, 0, .ireturn)]
set_option maxRecDepth 100000 in
theorem okL_transfer : hl_ok cL_transfer RL 7 false pL_transfer = true := by decide +kernel
def pL_hold : List hl_I := [(0, 0, 6, 0, 0, 0, .aload 6), (2, 0, 0, 0, 0, 0, .iconst 0), (3, 0, 0, 0, 0, 0, .aload_n 0), (4, 0, 1, 0, 0, 0, .iload_n 1), (5, 0, 2, 0, 0, 0, .iload_n 2), (6, 0, 3, 0, 0, 0, .iload_n 3), (7, 0, 4, 0, 0, 0, .iload 4), (9, 0, 5, 0, 0, 0, .iload 5), (11, 0, 0, 688, 0, 0, .invokevirtual 38), (14, 0, 0, 0, 0, 0, .i2l), (15, 0, 0, 0, 0, 0, .lastore), (16, 35, 0, 0, 0, 0, .goto 19), (19, 0, 7, 0, 0, 0, .astore 7), (21, 0, 0, 0, 1, 0, .iconst 1), (22, 0, 0, 0, 0, 0, .ireturn), (23, 0, 7, 0, 0, 0, .astore 7), (25, 0, 0, 0, 2, 0, .iconst 2), (26, 0, 0, 0, 0, 0, .ireturn), (27, 0, 7, 0, 0, 0, .astore 7), (29, 0, 0, 0, 3, 0, .iconst 3), (30, 0, 0, 0, 0, 0, .ireturn), (31, 0, 7, 0, 0, 0, .astore 7), (33, 0, 0, 0, 4, 0, .iconst 4), (34, 0, 0, 0, 0, 0, .ireturn), (35, 0, 0, 0, 0, 0, .iconst 0), (36, 0, 0, 0, 0, 0, .ireturn)]
set_option maxRecDepth 100000 in
theorem okL_hold : hl_ok cL_hold RL 8 false pL_hold = true := by decide +kernel
def pL_capture : List hl_I := [(0, 0, 4, 0, 0, 0, .aload 4), (2, 0, 0, 0, 0, 0, .iconst 0), (3, 0, 0, 0, 0, 0, .aload_n 0), (4, 0, 1, 0, 0, 0, .iload_n 1), (5, 0, 2, 0, 0, 0, .iload_n 2), (6, 0, 3, 0, 0, 0, .iload_n 3), (7, 0, 0, 702, 0, 0, .invokevirtual 42), (10, 0, 0, 0, 0, 0, .i2l), (11, 0, 0, 0, 0, 0, .lastore), (12, 35, 0, 0, 0, 0, .goto 23), (15, 0, 5, 0, 0, 0, .astore 5), (17, 0, 0, 0, 1, 0, .iconst 1), (18, 0, 0, 0, 0, 0, .ireturn), (19, 0, 5, 0, 0, 0, .astore 5), (21, 0, 0, 0, 2, 0, .iconst 2), (22, 0, 0, 0, 0, 0, .ireturn), (23, 0, 5, 0, 0, 0, .astore 5), (25, 0, 0, 0, 3, 0, .iconst 3), (26, 0, 0, 0, 0, 0, .ireturn), (27, 0, 5, 0, 0, 0, .astore 5), (29, 0, 0, 0, 4, 0, .iconst 4), (30, 0, 0, 0, 0, 0, .ireturn), (31, 0, 5, 0, 0, 0, .astore 5), (33, 0, 0, 0, 5, 0, .iconst 5), (34, 0, 0, 0, 0, 0, .ireturn), (35, 0, 0, 0, 0, 0, .iconst 0), (36, 0, 0, 0, 0, 0, .ireturn)]
set_option maxRecDepth 100000 in
theorem okL_capture : hl_ok cL_capture RL 6 false pL_capture = true := by decide +kernel
def pL_release : List hl_I := [(0, 0, 2, 0, 0, 0, .aload_n 2), (1, 0, 0, 0, 0, 0, .iconst 0), (2, 0, 0, 0, 0, 0, .aload_n 0), (3, 0, 1, 0, 0, 0, .iload_n 1), (4, 0, 0, 737, 0, 0, .invokevirtual 47), (7, 0, 0, 0, 0, 0, .i2l), (8, 0, 0, 0, 0, 0, .lastore), (9, 18, 0, 0, 0, 0, .goto 9), (12, 0, 3, 0, 0, 0, .astore_n 3), (13, 0, 0, 0, 1, 0, .iconst 1), (14, 0, 0, 0, 0, 0, .ireturn), (15, 0, 3, 0, 0, 0, .astore_n 3), (16, 0, 0, 0, 2, 0, .iconst 2), (17, 0, 0, 0, 0, 0, .ireturn), (18, 0, 0, 0, 0, 0, .iconst 0), (19, 0, 0, 0, 0, 0, .ireturn)]
set_option maxRecDepth 100000 in
theorem okL_release : hl_ok cL_release RL 4 false pL_release = true := by decide +kernel
def pL_reverse : List hl_I := [(0, 0, 3, 0, 0, 0, .aload_n 3), (1, 0, 0, 0, 0, 0, .iconst 0), (2, 0, 0, 0, 0, 0, .aload_n 0), (3, 0, 1, 0, 0, 0, .iload_n 1), (4, 0, 2, 0, 0, 0, .iload_n 2), (5, 0, 0, 745, 0, 0, .invokevirtual 51), (8, 0, 0, 0, 0, 0, .i2l), (9, 0, 0, 0, 0, 0, .lastore), (10, 33, 0, 0, 0, 0, .goto 23), (13, 0, 4, 0, 0, 0, .astore 4), (15, 0, 0, 0, 1, 0, .iconst 1), (16, 0, 0, 0, 0, 0, .ireturn), (17, 0, 4, 0, 0, 0, .astore 4), (19, 0, 0, 0, 2, 0, .iconst 2), (20, 0, 0, 0, 0, 0, .ireturn), (21, 0, 4, 0, 0, 0, .astore 4), (23, 0, 0, 0, 3, 0, .iconst 3), (24, 0, 0, 0, 0, 0, .ireturn), (25, 0, 4, 0, 0, 0, .astore 4), (27, 0, 0, 0, 4, 0, .iconst 4), (28, 0, 0, 0, 0, 0, .ireturn), (29, 0, 4, 0, 0, 0, .astore 4), (31, 0, 0, 0, 5, 0, .iconst 5), (32, 0, 0, 0, 0, 0, .ireturn), (33, 0, 0, 0, 0, 0, .iconst 0), (34, 0, 0, 0, 0, 0, .ireturn)]
set_option maxRecDepth 100000 in
theorem okL_reverse : hl_ok cL_reverse RL 5 false pL_reverse = true := by decide +kernel
def pL_addPayment : List hl_I := [(0, 0, 4, 0, 0, 0, .aload 4), (2, 0, 0, 0, 0, 0, .iconst 0), (3, 0, 0, 0, 0, 0, .aload_n 0), (4, 0, 1, 0, 0, 0, .iload_n 1), (5, 0, 2, 0, 0, 0, .iload_n 2), (6, 0, 3, 0, 0, 0, .iload_n 3), (7, 0, 0, 763, 0, 0, .invokevirtual 54), (10, 0, 0, 0, 0, 0, .i2l), (11, 0, 0, 0, 0, 0, .lastore), (12, 27, 0, 0, 0, 0, .goto 15), (15, 0, 5, 0, 0, 0, .astore 5), (17, 0, 0, 0, 1, 0, .iconst 1), (18, 0, 0, 0, 0, 0, .ireturn), (19, 0, 5, 0, 0, 0, .astore 5), (21, 0, 0, 0, 2, 0, .iconst 2), (22, 0, 0, 0, 0, 0, .ireturn), (23, 0, 5, 0, 0, 0, .astore 5), (25, 0, 0, 0, 3, 0, .iconst 3), (26, 0, 0, 0, 0, 0, .ireturn), (27, 0, 0, 0, 0, 0, .iconst 0), (28, 0, 0, 0, 0, 0, .ireturn)]
set_option maxRecDepth 100000 in
theorem okL_addPayment : hl_ok cL_addPayment RL 6 false pL_addPayment = true := by decide +kernel
def pL_removePayment : List hl_I := [(0, 0, 2, 0, 0, 0, .aload_n 2), (1, 0, 0, 0, 0, 0, .iconst 0), (2, 0, 0, 0, 0, 0, .aload_n 0), (3, 0, 1, 0, 0, 0, .iload_n 1), (4, 0, 0, 776, 0, 0, .invokevirtual 57), (7, 0, 0, 0, 0, 0, .i2l), (8, 0, 0, 0, 0, 0, .lastore), (9, 15, 0, 0, 0, 0, .goto 6), (12, 0, 3, 0, 0, 0, .astore_n 3), (13, 0, 0, 0, 1, 0, .iconst 1), (14, 0, 0, 0, 0, 0, .ireturn), (15, 0, 0, 0, 0, 0, .iconst 0), (16, 0, 0, 0, 0, 0, .ireturn)]
set_option maxRecDepth 100000 in
theorem okL_removePayment : hl_ok cL_removePayment RL 4 false pL_removePayment = true := by decide +kernel
def pL_settle : List hl_I := [(0, 0, 2, 0, 0, 0, .aload_n 2), (1, 0, 0, 0, 0, 0, .iconst 0), (2, 0, 0, 0, 0, 0, .aload_n 0), (3, 0, 1, 0, 0, 0, .iload_n 1), (4, 0, 0, 789, 0, 0, .invokevirtual 60), (7, 0, 0, 0, 0, 0, .i2l), (8, 0, 0, 0, 0, 0, .lastore), (9, 18, 0, 0, 0, 0, .goto 9), (12, 0, 3, 0, 0, 0, .astore_n 3), (13, 0, 0, 0, 1, 0, .iconst 1), (14, 0, 0, 0, 0, 0, .ireturn), (15, 0, 3, 0, 0, 0, .astore_n 3), (16, 0, 0, 0, 2, 0, .iconst 2), (17, 0, 0, 0, 0, 0, .ireturn), (18, 0, 0, 0, 0, 0, .iconst 0), (19, 0, 0, 0, 0, 0, .ireturn)]
set_option maxRecDepth 100000 in
theorem okL_settle : hl_ok cL_settle RL 4 false pL_settle = true := by decide +kernel
def pL_netOf : List hl_I := [(0, 0, 2, 0, 0, 0, .aload_n 2), (1, 0, 0, 0, 0, 0, .iconst 0), (2, 0, 0, 0, 0, 0, .aload_n 0), (3, 0, 1, 0, 0, 0, .iload_n 1), (4, 0, 0, 797, 0, 0, .invokevirtual 63), (7, 0, 0, 0, 0, 0, .lastore), (8, 14, 0, 0, 0, 0, .goto 6), (11, 0, 3, 0, 0, 0, .astore_n 3), (12, 0, 0, 0, 1, 0, .iconst 1), (13, 0, 0, 0, 0, 0, .ireturn), (14, 0, 0, 0, 0, 0, .iconst 0), (15, 0, 0, 0, 0, 0, .ireturn)]
set_option maxRecDepth 100000 in
theorem okL_netOf : hl_ok cL_netOf RL 4 false pL_netOf = true := by decide +kernel
def pL_balance : List hl_I := [(0, 0, 2, 0, 0, 0, .aload_n 2), (1, 0, 0, 0, 0, 0, .iconst 0), (2, 0, 0, 0, 0, 0, .aload_n 0), (3, 0, 1, 0, 0, 0, .iload_n 1), (4, 0, 0, 804, 0, 0, .invokevirtual 67), (7, 0, 0, 0, 0, 0, .lastore), (8, 14, 0, 0, 0, 0, .goto 6), (11, 0, 3, 0, 0, 0, .astore_n 3), (12, 0, 0, 0, 1, 0, .iconst 1), (13, 0, 0, 0, 0, 0, .ireturn), (14, 0, 0, 0, 0, 0, .iconst 0), (15, 0, 0, 0, 0, 0, .ireturn)]
set_option maxRecDepth 100000 in
theorem okL_balance : hl_ok cL_balance RL 4 false pL_balance = true := by decide +kernel
def pL_available : List hl_I := [(0, 0, 2, 0, 0, 0, .aload_n 2), (1, 0, 0, 0, 0, 0, .iconst 0), (2, 0, 0, 0, 0, 0, .aload_n 0), (3, 0, 1, 0, 0, 0, .iload_n 1), (4, 0, 0, 811, 0, 0, .invokevirtual 70), (7, 0, 0, 0, 0, 0, .lastore), (8, 14, 0, 0, 0, 0, .goto 6), (11, 0, 3, 0, 0, 0, .astore_n 3), (12, 0, 0, 0, 1, 0, .iconst 1), (13, 0, 0, 0, 0, 0, .ireturn), (14, 0, 0, 0, 0, 0, .iconst 0), (15, 0, 0, 0, 0, 0, .ireturn)]
set_option maxRecDepth 100000 in
theorem okL_available : hl_ok cL_available RL 4 false pL_available = true := by decide +kernel
def pL_balanceByReplay : List hl_I := [(0, 0, 2, 0, 0, 0, .aload_n 2), (1, 0, 0, 0, 0, 0, .iconst 0), (2, 0, 0, 0, 0, 0, .aload_n 0), (3, 0, 1, 0, 0, 0, .iload_n 1), (4, 0, 0, 818, 0, 0, .invokevirtual 73), (7, 0, 0, 0, 0, 0, .lastore), (8, 14, 0, 0, 0, 0, .goto 6), (11, 0, 3, 0, 0, 0, .astore_n 3), (12, 0, 0, 0, 1, 0, .iconst 1), (13, 0, 0, 0, 0, 0, .ireturn), (14, 0, 0, 0, 0, 0, .iconst 0), (15, 0, 0, 0, 0, 0, .ireturn)]
set_option maxRecDepth 100000 in
theorem okL_balanceByReplay : hl_ok cL_balanceByReplay RL 4 false pL_balanceByReplay = true := by decide +kernel
def pL_balanceAt : List hl_I := [(0, 0, 3, 0, 0, 0, .aload_n 3), (1, 0, 0, 0, 0, 0, .iconst 0), (2, 0, 0, 0, 0, 0, .aload_n 0), (3, 0, 1, 0, 0, 0, .iload_n 1), (4, 0, 2, 0, 0, 0, .iload_n 2), (5, 0, 0, 833, 0, 0, .invokevirtual 76), (8, 0, 0, 0, 0, 0, .lastore), (9, 20, 0, 0, 0, 0, .goto 11), (12, 0, 4, 0, 0, 0, .astore 4), (14, 0, 0, 0, 1, 0, .iconst 1), (15, 0, 0, 0, 0, 0, .ireturn), (16, 0, 4, 0, 0, 0, .astore 4), (18, 0, 0, 0, 2, 0, .iconst 2), (19, 0, 0, 0, 0, 0, .ireturn), (20, 0, 0, 0, 0, 0, .iconst 0), (21, 0, 0, 0, 0, 0, .ireturn)]
set_option maxRecDepth 100000 in
theorem okL_balanceAt : hl_ok cL_balanceAt RL 5 false pL_balanceAt = true := by decide +kernel
def pL_houseBalance : List hl_I := [(0, 0, 3, 0, 0, 0, .aload_n 3), (1, 0, 0, 0, 0, 0, .iconst 0), (2, 0, 0, 0, 0, 0, .aload_n 0), (3, 0, 1, 0, 0, 0, .iload_n 1), (4, 0, 2, 0, 0, 0, .iload_n 2), (5, 0, 0, 841, 0, 0, .invokevirtual 80), (8, 0, 0, 0, 0, 0, .lastore), (9, 16, 0, 0, 0, 0, .goto 7), (12, 0, 4, 0, 0, 0, .astore 4), (14, 0, 0, 0, 1, 0, .iconst 1), (15, 0, 0, 0, 0, 0, .ireturn), (16, 0, 0, 0, 0, 0, .iconst 0), (17, 0, 0, 0, 0, 0, .ireturn)]
set_option maxRecDepth 100000 in
theorem okL_houseBalance : hl_ok cL_houseBalance RL 5 false pL_houseBalance = true := by decide +kernel
def pL_worth : List hl_I := [(0, 0, 2, 0, 0, 0, .aload_n 2), (1, 0, 0, 0, 0, 0, .iconst 0), (2, 0, 0, 0, 0, 0, .aload_n 0), (3, 0, 1, 0, 0, 0, .iload_n 1), (4, 0, 0, 848, 0, 0, .invokevirtual 84), (7, 0, 0, 0, 0, 0, .lastore), (8, 14, 0, 0, 0, 0, .goto 6), (11, 0, 3, 0, 0, 0, .astore_n 3), (12, 0, 0, 0, 1, 0, .iconst 1), (13, 0, 0, 0, 0, 0, .ireturn), (14, 0, 0, 0, 0, 0, .iconst 0), (15, 0, 0, 0, 0, 0, .ireturn)]
set_option maxRecDepth 100000 in
theorem okL_worth : hl_ok cL_worth RL 4 false pL_worth = true := by decide +kernel
def pL_kindOf : List hl_I := [(0, 0, 2, 0, 0, 0, .aload_n 2), (1, 0, 0, 0, 0, 0, .iconst 0), (2, 0, 0, 0, 0, 0, .aload_n 0), (3, 0, 1, 0, 0, 0, .iload_n 1), (4, 0, 0, 855, 0, 0, .invokevirtual 87), (7, 0, 0, 0, 0, 0, .i2l), (8, 0, 0, 0, 0, 0, .lastore), (9, 15, 0, 0, 0, 0, .goto 6), (12, 0, 3, 0, 0, 0, .astore_n 3), (13, 0, 0, 0, 1, 0, .iconst 1), (14, 0, 0, 0, 0, 0, .ireturn), (15, 0, 0, 0, 0, 0, .iconst 0), (16, 0, 0, 0, 0, 0, .ireturn)]
set_option maxRecDepth 100000 in
theorem okL_kindOf : hl_ok cL_kindOf RL 4 false pL_kindOf = true := by decide +kernel
def pL_payerOf : List hl_I := [(0, 0, 2, 0, 0, 0, .aload_n 2), (1, 0, 0, 0, 0, 0, .iconst 0), (2, 0, 0, 0, 0, 0, .aload_n 0), (3, 0, 1, 0, 0, 0, .iload_n 1), (4, 0, 0, 862, 0, 0, .invokevirtual 91), (7, 0, 0, 0, 0, 0, .i2l), (8, 0, 0, 0, 0, 0, .lastore), (9, 18, 0, 0, 0, 0, .goto 9), (12, 0, 3, 0, 0, 0, .astore_n 3), (13, 0, 0, 0, 1, 0, .iconst 1), (14, 0, 0, 0, 0, 0, .ireturn), (15, 0, 3, 0, 0, 0, .astore_n 3), (16, 0, 0, 0, 2, 0, .iconst 2), (17, 0, 0, 0, 0, 0, .ireturn), (18, 0, 0, 0, 0, 0, .iconst 0), (19, 0, 0, 0, 0, 0, .ireturn)]
set_option maxRecDepth 100000 in
theorem okL_payerOf : hl_ok cL_payerOf RL 4 false pL_payerOf = true := by decide +kernel
def pL_payeeOf : List hl_I := [(0, 0, 2, 0, 0, 0, .aload_n 2), (1, 0, 0, 0, 0, 0, .iconst 0), (2, 0, 0, 0, 0, 0, .aload_n 0), (3, 0, 1, 0, 0, 0, .iload_n 1), (4, 0, 0, 870, 0, 0, .invokevirtual 94), (7, 0, 0, 0, 0, 0, .i2l), (8, 0, 0, 0, 0, 0, .lastore), (9, 18, 0, 0, 0, 0, .goto 9), (12, 0, 3, 0, 0, 0, .astore_n 3), (13, 0, 0, 0, 1, 0, .iconst 1), (14, 0, 0, 0, 0, 0, .ireturn), (15, 0, 3, 0, 0, 0, .astore_n 3), (16, 0, 0, 0, 2, 0, .iconst 2), (17, 0, 0, 0, 0, 0, .ireturn), (18, 0, 0, 0, 0, 0, .iconst 0), (19, 0, 0, 0, 0, 0, .ireturn)]
set_option maxRecDepth 100000 in
theorem okL_payeeOf : hl_ok cL_payeeOf RL 4 false pL_payeeOf = true := by decide +kernel
def pL_paidOf : List hl_I := [(0, 0, 2, 0, 0, 0, .aload_n 2), (1, 0, 0, 0, 0, 0, .iconst 0), (2, 0, 0, 0, 0, 0, .aload_n 0), (3, 0, 1, 0, 0, 0, .iload_n 1), (4, 0, 0, 878, 0, 0, .invokevirtual 97), (7, 0, 0, 0, 0, 0, .i2l), (8, 0, 0, 0, 0, 0, .lastore), (9, 15, 0, 0, 0, 0, .goto 6), (12, 0, 3, 0, 0, 0, .astore_n 3), (13, 0, 0, 0, 1, 0, .iconst 1), (14, 0, 0, 0, 0, 0, .ireturn), (15, 0, 0, 0, 0, 0, .iconst 0), (16, 0, 0, 0, 0, 0, .ireturn)]
set_option maxRecDepth 100000 in
theorem okL_paidOf : hl_ok cL_paidOf RL 4 false pL_paidOf = true := by decide +kernel
def pL_receivedOf : List hl_I := [(0, 0, 2, 0, 0, 0, .aload_n 2), (1, 0, 0, 0, 0, 0, .iconst 0), (2, 0, 0, 0, 0, 0, .aload_n 0), (3, 0, 1, 0, 0, 0, .iload_n 1), (4, 0, 0, 885, 0, 0, .invokevirtual 100), (7, 0, 0, 0, 0, 0, .i2l), (8, 0, 0, 0, 0, 0, .lastore), (9, 15, 0, 0, 0, 0, .goto 6), (12, 0, 3, 0, 0, 0, .astore_n 3), (13, 0, 0, 0, 1, 0, .iconst 1), (14, 0, 0, 0, 0, 0, .ireturn), (15, 0, 0, 0, 0, 0, .iconst 0), (16, 0, 0, 0, 0, 0, .ireturn)]
set_option maxRecDepth 100000 in
theorem okL_receivedOf : hl_ok cL_receivedOf RL 4 false pL_receivedOf = true := by decide +kernel
def pL_reversalOf : List hl_I := [(0, 0, 2, 0, 0, 0, .aload_n 2), (1, 0, 0, 0, 0, 0, .iconst 0), (2, 0, 0, 0, 0, 0, .aload_n 0), (3, 0, 1, 0, 0, 0, .iload_n 1), (4, 0, 0, 892, 0, 0, .invokevirtual 103), (7, 0, 0, 0, 0, 0, .i2l), (8, 0, 0, 0, 0, 0, .lastore), (9, 18, 0, 0, 0, 0, .goto 9), (12, 0, 3, 0, 0, 0, .astore_n 3), (13, 0, 0, 0, 1, 0, .iconst 1), (14, 0, 0, 0, 0, 0, .ireturn), (15, 0, 3, 0, 0, 0, .astore_n 3), (16, 0, 0, 0, 2, 0, .iconst 2), (17, 0, 0, 0, 0, 0, .ireturn), (18, 0, 0, 0, 0, 0, .iconst 0), (19, 0, 0, 0, 0, 0, .ireturn)]
set_option maxRecDepth 100000 in
theorem okL_reversalOf : hl_ok cL_reversalOf RL 4 false pL_reversalOf = true := by decide +kernel
def pL_stateOf : List hl_I := [(0, 0, 2, 0, 0, 0, .aload_n 2), (1, 0, 0, 0, 0, 0, .iconst 0), (2, 0, 0, 0, 0, 0, .aload_n 0), (3, 0, 1, 0, 0, 0, .iload_n 1), (4, 0, 0, 900, 0, 0, .invokevirtual 106), (7, 0, 0, 0, 0, 0, .i2l), (8, 0, 0, 0, 0, 0, .lastore), (9, 15, 0, 0, 0, 0, .goto 6), (12, 0, 3, 0, 0, 0, .astore_n 3), (13, 0, 0, 0, 1, 0, .iconst 1), (14, 0, 0, 0, 0, 0, .ireturn), (15, 0, 0, 0, 0, 0, .iconst 0), (16, 0, 0, 0, 0, 0, .ireturn)]
set_option maxRecDepth 100000 in
theorem okL_stateOf : hl_ok cL_stateOf RL 4 false pL_stateOf = true := by decide +kernel
def pL_lastDayOf : List hl_I := [(0, 0, 2, 0, 0, 0, .aload_n 2), (1, 0, 0, 0, 0, 0, .iconst 0), (2, 0, 0, 0, 0, 0, .aload_n 0), (3, 0, 1, 0, 0, 0, .iload_n 1), (4, 0, 0, 907, 0, 0, .invokevirtual 109), (7, 0, 0, 0, 0, 0, .i2l), (8, 0, 0, 0, 0, 0, .lastore), (9, 15, 0, 0, 0, 0, .goto 6), (12, 0, 3, 0, 0, 0, .astore_n 3), (13, 0, 0, 0, 1, 0, .iconst 1), (14, 0, 0, 0, 0, 0, .ireturn), (15, 0, 0, 0, 0, 0, .iconst 0), (16, 0, 0, 0, 0, 0, .ireturn)]
set_option maxRecDepth 100000 in
theorem okL_lastDayOf : hl_ok cL_lastDayOf RL 4 false pL_lastDayOf = true := by decide +kernel
def pL_answerOf : List hl_I := [(0, 0, 2, 0, 0, 0, .aload_n 2), (1, 0, 0, 0, 0, 0, .iconst 0), (2, 0, 0, 0, 0, 0, .aload_n 0), (3, 0, 1, 0, 0, 0, .iload_n 1), (4, 0, 0, 914, 0, 0, .invokevirtual 112), (7, 0, 0, 0, 0, 0, .i2l), (8, 0, 0, 0, 0, 0, .lastore), (9, 15, 0, 0, 0, 0, .goto 6), (12, 0, 3, 0, 0, 0, .astore_n 3), (13, 0, 0, 0, 1, 0, .iconst 1), (14, 0, 0, 0, 0, 0, .ireturn), (15, 0, 0, 0, 0, 0, .iconst 0), (16, 0, 0, 0, 0, 0, .ireturn)]
set_option maxRecDepth 100000 in
theorem okL_answerOf : hl_ok cL_answerOf RL 4 false pL_answerOf = true := by decide +kernel
def pL_reversedShare : List hl_I := [(0, 0, 1, 0, 0, 0, .aload_n 1), (1, 0, 0, 0, 0, 0, .iconst 0), (2, 0, 0, 0, 0, 0, .aload_n 0), (3, 0, 0, 936, 0, 0, .invokevirtual 115), (6, 0, 0, 0, 0, 0, .f2d), (7, 0, 0, 0, 0, 0, .dastore), (8, 14, 0, 0, 0, 0, .goto 6), (11, 0, 2, 0, 0, 0, .astore_n 2), (12, 0, 0, 0, 1, 0, .iconst 1), (13, 0, 0, 0, 0, 0, .ireturn), (14, 0, 0, 0, 0, 0, .iconst 0), (15, 0, 0, 0, 0, 0, .ireturn)]
set_option maxRecDepth 100000 in
theorem okL_reversedShare : hl_ok cL_reversedShare RL 3 false pL_reversedShare = true := by decide +kernel
def pL_meanPaid : List hl_I := [(0, 0, 1, 0, 0, 0, .aload_n 1), (1, 0, 0, 0, 0, 0, .iconst 0), (2, 0, 0, 0, 0, 0, .aload_n 0), (3, 0, 0, 951, 0, 0, .invokevirtual 121), (6, 0, 0, 0, 0, 0, .dastore), (7, 13, 0, 0, 0, 0, .goto 6), (10, 0, 2, 0, 0, 0, .astore_n 2), (11, 0, 0, 0, 1, 0, .iconst 1), (12, 0, 0, 0, 0, 0, .ireturn), (13, 0, 0, 0, 0, 0, .iconst 0), (14, 0, 0, 0, 0, 0, .ireturn)]
set_option maxRecDepth 100000 in
theorem okL_meanPaid : hl_ok cL_meanPaid RL 3 false pL_meanPaid = true := by decide +kernel
end
section
/-! PART 05: rows by which the reader runs -/
section HS
variable {h : hl_H} {s : List Value} {r : List (Nat × Value)} {vs : List Value}
theorem hs_ii {x y : Int32} {k : Int32 → Int32 → List Value → Prop} : hl_ii (.int y :: .int x :: s) k = k x y s := rfl
theorem hs_i1 {x : Int32} {k : Int32 → List Value → Prop} : hl_i1 (.int x :: s) k = k x s := rfl
theorem hs_ll {x y : Int64} {k : Int64 → Int64 → List Value → Prop} : hl_ll (.long y :: .long x :: s) k = k x y s := rfl
theorem hs_l1 {x : Int64} {k : Int64 → List Value → Prop} : hl_l1 (.long x :: s) k = k x s := rfl
theorem hs_ff {x y : UInt32} {k : UInt32 → UInt32 → List Value → Prop} : hl_ff (.float y :: .float x :: s) k = k x y s := rfl
theorem hs_g1 {x : UInt32} {k : UInt32 → List Value → Prop} : hl_g1 (.float x :: s) k = k x s := rfl
theorem hs_dd {x y : UInt64} {k : UInt64 → UInt64 → List Value → Prop} : hl_dd (.double y :: .double x :: s) k = k x y s := rfl
theorem hs_d1 {x : UInt64} {k : UInt64 → List Value → Prop} : hl_d1 (.double x :: s) k = k x s := rfl
theorem hs_r1 {a : Nat} {k : Nat → List Value → Prop} : hl_r1 (.ref a :: s) k = k a s := rfl
theorem hs_rv {a : Nat} {k : Value → List Value → Prop} : hl_rv (.ref a :: s) k = k (.ref a) s := rfl
theorem hs_rv0 {k : Value → List Value → Prop} : hl_rv (.null :: s) k = k .null s := rfl
theorem hs_n1 {a : Nat} {kn k : List Value → Prop} : hl_n1 (.ref a :: s) kn k = k s := rfl
theorem hs_n0 {kn k : List Value → Prop} : hl_n1 (.null :: s) kn k = kn s := rfl
theorem hs_v1i {x : Int32} {k : Value → List Value → Prop} : hl_v1 (.int x :: s) k = k (.int x) s := by simp [hl_v1, Value.category]
theorem hs_v1r {a : Nat} {k : Value → List Value → Prop} : hl_v1 (.ref a :: s) k = k (.ref a) s := by simp [hl_v1, Value.category]
theorem hs_a1 {i : Int32} {a : Nat} {k : Int32 → Nat → List Value → Prop} : hl_a1 (.int i :: .ref a :: s) k = k i a s := rfl
theorem hs_d2l {x : Int64} {k : List Value → Prop} : hl_d2 (.long x :: s) k = k (.long x :: .long x :: s) := rfl
theorem hs_d2i {i : Int32} {a : Nat} {k : List Value → Prop} : hl_d2 (.int i :: .ref a :: s) k = k (.int i :: .ref a :: .int i :: .ref a :: s) := rfl
theorem hs_ri {x : Int32} {k : Int32 → Prop} : hl_ri (some (.int x)) k = k x := rfl
theorem hs_rl {x : Int64} {k : Int64 → Prop} : hl_rl (some (.long x)) k = k x := rfl
theorem hs_rg {x : UInt32} {k : UInt32 → Prop} : hl_rg (some (.float x)) k = k x := rfl
theorem hs_rd8 {x : UInt64} {k : UInt64 → Prop} : hl_rd8 (some (.double x)) k = k x := rfl
theorem hs_rr {a : Nat} {k : Value → Prop} : hl_rr (some (.ref a)) k = k (.ref a) := rfl
theorem hs_rn {k : Value → Prop} : hl_rr (some .null) k = k .null := rfl
def hl_ov (o : Option Value) (k : Value → Prop) : Prop := match o with | some v => k v | none => False
theorem hs_ov {v : Value} {k : Value → Prop} : hl_ov (some v) k = k v := rfl
theorem hs_gf {t u : Nat} {fs : List Value} {k : Value → Prop} : hl_gf (some (.inr (t, fs))) t u k = hl_ov fs[u]? k := by
  simp only [hl_gf, hl_ov, true_and]
  cases fs[u]? <;> rfl
def hl_po (o : Option hl_C) (t u : Nat) (k : List Value → Prop) : Prop := match o with | some (.inr (ci, fs)) => ci = t ∧ u < fs.length ∧ k fs | _ => False
theorem hs_po {t u : Nat} {fs : List Value} {k : List Value → Prop} : hl_po (some (.inr (t, fs))) t u k = (u < fs.length ∧ k fs) := by simp only [hl_po, true_and]
theorem hs_pfi {x : Int32} {a t u : Nat} {k : List Value → hl_H → Prop} : hl_pf (.int x :: .ref a :: s) h t u 0 k = hl_po (h a) t u (fun fs => k s (hl_set h a (.inr (t, fs.set u (.int x))))) := by
  cases hh : h a with
  | none => simp [hl_pf, hl_po, hh]
  | some q9 =>
    cases q9 with
    | inl x9 => simp [hl_pf, hl_po, hh]
    | inr o9 =>
      obtain ⟨ci, fs⟩ := o9
      simp only [hl_pf, hl_po, hh]
      apply propext
      constructor
      · rintro ⟨rfl, h1, -, h2⟩; exact ⟨rfl, h1, h2⟩
      · rintro ⟨rfl, h1, h2⟩; exact ⟨rfl, h1, Or.inl trivial, h2⟩
theorem hs_pfr {b a t u : Nat} {k : List Value → hl_H → Prop} : hl_pf (.ref b :: .ref a :: s) h t u 1 k = hl_po (h a) t u (fun fs => k s (hl_set h a (.inr (t, fs.set u (.ref b))))) := by
  cases hh : h a with
  | none => simp [hl_pf, hl_po, hh]
  | some q9 =>
    cases q9 with
    | inl x9 => simp [hl_pf, hl_po, hh]
    | inr o9 =>
      obtain ⟨ci, fs⟩ := o9
      simp only [hl_pf, hl_po, hh]
      apply propext
      constructor
      · rintro ⟨rfl, h1, -, h2⟩; exact ⟨rfl, h1, h2⟩
      · rintro ⟨rfl, h1, h2⟩; exact ⟨rfl, h1, trivial, h2⟩
theorem hs_pfc {x : Int32} {a t u : Nat} {k : List Value → hl_H → Prop} (hn : narrow .char (.int x) = .int x) (hf : fits .char (.int x) = true) : hl_pf (.int x :: .ref a :: s) h t u 2 k = hl_po (h a) t u (fun fs => k s (hl_set h a (.inr (t, fs.set u (.int x))))) := by
  cases hh : h a with
  | none => simp [hl_pf, hl_po, hh]
  | some q9 =>
    cases q9 with
    | inl x9 => simp [hl_pf, hl_po, hh]
    | inr o9 =>
      obtain ⟨ci, fs⟩ := o9
      simp only [hl_pf, hl_po, hh]
      apply propext
      constructor
      · rintro ⟨rfl, h1, -, h2⟩; exact ⟨rfl, h1, h2⟩
      · rintro ⟨rfl, h1, h2⟩; exact ⟨rfl, h1, Or.inr ⟨trivial, hn, hf⟩, h2⟩
theorem hs_ia {n : Nat} {f : Nat → Int32} {i : Int32} {k : Int32 → Prop} : hl_ia (some (.inl (n, .inl f))) i k = (vp_in i n ∧ k (f i.toNatClampNeg)) := rfl
theorem hs_la {n : Nat} {f : Nat → Int64} {i : Int32} {k : Int64 → Prop} : hl_la (some (.inl (n, .inr (.inl f)))) i k = (vp_in i n ∧ k (f i.toNatClampNeg)) := rfl
theorem hs_da {n : Nat} {f : Nat → UInt64} {i : Int32} {k : UInt64 → Prop} : hl_da (some (.inl (n, .inr (.inr (.inr (.inl f)))))) i k = (vp_in i n ∧ k (f i.toNatClampNeg)) := rfl
theorem hs_qa {n : Nat} {f : Nat → Option Nat} {i : Int32} {k : Value → Prop} : hl_qa (some (.inl (n, .inr (.inr (.inr (.inr f)))))) i k = (vp_in i n ∧ k (va_rf (f i.toNatClampNeg))) := rfl
theorem hs_al {x : vp_A} {k : Int32 → Prop} : hl_al (some (.inl x)) k = k (Int32.ofNat x.1) := rfl
def hl_so (o : Option hl_C) (k : vp_A → Prop) : Prop := match o with | some (.inl x) => k x | _ => False
def hl_iso (o : Option hl_C) (i : Int32) (k : Nat → (Nat → Int32) → Prop) : Prop := match o with | some (.inl (n, .inl f)) => vp_in i n ∧ k n f | _ => False
def hl_lso (o : Option hl_C) (i : Int32) (k : Nat → (Nat → Int64) → Prop) : Prop := match o with | some (.inl (n, .inr (.inl f))) => vp_in i n ∧ k n f | _ => False
def hl_dso (o : Option hl_C) (i : Int32) (k : Nat → (Nat → UInt64) → Prop) : Prop := match o with | some (.inl (n, .inr (.inr (.inr (.inl f))))) => vp_in i n ∧ k n f | _ => False
theorem hs_is {x i : Int32} {a : Nat} {k : List Value → hl_H → Prop} : hl_is (.int x :: .int i :: .ref a :: s) h k = hl_iso (h a) i (fun n f => k s (hl_set h a (.inl (n, .inl (upd f i.toNatClampNeg x))))) := rfl
theorem hs_ls {x : Int64} {i : Int32} {a : Nat} {k : List Value → hl_H → Prop} : hl_ls (.long x :: .int i :: .ref a :: s) h k = hl_lso (h a) i (fun n f => k s (hl_set h a (.inl (n, .inr (.inl (vp_updL f i.toNatClampNeg x)))))) := rfl
theorem hs_ds {x : UInt64} {i : Int32} {a : Nat} {k : List Value → hl_H → Prop} : hl_ds (.double x :: .int i :: .ref a :: s) h k = hl_dso (h a) i (fun n f => k s (hl_set h a (.inl (n, .inr (.inr (.inr (.inl (vf_upd f i.toNatClampNeg x)))))))) := rfl
theorem hs_iso {n : Nat} {f : Nat → Int32} {i : Int32} {k : Nat → (Nat → Int32) → Prop} : hl_iso (some (.inl (n, .inl f))) i k = (vp_in i n ∧ k n f) := rfl
theorem hs_lso {n : Nat} {f : Nat → Int64} {i : Int32} {k : Nat → (Nat → Int64) → Prop} : hl_lso (some (.inl (n, .inr (.inl f)))) i k = (vp_in i n ∧ k n f) := rfl
theorem hs_dso {n : Nat} {f : Nat → UInt64} {i : Int32} {k : Nat → (Nat → UInt64) → Prop} : hl_dso (some (.inl (n, .inr (.inr (.inr (.inl f)))))) i k = (vp_in i n ∧ k n f) := rfl
theorem hs_set1 {a : Nat} {x : hl_C} : hl_set h a x a = some x := if_pos rfl
theorem hs_set2 {a b : Nat} {x : hl_C} (n : b ≠ a) : hl_set h a x b = h b := if_neg n
theorem hs_set3 {a : Nat} {x y : hl_C} : hl_set (hl_set h a x) a y = hl_set h a y := by
  funext q
  by_cases n : q = a
  · simp [hl_set, n]
  · simp [hl_set, n]
theorem hs_rd {j i : Nat} {v : Value} : hl_rd ((j, v) :: r) i = if j = i then some v else hl_rd r i := rfl
theorem hs_f1 {j i : Nat} {v : Value} : hl_f1 i ((j, v) :: r) = if j = i then hl_f1 i r else if j + 1 = i then (if v.category = 2 then hl_f1 i r else (j, v) :: hl_f1 i r) else (j, v) :: hl_f1 i r := rfl
theorem hs_f10 {i : Nat} : hl_f1 i [] = [] := rfl
theorem hs_f2 {j i : Nat} {v : Value} : hl_f2 i ((j, v) :: r) = if j = i then hl_f2 i r else if j = i + 1 then hl_f2 i r else if j + 1 = i then (if v.category = 2 then hl_f2 i r else (j, v) :: hl_f2 i r) else (j, v) :: hl_f2 i r := rfl
theorem hs_f20 {i : Nat} : hl_f2 i [] = [] := rfl
theorem hs_in0 {i : Nat} {v : Value} : hl_ins i v [] = [(i, v)] := rfl
theorem hs_in1 {i j : Nat} {v u : Value} : hl_ins i v ((j, u) :: r) = if i < j then (i, v) :: (j, u) :: r else (j, u) :: hl_ins i v r := rfl
theorem hs_lt {x y : Int64} : (lg_cmp x y < 0) = (x < y) := propext (by
  unfold lg_cmp
  simp only [gt_iff_lt, Int64.lt_iff_toInt_lt, ← Int64.toInt_inj]
  by_cases h1 : y.toInt < x.toInt
  · simp only [if_pos h1]; constructor
    · intro q; exact absurd q (by decide)
    · intro q; omega
  · by_cases h2 : x.toInt = y.toInt
    · simp only [if_neg h1, if_pos h2]; constructor
      · intro q; exact absurd q (by decide)
      · intro q; omega
    · simp only [if_neg h1, if_neg h2]; constructor
      · intro q; omega
      · intro q; decide)
theorem hs_le {x y : Int64} : (lg_cmp x y ≤ 0) = (x ≤ y) := propext (by
  unfold lg_cmp
  simp only [gt_iff_lt, Int64.lt_iff_toInt_lt, Int64.le_iff_toInt_le, ← Int64.toInt_inj]
  by_cases h1 : y.toInt < x.toInt
  · simp only [if_pos h1]; constructor
    · intro q; exact absurd q (by decide)
    · intro q; omega
  · by_cases h2 : x.toInt = y.toInt
    · simp only [if_neg h1, if_pos h2]; constructor
      · intro q; omega
      · intro q; decide
    · simp only [if_neg h1, if_neg h2]; constructor
      · intro q; omega
      · intro q; decide)
theorem hs_ge {x y : Int64} : (0 ≤ lg_cmp x y) = (y ≤ x) := propext (lg_cmp_ge x y)
theorem hs_gt {x y : Int64} : (0 < lg_cmp x y) = (y < x) := propext (by
  unfold lg_cmp
  simp only [gt_iff_lt, Int64.lt_iff_toInt_lt, ← Int64.toInt_inj]
  by_cases h1 : y.toInt < x.toInt
  · simp only [if_pos h1]; constructor
    · intro q; omega
    · intro q; decide
  · by_cases h2 : x.toInt = y.toInt
    · simp only [if_neg h1, if_pos h2]; constructor
      · intro q; exact absurd q (by decide)
      · intro q; omega
    · simp only [if_neg h1, if_neg h2]; constructor
      · intro q; exact absurd q (by decide)
      · intro q; omega)
theorem hs_eq {x y : Int64} : (lg_cmp x y = 0) = (x = y) := propext (by
  unfold lg_cmp
  simp only [gt_iff_lt, Int64.lt_iff_toInt_lt, ← Int64.toInt_inj]
  by_cases h1 : y.toInt < x.toInt
  · simp only [if_pos h1]; constructor
    · intro q; exact absurd q (by decide)
    · intro q; omega
  · by_cases h2 : x.toInt = y.toInt
    · simp only [if_neg h1, if_pos h2]
      exact ⟨fun _ => h2, fun _ => trivial⟩
    · simp only [if_neg h1, if_neg h2]; constructor
      · intro q; exact absurd q (by decide)
      · intro q; exact absurd q h2)
theorem hs_10 : ((1 : Int32) = 0) = False := by simp
theorem hs_00 : ((0 : Int32) = 0) = True := by simp
theorem hs_01 : ((0 : Int32) = 1) = False := by simp
theorem hs_av {i : Nat} : lv_args i [] = [] := rfl
theorem hs_ai {i : Nat} {x : Int32} : lv_args i (.int x :: vs) = (i, .int x) :: lv_args (i + 1) vs := rfl
theorem hs_ar {i : Nat} {x : Nat} : lv_args i (.ref x :: vs) = (i, .ref x) :: lv_args (i + 1) vs := rfl
theorem hs_an {i : Nat} : lv_args i (.null :: vs) = (i, .null) :: lv_args (i + 1) vs := rfl
theorem hs_aj {i : Nat} {x : Int64} : lv_args i (.long x :: vs) = (i, .long x) :: lv_args (i + 2) vs := rfl
theorem hs_ci {x : Int32} : (Value.int x).category = 1 := rfl
theorem hs_cr {x : Nat} : (Value.ref x).category = 1 := rfl
theorem hs_cn : Value.null.category = 1 := rfl
theorem hs_cj {x : Int64} : (Value.long x).category = 2 := rfl
theorem hs_cd {x : UInt64} : (Value.double x).category = 2 := rfl
theorem hs_cf {x : UInt32} : (Value.float x).category = 1 := rfl
theorem hs_q0 {a : Nat} : va_rf (some a) = .ref a := rfl
theorem hs_q1 : va_rf none = .null := rfl
end HS
end
section
/-! PART 06: the class Row -/
section RET
variable {G : hl_G} {l : Launch} {M : hl_M} {d k n : Nat} {Q : Option Value → hl_H → Prop} {X : String → hl_H → Prop}
variable {p : Program} {e : Env} {s : State} {m : MethodId} {args : Array Value} {below : List Frame} {meth : Method} {c : Code} {lv : List (Nat × Value)} {st : List Value} {h : hl_H} {ce sl pc : Nat}
/-- a call that reads alone -/
theorem hl_callR (B : hl_B G M d k n p s m args meth c) {N : hl_M} {d1 na idx kk : Nat} {As rest : List Value} {b ci : Nat} {v : Value} (hct : hl_Ct G l N d1 0 0 (.ref b :: As) (fun g => g = h) (fun r g => r = some v ∧ g = h) (fun _ _ => False)) (hm : hl_mv N na) (hd : decode M.2.1 pc = .ok (.invokevirtual idx, 3)) (hk : hl_w kk (Jvm.Cond.methodLink M.1.cls idx N.1) = true)
    (hna : As.length = na) {fs : List Value} (hrec : h b = some (.inr (ci, fs))) (hcl : vwCl[ci]?.map (fun q => q.1) = some N.1.cls) (hrest : (rest.map fun v => v.category).sum ≤ 8) (hfr : d1 + 1 ≤ d) (hlo : N.2.2.1 ≤ 21) (hce : ce ≤ k) (hsl : sl ≤ n)
    (hw : hl_GM G M d k n Q X p l e s m args below meth c (pc + 3) lv (v :: rest) h ce sl) : hl_GM G M d k n Q X p l e s m args below meth c pc lv (As.reverse ++ .ref b :: rest) h ce sl :=
  hl_callV B hct hm hd hk rfl hna hrec hcl hrest hfr hlo hce hsl rfl (fun r h' q => by
    obtain ⟨rfl, rfl⟩ := q
    exact hw) (fun E h' q => q.elim)
end RET
/-- an index within, from the two tests of the code -/
theorem hl_vin {i : Int32} {N : Nat} (hN : N < 2 ^ 31) (h1 : ¬ i < 0) (h2 : ¬ Int32.ofNat N ≤ i) : vp_in i N := by
  obtain ⟨j, hj, rfl⟩ := nI_of h1
  refine vp_in_nI ?_ hN
  rcases Nat.lt_or_ge j N with q | q
  · exact q
  · exact absurd (nI_le q hj) h2
def row_at (N : Nat) (f : Nat → Int64) (i : Int32) : Int64 := if i < 0 then 0 else if Int32.ofNat N ≤ i then 0 else f i.toNatClampNeg
def row_intAt (N : Nat) (f : Nat → Int64) (i : Int32) : Int32 := if i < 0 then 0 else if Int32.ofNat N ≤ i then 0 else (f i.toNatClampNeg).toInt32
def row_put (N : Nat) (f : Nat → Int64) (i : Int32) (v : Int64) : Nat → Int64 := if i < 0 then f else if Int32.ofNat N ≤ i then f else vp_updL f i.toNatClampNeg v
def row_add (N : Nat) (f : Nat → Int64) (i : Int32) (v : Int64) : Nat → Int64 := if i < 0 then f else if Int32.ofNat N ≤ i then f else vp_updL f i.toNatClampNeg (f i.toNatClampNeg + v)
set_option maxRecDepth 20000 in
theorem ct_X6_at {G : hl_G} {l : Launch} {h : hl_H} {r ar N : Nat} {f : Nat → Int64} {i : Int32} (h1 : h r = some (.inr (8, [.ref ar]))) (h2 : h ar = some (.inl (N, .inr (.inl f)))) (hN : N < 2 ^ 31) :
    hl_Ct G l mX6_at 0 0 0 [.ref r, .int i] (fun g => g = h) (fun v g => v = some (.long (row_at N f i)) ∧ g = h) (fun _ _ => False) := by
  refine hl_body (by decide +kernel) (Nat.le_of_ble_eq_true rfl) ?_
  intro p e s m args below meth c B g hg
  subst hg
  refine hl_seg B okX6_at (fun q => nomatch q) 0 1000 rfl ?_
  simp only [pX6_at, List.drop_zero, List.drop_succ_cons, hl_wp, hs_ii, hs_i1, hs_ll, hs_l1, hs_ff, hs_g1, hs_dd, hs_d1, hs_r1, hs_n1, hs_n0, hs_v1i, hs_v1r, hs_a1, hs_d2l, hs_d2i, hs_ri, hs_rl, hs_rg, hs_rd8, hs_rr, hs_rn, hs_ov, hs_gf, hs_po, hs_pfi, hs_pfr, hs_ia, hs_la, hs_da, hs_qa, hs_al, hs_is, hs_ls, hs_ds, hs_iso, hs_lso, hs_dso, hs_rd, hs_f1, hs_f10, hs_f2, hs_f20, hs_av, hs_ai, hs_ar, hs_an, hs_aj, hs_ci, hs_cr, hs_cn, hs_cj, hs_cd, hs_cf, hs_q0, hs_q1, reduceIte, Nat.reduceEqDiff, Nat.reduceAdd, Nat.reduceLT, eq_self, List.getElem?_cons_zero, List.getElem?_cons_succ, List.set_cons_zero, List.set_cons_succ, List.length_cons, List.length_nil, Option.toList_some, Option.toList_none, List.cons_append, List.nil_append, Nat.zero_add, Nat.add_zero, h1, h2]
  refine ⟨fun c1 => ?_, fun c1 => ⟨fun c2 => ?_, fun c2 => ⟨hl_vin hN c1 c2, ?_⟩⟩⟩
  · refine hl_seg B okX6_at (fun q => nomatch q) 12 1000 rfl ?_
    simp only [pX6_at, List.drop_zero, List.drop_succ_cons, hl_wp, hs_ii, hs_i1, hs_ll, hs_l1, hs_ff, hs_g1, hs_dd, hs_d1, hs_r1, hs_n1, hs_n0, hs_v1i, hs_v1r, hs_a1, hs_d2l, hs_d2i, hs_ri, hs_rl, hs_rg, hs_rd8, hs_rr, hs_rn, hs_ov, hs_gf, hs_po, hs_pfi, hs_pfr, hs_ia, hs_la, hs_da, hs_qa, hs_al, hs_is, hs_ls, hs_ds, hs_iso, hs_lso, hs_dso, hs_rd, hs_f1, hs_f10, hs_f2, hs_f20, hs_av, hs_ai, hs_ar, hs_an, hs_aj, hs_ci, hs_cr, hs_cn, hs_cj, hs_cd, hs_cf, hs_q0, hs_q1, reduceIte, Nat.reduceEqDiff, Nat.reduceAdd, Nat.reduceLT, eq_self, List.getElem?_cons_zero, List.getElem?_cons_succ, List.set_cons_zero, List.set_cons_succ, List.length_cons, List.length_nil, Option.toList_some, Option.toList_none, List.cons_append, List.nil_append, Nat.zero_add, Nat.add_zero]
    exact hl_lret B rfl (hl_dec okX6_at 13 rfl) (Nat.le_refl _) (Nat.le_refl _) ⟨by simp only [row_at, if_pos c1], rfl⟩
  · refine hl_seg B okX6_at (fun q => nomatch q) 12 1000 rfl ?_
    simp only [pX6_at, List.drop_zero, List.drop_succ_cons, hl_wp, hs_ii, hs_i1, hs_ll, hs_l1, hs_ff, hs_g1, hs_dd, hs_d1, hs_r1, hs_n1, hs_n0, hs_v1i, hs_v1r, hs_a1, hs_d2l, hs_d2i, hs_ri, hs_rl, hs_rg, hs_rd8, hs_rr, hs_rn, hs_ov, hs_gf, hs_po, hs_pfi, hs_pfr, hs_ia, hs_la, hs_da, hs_qa, hs_al, hs_is, hs_ls, hs_ds, hs_iso, hs_lso, hs_dso, hs_rd, hs_f1, hs_f10, hs_f2, hs_f20, hs_av, hs_ai, hs_ar, hs_an, hs_aj, hs_ci, hs_cr, hs_cn, hs_cj, hs_cd, hs_cf, hs_q0, hs_q1, reduceIte, Nat.reduceEqDiff, Nat.reduceAdd, Nat.reduceLT, eq_self, List.getElem?_cons_zero, List.getElem?_cons_succ, List.set_cons_zero, List.set_cons_succ, List.length_cons, List.length_nil, Option.toList_some, Option.toList_none, List.cons_append, List.nil_append, Nat.zero_add, Nat.add_zero]
    exact hl_lret B rfl (hl_dec okX6_at 13 rfl) (Nat.le_refl _) (Nat.le_refl _) ⟨by simp only [row_at, if_neg c1, if_pos c2], rfl⟩
  · exact hl_lret B rfl (hl_dec okX6_at 13 rfl) (Nat.le_refl _) (Nat.le_refl _) ⟨by simp only [row_at, if_neg c1, if_neg c2], rfl⟩
set_option maxRecDepth 20000 in
theorem ct_X6_intAt {G : hl_G} {l : Launch} {h : hl_H} {r ar N : Nat} {f : Nat → Int64} {i : Int32} (h1 : h r = some (.inr (8, [.ref ar]))) (h2 : h ar = some (.inl (N, .inr (.inl f)))) (hN : N < 2 ^ 31) :
    hl_Ct G l mX6_intAt 0 0 0 [.ref r, .int i] (fun g => g = h) (fun v g => v = some (.int (row_intAt N f i)) ∧ g = h) (fun _ _ => False) := by
  refine hl_body (by decide +kernel) (Nat.le_of_ble_eq_true rfl) ?_
  intro p e s m args below meth c B g hg
  subst hg
  refine hl_seg B okX6_intAt (fun q => nomatch q) 0 1000 rfl ?_
  simp only [pX6_intAt, List.drop_zero, List.drop_succ_cons, hl_wp, hs_ii, hs_i1, hs_ll, hs_l1, hs_ff, hs_g1, hs_dd, hs_d1, hs_r1, hs_n1, hs_n0, hs_v1i, hs_v1r, hs_a1, hs_d2l, hs_d2i, hs_ri, hs_rl, hs_rg, hs_rd8, hs_rr, hs_rn, hs_ov, hs_gf, hs_po, hs_pfi, hs_pfr, hs_ia, hs_la, hs_da, hs_qa, hs_al, hs_is, hs_ls, hs_ds, hs_iso, hs_lso, hs_dso, hs_rd, hs_f1, hs_f10, hs_f2, hs_f20, hs_av, hs_ai, hs_ar, hs_an, hs_aj, hs_ci, hs_cr, hs_cn, hs_cj, hs_cd, hs_cf, hs_q0, hs_q1, reduceIte, Nat.reduceEqDiff, Nat.reduceAdd, Nat.reduceLT, eq_self, List.getElem?_cons_zero, List.getElem?_cons_succ, List.set_cons_zero, List.set_cons_succ, List.length_cons, List.length_nil, Option.toList_some, Option.toList_none, List.cons_append, List.nil_append, Nat.zero_add, Nat.add_zero, h1, h2]
  refine ⟨fun c1 => ?_, fun c1 => ⟨fun c2 => ?_, fun c2 => ⟨hl_vin hN c1 c2, ?_⟩⟩⟩
  · refine hl_seg B okX6_intAt (fun q => nomatch q) 13 1000 rfl ?_
    simp only [pX6_intAt, List.drop_zero, List.drop_succ_cons, hl_wp, hs_ii, hs_i1, hs_ll, hs_l1, hs_ff, hs_g1, hs_dd, hs_d1, hs_r1, hs_n1, hs_n0, hs_v1i, hs_v1r, hs_a1, hs_d2l, hs_d2i, hs_ri, hs_rl, hs_rg, hs_rd8, hs_rr, hs_rn, hs_ov, hs_gf, hs_po, hs_pfi, hs_pfr, hs_ia, hs_la, hs_da, hs_qa, hs_al, hs_is, hs_ls, hs_ds, hs_iso, hs_lso, hs_dso, hs_rd, hs_f1, hs_f10, hs_f2, hs_f20, hs_av, hs_ai, hs_ar, hs_an, hs_aj, hs_ci, hs_cr, hs_cn, hs_cj, hs_cd, hs_cf, hs_q0, hs_q1, reduceIte, Nat.reduceEqDiff, Nat.reduceAdd, Nat.reduceLT, eq_self, List.getElem?_cons_zero, List.getElem?_cons_succ, List.set_cons_zero, List.set_cons_succ, List.length_cons, List.length_nil, Option.toList_some, Option.toList_none, List.cons_append, List.nil_append, Nat.zero_add, Nat.add_zero]
    exact hl_iret B rfl rfl (hl_dec okX6_intAt 14 rfl) (Nat.le_refl _) (Nat.le_refl _) ⟨by simp only [row_intAt, if_pos c1], rfl⟩
  · refine hl_seg B okX6_intAt (fun q => nomatch q) 13 1000 rfl ?_
    simp only [pX6_intAt, List.drop_zero, List.drop_succ_cons, hl_wp, hs_ii, hs_i1, hs_ll, hs_l1, hs_ff, hs_g1, hs_dd, hs_d1, hs_r1, hs_n1, hs_n0, hs_v1i, hs_v1r, hs_a1, hs_d2l, hs_d2i, hs_ri, hs_rl, hs_rg, hs_rd8, hs_rr, hs_rn, hs_ov, hs_gf, hs_po, hs_pfi, hs_pfr, hs_ia, hs_la, hs_da, hs_qa, hs_al, hs_is, hs_ls, hs_ds, hs_iso, hs_lso, hs_dso, hs_rd, hs_f1, hs_f10, hs_f2, hs_f20, hs_av, hs_ai, hs_ar, hs_an, hs_aj, hs_ci, hs_cr, hs_cn, hs_cj, hs_cd, hs_cf, hs_q0, hs_q1, reduceIte, Nat.reduceEqDiff, Nat.reduceAdd, Nat.reduceLT, eq_self, List.getElem?_cons_zero, List.getElem?_cons_succ, List.set_cons_zero, List.set_cons_succ, List.length_cons, List.length_nil, Option.toList_some, Option.toList_none, List.cons_append, List.nil_append, Nat.zero_add, Nat.add_zero]
    exact hl_iret B rfl rfl (hl_dec okX6_intAt 14 rfl) (Nat.le_refl _) (Nat.le_refl _) ⟨by simp only [row_intAt, if_neg c1, if_pos c2], rfl⟩
  · exact hl_iret B rfl rfl (hl_dec okX6_intAt 14 rfl) (Nat.le_refl _) (Nat.le_refl _) ⟨by simp only [row_intAt, if_neg c1, if_neg c2], rfl⟩
set_option maxRecDepth 20000 in
theorem ct_X6_put {G : hl_G} {l : Launch} {h : hl_H} {r ar N : Nat} {f : Nat → Int64} {i : Int32} {v : Int64} (h1 : h r = some (.inr (8, [.ref ar]))) (h2 : h ar = some (.inl (N, .inr (.inl f)))) (hN : N < 2 ^ 31) :
    hl_Ct G l mX6_put 0 0 0 [.ref r, .int i, .long v] (fun g => g = h) (fun v1 g => v1 = none ∧ g = hl_set h ar (.inl (N, .inr (.inl (row_put N f i v))))) (fun _ _ => False) := by
  refine hl_body (by decide +kernel) (Nat.le_of_ble_eq_true rfl) ?_
  intro p e s m args below meth c B g hg
  subst hg
  have hself : hl_set g ar (.inl (N, .inr (.inl f))) = g := by
    funext q
    by_cases hq : q = ar
    · subst hq; rw [hs_set1, h2]
    · rw [hs_set2 hq]
  refine hl_seg B okX6_put (fun q => nomatch q) 0 1000 rfl ?_
  simp only [pX6_put, List.drop_zero, List.drop_succ_cons, hl_wp, hs_ii, hs_i1, hs_ll, hs_l1, hs_ff, hs_g1, hs_dd, hs_d1, hs_r1, hs_n1, hs_n0, hs_v1i, hs_v1r, hs_a1, hs_d2l, hs_d2i, hs_ri, hs_rl, hs_rg, hs_rd8, hs_rr, hs_rn, hs_ov, hs_gf, hs_po, hs_pfi, hs_pfr, hs_ia, hs_la, hs_da, hs_qa, hs_al, hs_is, hs_ls, hs_ds, hs_iso, hs_lso, hs_dso, hs_rd, hs_f1, hs_f10, hs_f2, hs_f20, hs_av, hs_ai, hs_ar, hs_an, hs_aj, hs_ci, hs_cr, hs_cn, hs_cj, hs_cd, hs_cf, hs_q0, hs_q1, reduceIte, Nat.reduceEqDiff, Nat.reduceAdd, Nat.reduceLT, eq_self, List.getElem?_cons_zero, List.getElem?_cons_succ, List.set_cons_zero, List.set_cons_succ, List.length_cons, List.length_nil, Option.toList_some, Option.toList_none, List.cons_append, List.nil_append, Nat.zero_add, Nat.add_zero, h1, h2]
  refine ⟨fun c1 => ?_, fun c1 => ⟨fun c2 => ?_, fun c2 => ?_⟩⟩
  · exact hl_vret B rfl (hl_dec okX6_put 12 rfl) (Nat.le_refl _) (Nat.le_refl _) ⟨rfl, by simp only [row_put, if_pos c1, hself]⟩
  · exact hl_vret B rfl (hl_dec okX6_put 12 rfl) (Nat.le_refl _) (Nat.le_refl _) ⟨rfl, by simp only [row_put, if_neg c1, if_pos c2, hself]⟩
  · refine ⟨hl_vin hN c1 c2, ?_⟩
    exact hl_vret B rfl (hl_dec okX6_put 12 rfl) (Nat.le_refl _) (Nat.le_refl _) ⟨rfl, by simp only [row_put, if_neg c1, if_neg c2]⟩
set_option maxRecDepth 20000 in
theorem ct_X6_add {G : hl_G} {l : Launch} {h : hl_H} {r ar N : Nat} {f : Nat → Int64} {i : Int32} {v : Int64} (h1 : h r = some (.inr (8, [.ref ar]))) (h2 : h ar = some (.inl (N, .inr (.inl f)))) (hN : N < 2 ^ 31) :
    hl_Ct G l mX6_add 0 0 0 [.ref r, .int i, .long v] (fun g => g = h) (fun v1 g => v1 = none ∧ g = hl_set h ar (.inl (N, .inr (.inl (row_add N f i v))))) (fun _ _ => False) := by
  refine hl_body (by decide +kernel) (Nat.le_of_ble_eq_true rfl) ?_
  intro p e s m args below meth c B g hg
  subst hg
  have hself : hl_set g ar (.inl (N, .inr (.inl f))) = g := by
    funext q
    by_cases hq : q = ar
    · subst hq; rw [hs_set1, h2]
    · rw [hs_set2 hq]
  refine hl_seg B okX6_add (fun q => nomatch q) 0 1000 rfl ?_
  simp only [pX6_add, List.drop_zero, List.drop_succ_cons, hl_wp, hs_ii, hs_i1, hs_ll, hs_l1, hs_ff, hs_g1, hs_dd, hs_d1, hs_r1, hs_n1, hs_n0, hs_v1i, hs_v1r, hs_a1, hs_d2l, hs_d2i, hs_ri, hs_rl, hs_rg, hs_rd8, hs_rr, hs_rn, hs_ov, hs_gf, hs_po, hs_pfi, hs_pfr, hs_ia, hs_la, hs_da, hs_qa, hs_al, hs_is, hs_ls, hs_ds, hs_iso, hs_lso, hs_dso, hs_rd, hs_f1, hs_f10, hs_f2, hs_f20, hs_av, hs_ai, hs_ar, hs_an, hs_aj, hs_ci, hs_cr, hs_cn, hs_cj, hs_cd, hs_cf, hs_q0, hs_q1, reduceIte, Nat.reduceEqDiff, Nat.reduceAdd, Nat.reduceLT, eq_self, List.getElem?_cons_zero, List.getElem?_cons_succ, List.set_cons_zero, List.set_cons_succ, List.length_cons, List.length_nil, Option.toList_some, Option.toList_none, List.cons_append, List.nil_append, Nat.zero_add, Nat.add_zero, h1, h2]
  refine ⟨fun c1 => ?_, fun c1 => ⟨fun c2 => ?_, fun c2 => ?_⟩⟩
  · exact hl_vret B rfl (hl_dec okX6_add 15 rfl) (Nat.le_refl _) (Nat.le_refl _) ⟨rfl, by simp only [row_add, if_pos c1, hself]⟩
  · exact hl_vret B rfl (hl_dec okX6_add 15 rfl) (Nat.le_refl _) (Nat.le_refl _) ⟨rfl, by simp only [row_add, if_neg c1, if_pos c2, hself]⟩
  · refine ⟨hl_vin hN c1 c2, hl_vin hN c1 c2, ?_⟩
    exact hl_vret B rfl (hl_dec okX6_add 15 rfl) (Nat.le_refl _) (Nat.le_refl _) ⟨rfl, by simp only [row_add, if_neg c1, if_neg c2]⟩
end
section
/-! PART 07: the world of one LedgerStream -/
/-- the state: the rows (0-5 Books: currencies limits balances outsides exchanges rates; 6-12 Journal: kinds payers payees paid received days reversals; 13-17 Holds: payers payees amounts lastDays states; 18-20 Batch: payers payees amounts), the sizes (0 accounts, 1 transactions, 2 holds, 3 payments, 4 calls, 5 the day), the calls that are remembered (field j of call i) -/
abbrev LSt : Type := (Nat → Nat → Int64) × (Nat → Nat) × (Nat → Nat → Int32)
def ls_len (k : Nat) : Nat := if k < 3 then 10 else if k < 6 then 4 else if k < 13 then 150 else if k < 18 then 30 else if k < 21 then 12 else 10
/-- the cells of the object by their places: 0 itself, 1 books, 2 journal, 3 holds, 4 batch, 5 memory, 6 the row of calls, 7+k a row, 29+k its array; row 21 is 'sums' -/
def ls_cell (a ca : Nat → Nat) (σ : LSt) (sm : Nat → Int64) (k : Nat) : hl_C :=
  if k = 0 then .inr (9, [.ref (a 1), .ref (a 2), .ref (a 3), .ref (a 4), .ref (a 5), .ref (a 28), .int (nI (σ.2.1 5))])
  else if k = 1 then .inr (3, [.int (nI (σ.2.1 0)), .ref (a 7), .ref (a 8), .ref (a 9), .ref (a 10), .ref (a 11), .ref (a 12)])
  else if k = 2 then .inr (6, [.int (nI (σ.2.1 1)), .ref (a 13), .ref (a 14), .ref (a 15), .ref (a 16), .ref (a 17), .ref (a 18), .ref (a 19)])
  else if k = 3 then .inr (5, [.int (nI (σ.2.1 2)), .ref (a 20), .ref (a 21), .ref (a 22), .ref (a 23), .ref (a 24)])
  else if k = 4 then .inr (2, [.int (nI (σ.2.1 3)), .ref (a 25), .ref (a 26), .ref (a 27)])
  else if k = 5 then .inr (7, [.int (nI (σ.2.1 4)), .ref (a 6)])
  else if k = 6 then .inl (180, .inr (.inr (.inr (.inr (fun i => if i < σ.2.1 4 then some (ca i) else none)))))
  else if k < 29 then .inr (8, [.ref (a (k + 22))])
  else .inl (ls_len (k - 29), .inr (.inl (if k = 50 then sm else σ.1 (k - 29))))
def ls_call (σ : LSt) (i : Nat) : hl_C := .inr (4, [.int (σ.2.2 i 0), .int (σ.2.2 i 1), .int (σ.2.2 i 2), .int (σ.2.2 i 3), .int (σ.2.2 i 4), .int (σ.2.2 i 5), .int (σ.2.2 i 6), .int (σ.2.2 i 7)])
/-- the heap holds the object -/
def LSr (a ca : Nat → Nat) (σ : LSt) (h : hl_H) : Prop := ∃ sm : Nat → Int64, (∀ k : Nat, k < 51 → h (a k) = some (ls_cell a ca σ sm k)) ∧ ∀ i : Nat, i < σ.2.1 4 → h (ca i) = some (ls_call σ i)
/-- the addresses are apart, and h0 is elsewhere and stays -/
def LSd (a ca : Nat → Nat) (n : Nat) (h0 h : hl_H) : Prop := (∀ i j : Nat, i < 51 → j < 51 → a i = a j → i = j) ∧ (∀ i j : Nat, i < n → j < n → ca i = ca j → i = j) ∧ (∀ i j : Nat, i < 51 → j < n → a i ≠ ca j) ∧ (∀ i : Nat, i < 51 → h0 (a i) = none) ∧ (∀ i : Nat, i < n → h0 (ca i) = none) ∧ ∀ (q : Nat) (x : hl_C), h0 q = some x → h q = some x
def LSw (a ca : Nat → Nat) (σ : LSt) (h0 h : hl_H) : Prop := LSr a ca σ h ∧ LSd a ca (σ.2.1 4) h0 h
section LSR
variable {a ca : Nat → Nat} {σ : LSt} {h h0 : hl_H}
theorem LSr.f0 (q : LSr a ca σ h) : h (a 0) = some (.inr (9, [.ref (a 1), .ref (a 2), .ref (a 3), .ref (a 4), .ref (a 5), .ref (a 28), .int (nI (σ.2.1 5))])) := by
  obtain ⟨sm, q1, q2⟩ := q
  exact q1 0 (by decide)
theorem LSr.f1 (q : LSr a ca σ h) : h (a 1) = some (.inr (3, [.int (nI (σ.2.1 0)), .ref (a 7), .ref (a 8), .ref (a 9), .ref (a 10), .ref (a 11), .ref (a 12)])) := by
  obtain ⟨sm, q1, q2⟩ := q
  exact q1 1 (by decide)
theorem LSr.f2 (q : LSr a ca σ h) : h (a 2) = some (.inr (6, [.int (nI (σ.2.1 1)), .ref (a 13), .ref (a 14), .ref (a 15), .ref (a 16), .ref (a 17), .ref (a 18), .ref (a 19)])) := by
  obtain ⟨sm, q1, q2⟩ := q
  exact q1 2 (by decide)
theorem LSr.f3 (q : LSr a ca σ h) : h (a 3) = some (.inr (5, [.int (nI (σ.2.1 2)), .ref (a 20), .ref (a 21), .ref (a 22), .ref (a 23), .ref (a 24)])) := by
  obtain ⟨sm, q1, q2⟩ := q
  exact q1 3 (by decide)
theorem LSr.f4 (q : LSr a ca σ h) : h (a 4) = some (.inr (2, [.int (nI (σ.2.1 3)), .ref (a 25), .ref (a 26), .ref (a 27)])) := by
  obtain ⟨sm, q1, q2⟩ := q
  exact q1 4 (by decide)
theorem LSr.f5 (q : LSr a ca σ h) : h (a 5) = some (.inr (7, [.int (nI (σ.2.1 4)), .ref (a 6)])) := by
  obtain ⟨sm, q1, q2⟩ := q
  exact q1 5 (by decide)
theorem LSr.f6 (q : LSr a ca σ h) : h (a 6) = some (.inl (180, .inr (.inr (.inr (.inr (fun i => if i < σ.2.1 4 then some (ca i) else none)))))) := by
  obtain ⟨sm, q1, q2⟩ := q
  exact q1 6 (by decide)
theorem LSr.fc (q : LSr a ca σ h) {i : Nat} (hi : i < σ.2.1 4) : h (ca i) = some (ls_call σ i) := by
  obtain ⟨sm, q1, q2⟩ := q
  exact q2 i hi
theorem LSr.fr (q : LSr a ca σ h) (k : Nat) (hk : k < 22) : h (a (7 + k)) = some (.inr (8, [.ref (a (29 + k))])) := by
  obtain ⟨sm, q1, q2⟩ := q
  have e := q1 (7 + k) (by omega)
  unfold ls_cell at e
  rw [if_neg (by omega), if_neg (by omega), if_neg (by omega), if_neg (by omega), if_neg (by omega), if_neg (by omega), if_neg (by omega), if_pos (by omega)] at e
  rw [e, show 7 + k + 22 = 29 + k by omega]
theorem LSr.fa (q : LSr a ca σ h) (k : Nat) (hk : k < 21) : h (a (29 + k)) = some (.inl (ls_len k, .inr (.inl (σ.1 k)))) := by
  obtain ⟨sm, q1, q2⟩ := q
  have e := q1 (29 + k) (by omega)
  unfold ls_cell at e
  rw [if_neg (by omega), if_neg (by omega), if_neg (by omega), if_neg (by omega), if_neg (by omega), if_neg (by omega), if_neg (by omega), if_neg (by omega), if_neg (show ¬ 29 + k = 50 by omega), show 29 + k - 29 = k by omega] at e
  exact e
theorem ls_len_lt (k : Nat) : ls_len k < 2 ^ 31 := by
  unfold ls_len
  repeat' split
  all_goals decide
/-- reads of a row -/
theorem ls_at {G : hl_G} {l : Launch} (q : LSr a ca σ h) (k : Nat) (hk : k < 21) (i : Int32) : hl_Ct G l mX6_at 0 0 0 [.ref (a (7 + k)), .int i] (fun g => g = h) (fun v g => v = some (.long (row_at (ls_len k) (σ.1 k) i)) ∧ g = h) (fun _ _ => False) :=
  ct_X6_at (q.fr k (by omega)) (q.fa k hk) (ls_len_lt k)
theorem ls_intAt {G : hl_G} {l : Launch} (q : LSr a ca σ h) (k : Nat) (hk : k < 21) (i : Int32) : hl_Ct G l mX6_intAt 0 0 0 [.ref (a (7 + k)), .int i] (fun g => g = h) (fun v g => v = some (.int (row_intAt (ls_len k) (σ.1 k) i)) ∧ g = h) (fun _ _ => False) :=
  ct_X6_intAt (q.fr k (by omega)) (q.fa k hk) (ls_len_lt k)
/-- a row of the state set -/
def ls_row (σ : LSt) (k : Nat) (f : Nat → Int64) : LSt := (va_up σ.1 k f, σ.2.1, σ.2.2)
/-- a size set -/
def ls_sz (σ : LSt) (k n : Nat) : LSt := (σ.1, va_up σ.2.1 k n, σ.2.2)
theorem hl_Ct.mo {G : hl_G} {l : Launch} {M : hl_M} {d k n : Nat} {av : List Value} {P : hl_H → Prop} {Q : Option Value → hl_H → Prop} {X : String → hl_H → Prop} {Q' : Option Value → hl_H → Prop} (hh : hl_Ct G l M d k n av P Q X) (hQ : ∀ r h, Q r h → Q' r h) : hl_Ct G l M d k n av P Q' X :=
  hl_Ct.mono hh (fun _ z => z) hQ (fun _ _ z => z)
theorem hl_Ct.all {G : hl_G} {l : Launch} {M : hl_M} {d k n : Nat} {av : List Value} {P : hl_H → Prop} {Q : Option Value → hl_H → Prop} {X : String → hl_H → Prop} (hh : ∀ h, P h → hl_Ct G l M d k n av (fun g => g = h) Q X) : hl_Ct G l M d k n av P Q X := by
  intro p e h1 h2 h3 s m args below h4 h5 h6 h7
  obtain ⟨hv, hE, hS, g, hPh, hp⟩ := h6
  exact hh g hp p e h1 h2 h3 s m args below h4 h5 ⟨hv, hE, hS, g, hPh, rfl⟩ h7
/-- a cell at place j changes -/
theorem LSw.set (q : LSw a ca σ h0 h) {σ' : LSt} (j : Nat) (hj : j < 51) (x : hl_C) (hn : σ'.2.1 4 = σ.2.1 4) (hc : σ'.2.2 = σ.2.2)
    (hx : ∀ sm, (∃ sm', x = ls_cell a ca σ' sm' j ∧ ∀ k, k < 51 → k ≠ j → ls_cell a ca σ' sm' k = ls_cell a ca σ sm k)) : LSw a ca σ' h0 (hl_set h (a j) x) := by
  obtain ⟨⟨sm, q1, q2⟩, d1, d2, d3, d4, d5, d6⟩ := q
  obtain ⟨sm', hx1, hx2⟩ := hx sm
  refine ⟨⟨sm', fun k hk => ?_, fun i hi => ?_⟩, d1, ?_, ?_, d4, ?_, fun b y hb => ?_⟩
  · by_cases hkj : k = j
    · subst hkj; rw [hs_set1, hx1]
    · rw [hs_set2 (fun z => hkj (d1 k j hk hj z)), q1 k hk, hx2 k hk hkj]
  · rw [hn] at hi
    rw [hs_set2 (fun z => d3 j i hj hi z.symm), q2 i hi]
    unfold ls_call
    rw [hc]
  · rw [hn]; exact d2
  · rw [hn]; exact d3
  · rw [hn]; exact d5
  · by_cases hba : b = a j
    · subst hba; rw [d4 j hj] at hb; cases hb
    · rw [hs_set2 hba]; exact d6 b y hb
theorem LSw.setRow (q : LSw a ca σ h0 h) (k : Nat) (hk : k < 21) (f : Nat → Int64) : LSw a ca (ls_row σ k f) h0 (hl_set h (a (29 + k)) (.inl (ls_len k, .inr (.inl f)))) := by
  refine q.set (29 + k) (by omega) _ rfl rfl (fun sm => ⟨sm, ?_, fun j hj hne => ?_⟩)
  · unfold ls_cell
    rw [if_neg (by omega), if_neg (by omega), if_neg (by omega), if_neg (by omega), if_neg (by omega), if_neg (by omega), if_neg (by omega), if_neg (by omega), if_neg (show ¬ 29 + k = 50 by omega), show 29 + k - 29 = k by omega]
    simp [ls_row, va_up]
  · unfold ls_cell ls_row
    by_cases h50 : j = 50
    · subst h50; rfl
    · by_cases hlt : j < 29
      · simp only [hlt, if_true]
      · have e9 : j - 29 ≠ k := by omega
        simp [show j ≠ 0 by omega, show j ≠ 1 by omega, show j ≠ 2 by omega, show j ≠ 3 by omega, show j ≠ 4 by omega, show j ≠ 5 by omega, show j ≠ 6 by omega, hlt, h50, va_up, e9]
theorem LSw.setSums (q : LSw a ca σ h0 h) (f : Nat → Int64) : LSw a ca σ h0 (hl_set h (a 50) (.inl (10, .inr (.inl f)))) := by
  refine q.set 50 (by omega) _ rfl rfl (fun sm => ⟨f, ?_, fun j hj hne => ?_⟩)
  · rfl
  · unfold ls_cell
    simp only [hne, if_false]
theorem ls_put {G : hl_G} {l : Launch} (k : Nat) (hk : k < 21) (i : Int32) (v : Int64) : hl_Ct G l mX6_put 0 0 0 [.ref (a (7 + k)), .int i, .long v] (LSw a ca σ h0) (fun r g => r = none ∧ LSw a ca (ls_row σ k (row_put (ls_len k) (σ.1 k) i v)) h0 g) (fun _ _ => False) :=
  hl_Ct.all fun h q => (ct_X6_put (q.1.fr k (by omega)) (q.1.fa k hk) (ls_len_lt k)).mo (fun r g z => ⟨z.1, by rw [z.2]; exact q.setRow k hk _⟩)
theorem ls_add {G : hl_G} {l : Launch} (k : Nat) (hk : k < 21) (i : Int32) (v : Int64) : hl_Ct G l mX6_add 0 0 0 [.ref (a (7 + k)), .int i, .long v] (LSw a ca σ h0) (fun r g => r = none ∧ LSw a ca (ls_row σ k (row_add (ls_len k) (σ.1 k) i v)) h0 g) (fun _ _ => False) :=
  hl_Ct.all fun h q => (ct_X6_add (q.1.fr k (by omega)) (q.1.fa k hk) (ls_len_lt k)).mo (fun r g z => ⟨z.1, by rw [z.2]; exact q.setRow k hk _⟩)
/-! the sizes change -/
theorem LSw.sz0 (q : LSw a ca σ h0 h) (n : Nat) : LSw a ca (ls_sz σ 0 n) h0 (hl_set h (a 1) (.inr (3, [.int (nI n), .ref (a 7), .ref (a 8), .ref (a 9), .ref (a 10), .ref (a 11), .ref (a 12)]))) :=
  q.set 1 (by decide) _ rfl rfl (fun sm => ⟨sm, rfl, fun k hk hne => by simp [ls_cell, ls_sz, va_up, hne]⟩)
theorem LSw.sz1 (q : LSw a ca σ h0 h) (n : Nat) : LSw a ca (ls_sz σ 1 n) h0 (hl_set h (a 2) (.inr (6, [.int (nI n), .ref (a 13), .ref (a 14), .ref (a 15), .ref (a 16), .ref (a 17), .ref (a 18), .ref (a 19)]))) :=
  q.set 2 (by decide) _ rfl rfl (fun sm => ⟨sm, rfl, fun k hk hne => by simp [ls_cell, ls_sz, va_up, hne]⟩)
theorem LSw.sz2 (q : LSw a ca σ h0 h) (n : Nat) : LSw a ca (ls_sz σ 2 n) h0 (hl_set h (a 3) (.inr (5, [.int (nI n), .ref (a 20), .ref (a 21), .ref (a 22), .ref (a 23), .ref (a 24)]))) :=
  q.set 3 (by decide) _ rfl rfl (fun sm => ⟨sm, rfl, fun k hk hne => by simp [ls_cell, ls_sz, va_up, hne]⟩)
theorem LSw.sz3 (q : LSw a ca σ h0 h) (n : Nat) : LSw a ca (ls_sz σ 3 n) h0 (hl_set h (a 4) (.inr (2, [.int (nI n), .ref (a 25), .ref (a 26), .ref (a 27)]))) :=
  q.set 4 (by decide) _ rfl rfl (fun sm => ⟨sm, rfl, fun k hk hne => by simp [ls_cell, ls_sz, va_up, hne]⟩)
theorem LSw.sz5 (q : LSw a ca σ h0 h) (n : Nat) : LSw a ca (ls_sz σ 5 n) h0 (hl_set h (a 0) (.inr (9, [.ref (a 1), .ref (a 2), .ref (a 3), .ref (a 4), .ref (a 5), .ref (a 28), .int (nI n)]))) :=
  q.set 0 (by decide) _ rfl rfl (fun sm => ⟨sm, rfl, fun k hk hne => by simp [ls_cell, ls_sz, va_up, hne]⟩)
end LSR
end
section
/-! PART 08: reads of the journal, the holds, the books -/
/-- a sum over the first n places -/
def ls_sum (f : Nat → Int64) : Nat → Int64
  | 0 => 0
  | n + 1 => ls_sum f n + f n
/-- a count over the first n places -/
def ls_cnt (f : Nat → Bool) : Nat → Nat
  | 0 => 0
  | n + 1 => if f n = true then ls_cnt f n + 1 else ls_cnt f n
def ls_rev (σ : LSt) (t : Int32) : Prop := ¬ row_at (ls_len 12) (σ.1 12) t = -1
theorem ls_rev_iff (σ : LSt) (t : Int32) : ls_rev σ t ↔ ¬ row_at (ls_len 12) (σ.1 12) t = -1 := Iff.rfl
set_option maxRecDepth 20000 in
set_option maxHeartbeats 2000000 in
theorem ct_X4_isReversed {G : hl_G} {l : Launch} {a ca : Nat → Nat} {σ : LSt} {h : hl_H} {t : Int32} (q : LSr a ca σ h) :
    hl_Ct G l mX4_isReversed 1 0 0 [.ref (a 2), .int t] (fun g => g = h) (fun r g => r = some (.int (if ¬ row_at (ls_len 12) (σ.1 12) t = -1 then 1 else 0)) ∧ g = h) (fun _ _ => False) := by
  refine hl_body (by decide +kernel) (Nat.le_of_ble_eq_true rfl) ?_
  intro p e s m args below meth c B g hg
  subst hg
  refine hl_seg B okX4_isReversed (fun q => nomatch q) 0 1000 rfl ?_
  simp only [pX4_isReversed, List.drop_zero, List.drop_succ_cons, hl_wp, hs_ii, hs_i1, hs_ll, hs_l1, hs_ff, hs_g1, hs_dd, hs_d1, hs_r1, hs_rv, hs_rv0, hs_n1, hs_n0, hs_v1i, hs_v1r, hs_a1, hs_d2l, hs_d2i, hs_ri, hs_rl, hs_rg, hs_rd8, hs_rr, hs_rn, hs_ov, hs_gf, hs_po, hs_pfi, hs_pfr, hs_ia, hs_la, hs_da, hs_qa, hs_al, hs_is, hs_ls, hs_ds, hs_iso, hs_lso, hs_dso, hs_rd, hs_f1, hs_f10, hs_f2, hs_f20, hs_in0, hs_in1, hs_lt, hs_le, hs_ge, hs_gt, hs_eq, hs_10, hs_00, hs_01, true_and, and_true, true_imp_iff, false_imp_iff, not_true_eq_false, not_false_eq_true, hs_av, hs_ai, hs_ar, hs_an, hs_aj, hs_ci, hs_cr, hs_cn, hs_cj, hs_cd, hs_cf, hs_q0, hs_q1, reduceIte, Nat.reduceEqDiff, Nat.reduceAdd, Nat.reduceLT, eq_self, List.getElem?_cons_zero, List.getElem?_cons_succ, List.set_cons_zero, List.set_cons_succ, List.length_cons, List.length_nil, Option.toList_some, Option.toList_none, List.cons_append, List.nil_append, Nat.zero_add, Nat.add_zero, List.map_nil, List.sum_nil, List.map_cons, List.sum_cons, Nat.zero_le, hs_set1, q.f2]
  refine hl_callR B (As := [.int _]) (ls_at q 12 (by decide) _) mtX6_at (hl_dec okX4_isReversed 3 rfl) (kk := 758) (by decide +kernel) rfl (q.fr 12 (by decide)) rfl (Nat.le_of_ble_eq_true rfl) (by decide) (by decide) (by decide) (by decide) ?_
  refine hl_seg B okX4_isReversed (fun q => nomatch q) 4 1000 rfl ?_
  simp only [pX4_isReversed, List.drop_zero, List.drop_succ_cons, hl_wp, hs_ii, hs_i1, hs_ll, hs_l1, hs_ff, hs_g1, hs_dd, hs_d1, hs_r1, hs_rv, hs_rv0, hs_n1, hs_n0, hs_v1i, hs_v1r, hs_a1, hs_d2l, hs_d2i, hs_ri, hs_rl, hs_rg, hs_rd8, hs_rr, hs_rn, hs_ov, hs_gf, hs_po, hs_pfi, hs_pfr, hs_ia, hs_la, hs_da, hs_qa, hs_al, hs_is, hs_ls, hs_ds, hs_iso, hs_lso, hs_dso, hs_rd, hs_f1, hs_f10, hs_f2, hs_f20, hs_in0, hs_in1, hs_lt, hs_le, hs_ge, hs_gt, hs_eq, hs_10, hs_00, hs_01, true_and, and_true, true_imp_iff, false_imp_iff, not_true_eq_false, not_false_eq_true, hs_av, hs_ai, hs_ar, hs_an, hs_aj, hs_ci, hs_cr, hs_cn, hs_cj, hs_cd, hs_cf, hs_q0, hs_q1, reduceIte, Nat.reduceEqDiff, Nat.reduceAdd, Nat.reduceLT, eq_self, List.getElem?_cons_zero, List.getElem?_cons_succ, List.set_cons_zero, List.set_cons_succ, List.length_cons, List.length_nil, Option.toList_some, Option.toList_none, List.cons_append, List.nil_append, Nat.zero_add, Nat.add_zero, List.map_nil, List.sum_nil, List.map_cons, List.sum_cons, Nat.zero_le, hs_set1, q.f2]
  refine ⟨fun c1 => ?_, fun c1 => ?_⟩
  · skip
    refine hl_seg B okX4_isReversed (fun q => nomatch q) 9 1000 rfl ?_
    simp only [pX4_isReversed, List.drop_zero, List.drop_succ_cons, hl_wp, hs_ii, hs_i1, hs_ll, hs_l1, hs_ff, hs_g1, hs_dd, hs_d1, hs_r1, hs_rv, hs_rv0, hs_n1, hs_n0, hs_v1i, hs_v1r, hs_a1, hs_d2l, hs_d2i, hs_ri, hs_rl, hs_rg, hs_rd8, hs_rr, hs_rn, hs_ov, hs_gf, hs_po, hs_pfi, hs_pfr, hs_ia, hs_la, hs_da, hs_qa, hs_al, hs_is, hs_ls, hs_ds, hs_iso, hs_lso, hs_dso, hs_rd, hs_f1, hs_f10, hs_f2, hs_f20, hs_in0, hs_in1, hs_lt, hs_le, hs_ge, hs_gt, hs_eq, hs_10, hs_00, hs_01, true_and, and_true, true_imp_iff, false_imp_iff, not_true_eq_false, not_false_eq_true, hs_av, hs_ai, hs_ar, hs_an, hs_aj, hs_ci, hs_cr, hs_cn, hs_cj, hs_cd, hs_cf, hs_q0, hs_q1, reduceIte, Nat.reduceEqDiff, Nat.reduceAdd, Nat.reduceLT, eq_self, List.getElem?_cons_zero, List.getElem?_cons_succ, List.set_cons_zero, List.set_cons_succ, List.length_cons, List.length_nil, Option.toList_some, Option.toList_none, List.cons_append, List.nil_append, Nat.zero_add, Nat.add_zero, List.map_nil, List.sum_nil, List.map_cons, List.sum_cons, Nat.zero_le, hs_set1, q.f2]
    exact hl_iret B rfl (by first | rfl | decide | (split <;> rfl)) (hl_dec okX4_isReversed 10 rfl) (by decide) (by decide) ⟨by simp only [if_neg (not_not_intro c1)], rfl⟩
  · skip
    exact hl_iret B rfl (by first | rfl | decide | (split <;> rfl)) (hl_dec okX4_isReversed 10 rfl) (by decide) (by decide) ⟨by simp only [if_pos c1], rfl⟩
def ls_eff (σ : LSt) (x t : Int32) : Int64 := if row_at (ls_len 7) (σ.1 7) t = x.toInt64 then -row_at (ls_len 9) (σ.1 9) t else if row_at (ls_len 8) (σ.1 8) t = x.toInt64 then row_at (ls_len 10) (σ.1 10) t else 0
set_option maxRecDepth 20000 in
set_option maxHeartbeats 2000000 in
theorem ct_X4_effectOn {G : hl_G} {l : Launch} {a ca : Nat → Nat} {σ : LSt} {h : hl_H} {x t : Int32} (q : LSr a ca σ h) :
    hl_Ct G l mX4_effectOn 1 0 0 [.ref (a 2), .int x, .int t] (fun g => g = h) (fun r g => r = some (.long (ls_eff σ x t)) ∧ g = h) (fun _ _ => False) := by
  refine hl_body (by decide +kernel) (Nat.le_of_ble_eq_true rfl) ?_
  intro p e s m args below meth c B g hg
  subst hg
  refine hl_seg B okX4_effectOn (fun q => nomatch q) 0 1000 rfl ?_
  simp only [pX4_effectOn, List.drop_zero, List.drop_succ_cons, hl_wp, hs_ii, hs_i1, hs_ll, hs_l1, hs_ff, hs_g1, hs_dd, hs_d1, hs_r1, hs_rv, hs_rv0, hs_n1, hs_n0, hs_v1i, hs_v1r, hs_a1, hs_d2l, hs_d2i, hs_ri, hs_rl, hs_rg, hs_rd8, hs_rr, hs_rn, hs_ov, hs_gf, hs_po, hs_pfi, hs_pfr, hs_ia, hs_la, hs_da, hs_qa, hs_al, hs_is, hs_ls, hs_ds, hs_iso, hs_lso, hs_dso, hs_rd, hs_f1, hs_f10, hs_f2, hs_f20, hs_in0, hs_in1, hs_lt, hs_le, hs_ge, hs_gt, hs_eq, hs_10, hs_00, hs_01, true_and, and_true, true_imp_iff, false_imp_iff, not_true_eq_false, not_false_eq_true, hs_av, hs_ai, hs_ar, hs_an, hs_aj, hs_ci, hs_cr, hs_cn, hs_cj, hs_cd, hs_cf, hs_q0, hs_q1, reduceIte, Nat.reduceEqDiff, Nat.reduceAdd, Nat.reduceLT, eq_self, List.getElem?_cons_zero, List.getElem?_cons_succ, List.set_cons_zero, List.set_cons_succ, List.length_cons, List.length_nil, Option.toList_some, Option.toList_none, List.cons_append, List.nil_append, Nat.zero_add, Nat.add_zero, List.map_nil, List.sum_nil, List.map_cons, List.sum_cons, Nat.zero_le, hs_set1, q.f2]
  refine hl_callR B (As := [.int _]) (ls_at q 7 (by decide) _) mtX6_at (hl_dec okX4_effectOn 3 rfl) (kk := 758) (by decide +kernel) rfl (q.fr 7 (by decide)) rfl (Nat.le_of_ble_eq_true rfl) (by decide) (by decide) (by decide) (by decide) ?_
  refine hl_seg B okX4_effectOn (fun q => nomatch q) 4 1000 rfl ?_
  simp only [pX4_effectOn, List.drop_zero, List.drop_succ_cons, hl_wp, hs_ii, hs_i1, hs_ll, hs_l1, hs_ff, hs_g1, hs_dd, hs_d1, hs_r1, hs_rv, hs_rv0, hs_n1, hs_n0, hs_v1i, hs_v1r, hs_a1, hs_d2l, hs_d2i, hs_ri, hs_rl, hs_rg, hs_rd8, hs_rr, hs_rn, hs_ov, hs_gf, hs_po, hs_pfi, hs_pfr, hs_ia, hs_la, hs_da, hs_qa, hs_al, hs_is, hs_ls, hs_ds, hs_iso, hs_lso, hs_dso, hs_rd, hs_f1, hs_f10, hs_f2, hs_f20, hs_in0, hs_in1, hs_lt, hs_le, hs_ge, hs_gt, hs_eq, hs_10, hs_00, hs_01, true_and, and_true, true_imp_iff, false_imp_iff, not_true_eq_false, not_false_eq_true, hs_av, hs_ai, hs_ar, hs_an, hs_aj, hs_ci, hs_cr, hs_cn, hs_cj, hs_cd, hs_cf, hs_q0, hs_q1, reduceIte, Nat.reduceEqDiff, Nat.reduceAdd, Nat.reduceLT, eq_self, List.getElem?_cons_zero, List.getElem?_cons_succ, List.set_cons_zero, List.set_cons_succ, List.length_cons, List.length_nil, Option.toList_some, Option.toList_none, List.cons_append, List.nil_append, Nat.zero_add, Nat.add_zero, List.map_nil, List.sum_nil, List.map_cons, List.sum_cons, Nat.zero_le, hs_set1, q.f2]
  refine ⟨fun c1 => ?_, fun c1 => ?_⟩
  · skip
    refine hl_seg B okX4_effectOn (fun q => nomatch q) 14 1000 rfl ?_
    simp only [pX4_effectOn, List.drop_zero, List.drop_succ_cons, hl_wp, hs_ii, hs_i1, hs_ll, hs_l1, hs_ff, hs_g1, hs_dd, hs_d1, hs_r1, hs_rv, hs_rv0, hs_n1, hs_n0, hs_v1i, hs_v1r, hs_a1, hs_d2l, hs_d2i, hs_ri, hs_rl, hs_rg, hs_rd8, hs_rr, hs_rn, hs_ov, hs_gf, hs_po, hs_pfi, hs_pfr, hs_ia, hs_la, hs_da, hs_qa, hs_al, hs_is, hs_ls, hs_ds, hs_iso, hs_lso, hs_dso, hs_rd, hs_f1, hs_f10, hs_f2, hs_f20, hs_in0, hs_in1, hs_lt, hs_le, hs_ge, hs_gt, hs_eq, hs_10, hs_00, hs_01, true_and, and_true, true_imp_iff, false_imp_iff, not_true_eq_false, not_false_eq_true, hs_av, hs_ai, hs_ar, hs_an, hs_aj, hs_ci, hs_cr, hs_cn, hs_cj, hs_cd, hs_cf, hs_q0, hs_q1, reduceIte, Nat.reduceEqDiff, Nat.reduceAdd, Nat.reduceLT, eq_self, List.getElem?_cons_zero, List.getElem?_cons_succ, List.set_cons_zero, List.set_cons_succ, List.length_cons, List.length_nil, Option.toList_some, Option.toList_none, List.cons_append, List.nil_append, Nat.zero_add, Nat.add_zero, List.map_nil, List.sum_nil, List.map_cons, List.sum_cons, Nat.zero_le, hs_set1, q.f2]
    refine hl_callR B (As := [.int _]) (ls_at q 8 (by decide) _) mtX6_at (hl_dec okX4_effectOn 17 rfl) (kk := 758) (by decide +kernel) rfl (q.fr 8 (by decide)) rfl (Nat.le_of_ble_eq_true rfl) (by decide) (by decide) (by decide) (by decide) ?_
    refine hl_seg B okX4_effectOn (fun q => nomatch q) 18 1000 rfl ?_
    simp only [pX4_effectOn, List.drop_zero, List.drop_succ_cons, hl_wp, hs_ii, hs_i1, hs_ll, hs_l1, hs_ff, hs_g1, hs_dd, hs_d1, hs_r1, hs_rv, hs_rv0, hs_n1, hs_n0, hs_v1i, hs_v1r, hs_a1, hs_d2l, hs_d2i, hs_ri, hs_rl, hs_rg, hs_rd8, hs_rr, hs_rn, hs_ov, hs_gf, hs_po, hs_pfi, hs_pfr, hs_ia, hs_la, hs_da, hs_qa, hs_al, hs_is, hs_ls, hs_ds, hs_iso, hs_lso, hs_dso, hs_rd, hs_f1, hs_f10, hs_f2, hs_f20, hs_in0, hs_in1, hs_lt, hs_le, hs_ge, hs_gt, hs_eq, hs_10, hs_00, hs_01, true_and, and_true, true_imp_iff, false_imp_iff, not_true_eq_false, not_false_eq_true, hs_av, hs_ai, hs_ar, hs_an, hs_aj, hs_ci, hs_cr, hs_cn, hs_cj, hs_cd, hs_cf, hs_q0, hs_q1, reduceIte, Nat.reduceEqDiff, Nat.reduceAdd, Nat.reduceLT, eq_self, List.getElem?_cons_zero, List.getElem?_cons_succ, List.set_cons_zero, List.set_cons_succ, List.length_cons, List.length_nil, Option.toList_some, Option.toList_none, List.cons_append, List.nil_append, Nat.zero_add, Nat.add_zero, List.map_nil, List.sum_nil, List.map_cons, List.sum_cons, Nat.zero_le, hs_set1, q.f2]
    refine ⟨fun c2 => ?_, fun c2 => ?_⟩
    · skip
      refine hl_seg B okX4_effectOn (fun q => nomatch q) 27 1000 rfl ?_
      simp only [pX4_effectOn, List.drop_zero, List.drop_succ_cons, hl_wp, hs_ii, hs_i1, hs_ll, hs_l1, hs_ff, hs_g1, hs_dd, hs_d1, hs_r1, hs_rv, hs_rv0, hs_n1, hs_n0, hs_v1i, hs_v1r, hs_a1, hs_d2l, hs_d2i, hs_ri, hs_rl, hs_rg, hs_rd8, hs_rr, hs_rn, hs_ov, hs_gf, hs_po, hs_pfi, hs_pfr, hs_ia, hs_la, hs_da, hs_qa, hs_al, hs_is, hs_ls, hs_ds, hs_iso, hs_lso, hs_dso, hs_rd, hs_f1, hs_f10, hs_f2, hs_f20, hs_in0, hs_in1, hs_lt, hs_le, hs_ge, hs_gt, hs_eq, hs_10, hs_00, hs_01, true_and, and_true, true_imp_iff, false_imp_iff, not_true_eq_false, not_false_eq_true, hs_av, hs_ai, hs_ar, hs_an, hs_aj, hs_ci, hs_cr, hs_cn, hs_cj, hs_cd, hs_cf, hs_q0, hs_q1, reduceIte, Nat.reduceEqDiff, Nat.reduceAdd, Nat.reduceLT, eq_self, List.getElem?_cons_zero, List.getElem?_cons_succ, List.set_cons_zero, List.set_cons_succ, List.length_cons, List.length_nil, Option.toList_some, Option.toList_none, List.cons_append, List.nil_append, Nat.zero_add, Nat.add_zero, List.map_nil, List.sum_nil, List.map_cons, List.sum_cons, Nat.zero_le, hs_set1, q.f2]
      exact hl_lret B rfl (hl_dec okX4_effectOn 28 rfl) (by decide) (by decide) ⟨by simp only [ls_eff, if_neg c1, if_neg c2], rfl⟩
    · skip
      refine hl_callR B (As := [.int _]) (ls_at q 10 (by decide) _) mtX6_at (hl_dec okX4_effectOn 25 rfl) (kk := 758) (by decide +kernel) rfl (q.fr 10 (by decide)) rfl (Nat.le_of_ble_eq_true rfl) (by decide) (by decide) (by decide) (by decide) ?_
      refine hl_seg B okX4_effectOn (fun q => nomatch q) 26 1000 rfl ?_
      simp only [pX4_effectOn, List.drop_zero, List.drop_succ_cons, hl_wp, hs_ii, hs_i1, hs_ll, hs_l1, hs_ff, hs_g1, hs_dd, hs_d1, hs_r1, hs_rv, hs_rv0, hs_n1, hs_n0, hs_v1i, hs_v1r, hs_a1, hs_d2l, hs_d2i, hs_ri, hs_rl, hs_rg, hs_rd8, hs_rr, hs_rn, hs_ov, hs_gf, hs_po, hs_pfi, hs_pfr, hs_ia, hs_la, hs_da, hs_qa, hs_al, hs_is, hs_ls, hs_ds, hs_iso, hs_lso, hs_dso, hs_rd, hs_f1, hs_f10, hs_f2, hs_f20, hs_in0, hs_in1, hs_lt, hs_le, hs_ge, hs_gt, hs_eq, hs_10, hs_00, hs_01, true_and, and_true, true_imp_iff, false_imp_iff, not_true_eq_false, not_false_eq_true, hs_av, hs_ai, hs_ar, hs_an, hs_aj, hs_ci, hs_cr, hs_cn, hs_cj, hs_cd, hs_cf, hs_q0, hs_q1, reduceIte, Nat.reduceEqDiff, Nat.reduceAdd, Nat.reduceLT, eq_self, List.getElem?_cons_zero, List.getElem?_cons_succ, List.set_cons_zero, List.set_cons_succ, List.length_cons, List.length_nil, Option.toList_some, Option.toList_none, List.cons_append, List.nil_append, Nat.zero_add, Nat.add_zero, List.map_nil, List.sum_nil, List.map_cons, List.sum_cons, Nat.zero_le, hs_set1, q.f2]
      exact hl_lret B rfl (hl_dec okX4_effectOn 28 rfl) (by decide) (by decide) ⟨by simp only [ls_eff, if_neg c1, if_pos c2], rfl⟩
  · skip
    refine hl_callR B (As := [.int _]) (ls_at q 9 (by decide) _) mtX6_at (hl_dec okX4_effectOn 11 rfl) (kk := 758) (by decide +kernel) rfl (q.fr 9 (by decide)) rfl (Nat.le_of_ble_eq_true rfl) (by decide) (by decide) (by decide) (by decide) ?_
    refine hl_seg B okX4_effectOn (fun q => nomatch q) 12 1000 rfl ?_
    simp only [pX4_effectOn, List.drop_zero, List.drop_succ_cons, hl_wp, hs_ii, hs_i1, hs_ll, hs_l1, hs_ff, hs_g1, hs_dd, hs_d1, hs_r1, hs_rv, hs_rv0, hs_n1, hs_n0, hs_v1i, hs_v1r, hs_a1, hs_d2l, hs_d2i, hs_ri, hs_rl, hs_rg, hs_rd8, hs_rr, hs_rn, hs_ov, hs_gf, hs_po, hs_pfi, hs_pfr, hs_ia, hs_la, hs_da, hs_qa, hs_al, hs_is, hs_ls, hs_ds, hs_iso, hs_lso, hs_dso, hs_rd, hs_f1, hs_f10, hs_f2, hs_f20, hs_in0, hs_in1, hs_lt, hs_le, hs_ge, hs_gt, hs_eq, hs_10, hs_00, hs_01, true_and, and_true, true_imp_iff, false_imp_iff, not_true_eq_false, not_false_eq_true, hs_av, hs_ai, hs_ar, hs_an, hs_aj, hs_ci, hs_cr, hs_cn, hs_cj, hs_cd, hs_cf, hs_q0, hs_q1, reduceIte, Nat.reduceEqDiff, Nat.reduceAdd, Nat.reduceLT, eq_self, List.getElem?_cons_zero, List.getElem?_cons_succ, List.set_cons_zero, List.set_cons_succ, List.length_cons, List.length_nil, Option.toList_some, Option.toList_none, List.cons_append, List.nil_append, Nat.zero_add, Nat.add_zero, List.map_nil, List.sum_nil, List.map_cons, List.sum_cons, Nat.zero_le, hs_set1, q.f2]
    exact hl_lret B rfl (hl_dec okX4_effectOn 13 rfl) (by decide) (by decide) ⟨by simp only [ls_eff, if_pos c1], rfl⟩
def ls_recv (σ : LSt) (x y v : Int32) : Int32 := if row_intAt (ls_len 0) (σ.1 0) x = row_intAt (ls_len 0) (σ.1 0) y then v else if 1 ≤ row_at (ls_len 5) (σ.1 5) (row_intAt (ls_len 0) (σ.1 0) y) then ((v.toInt64 * row_at (ls_len 5) (σ.1 5) (row_intAt (ls_len 0) (σ.1 0) x)) / row_at (ls_len 5) (σ.1 5) (row_intAt (ls_len 0) (σ.1 0) y)).toInt32 else v
theorem ls_ne0 {x : Int64} (h : 1 ≤ x) : ¬ x = 0 := fun e => by rw [e] at h; exact absurd h (by decide)
set_option maxRecDepth 20000 in
set_option maxHeartbeats 2000000 in
theorem ct_X1_receivedFor {G : hl_G} {l : Launch} {a ca : Nat → Nat} {σ : LSt} {h : hl_H} {x y v : Int32} (q : LSr a ca σ h) :
    hl_Ct G l mX1_receivedFor 1 0 0 [.ref (a 1), .int x, .int y, .int v] (fun g => g = h) (fun r g => r = some (.int (ls_recv σ x y v)) ∧ g = h) (fun _ _ => False) := by
  refine hl_body (by decide +kernel) (Nat.le_of_ble_eq_true rfl) ?_
  intro p e s m args below meth c B g hg
  subst hg
  refine hl_seg B okX1_receivedFor (fun q => nomatch q) 0 1000 rfl ?_
  simp only [pX1_receivedFor, List.drop_zero, List.drop_succ_cons, hl_wp, hs_ii, hs_i1, hs_ll, hs_l1, hs_ff, hs_g1, hs_dd, hs_d1, hs_r1, hs_rv, hs_rv0, hs_n1, hs_n0, hs_v1i, hs_v1r, hs_a1, hs_d2l, hs_d2i, hs_ri, hs_rl, hs_rg, hs_rd8, hs_rr, hs_rn, hs_ov, hs_gf, hs_po, hs_pfi, hs_pfr, hs_ia, hs_la, hs_da, hs_qa, hs_al, hs_is, hs_ls, hs_ds, hs_iso, hs_lso, hs_dso, hs_rd, hs_f1, hs_f10, hs_f2, hs_f20, hs_in0, hs_in1, hs_lt, hs_le, hs_ge, hs_gt, hs_eq, hs_10, hs_00, hs_01, true_and, and_true, true_imp_iff, false_imp_iff, not_true_eq_false, not_false_eq_true, hs_av, hs_ai, hs_ar, hs_an, hs_aj, hs_ci, hs_cr, hs_cn, hs_cj, hs_cd, hs_cf, hs_q0, hs_q1, reduceIte, Nat.reduceEqDiff, Nat.reduceAdd, Nat.reduceLT, eq_self, List.getElem?_cons_zero, List.getElem?_cons_succ, List.set_cons_zero, List.set_cons_succ, List.length_cons, List.length_nil, Option.toList_some, Option.toList_none, List.cons_append, List.nil_append, Nat.zero_add, Nat.add_zero, List.map_nil, List.sum_nil, List.map_cons, List.sum_cons, Nat.zero_le, hs_set1, q.f1]
  refine hl_callR B (As := [.int _]) (ls_intAt q 0 (by decide) _) mtX6_intAt (hl_dec okX1_receivedFor 3 rfl) (kk := 322) (by decide +kernel) rfl (q.fr 0 (by decide)) rfl (Nat.le_of_ble_eq_true rfl) (by decide) (by decide) (by decide) (by decide) ?_
  refine hl_seg B okX1_receivedFor (fun q => nomatch q) 4 1000 rfl ?_
  simp only [pX1_receivedFor, List.drop_zero, List.drop_succ_cons, hl_wp, hs_ii, hs_i1, hs_ll, hs_l1, hs_ff, hs_g1, hs_dd, hs_d1, hs_r1, hs_rv, hs_rv0, hs_n1, hs_n0, hs_v1i, hs_v1r, hs_a1, hs_d2l, hs_d2i, hs_ri, hs_rl, hs_rg, hs_rd8, hs_rr, hs_rn, hs_ov, hs_gf, hs_po, hs_pfi, hs_pfr, hs_ia, hs_la, hs_da, hs_qa, hs_al, hs_is, hs_ls, hs_ds, hs_iso, hs_lso, hs_dso, hs_rd, hs_f1, hs_f10, hs_f2, hs_f20, hs_in0, hs_in1, hs_lt, hs_le, hs_ge, hs_gt, hs_eq, hs_10, hs_00, hs_01, true_and, and_true, true_imp_iff, false_imp_iff, not_true_eq_false, not_false_eq_true, hs_av, hs_ai, hs_ar, hs_an, hs_aj, hs_ci, hs_cr, hs_cn, hs_cj, hs_cd, hs_cf, hs_q0, hs_q1, reduceIte, Nat.reduceEqDiff, Nat.reduceAdd, Nat.reduceLT, eq_self, List.getElem?_cons_zero, List.getElem?_cons_succ, List.set_cons_zero, List.set_cons_succ, List.length_cons, List.length_nil, Option.toList_some, Option.toList_none, List.cons_append, List.nil_append, Nat.zero_add, Nat.add_zero, List.map_nil, List.sum_nil, List.map_cons, List.sum_cons, Nat.zero_le, hs_set1, q.f1]
  refine hl_callR B (As := [.int _]) (ls_intAt q 0 (by decide) _) mtX6_intAt (hl_dec okX1_receivedFor 8 rfl) (kk := 322) (by decide +kernel) rfl (q.fr 0 (by decide)) rfl (Nat.le_of_ble_eq_true rfl) (by decide) (by decide) (by decide) (by decide) ?_
  refine hl_seg B okX1_receivedFor (fun q => nomatch q) 9 1000 rfl ?_
  simp only [pX1_receivedFor, List.drop_zero, List.drop_succ_cons, hl_wp, hs_ii, hs_i1, hs_ll, hs_l1, hs_ff, hs_g1, hs_dd, hs_d1, hs_r1, hs_rv, hs_rv0, hs_n1, hs_n0, hs_v1i, hs_v1r, hs_a1, hs_d2l, hs_d2i, hs_ri, hs_rl, hs_rg, hs_rd8, hs_rr, hs_rn, hs_ov, hs_gf, hs_po, hs_pfi, hs_pfr, hs_ia, hs_la, hs_da, hs_qa, hs_al, hs_is, hs_ls, hs_ds, hs_iso, hs_lso, hs_dso, hs_rd, hs_f1, hs_f10, hs_f2, hs_f20, hs_in0, hs_in1, hs_lt, hs_le, hs_ge, hs_gt, hs_eq, hs_10, hs_00, hs_01, true_and, and_true, true_imp_iff, false_imp_iff, not_true_eq_false, not_false_eq_true, hs_av, hs_ai, hs_ar, hs_an, hs_aj, hs_ci, hs_cr, hs_cn, hs_cj, hs_cd, hs_cf, hs_q0, hs_q1, reduceIte, Nat.reduceEqDiff, Nat.reduceAdd, Nat.reduceLT, eq_self, List.getElem?_cons_zero, List.getElem?_cons_succ, List.set_cons_zero, List.set_cons_succ, List.length_cons, List.length_nil, Option.toList_some, Option.toList_none, List.cons_append, List.nil_append, Nat.zero_add, Nat.add_zero, List.map_nil, List.sum_nil, List.map_cons, List.sum_cons, Nat.zero_le, hs_set1, q.f1]
  refine hl_callR B (As := [.int _]) (ls_at q 5 (by decide) _) mtX6_at (hl_dec okX1_receivedFor 13 rfl) (kk := 323) (by decide +kernel) rfl (q.fr 5 (by decide)) rfl (Nat.le_of_ble_eq_true rfl) (by decide) (by decide) (by decide) (by decide) ?_
  refine hl_seg B okX1_receivedFor (fun q => nomatch q) 14 1000 rfl ?_
  simp only [pX1_receivedFor, List.drop_zero, List.drop_succ_cons, hl_wp, hs_ii, hs_i1, hs_ll, hs_l1, hs_ff, hs_g1, hs_dd, hs_d1, hs_r1, hs_rv, hs_rv0, hs_n1, hs_n0, hs_v1i, hs_v1r, hs_a1, hs_d2l, hs_d2i, hs_ri, hs_rl, hs_rg, hs_rd8, hs_rr, hs_rn, hs_ov, hs_gf, hs_po, hs_pfi, hs_pfr, hs_ia, hs_la, hs_da, hs_qa, hs_al, hs_is, hs_ls, hs_ds, hs_iso, hs_lso, hs_dso, hs_rd, hs_f1, hs_f10, hs_f2, hs_f20, hs_in0, hs_in1, hs_lt, hs_le, hs_ge, hs_gt, hs_eq, hs_10, hs_00, hs_01, true_and, and_true, true_imp_iff, false_imp_iff, not_true_eq_false, not_false_eq_true, hs_av, hs_ai, hs_ar, hs_an, hs_aj, hs_ci, hs_cr, hs_cn, hs_cj, hs_cd, hs_cf, hs_q0, hs_q1, reduceIte, Nat.reduceEqDiff, Nat.reduceAdd, Nat.reduceLT, eq_self, List.getElem?_cons_zero, List.getElem?_cons_succ, List.set_cons_zero, List.set_cons_succ, List.length_cons, List.length_nil, Option.toList_some, Option.toList_none, List.cons_append, List.nil_append, Nat.zero_add, Nat.add_zero, List.map_nil, List.sum_nil, List.map_cons, List.sum_cons, Nat.zero_le, hs_set1, q.f1]
  refine ⟨fun c1 => ?_, fun c1 => ?_⟩
  · skip
    refine hl_seg B okX1_receivedFor (fun q => nomatch q) 22 1000 rfl ?_
    simp only [pX1_receivedFor, List.drop_zero, List.drop_succ_cons, hl_wp, hs_ii, hs_i1, hs_ll, hs_l1, hs_ff, hs_g1, hs_dd, hs_d1, hs_r1, hs_rv, hs_rv0, hs_n1, hs_n0, hs_v1i, hs_v1r, hs_a1, hs_d2l, hs_d2i, hs_ri, hs_rl, hs_rg, hs_rd8, hs_rr, hs_rn, hs_ov, hs_gf, hs_po, hs_pfi, hs_pfr, hs_ia, hs_la, hs_da, hs_qa, hs_al, hs_is, hs_ls, hs_ds, hs_iso, hs_lso, hs_dso, hs_rd, hs_f1, hs_f10, hs_f2, hs_f20, hs_in0, hs_in1, hs_lt, hs_le, hs_ge, hs_gt, hs_eq, hs_10, hs_00, hs_01, true_and, and_true, true_imp_iff, false_imp_iff, not_true_eq_false, not_false_eq_true, hs_av, hs_ai, hs_ar, hs_an, hs_aj, hs_ci, hs_cr, hs_cn, hs_cj, hs_cd, hs_cf, hs_q0, hs_q1, reduceIte, Nat.reduceEqDiff, Nat.reduceAdd, Nat.reduceLT, eq_self, List.getElem?_cons_zero, List.getElem?_cons_succ, List.set_cons_zero, List.set_cons_succ, List.length_cons, List.length_nil, Option.toList_some, Option.toList_none, List.cons_append, List.nil_append, Nat.zero_add, Nat.add_zero, List.map_nil, List.sum_nil, List.map_cons, List.sum_cons, Nat.zero_le, hs_set1, q.f1]
    exact hl_iret B rfl rfl (hl_dec okX1_receivedFor 23 rfl) (by decide) (by decide) ⟨by simp only [ls_recv, if_pos c1], rfl⟩
  · skip
    refine ⟨fun c2 => ?_, fun c2 => ?_⟩
    · skip
      refine hl_seg B okX1_receivedFor (fun q => nomatch q) 24 1000 rfl ?_
      simp only [pX1_receivedFor, List.drop_zero, List.drop_succ_cons, hl_wp, hs_ii, hs_i1, hs_ll, hs_l1, hs_ff, hs_g1, hs_dd, hs_d1, hs_r1, hs_rv, hs_rv0, hs_n1, hs_n0, hs_v1i, hs_v1r, hs_a1, hs_d2l, hs_d2i, hs_ri, hs_rl, hs_rg, hs_rd8, hs_rr, hs_rn, hs_ov, hs_gf, hs_po, hs_pfi, hs_pfr, hs_ia, hs_la, hs_da, hs_qa, hs_al, hs_is, hs_ls, hs_ds, hs_iso, hs_lso, hs_dso, hs_rd, hs_f1, hs_f10, hs_f2, hs_f20, hs_in0, hs_in1, hs_lt, hs_le, hs_ge, hs_gt, hs_eq, hs_10, hs_00, hs_01, true_and, and_true, true_imp_iff, false_imp_iff, not_true_eq_false, not_false_eq_true, hs_av, hs_ai, hs_ar, hs_an, hs_aj, hs_ci, hs_cr, hs_cn, hs_cj, hs_cd, hs_cf, hs_q0, hs_q1, reduceIte, Nat.reduceEqDiff, Nat.reduceAdd, Nat.reduceLT, eq_self, List.getElem?_cons_zero, List.getElem?_cons_succ, List.set_cons_zero, List.set_cons_succ, List.length_cons, List.length_nil, Option.toList_some, Option.toList_none, List.cons_append, List.nil_append, Nat.zero_add, Nat.add_zero, List.map_nil, List.sum_nil, List.map_cons, List.sum_cons, Nat.zero_le, hs_set1, q.f1]
      refine hl_callR B (As := [.int _]) (ls_at q 5 (by decide) _) mtX6_at (hl_dec okX1_receivedFor 29 rfl) (kk := 323) (by decide +kernel) rfl (q.fr 5 (by decide)) rfl (Nat.le_of_ble_eq_true rfl) (by decide) (by decide) (by decide) (by decide) ?_
      refine hl_seg B okX1_receivedFor (fun q => nomatch q) 30 1000 rfl ?_
      simp only [pX1_receivedFor, List.drop_zero, List.drop_succ_cons, hl_wp, hs_ii, hs_i1, hs_ll, hs_l1, hs_ff, hs_g1, hs_dd, hs_d1, hs_r1, hs_rv, hs_rv0, hs_n1, hs_n0, hs_v1i, hs_v1r, hs_a1, hs_d2l, hs_d2i, hs_ri, hs_rl, hs_rg, hs_rd8, hs_rr, hs_rn, hs_ov, hs_gf, hs_po, hs_pfi, hs_pfr, hs_ia, hs_la, hs_da, hs_qa, hs_al, hs_is, hs_ls, hs_ds, hs_iso, hs_lso, hs_dso, hs_rd, hs_f1, hs_f10, hs_f2, hs_f20, hs_in0, hs_in1, hs_lt, hs_le, hs_ge, hs_gt, hs_eq, hs_10, hs_00, hs_01, true_and, and_true, true_imp_iff, false_imp_iff, not_true_eq_false, not_false_eq_true, hs_av, hs_ai, hs_ar, hs_an, hs_aj, hs_ci, hs_cr, hs_cn, hs_cj, hs_cd, hs_cf, hs_q0, hs_q1, reduceIte, Nat.reduceEqDiff, Nat.reduceAdd, Nat.reduceLT, eq_self, List.getElem?_cons_zero, List.getElem?_cons_succ, List.set_cons_zero, List.set_cons_succ, List.length_cons, List.length_nil, Option.toList_some, Option.toList_none, List.cons_append, List.nil_append, Nat.zero_add, Nat.add_zero, List.map_nil, List.sum_nil, List.map_cons, List.sum_cons, Nat.zero_le, hs_set1, q.f1]
      refine ⟨ls_ne0 c2, ?_⟩
      exact hl_iret B rfl rfl (hl_dec okX1_receivedFor 34 rfl) (by decide) (by decide) ⟨by simp only [ls_recv, if_neg c1, if_pos c2], rfl⟩
    · skip
      exact hl_iret B rfl rfl (hl_dec okX1_receivedFor 23 rfl) (by decide) (by decide) ⟨by simp only [ls_recv, if_neg c1, if_neg c2], rfl⟩
set_option maxRecDepth 20000 in
set_option maxHeartbeats 2000000 in
theorem ct_X3_isActive {G : hl_G} {l : Launch} {a ca : Nat → Nat} {σ : LSt} {h : hl_H} {t : Int32} (q : LSr a ca σ h) :
    hl_Ct G l mX3_isActive 1 0 0 [.ref (a 3), .int t] (fun g => g = h) (fun r g => r = some (.int (if row_at (ls_len 17) (σ.1 17) t = 97 then 1 else 0)) ∧ g = h) (fun _ _ => False) := by
  refine hl_body (by decide +kernel) (Nat.le_of_ble_eq_true rfl) ?_
  intro p e s m args below meth c B g hg
  subst hg
  refine hl_seg B okX3_isActive (fun q => nomatch q) 0 1000 rfl ?_
  simp only [pX3_isActive, List.drop_zero, List.drop_succ_cons, hl_wp, hs_ii, hs_i1, hs_ll, hs_l1, hs_ff, hs_g1, hs_dd, hs_d1, hs_r1, hs_rv, hs_rv0, hs_n1, hs_n0, hs_v1i, hs_v1r, hs_a1, hs_d2l, hs_d2i, hs_ri, hs_rl, hs_rg, hs_rd8, hs_rr, hs_rn, hs_ov, hs_gf, hs_po, hs_pfi, hs_pfr, hs_ia, hs_la, hs_da, hs_qa, hs_al, hs_is, hs_ls, hs_ds, hs_iso, hs_lso, hs_dso, hs_rd, hs_f1, hs_f10, hs_f2, hs_f20, hs_in0, hs_in1, hs_lt, hs_le, hs_ge, hs_gt, hs_eq, hs_10, hs_00, hs_01, true_and, and_true, true_imp_iff, false_imp_iff, not_true_eq_false, not_false_eq_true, hs_av, hs_ai, hs_ar, hs_an, hs_aj, hs_ci, hs_cr, hs_cn, hs_cj, hs_cd, hs_cf, hs_q0, hs_q1, reduceIte, Nat.reduceEqDiff, Nat.reduceAdd, Nat.reduceLT, eq_self, List.getElem?_cons_zero, List.getElem?_cons_succ, List.set_cons_zero, List.set_cons_succ, List.length_cons, List.length_nil, Option.toList_some, Option.toList_none, List.cons_append, List.nil_append, Nat.zero_add, Nat.add_zero, List.map_nil, List.sum_nil, List.map_cons, List.sum_cons, Nat.zero_le, hs_set1, q.f3]
  refine hl_callR B (As := [.int _]) (ls_at q 17 (by decide) _) mtX6_at (hl_dec okX3_isActive 3 rfl) (kk := 278) (by decide +kernel) rfl (q.fr 17 (by decide)) rfl (Nat.le_of_ble_eq_true rfl) (by decide) (by decide) (by decide) (by decide) ?_
  refine hl_seg B okX3_isActive (fun q => nomatch q) 4 1000 rfl ?_
  simp only [pX3_isActive, List.drop_zero, List.drop_succ_cons, hl_wp, hs_ii, hs_i1, hs_ll, hs_l1, hs_ff, hs_g1, hs_dd, hs_d1, hs_r1, hs_rv, hs_rv0, hs_n1, hs_n0, hs_v1i, hs_v1r, hs_a1, hs_d2l, hs_d2i, hs_ri, hs_rl, hs_rg, hs_rd8, hs_rr, hs_rn, hs_ov, hs_gf, hs_po, hs_pfi, hs_pfr, hs_ia, hs_la, hs_da, hs_qa, hs_al, hs_is, hs_ls, hs_ds, hs_iso, hs_lso, hs_dso, hs_rd, hs_f1, hs_f10, hs_f2, hs_f20, hs_in0, hs_in1, hs_lt, hs_le, hs_ge, hs_gt, hs_eq, hs_10, hs_00, hs_01, true_and, and_true, true_imp_iff, false_imp_iff, not_true_eq_false, not_false_eq_true, hs_av, hs_ai, hs_ar, hs_an, hs_aj, hs_ci, hs_cr, hs_cn, hs_cj, hs_cd, hs_cf, hs_q0, hs_q1, reduceIte, Nat.reduceEqDiff, Nat.reduceAdd, Nat.reduceLT, eq_self, List.getElem?_cons_zero, List.getElem?_cons_succ, List.set_cons_zero, List.set_cons_succ, List.length_cons, List.length_nil, Option.toList_some, Option.toList_none, List.cons_append, List.nil_append, Nat.zero_add, Nat.add_zero, List.map_nil, List.sum_nil, List.map_cons, List.sum_cons, Nat.zero_le, hs_set1, q.f3]
  refine ⟨fun c1 => ?_, fun c1 => ?_⟩
  · skip
    refine hl_seg B okX3_isActive (fun q => nomatch q) 9 1000 rfl ?_
    simp only [pX3_isActive, List.drop_zero, List.drop_succ_cons, hl_wp, hs_ii, hs_i1, hs_ll, hs_l1, hs_ff, hs_g1, hs_dd, hs_d1, hs_r1, hs_rv, hs_rv0, hs_n1, hs_n0, hs_v1i, hs_v1r, hs_a1, hs_d2l, hs_d2i, hs_ri, hs_rl, hs_rg, hs_rd8, hs_rr, hs_rn, hs_ov, hs_gf, hs_po, hs_pfi, hs_pfr, hs_ia, hs_la, hs_da, hs_qa, hs_al, hs_is, hs_ls, hs_ds, hs_iso, hs_lso, hs_dso, hs_rd, hs_f1, hs_f10, hs_f2, hs_f20, hs_in0, hs_in1, hs_lt, hs_le, hs_ge, hs_gt, hs_eq, hs_10, hs_00, hs_01, true_and, and_true, true_imp_iff, false_imp_iff, not_true_eq_false, not_false_eq_true, hs_av, hs_ai, hs_ar, hs_an, hs_aj, hs_ci, hs_cr, hs_cn, hs_cj, hs_cd, hs_cf, hs_q0, hs_q1, reduceIte, Nat.reduceEqDiff, Nat.reduceAdd, Nat.reduceLT, eq_self, List.getElem?_cons_zero, List.getElem?_cons_succ, List.set_cons_zero, List.set_cons_succ, List.length_cons, List.length_nil, Option.toList_some, Option.toList_none, List.cons_append, List.nil_append, Nat.zero_add, Nat.add_zero, List.map_nil, List.sum_nil, List.map_cons, List.sum_cons, Nat.zero_le, hs_set1, q.f3]
    exact hl_iret B rfl (by first | rfl | decide | (split <;> rfl)) (hl_dec okX3_isActive 10 rfl) (by decide) (by decide) ⟨by simp only [if_neg c1], rfl⟩
  · skip
    exact hl_iret B rfl (by first | rfl | decide | (split <;> rfl)) (hl_dec okX3_isActive 10 rfl) (by decide) (by decide) ⟨by simp only [if_pos c1], rfl⟩
end
section
/-! PART 09: sums over the journal, the holds, the accounts -/
def ls_replay (σ : LSt) (x y : Int32) : Int64 := ls_sum (fun i => if y.toInt64 < row_at (ls_len 11) (σ.1 11) (nI i) then 0 else ls_eff σ x (nI i)) (σ.2.1 1)
set_option maxRecDepth 20000 in
set_option maxHeartbeats 2000000 in
theorem ct_X4_replay {G : hl_G} {l : Launch} {a ca : Nat → Nat} {σ : LSt} {h : hl_H} {x y : Int32} (q : LSr a ca σ h) (hz : ∀ j : Nat, σ.2.1 j < 2 ^ 30) :
    hl_Ct G l mX4_replay 2 0 0 [.ref (a 2), .int x, .int y] (fun g => g = h) (fun r g => r = some (.long (ls_replay σ x y)) ∧ g = h) (fun _ _ => False) := by
  refine hl_body (by decide +kernel) (Nat.le_of_ble_eq_true rfl) ?_
  intro p e s m args below meth c B g hg
  rw [hg]
  have loop : ∀ (k9 i : Nat), i + k9 = σ.2.1 1 → hl_GM G mX4_replay 2 0 0 (fun r g => r = some (.long (ls_replay σ x y)) ∧ g = h) (fun _ _ => False) p l e s m args below meth c 5 [(0, .ref (a 2)), (1, .int x), (2, .int y), (3, .long (ls_sum (fun i => if y.toInt64 < row_at (ls_len 11) (σ.1 11) (nI i) then 0 else ls_eff σ x (nI i)) i)), (5, .int (nI i))] [] h 0 0 := by
    intro k9
    induction k9 with
    | zero =>
      intro i hi
      have hle : nI (σ.2.1 1) ≤ nI i := nI_le (by omega) (by have := hz 1; omega)
      have hie : i = σ.2.1 1 := by omega
      refine hl_seg B okX4_replay (fun q => nomatch q) 4 1000 rfl ?_
      simp only [pX4_replay, List.drop_zero, List.drop_succ_cons, hl_wp, hs_ii, hs_i1, hs_ll, hs_l1, hs_ff, hs_g1, hs_dd, hs_d1, hs_r1, hs_rv, hs_rv0, hs_n1, hs_n0, hs_v1i, hs_v1r, hs_a1, hs_d2l, hs_d2i, hs_ri, hs_rl, hs_rg, hs_rd8, hs_rr, hs_rn, hs_ov, hs_gf, hs_po, hs_pfi, hs_pfr, hs_ia, hs_la, hs_da, hs_qa, hs_al, hs_is, hs_ls, hs_ds, hs_iso, hs_lso, hs_dso, hs_rd, hs_f1, hs_f10, hs_f2, hs_f20, hs_in0, hs_in1, hs_lt, hs_le, hs_ge, hs_gt, hs_eq, hs_10, hs_00, hs_01, true_and, and_true, true_imp_iff, false_imp_iff, not_true_eq_false, not_false_eq_true, hs_av, hs_ai, hs_ar, hs_an, hs_aj, hs_ci, hs_cr, hs_cn, hs_cj, hs_cd, hs_cf, hs_q0, hs_q1, reduceIte, Nat.reduceEqDiff, Nat.reduceAdd, Nat.reduceLT, eq_self, List.getElem?_cons_zero, List.getElem?_cons_succ, List.set_cons_zero, List.set_cons_succ, List.length_cons, List.length_nil, Option.toList_some, Option.toList_none, List.cons_append, List.nil_append, Nat.zero_add, Nat.add_zero, List.map_nil, List.sum_nil, List.map_cons, List.sum_cons, Nat.zero_le, hs_set1, q.f2, hle]
      refine hl_seg B okX4_replay (fun q => nomatch q) 25 1000 rfl ?_
      simp only [pX4_replay, List.drop_zero, List.drop_succ_cons, hl_wp, hs_ii, hs_i1, hs_ll, hs_l1, hs_ff, hs_g1, hs_dd, hs_d1, hs_r1, hs_rv, hs_rv0, hs_n1, hs_n0, hs_v1i, hs_v1r, hs_a1, hs_d2l, hs_d2i, hs_ri, hs_rl, hs_rg, hs_rd8, hs_rr, hs_rn, hs_ov, hs_gf, hs_po, hs_pfi, hs_pfr, hs_ia, hs_la, hs_da, hs_qa, hs_al, hs_is, hs_ls, hs_ds, hs_iso, hs_lso, hs_dso, hs_rd, hs_f1, hs_f10, hs_f2, hs_f20, hs_in0, hs_in1, hs_lt, hs_le, hs_ge, hs_gt, hs_eq, hs_10, hs_00, hs_01, true_and, and_true, true_imp_iff, false_imp_iff, not_true_eq_false, not_false_eq_true, hs_av, hs_ai, hs_ar, hs_an, hs_aj, hs_ci, hs_cr, hs_cn, hs_cj, hs_cd, hs_cf, hs_q0, hs_q1, reduceIte, Nat.reduceEqDiff, Nat.reduceAdd, Nat.reduceLT, eq_self, List.getElem?_cons_zero, List.getElem?_cons_succ, List.set_cons_zero, List.set_cons_succ, List.length_cons, List.length_nil, Option.toList_some, Option.toList_none, List.cons_append, List.nil_append, Nat.zero_add, Nat.add_zero, List.map_nil, List.sum_nil, List.map_cons, List.sum_cons, Nat.zero_le, hs_set1, q.f2, hle]
      exact hl_lret B rfl (hl_dec okX4_replay 26 rfl) (by decide) (by decide) ⟨by simp only [ls_replay, hie], rfl⟩
    | succ k9 ih =>
      intro i hi
      have hlt : ¬ nI (σ.2.1 1) ≤ nI i := nI_ge (by omega) (by have := hz 1; omega)
      refine hl_seg B okX4_replay (fun q => nomatch q) 4 1000 rfl ?_
      simp only [pX4_replay, List.drop_zero, List.drop_succ_cons, hl_wp, hs_ii, hs_i1, hs_ll, hs_l1, hs_ff, hs_g1, hs_dd, hs_d1, hs_r1, hs_rv, hs_rv0, hs_n1, hs_n0, hs_v1i, hs_v1r, hs_a1, hs_d2l, hs_d2i, hs_ri, hs_rl, hs_rg, hs_rd8, hs_rr, hs_rn, hs_ov, hs_gf, hs_po, hs_pfi, hs_pfr, hs_ia, hs_la, hs_da, hs_qa, hs_al, hs_is, hs_ls, hs_ds, hs_iso, hs_lso, hs_dso, hs_rd, hs_f1, hs_f10, hs_f2, hs_f20, hs_in0, hs_in1, hs_lt, hs_le, hs_ge, hs_gt, hs_eq, hs_10, hs_00, hs_01, true_and, and_true, true_imp_iff, false_imp_iff, not_true_eq_false, not_false_eq_true, hs_av, hs_ai, hs_ar, hs_an, hs_aj, hs_ci, hs_cr, hs_cn, hs_cj, hs_cd, hs_cf, hs_q0, hs_q1, reduceIte, Nat.reduceEqDiff, Nat.reduceAdd, Nat.reduceLT, eq_self, List.getElem?_cons_zero, List.getElem?_cons_succ, List.set_cons_zero, List.set_cons_succ, List.length_cons, List.length_nil, Option.toList_some, Option.toList_none, List.cons_append, List.nil_append, Nat.zero_add, Nat.add_zero, List.map_nil, List.sum_nil, List.map_cons, List.sum_cons, Nat.zero_le, hs_set1, q.f2, hlt]
      refine hl_callR B (As := [.int _]) (ls_at q 11 (by decide) _) mtX6_at (hl_dec okX4_replay 11 rfl) (kk := 758) (by decide +kernel) rfl (q.fr 11 (by decide)) rfl (Nat.le_of_ble_eq_true rfl) (by decide) (by decide) (by decide) (by decide) ?_
      refine hl_seg B okX4_replay (fun q => nomatch q) 12 1000 rfl ?_
      simp only [pX4_replay, List.drop_zero, List.drop_succ_cons, hl_wp, hs_ii, hs_i1, hs_ll, hs_l1, hs_ff, hs_g1, hs_dd, hs_d1, hs_r1, hs_rv, hs_rv0, hs_n1, hs_n0, hs_v1i, hs_v1r, hs_a1, hs_d2l, hs_d2i, hs_ri, hs_rl, hs_rg, hs_rd8, hs_rr, hs_rn, hs_ov, hs_gf, hs_po, hs_pfi, hs_pfr, hs_ia, hs_la, hs_da, hs_qa, hs_al, hs_is, hs_ls, hs_ds, hs_iso, hs_lso, hs_dso, hs_rd, hs_f1, hs_f10, hs_f2, hs_f20, hs_in0, hs_in1, hs_lt, hs_le, hs_ge, hs_gt, hs_eq, hs_10, hs_00, hs_01, true_and, and_true, true_imp_iff, false_imp_iff, not_true_eq_false, not_false_eq_true, hs_av, hs_ai, hs_ar, hs_an, hs_aj, hs_ci, hs_cr, hs_cn, hs_cj, hs_cd, hs_cf, hs_q0, hs_q1, reduceIte, Nat.reduceEqDiff, Nat.reduceAdd, Nat.reduceLT, eq_self, List.getElem?_cons_zero, List.getElem?_cons_succ, List.set_cons_zero, List.set_cons_succ, List.length_cons, List.length_nil, Option.toList_some, Option.toList_none, List.cons_append, List.nil_append, Nat.zero_add, Nat.add_zero, List.map_nil, List.sum_nil, List.map_cons, List.sum_cons, Nat.zero_le, hs_set1, q.f2, hlt]
      refine ⟨fun c1 => ?_, fun c1 => ?_⟩
      · skip
        refine hl_seg B okX4_replay (fun q => nomatch q) 23 1000 rfl ?_
        simp only [pX4_replay, List.drop_zero, List.drop_succ_cons, hl_wp, hs_ii, hs_i1, hs_ll, hs_l1, hs_ff, hs_g1, hs_dd, hs_d1, hs_r1, hs_rv, hs_rv0, hs_n1, hs_n0, hs_v1i, hs_v1r, hs_a1, hs_d2l, hs_d2i, hs_ri, hs_rl, hs_rg, hs_rd8, hs_rr, hs_rn, hs_ov, hs_gf, hs_po, hs_pfi, hs_pfr, hs_ia, hs_la, hs_da, hs_qa, hs_al, hs_is, hs_ls, hs_ds, hs_iso, hs_lso, hs_dso, hs_rd, hs_f1, hs_f10, hs_f2, hs_f20, hs_in0, hs_in1, hs_lt, hs_le, hs_ge, hs_gt, hs_eq, hs_10, hs_00, hs_01, true_and, and_true, true_imp_iff, false_imp_iff, not_true_eq_false, not_false_eq_true, hs_av, hs_ai, hs_ar, hs_an, hs_aj, hs_ci, hs_cr, hs_cn, hs_cj, hs_cd, hs_cf, hs_q0, hs_q1, reduceIte, Nat.reduceEqDiff, Nat.reduceAdd, Nat.reduceLT, eq_self, List.getElem?_cons_zero, List.getElem?_cons_succ, List.set_cons_zero, List.set_cons_succ, List.length_cons, List.length_nil, Option.toList_some, Option.toList_none, List.cons_append, List.nil_append, Nat.zero_add, Nat.add_zero, List.map_nil, List.sum_nil, List.map_cons, List.sum_cons, Nat.zero_le, hs_set1, q.f2, hlt]
        have e1 := ih (i + 1) (by omega)
        simp only [← nI_1, ls_sum, Int64.add_zero, if_pos c1] at e1
        first | exact e1 | exact hl_drop B _ (by simp) e1
      · skip
        refine hl_callR B (As := [.int _, .int _]) (ct_X4_effectOn q) mtX4_effectOn (hl_dec okX4_replay 20 rfl) (kk := 826) (by decide +kernel) rfl (q.f2) rfl (Nat.le_of_ble_eq_true rfl) (by decide) (by decide) (by decide) (by decide) ?_
        refine hl_seg B okX4_replay (fun q => nomatch q) 21 1000 rfl ?_
        simp only [pX4_replay, List.drop_zero, List.drop_succ_cons, hl_wp, hs_ii, hs_i1, hs_ll, hs_l1, hs_ff, hs_g1, hs_dd, hs_d1, hs_r1, hs_rv, hs_rv0, hs_n1, hs_n0, hs_v1i, hs_v1r, hs_a1, hs_d2l, hs_d2i, hs_ri, hs_rl, hs_rg, hs_rd8, hs_rr, hs_rn, hs_ov, hs_gf, hs_po, hs_pfi, hs_pfr, hs_ia, hs_la, hs_da, hs_qa, hs_al, hs_is, hs_ls, hs_ds, hs_iso, hs_lso, hs_dso, hs_rd, hs_f1, hs_f10, hs_f2, hs_f20, hs_in0, hs_in1, hs_lt, hs_le, hs_ge, hs_gt, hs_eq, hs_10, hs_00, hs_01, true_and, and_true, true_imp_iff, false_imp_iff, not_true_eq_false, not_false_eq_true, hs_av, hs_ai, hs_ar, hs_an, hs_aj, hs_ci, hs_cr, hs_cn, hs_cj, hs_cd, hs_cf, hs_q0, hs_q1, reduceIte, Nat.reduceEqDiff, Nat.reduceAdd, Nat.reduceLT, eq_self, List.getElem?_cons_zero, List.getElem?_cons_succ, List.set_cons_zero, List.set_cons_succ, List.length_cons, List.length_nil, Option.toList_some, Option.toList_none, List.cons_append, List.nil_append, Nat.zero_add, Nat.add_zero, List.map_nil, List.sum_nil, List.map_cons, List.sum_cons, Nat.zero_le, hs_set1, q.f2, hlt]
        have e1 := ih (i + 1) (by omega)
        simp only [← nI_1, ls_sum, Int64.add_zero, if_neg c1] at e1
        first | exact e1 | exact hl_drop B _ (by simp) e1
  refine hl_seg B okX4_replay (fun q => nomatch q) 0 4 rfl ?_
  simp only [pX4_replay, List.drop_zero, List.drop_succ_cons, hl_wp, hs_ii, hs_i1, hs_ll, hs_l1, hs_ff, hs_g1, hs_dd, hs_d1, hs_r1, hs_rv, hs_rv0, hs_n1, hs_n0, hs_v1i, hs_v1r, hs_a1, hs_d2l, hs_d2i, hs_ri, hs_rl, hs_rg, hs_rd8, hs_rr, hs_rn, hs_ov, hs_gf, hs_po, hs_pfi, hs_pfr, hs_ia, hs_la, hs_da, hs_qa, hs_al, hs_is, hs_ls, hs_ds, hs_iso, hs_lso, hs_dso, hs_rd, hs_f1, hs_f10, hs_f2, hs_f20, hs_in0, hs_in1, hs_lt, hs_le, hs_ge, hs_gt, hs_eq, hs_10, hs_00, hs_01, true_and, and_true, true_imp_iff, false_imp_iff, not_true_eq_false, not_false_eq_true, hs_av, hs_ai, hs_ar, hs_an, hs_aj, hs_ci, hs_cr, hs_cn, hs_cj, hs_cd, hs_cf, hs_q0, hs_q1, reduceIte, Nat.reduceEqDiff, Nat.reduceAdd, Nat.reduceLT, eq_self, List.getElem?_cons_zero, List.getElem?_cons_succ, List.set_cons_zero, List.set_cons_succ, List.length_cons, List.length_nil, Option.toList_some, Option.toList_none, List.cons_append, List.nil_append, Nat.zero_add, Nat.add_zero, List.map_nil, List.sum_nil, List.map_cons, List.sum_cons, Nat.zero_le, hs_set1, q.f2]
  have e1 := loop (σ.2.1 1) 0 (Nat.zero_add _)
  simp only [nI_0, ls_sum, Int64.add_zero] at e1
  first | exact e1 | exact hl_drop B _ (by simp) e1
def ls_nrev (σ : LSt) : Nat := ls_cnt (fun i => decide (¬ row_at (ls_len 12) (σ.1 12) (nI i) = -1)) (σ.2.1 1)
set_option maxRecDepth 20000 in
set_option maxHeartbeats 2000000 in
theorem ct_X4_countReversed {G : hl_G} {l : Launch} {a ca : Nat → Nat} {σ : LSt} {h : hl_H} (q : LSr a ca σ h) (hz : ∀ j : Nat, σ.2.1 j < 2 ^ 30) :
    hl_Ct G l mX4_countReversed 2 0 0 [.ref (a 2)] (fun g => g = h) (fun r g => r = some (.int (nI (ls_nrev σ))) ∧ g = h) (fun _ _ => False) := by
  refine hl_body (by decide +kernel) (Nat.le_of_ble_eq_true rfl) ?_
  intro p e s m args below meth c B g hg
  rw [hg]
  have loop : ∀ (k9 i : Nat), i + k9 = σ.2.1 1 → hl_GM G mX4_countReversed 2 0 0 (fun r g => r = some (.int (nI (ls_nrev σ))) ∧ g = h) (fun _ _ => False) p l e s m args below meth c 4 [(0, .ref (a 2)), (1, .int (nI (ls_cnt (fun i => decide (¬ row_at (ls_len 12) (σ.1 12) (nI i) = -1)) i))), (2, .int (nI i))] [] h 0 0 := by
    intro k9
    induction k9 with
    | zero =>
      intro i hi
      have hle : nI (σ.2.1 1) ≤ nI i := nI_le (by omega) (by have := hz 1; omega)
      have hie : i = σ.2.1 1 := by omega
      refine hl_seg B okX4_countReversed (fun q => nomatch q) 4 1000 rfl ?_
      simp only [pX4_countReversed, List.drop_zero, List.drop_succ_cons, hl_wp, hs_ii, hs_i1, hs_ll, hs_l1, hs_ff, hs_g1, hs_dd, hs_d1, hs_r1, hs_rv, hs_rv0, hs_n1, hs_n0, hs_v1i, hs_v1r, hs_a1, hs_d2l, hs_d2i, hs_ri, hs_rl, hs_rg, hs_rd8, hs_rr, hs_rn, hs_ov, hs_gf, hs_po, hs_pfi, hs_pfr, hs_ia, hs_la, hs_da, hs_qa, hs_al, hs_is, hs_ls, hs_ds, hs_iso, hs_lso, hs_dso, hs_rd, hs_f1, hs_f10, hs_f2, hs_f20, hs_in0, hs_in1, hs_lt, hs_le, hs_ge, hs_gt, hs_eq, hs_10, hs_00, hs_01, true_and, and_true, true_imp_iff, false_imp_iff, not_true_eq_false, not_false_eq_true, hs_av, hs_ai, hs_ar, hs_an, hs_aj, hs_ci, hs_cr, hs_cn, hs_cj, hs_cd, hs_cf, hs_q0, hs_q1, reduceIte, Nat.reduceEqDiff, Nat.reduceAdd, Nat.reduceLT, eq_self, List.getElem?_cons_zero, List.getElem?_cons_succ, List.set_cons_zero, List.set_cons_succ, List.length_cons, List.length_nil, Option.toList_some, Option.toList_none, List.cons_append, List.nil_append, Nat.zero_add, Nat.add_zero, List.map_nil, List.sum_nil, List.map_cons, List.sum_cons, Nat.zero_le, hs_set1, q.f2, hle]
      refine hl_seg B okX4_countReversed (fun q => nomatch q) 15 1000 rfl ?_
      simp only [pX4_countReversed, List.drop_zero, List.drop_succ_cons, hl_wp, hs_ii, hs_i1, hs_ll, hs_l1, hs_ff, hs_g1, hs_dd, hs_d1, hs_r1, hs_rv, hs_rv0, hs_n1, hs_n0, hs_v1i, hs_v1r, hs_a1, hs_d2l, hs_d2i, hs_ri, hs_rl, hs_rg, hs_rd8, hs_rr, hs_rn, hs_ov, hs_gf, hs_po, hs_pfi, hs_pfr, hs_ia, hs_la, hs_da, hs_qa, hs_al, hs_is, hs_ls, hs_ds, hs_iso, hs_lso, hs_dso, hs_rd, hs_f1, hs_f10, hs_f2, hs_f20, hs_in0, hs_in1, hs_lt, hs_le, hs_ge, hs_gt, hs_eq, hs_10, hs_00, hs_01, true_and, and_true, true_imp_iff, false_imp_iff, not_true_eq_false, not_false_eq_true, hs_av, hs_ai, hs_ar, hs_an, hs_aj, hs_ci, hs_cr, hs_cn, hs_cj, hs_cd, hs_cf, hs_q0, hs_q1, reduceIte, Nat.reduceEqDiff, Nat.reduceAdd, Nat.reduceLT, eq_self, List.getElem?_cons_zero, List.getElem?_cons_succ, List.set_cons_zero, List.set_cons_succ, List.length_cons, List.length_nil, Option.toList_some, Option.toList_none, List.cons_append, List.nil_append, Nat.zero_add, Nat.add_zero, List.map_nil, List.sum_nil, List.map_cons, List.sum_cons, Nat.zero_le, hs_set1, q.f2, hle]
      exact hl_iret B rfl rfl (hl_dec okX4_countReversed 16 rfl) (by decide) (by decide) ⟨by simp only [ls_nrev, hie], rfl⟩
    | succ k9 ih =>
      intro i hi
      have hlt : ¬ nI (σ.2.1 1) ≤ nI i := nI_ge (by omega) (by have := hz 1; omega)
      refine hl_seg B okX4_countReversed (fun q => nomatch q) 4 1000 rfl ?_
      simp only [pX4_countReversed, List.drop_zero, List.drop_succ_cons, hl_wp, hs_ii, hs_i1, hs_ll, hs_l1, hs_ff, hs_g1, hs_dd, hs_d1, hs_r1, hs_rv, hs_rv0, hs_n1, hs_n0, hs_v1i, hs_v1r, hs_a1, hs_d2l, hs_d2i, hs_ri, hs_rl, hs_rg, hs_rd8, hs_rr, hs_rn, hs_ov, hs_gf, hs_po, hs_pfi, hs_pfr, hs_ia, hs_la, hs_da, hs_qa, hs_al, hs_is, hs_ls, hs_ds, hs_iso, hs_lso, hs_dso, hs_rd, hs_f1, hs_f10, hs_f2, hs_f20, hs_in0, hs_in1, hs_lt, hs_le, hs_ge, hs_gt, hs_eq, hs_10, hs_00, hs_01, true_and, and_true, true_imp_iff, false_imp_iff, not_true_eq_false, not_false_eq_true, hs_av, hs_ai, hs_ar, hs_an, hs_aj, hs_ci, hs_cr, hs_cn, hs_cj, hs_cd, hs_cf, hs_q0, hs_q1, reduceIte, Nat.reduceEqDiff, Nat.reduceAdd, Nat.reduceLT, eq_self, List.getElem?_cons_zero, List.getElem?_cons_succ, List.set_cons_zero, List.set_cons_succ, List.length_cons, List.length_nil, Option.toList_some, Option.toList_none, List.cons_append, List.nil_append, Nat.zero_add, Nat.add_zero, List.map_nil, List.sum_nil, List.map_cons, List.sum_cons, Nat.zero_le, hs_set1, q.f2, hlt]
      refine hl_callR B (As := [.int _]) (ct_X4_isReversed q) mtX4_isReversed (hl_dec okX4_countReversed 10 rfl) (kk := 947) (by decide +kernel) rfl (q.f2) rfl (Nat.le_of_ble_eq_true rfl) (by decide) (by decide) (by decide) (by decide) ?_
      by_cases c1 : ¬ row_at (ls_len 12) (σ.1 12) (nI i) = -1
      · skip
        refine hl_seg B okX4_countReversed (fun q => nomatch q) 11 1000 rfl ?_
        simp only [pX4_countReversed, List.drop_zero, List.drop_succ_cons, hl_wp, hs_ii, hs_i1, hs_ll, hs_l1, hs_ff, hs_g1, hs_dd, hs_d1, hs_r1, hs_rv, hs_rv0, hs_n1, hs_n0, hs_v1i, hs_v1r, hs_a1, hs_d2l, hs_d2i, hs_ri, hs_rl, hs_rg, hs_rd8, hs_rr, hs_rn, hs_ov, hs_gf, hs_po, hs_pfi, hs_pfr, hs_ia, hs_la, hs_da, hs_qa, hs_al, hs_is, hs_ls, hs_ds, hs_iso, hs_lso, hs_dso, hs_rd, hs_f1, hs_f10, hs_f2, hs_f20, hs_in0, hs_in1, hs_lt, hs_le, hs_ge, hs_gt, hs_eq, hs_10, hs_00, hs_01, true_and, and_true, true_imp_iff, false_imp_iff, not_true_eq_false, not_false_eq_true, hs_av, hs_ai, hs_ar, hs_an, hs_aj, hs_ci, hs_cr, hs_cn, hs_cj, hs_cd, hs_cf, hs_q0, hs_q1, reduceIte, Nat.reduceEqDiff, Nat.reduceAdd, Nat.reduceLT, eq_self, List.getElem?_cons_zero, List.getElem?_cons_succ, List.set_cons_zero, List.set_cons_succ, List.length_cons, List.length_nil, Option.toList_some, Option.toList_none, List.cons_append, List.nil_append, Nat.zero_add, Nat.add_zero, List.map_nil, List.sum_nil, List.map_cons, List.sum_cons, Nat.zero_le, hs_set1, if_pos c1, q.f2, hlt]
        have e1 := ih (i + 1) (by omega)
        simp only [← nI_1, ls_cnt, decide_eq_true_eq, if_pos c1] at e1
        first | exact e1 | exact hl_drop B _ (by simp) e1
      · skip
        refine hl_seg B okX4_countReversed (fun q => nomatch q) 11 1000 rfl ?_
        simp only [pX4_countReversed, List.drop_zero, List.drop_succ_cons, hl_wp, hs_ii, hs_i1, hs_ll, hs_l1, hs_ff, hs_g1, hs_dd, hs_d1, hs_r1, hs_rv, hs_rv0, hs_n1, hs_n0, hs_v1i, hs_v1r, hs_a1, hs_d2l, hs_d2i, hs_ri, hs_rl, hs_rg, hs_rd8, hs_rr, hs_rn, hs_ov, hs_gf, hs_po, hs_pfi, hs_pfr, hs_ia, hs_la, hs_da, hs_qa, hs_al, hs_is, hs_ls, hs_ds, hs_iso, hs_lso, hs_dso, hs_rd, hs_f1, hs_f10, hs_f2, hs_f20, hs_in0, hs_in1, hs_lt, hs_le, hs_ge, hs_gt, hs_eq, hs_10, hs_00, hs_01, true_and, and_true, true_imp_iff, false_imp_iff, not_true_eq_false, not_false_eq_true, hs_av, hs_ai, hs_ar, hs_an, hs_aj, hs_ci, hs_cr, hs_cn, hs_cj, hs_cd, hs_cf, hs_q0, hs_q1, reduceIte, Nat.reduceEqDiff, Nat.reduceAdd, Nat.reduceLT, eq_self, List.getElem?_cons_zero, List.getElem?_cons_succ, List.set_cons_zero, List.set_cons_succ, List.length_cons, List.length_nil, Option.toList_some, Option.toList_none, List.cons_append, List.nil_append, Nat.zero_add, Nat.add_zero, List.map_nil, List.sum_nil, List.map_cons, List.sum_cons, Nat.zero_le, hs_set1, if_neg c1, q.f2, hlt]
        refine hl_seg B okX4_countReversed (fun q => nomatch q) 13 1000 rfl ?_
        simp only [pX4_countReversed, List.drop_zero, List.drop_succ_cons, hl_wp, hs_ii, hs_i1, hs_ll, hs_l1, hs_ff, hs_g1, hs_dd, hs_d1, hs_r1, hs_rv, hs_rv0, hs_n1, hs_n0, hs_v1i, hs_v1r, hs_a1, hs_d2l, hs_d2i, hs_ri, hs_rl, hs_rg, hs_rd8, hs_rr, hs_rn, hs_ov, hs_gf, hs_po, hs_pfi, hs_pfr, hs_ia, hs_la, hs_da, hs_qa, hs_al, hs_is, hs_ls, hs_ds, hs_iso, hs_lso, hs_dso, hs_rd, hs_f1, hs_f10, hs_f2, hs_f20, hs_in0, hs_in1, hs_lt, hs_le, hs_ge, hs_gt, hs_eq, hs_10, hs_00, hs_01, true_and, and_true, true_imp_iff, false_imp_iff, not_true_eq_false, not_false_eq_true, hs_av, hs_ai, hs_ar, hs_an, hs_aj, hs_ci, hs_cr, hs_cn, hs_cj, hs_cd, hs_cf, hs_q0, hs_q1, reduceIte, Nat.reduceEqDiff, Nat.reduceAdd, Nat.reduceLT, eq_self, List.getElem?_cons_zero, List.getElem?_cons_succ, List.set_cons_zero, List.set_cons_succ, List.length_cons, List.length_nil, Option.toList_some, Option.toList_none, List.cons_append, List.nil_append, Nat.zero_add, Nat.add_zero, List.map_nil, List.sum_nil, List.map_cons, List.sum_cons, Nat.zero_le, hs_set1, q.f2, hlt]
        have e1 := ih (i + 1) (by omega)
        simp only [← nI_1, ls_cnt, decide_eq_true_eq, if_neg c1] at e1
        first | exact e1 | exact hl_drop B _ (by simp) e1
  refine hl_seg B okX4_countReversed (fun q => nomatch q) 0 4 rfl ?_
  simp only [pX4_countReversed, List.drop_zero, List.drop_succ_cons, hl_wp, hs_ii, hs_i1, hs_ll, hs_l1, hs_ff, hs_g1, hs_dd, hs_d1, hs_r1, hs_rv, hs_rv0, hs_n1, hs_n0, hs_v1i, hs_v1r, hs_a1, hs_d2l, hs_d2i, hs_ri, hs_rl, hs_rg, hs_rd8, hs_rr, hs_rn, hs_ov, hs_gf, hs_po, hs_pfi, hs_pfr, hs_ia, hs_la, hs_da, hs_qa, hs_al, hs_is, hs_ls, hs_ds, hs_iso, hs_lso, hs_dso, hs_rd, hs_f1, hs_f10, hs_f2, hs_f20, hs_in0, hs_in1, hs_lt, hs_le, hs_ge, hs_gt, hs_eq, hs_10, hs_00, hs_01, true_and, and_true, true_imp_iff, false_imp_iff, not_true_eq_false, not_false_eq_true, hs_av, hs_ai, hs_ar, hs_an, hs_aj, hs_ci, hs_cr, hs_cn, hs_cj, hs_cd, hs_cf, hs_q0, hs_q1, reduceIte, Nat.reduceEqDiff, Nat.reduceAdd, Nat.reduceLT, eq_self, List.getElem?_cons_zero, List.getElem?_cons_succ, List.set_cons_zero, List.set_cons_succ, List.length_cons, List.length_nil, Option.toList_some, Option.toList_none, List.cons_append, List.nil_append, Nat.zero_add, Nat.add_zero, List.map_nil, List.sum_nil, List.map_cons, List.sum_cons, Nat.zero_le, hs_set1, q.f2]
  have e1 := loop (σ.2.1 1) 0 (Nat.zero_add _)
  simp only [nI_0, ls_cnt, decide_eq_true_eq] at e1
  first | exact e1 | exact hl_drop B _ (by simp) e1
def ls_paid (σ : LSt) : Int64 := ls_sum (fun i => row_at (ls_len 9) (σ.1 9) (nI i)) (σ.2.1 1)
set_option maxRecDepth 20000 in
set_option maxHeartbeats 2000000 in
theorem ct_X4_sumPaid {G : hl_G} {l : Launch} {a ca : Nat → Nat} {σ : LSt} {h : hl_H} (q : LSr a ca σ h) (hz : ∀ j : Nat, σ.2.1 j < 2 ^ 30) :
    hl_Ct G l mX4_sumPaid 1 0 0 [.ref (a 2)] (fun g => g = h) (fun r g => r = some (.long (ls_paid σ)) ∧ g = h) (fun _ _ => False) := by
  refine hl_body (by decide +kernel) (Nat.le_of_ble_eq_true rfl) ?_
  intro p e s m args below meth c B g hg
  rw [hg]
  have loop : ∀ (k9 i : Nat), i + k9 = σ.2.1 1 → hl_GM G mX4_sumPaid 1 0 0 (fun r g => r = some (.long (ls_paid σ)) ∧ g = h) (fun _ _ => False) p l e s m args below meth c 4 [(0, .ref (a 2)), (1, .long (ls_sum (fun i => row_at (ls_len 9) (σ.1 9) (nI i)) i)), (3, .int (nI i))] [] h 0 0 := by
    intro k9
    induction k9 with
    | zero =>
      intro i hi
      have hle : nI (σ.2.1 1) ≤ nI i := nI_le (by omega) (by have := hz 1; omega)
      have hie : i = σ.2.1 1 := by omega
      refine hl_seg B okX4_sumPaid (fun q => nomatch q) 4 1000 rfl ?_
      simp only [pX4_sumPaid, List.drop_zero, List.drop_succ_cons, hl_wp, hs_ii, hs_i1, hs_ll, hs_l1, hs_ff, hs_g1, hs_dd, hs_d1, hs_r1, hs_rv, hs_rv0, hs_n1, hs_n0, hs_v1i, hs_v1r, hs_a1, hs_d2l, hs_d2i, hs_ri, hs_rl, hs_rg, hs_rd8, hs_rr, hs_rn, hs_ov, hs_gf, hs_po, hs_pfi, hs_pfr, hs_ia, hs_la, hs_da, hs_qa, hs_al, hs_is, hs_ls, hs_ds, hs_iso, hs_lso, hs_dso, hs_rd, hs_f1, hs_f10, hs_f2, hs_f20, hs_in0, hs_in1, hs_lt, hs_le, hs_ge, hs_gt, hs_eq, hs_10, hs_00, hs_01, true_and, and_true, true_imp_iff, false_imp_iff, not_true_eq_false, not_false_eq_true, hs_av, hs_ai, hs_ar, hs_an, hs_aj, hs_ci, hs_cr, hs_cn, hs_cj, hs_cd, hs_cf, hs_q0, hs_q1, reduceIte, Nat.reduceEqDiff, Nat.reduceAdd, Nat.reduceLT, eq_self, List.getElem?_cons_zero, List.getElem?_cons_succ, List.set_cons_zero, List.set_cons_succ, List.length_cons, List.length_nil, Option.toList_some, Option.toList_none, List.cons_append, List.nil_append, Nat.zero_add, Nat.add_zero, List.map_nil, List.sum_nil, List.map_cons, List.sum_cons, Nat.zero_le, hs_set1, q.f2, hle]
      refine hl_seg B okX4_sumPaid (fun q => nomatch q) 17 1000 rfl ?_
      simp only [pX4_sumPaid, List.drop_zero, List.drop_succ_cons, hl_wp, hs_ii, hs_i1, hs_ll, hs_l1, hs_ff, hs_g1, hs_dd, hs_d1, hs_r1, hs_rv, hs_rv0, hs_n1, hs_n0, hs_v1i, hs_v1r, hs_a1, hs_d2l, hs_d2i, hs_ri, hs_rl, hs_rg, hs_rd8, hs_rr, hs_rn, hs_ov, hs_gf, hs_po, hs_pfi, hs_pfr, hs_ia, hs_la, hs_da, hs_qa, hs_al, hs_is, hs_ls, hs_ds, hs_iso, hs_lso, hs_dso, hs_rd, hs_f1, hs_f10, hs_f2, hs_f20, hs_in0, hs_in1, hs_lt, hs_le, hs_ge, hs_gt, hs_eq, hs_10, hs_00, hs_01, true_and, and_true, true_imp_iff, false_imp_iff, not_true_eq_false, not_false_eq_true, hs_av, hs_ai, hs_ar, hs_an, hs_aj, hs_ci, hs_cr, hs_cn, hs_cj, hs_cd, hs_cf, hs_q0, hs_q1, reduceIte, Nat.reduceEqDiff, Nat.reduceAdd, Nat.reduceLT, eq_self, List.getElem?_cons_zero, List.getElem?_cons_succ, List.set_cons_zero, List.set_cons_succ, List.length_cons, List.length_nil, Option.toList_some, Option.toList_none, List.cons_append, List.nil_append, Nat.zero_add, Nat.add_zero, List.map_nil, List.sum_nil, List.map_cons, List.sum_cons, Nat.zero_le, hs_set1, q.f2, hle]
      exact hl_lret B rfl (hl_dec okX4_sumPaid 18 rfl) (by decide) (by decide) ⟨by simp only [ls_paid, hie], rfl⟩
    | succ k9 ih =>
      intro i hi
      have hlt : ¬ nI (σ.2.1 1) ≤ nI i := nI_ge (by omega) (by have := hz 1; omega)
      refine hl_seg B okX4_sumPaid (fun q => nomatch q) 4 1000 rfl ?_
      simp only [pX4_sumPaid, List.drop_zero, List.drop_succ_cons, hl_wp, hs_ii, hs_i1, hs_ll, hs_l1, hs_ff, hs_g1, hs_dd, hs_d1, hs_r1, hs_rv, hs_rv0, hs_n1, hs_n0, hs_v1i, hs_v1r, hs_a1, hs_d2l, hs_d2i, hs_ri, hs_rl, hs_rg, hs_rd8, hs_rr, hs_rn, hs_ov, hs_gf, hs_po, hs_pfi, hs_pfr, hs_ia, hs_la, hs_da, hs_qa, hs_al, hs_is, hs_ls, hs_ds, hs_iso, hs_lso, hs_dso, hs_rd, hs_f1, hs_f10, hs_f2, hs_f20, hs_in0, hs_in1, hs_lt, hs_le, hs_ge, hs_gt, hs_eq, hs_10, hs_00, hs_01, true_and, and_true, true_imp_iff, false_imp_iff, not_true_eq_false, not_false_eq_true, hs_av, hs_ai, hs_ar, hs_an, hs_aj, hs_ci, hs_cr, hs_cn, hs_cj, hs_cd, hs_cf, hs_q0, hs_q1, reduceIte, Nat.reduceEqDiff, Nat.reduceAdd, Nat.reduceLT, eq_self, List.getElem?_cons_zero, List.getElem?_cons_succ, List.set_cons_zero, List.set_cons_succ, List.length_cons, List.length_nil, Option.toList_some, Option.toList_none, List.cons_append, List.nil_append, Nat.zero_add, Nat.add_zero, List.map_nil, List.sum_nil, List.map_cons, List.sum_cons, Nat.zero_le, hs_set1, q.f2, hlt]
      refine hl_callR B (As := [.int _]) (ls_at q 9 (by decide) _) mtX6_at (hl_dec okX4_sumPaid 12 rfl) (kk := 758) (by decide +kernel) rfl (q.fr 9 (by decide)) rfl (Nat.le_of_ble_eq_true rfl) (by decide) (by decide) (by decide) (by decide) ?_
      refine hl_seg B okX4_sumPaid (fun q => nomatch q) 13 1000 rfl ?_
      simp only [pX4_sumPaid, List.drop_zero, List.drop_succ_cons, hl_wp, hs_ii, hs_i1, hs_ll, hs_l1, hs_ff, hs_g1, hs_dd, hs_d1, hs_r1, hs_rv, hs_rv0, hs_n1, hs_n0, hs_v1i, hs_v1r, hs_a1, hs_d2l, hs_d2i, hs_ri, hs_rl, hs_rg, hs_rd8, hs_rr, hs_rn, hs_ov, hs_gf, hs_po, hs_pfi, hs_pfr, hs_ia, hs_la, hs_da, hs_qa, hs_al, hs_is, hs_ls, hs_ds, hs_iso, hs_lso, hs_dso, hs_rd, hs_f1, hs_f10, hs_f2, hs_f20, hs_in0, hs_in1, hs_lt, hs_le, hs_ge, hs_gt, hs_eq, hs_10, hs_00, hs_01, true_and, and_true, true_imp_iff, false_imp_iff, not_true_eq_false, not_false_eq_true, hs_av, hs_ai, hs_ar, hs_an, hs_aj, hs_ci, hs_cr, hs_cn, hs_cj, hs_cd, hs_cf, hs_q0, hs_q1, reduceIte, Nat.reduceEqDiff, Nat.reduceAdd, Nat.reduceLT, eq_self, List.getElem?_cons_zero, List.getElem?_cons_succ, List.set_cons_zero, List.set_cons_succ, List.length_cons, List.length_nil, Option.toList_some, Option.toList_none, List.cons_append, List.nil_append, Nat.zero_add, Nat.add_zero, List.map_nil, List.sum_nil, List.map_cons, List.sum_cons, Nat.zero_le, hs_set1, q.f2, hlt]
      have e1 := ih (i + 1) (by omega)
      simp only [← nI_1, ls_sum] at e1
      first | exact e1 | exact hl_drop B _ (by simp) e1
  refine hl_seg B okX4_sumPaid (fun q => nomatch q) 0 4 rfl ?_
  simp only [pX4_sumPaid, List.drop_zero, List.drop_succ_cons, hl_wp, hs_ii, hs_i1, hs_ll, hs_l1, hs_ff, hs_g1, hs_dd, hs_d1, hs_r1, hs_rv, hs_rv0, hs_n1, hs_n0, hs_v1i, hs_v1r, hs_a1, hs_d2l, hs_d2i, hs_ri, hs_rl, hs_rg, hs_rd8, hs_rr, hs_rn, hs_ov, hs_gf, hs_po, hs_pfi, hs_pfr, hs_ia, hs_la, hs_da, hs_qa, hs_al, hs_is, hs_ls, hs_ds, hs_iso, hs_lso, hs_dso, hs_rd, hs_f1, hs_f10, hs_f2, hs_f20, hs_in0, hs_in1, hs_lt, hs_le, hs_ge, hs_gt, hs_eq, hs_10, hs_00, hs_01, true_and, and_true, true_imp_iff, false_imp_iff, not_true_eq_false, not_false_eq_true, hs_av, hs_ai, hs_ar, hs_an, hs_aj, hs_ci, hs_cr, hs_cn, hs_cj, hs_cd, hs_cf, hs_q0, hs_q1, reduceIte, Nat.reduceEqDiff, Nat.reduceAdd, Nat.reduceLT, eq_self, List.getElem?_cons_zero, List.getElem?_cons_succ, List.set_cons_zero, List.set_cons_succ, List.length_cons, List.length_nil, Option.toList_some, Option.toList_none, List.cons_append, List.nil_append, Nat.zero_add, Nat.add_zero, List.map_nil, List.sum_nil, List.map_cons, List.sum_cons, Nat.zero_le, hs_set1, q.f2]
  have e1 := loop (σ.2.1 1) 0 (Nat.zero_add _)
  simp only [nI_0, ls_sum] at e1
  first | exact e1 | exact hl_drop B _ (by simp) e1
def ls_held (σ : LSt) (x : Int32) : Int64 := ls_sum (fun i => if row_at (ls_len 17) (σ.1 17) (nI i) = 97 then (if row_at (ls_len 13) (σ.1 13) (nI i) = x.toInt64 then row_at (ls_len 15) (σ.1 15) (nI i) else 0) else 0) (σ.2.1 2)
set_option maxRecDepth 20000 in
set_option maxHeartbeats 2000000 in
theorem ct_X3_heldFrom {G : hl_G} {l : Launch} {a ca : Nat → Nat} {σ : LSt} {h : hl_H} {x : Int32} (q : LSr a ca σ h) (hz : ∀ j : Nat, σ.2.1 j < 2 ^ 30) :
    hl_Ct G l mX3_heldFrom 2 0 0 [.ref (a 3), .int x] (fun g => g = h) (fun r g => r = some (.long (ls_held σ x)) ∧ g = h) (fun _ _ => False) := by
  refine hl_body (by decide +kernel) (Nat.le_of_ble_eq_true rfl) ?_
  intro p e s m args below meth c B g hg
  rw [hg]
  have loop : ∀ (k9 i : Nat), i + k9 = σ.2.1 2 → hl_GM G mX3_heldFrom 2 0 0 (fun r g => r = some (.long (ls_held σ x)) ∧ g = h) (fun _ _ => False) p l e s m args below meth c 5 [(0, .ref (a 3)), (1, .int x), (2, .long (ls_sum (fun i => if row_at (ls_len 17) (σ.1 17) (nI i) = 97 then (if row_at (ls_len 13) (σ.1 13) (nI i) = x.toInt64 then row_at (ls_len 15) (σ.1 15) (nI i) else 0) else 0) i)), (4, .int (nI i))] [] h 0 0 := by
    intro k9
    induction k9 with
    | zero =>
      intro i hi
      have hle : nI (σ.2.1 2) ≤ nI i := nI_le (by omega) (by have := hz 2; omega)
      have hie : i = σ.2.1 2 := by omega
      refine hl_seg B okX3_heldFrom (fun q => nomatch q) 4 1000 rfl ?_
      simp only [pX3_heldFrom, List.drop_zero, List.drop_succ_cons, hl_wp, hs_ii, hs_i1, hs_ll, hs_l1, hs_ff, hs_g1, hs_dd, hs_d1, hs_r1, hs_rv, hs_rv0, hs_n1, hs_n0, hs_v1i, hs_v1r, hs_a1, hs_d2l, hs_d2i, hs_ri, hs_rl, hs_rg, hs_rd8, hs_rr, hs_rn, hs_ov, hs_gf, hs_po, hs_pfi, hs_pfr, hs_ia, hs_la, hs_da, hs_qa, hs_al, hs_is, hs_ls, hs_ds, hs_iso, hs_lso, hs_dso, hs_rd, hs_f1, hs_f10, hs_f2, hs_f20, hs_in0, hs_in1, hs_lt, hs_le, hs_ge, hs_gt, hs_eq, hs_10, hs_00, hs_01, true_and, and_true, true_imp_iff, false_imp_iff, not_true_eq_false, not_false_eq_true, hs_av, hs_ai, hs_ar, hs_an, hs_aj, hs_ci, hs_cr, hs_cn, hs_cj, hs_cd, hs_cf, hs_q0, hs_q1, reduceIte, Nat.reduceEqDiff, Nat.reduceAdd, Nat.reduceLT, eq_self, List.getElem?_cons_zero, List.getElem?_cons_succ, List.set_cons_zero, List.set_cons_succ, List.length_cons, List.length_nil, Option.toList_some, Option.toList_none, List.cons_append, List.nil_append, Nat.zero_add, Nat.add_zero, List.map_nil, List.sum_nil, List.map_cons, List.sum_cons, Nat.zero_le, hs_set1, q.f3, hle]
      refine hl_seg B okX3_heldFrom (fun q => nomatch q) 29 1000 rfl ?_
      simp only [pX3_heldFrom, List.drop_zero, List.drop_succ_cons, hl_wp, hs_ii, hs_i1, hs_ll, hs_l1, hs_ff, hs_g1, hs_dd, hs_d1, hs_r1, hs_rv, hs_rv0, hs_n1, hs_n0, hs_v1i, hs_v1r, hs_a1, hs_d2l, hs_d2i, hs_ri, hs_rl, hs_rg, hs_rd8, hs_rr, hs_rn, hs_ov, hs_gf, hs_po, hs_pfi, hs_pfr, hs_ia, hs_la, hs_da, hs_qa, hs_al, hs_is, hs_ls, hs_ds, hs_iso, hs_lso, hs_dso, hs_rd, hs_f1, hs_f10, hs_f2, hs_f20, hs_in0, hs_in1, hs_lt, hs_le, hs_ge, hs_gt, hs_eq, hs_10, hs_00, hs_01, true_and, and_true, true_imp_iff, false_imp_iff, not_true_eq_false, not_false_eq_true, hs_av, hs_ai, hs_ar, hs_an, hs_aj, hs_ci, hs_cr, hs_cn, hs_cj, hs_cd, hs_cf, hs_q0, hs_q1, reduceIte, Nat.reduceEqDiff, Nat.reduceAdd, Nat.reduceLT, eq_self, List.getElem?_cons_zero, List.getElem?_cons_succ, List.set_cons_zero, List.set_cons_succ, List.length_cons, List.length_nil, Option.toList_some, Option.toList_none, List.cons_append, List.nil_append, Nat.zero_add, Nat.add_zero, List.map_nil, List.sum_nil, List.map_cons, List.sum_cons, Nat.zero_le, hs_set1, q.f3, hle]
      exact hl_lret B rfl (hl_dec okX3_heldFrom 30 rfl) (by decide) (by decide) ⟨by simp only [ls_held, hie], rfl⟩
    | succ k9 ih =>
      intro i hi
      have hlt : ¬ nI (σ.2.1 2) ≤ nI i := nI_ge (by omega) (by have := hz 2; omega)
      refine hl_seg B okX3_heldFrom (fun q => nomatch q) 4 1000 rfl ?_
      simp only [pX3_heldFrom, List.drop_zero, List.drop_succ_cons, hl_wp, hs_ii, hs_i1, hs_ll, hs_l1, hs_ff, hs_g1, hs_dd, hs_d1, hs_r1, hs_rv, hs_rv0, hs_n1, hs_n0, hs_v1i, hs_v1r, hs_a1, hs_d2l, hs_d2i, hs_ri, hs_rl, hs_rg, hs_rd8, hs_rr, hs_rn, hs_ov, hs_gf, hs_po, hs_pfi, hs_pfr, hs_ia, hs_la, hs_da, hs_qa, hs_al, hs_is, hs_ls, hs_ds, hs_iso, hs_lso, hs_dso, hs_rd, hs_f1, hs_f10, hs_f2, hs_f20, hs_in0, hs_in1, hs_lt, hs_le, hs_ge, hs_gt, hs_eq, hs_10, hs_00, hs_01, true_and, and_true, true_imp_iff, false_imp_iff, not_true_eq_false, not_false_eq_true, hs_av, hs_ai, hs_ar, hs_an, hs_aj, hs_ci, hs_cr, hs_cn, hs_cj, hs_cd, hs_cf, hs_q0, hs_q1, reduceIte, Nat.reduceEqDiff, Nat.reduceAdd, Nat.reduceLT, eq_self, List.getElem?_cons_zero, List.getElem?_cons_succ, List.set_cons_zero, List.set_cons_succ, List.length_cons, List.length_nil, Option.toList_some, Option.toList_none, List.cons_append, List.nil_append, Nat.zero_add, Nat.add_zero, List.map_nil, List.sum_nil, List.map_cons, List.sum_cons, Nat.zero_le, hs_set1, q.f3, hlt]
      refine hl_callR B (As := [.int _]) (ct_X3_isActive q) mtX3_isActive (hl_dec okX3_heldFrom 10 rfl) (kk := 274) (by decide +kernel) rfl (q.f3) rfl (Nat.le_of_ble_eq_true rfl) (by decide) (by decide) (by decide) (by decide) ?_
      by_cases c1 : row_at (ls_len 17) (σ.1 17) (nI i) = 97
      · skip
        refine hl_seg B okX3_heldFrom (fun q => nomatch q) 11 1000 rfl ?_
        simp only [pX3_heldFrom, List.drop_zero, List.drop_succ_cons, hl_wp, hs_ii, hs_i1, hs_ll, hs_l1, hs_ff, hs_g1, hs_dd, hs_d1, hs_r1, hs_rv, hs_rv0, hs_n1, hs_n0, hs_v1i, hs_v1r, hs_a1, hs_d2l, hs_d2i, hs_ri, hs_rl, hs_rg, hs_rd8, hs_rr, hs_rn, hs_ov, hs_gf, hs_po, hs_pfi, hs_pfr, hs_ia, hs_la, hs_da, hs_qa, hs_al, hs_is, hs_ls, hs_ds, hs_iso, hs_lso, hs_dso, hs_rd, hs_f1, hs_f10, hs_f2, hs_f20, hs_in0, hs_in1, hs_lt, hs_le, hs_ge, hs_gt, hs_eq, hs_10, hs_00, hs_01, true_and, and_true, true_imp_iff, false_imp_iff, not_true_eq_false, not_false_eq_true, hs_av, hs_ai, hs_ar, hs_an, hs_aj, hs_ci, hs_cr, hs_cn, hs_cj, hs_cd, hs_cf, hs_q0, hs_q1, reduceIte, Nat.reduceEqDiff, Nat.reduceAdd, Nat.reduceLT, eq_self, List.getElem?_cons_zero, List.getElem?_cons_succ, List.set_cons_zero, List.set_cons_succ, List.length_cons, List.length_nil, Option.toList_some, Option.toList_none, List.cons_append, List.nil_append, Nat.zero_add, Nat.add_zero, List.map_nil, List.sum_nil, List.map_cons, List.sum_cons, Nat.zero_le, hs_set1, if_pos c1, q.f3, hlt]
        refine hl_callR B (As := [.int _]) (ls_at q 13 (by decide) _) mtX6_at (hl_dec okX3_heldFrom 15 rfl) (kk := 278) (by decide +kernel) rfl (q.fr 13 (by decide)) rfl (Nat.le_of_ble_eq_true rfl) (by decide) (by decide) (by decide) (by decide) ?_
        refine hl_seg B okX3_heldFrom (fun q => nomatch q) 16 1000 rfl ?_
        simp only [pX3_heldFrom, List.drop_zero, List.drop_succ_cons, hl_wp, hs_ii, hs_i1, hs_ll, hs_l1, hs_ff, hs_g1, hs_dd, hs_d1, hs_r1, hs_rv, hs_rv0, hs_n1, hs_n0, hs_v1i, hs_v1r, hs_a1, hs_d2l, hs_d2i, hs_ri, hs_rl, hs_rg, hs_rd8, hs_rr, hs_rn, hs_ov, hs_gf, hs_po, hs_pfi, hs_pfr, hs_ia, hs_la, hs_da, hs_qa, hs_al, hs_is, hs_ls, hs_ds, hs_iso, hs_lso, hs_dso, hs_rd, hs_f1, hs_f10, hs_f2, hs_f20, hs_in0, hs_in1, hs_lt, hs_le, hs_ge, hs_gt, hs_eq, hs_10, hs_00, hs_01, true_and, and_true, true_imp_iff, false_imp_iff, not_true_eq_false, not_false_eq_true, hs_av, hs_ai, hs_ar, hs_an, hs_aj, hs_ci, hs_cr, hs_cn, hs_cj, hs_cd, hs_cf, hs_q0, hs_q1, reduceIte, Nat.reduceEqDiff, Nat.reduceAdd, Nat.reduceLT, eq_self, List.getElem?_cons_zero, List.getElem?_cons_succ, List.set_cons_zero, List.set_cons_succ, List.length_cons, List.length_nil, Option.toList_some, Option.toList_none, List.cons_append, List.nil_append, Nat.zero_add, Nat.add_zero, List.map_nil, List.sum_nil, List.map_cons, List.sum_cons, Nat.zero_le, hs_set1, q.f3, hlt]
        refine ⟨fun c2 => ?_, fun c2 => ?_⟩
        · skip
          refine hl_seg B okX3_heldFrom (fun q => nomatch q) 27 1000 rfl ?_
          simp only [pX3_heldFrom, List.drop_zero, List.drop_succ_cons, hl_wp, hs_ii, hs_i1, hs_ll, hs_l1, hs_ff, hs_g1, hs_dd, hs_d1, hs_r1, hs_rv, hs_rv0, hs_n1, hs_n0, hs_v1i, hs_v1r, hs_a1, hs_d2l, hs_d2i, hs_ri, hs_rl, hs_rg, hs_rd8, hs_rr, hs_rn, hs_ov, hs_gf, hs_po, hs_pfi, hs_pfr, hs_ia, hs_la, hs_da, hs_qa, hs_al, hs_is, hs_ls, hs_ds, hs_iso, hs_lso, hs_dso, hs_rd, hs_f1, hs_f10, hs_f2, hs_f20, hs_in0, hs_in1, hs_lt, hs_le, hs_ge, hs_gt, hs_eq, hs_10, hs_00, hs_01, true_and, and_true, true_imp_iff, false_imp_iff, not_true_eq_false, not_false_eq_true, hs_av, hs_ai, hs_ar, hs_an, hs_aj, hs_ci, hs_cr, hs_cn, hs_cj, hs_cd, hs_cf, hs_q0, hs_q1, reduceIte, Nat.reduceEqDiff, Nat.reduceAdd, Nat.reduceLT, eq_self, List.getElem?_cons_zero, List.getElem?_cons_succ, List.set_cons_zero, List.set_cons_succ, List.length_cons, List.length_nil, Option.toList_some, Option.toList_none, List.cons_append, List.nil_append, Nat.zero_add, Nat.add_zero, List.map_nil, List.sum_nil, List.map_cons, List.sum_cons, Nat.zero_le, hs_set1, q.f3, hlt]
          have e1 := ih (i + 1) (by omega)
          simp only [← nI_1, ls_sum, Int64.add_zero, if_pos c1, if_neg c2] at e1
          first | exact e1 | exact hl_drop B _ (by simp) e1
        · skip
          refine hl_callR B (As := [.int _]) (ls_at q 15 (by decide) _) mtX6_at (hl_dec okX3_heldFrom 24 rfl) (kk := 278) (by decide +kernel) rfl (q.fr 15 (by decide)) rfl (Nat.le_of_ble_eq_true rfl) (by decide) (by decide) (by decide) (by decide) ?_
          refine hl_seg B okX3_heldFrom (fun q => nomatch q) 25 1000 rfl ?_
          simp only [pX3_heldFrom, List.drop_zero, List.drop_succ_cons, hl_wp, hs_ii, hs_i1, hs_ll, hs_l1, hs_ff, hs_g1, hs_dd, hs_d1, hs_r1, hs_rv, hs_rv0, hs_n1, hs_n0, hs_v1i, hs_v1r, hs_a1, hs_d2l, hs_d2i, hs_ri, hs_rl, hs_rg, hs_rd8, hs_rr, hs_rn, hs_ov, hs_gf, hs_po, hs_pfi, hs_pfr, hs_ia, hs_la, hs_da, hs_qa, hs_al, hs_is, hs_ls, hs_ds, hs_iso, hs_lso, hs_dso, hs_rd, hs_f1, hs_f10, hs_f2, hs_f20, hs_in0, hs_in1, hs_lt, hs_le, hs_ge, hs_gt, hs_eq, hs_10, hs_00, hs_01, true_and, and_true, true_imp_iff, false_imp_iff, not_true_eq_false, not_false_eq_true, hs_av, hs_ai, hs_ar, hs_an, hs_aj, hs_ci, hs_cr, hs_cn, hs_cj, hs_cd, hs_cf, hs_q0, hs_q1, reduceIte, Nat.reduceEqDiff, Nat.reduceAdd, Nat.reduceLT, eq_self, List.getElem?_cons_zero, List.getElem?_cons_succ, List.set_cons_zero, List.set_cons_succ, List.length_cons, List.length_nil, Option.toList_some, Option.toList_none, List.cons_append, List.nil_append, Nat.zero_add, Nat.add_zero, List.map_nil, List.sum_nil, List.map_cons, List.sum_cons, Nat.zero_le, hs_set1, q.f3, hlt]
          have e1 := ih (i + 1) (by omega)
          simp only [← nI_1, ls_sum, Int64.add_zero, if_pos c1, if_pos c2] at e1
          first | exact e1 | exact hl_drop B _ (by simp) e1
      · skip
        refine hl_seg B okX3_heldFrom (fun q => nomatch q) 11 1000 rfl ?_
        simp only [pX3_heldFrom, List.drop_zero, List.drop_succ_cons, hl_wp, hs_ii, hs_i1, hs_ll, hs_l1, hs_ff, hs_g1, hs_dd, hs_d1, hs_r1, hs_rv, hs_rv0, hs_n1, hs_n0, hs_v1i, hs_v1r, hs_a1, hs_d2l, hs_d2i, hs_ri, hs_rl, hs_rg, hs_rd8, hs_rr, hs_rn, hs_ov, hs_gf, hs_po, hs_pfi, hs_pfr, hs_ia, hs_la, hs_da, hs_qa, hs_al, hs_is, hs_ls, hs_ds, hs_iso, hs_lso, hs_dso, hs_rd, hs_f1, hs_f10, hs_f2, hs_f20, hs_in0, hs_in1, hs_lt, hs_le, hs_ge, hs_gt, hs_eq, hs_10, hs_00, hs_01, true_and, and_true, true_imp_iff, false_imp_iff, not_true_eq_false, not_false_eq_true, hs_av, hs_ai, hs_ar, hs_an, hs_aj, hs_ci, hs_cr, hs_cn, hs_cj, hs_cd, hs_cf, hs_q0, hs_q1, reduceIte, Nat.reduceEqDiff, Nat.reduceAdd, Nat.reduceLT, eq_self, List.getElem?_cons_zero, List.getElem?_cons_succ, List.set_cons_zero, List.set_cons_succ, List.length_cons, List.length_nil, Option.toList_some, Option.toList_none, List.cons_append, List.nil_append, Nat.zero_add, Nat.add_zero, List.map_nil, List.sum_nil, List.map_cons, List.sum_cons, Nat.zero_le, hs_set1, if_neg c1, q.f3, hlt]
        refine hl_seg B okX3_heldFrom (fun q => nomatch q) 27 1000 rfl ?_
        simp only [pX3_heldFrom, List.drop_zero, List.drop_succ_cons, hl_wp, hs_ii, hs_i1, hs_ll, hs_l1, hs_ff, hs_g1, hs_dd, hs_d1, hs_r1, hs_rv, hs_rv0, hs_n1, hs_n0, hs_v1i, hs_v1r, hs_a1, hs_d2l, hs_d2i, hs_ri, hs_rl, hs_rg, hs_rd8, hs_rr, hs_rn, hs_ov, hs_gf, hs_po, hs_pfi, hs_pfr, hs_ia, hs_la, hs_da, hs_qa, hs_al, hs_is, hs_ls, hs_ds, hs_iso, hs_lso, hs_dso, hs_rd, hs_f1, hs_f10, hs_f2, hs_f20, hs_in0, hs_in1, hs_lt, hs_le, hs_ge, hs_gt, hs_eq, hs_10, hs_00, hs_01, true_and, and_true, true_imp_iff, false_imp_iff, not_true_eq_false, not_false_eq_true, hs_av, hs_ai, hs_ar, hs_an, hs_aj, hs_ci, hs_cr, hs_cn, hs_cj, hs_cd, hs_cf, hs_q0, hs_q1, reduceIte, Nat.reduceEqDiff, Nat.reduceAdd, Nat.reduceLT, eq_self, List.getElem?_cons_zero, List.getElem?_cons_succ, List.set_cons_zero, List.set_cons_succ, List.length_cons, List.length_nil, Option.toList_some, Option.toList_none, List.cons_append, List.nil_append, Nat.zero_add, Nat.add_zero, List.map_nil, List.sum_nil, List.map_cons, List.sum_cons, Nat.zero_le, hs_set1, q.f3, hlt]
        have e1 := ih (i + 1) (by omega)
        simp only [← nI_1, ls_sum, Int64.add_zero, if_neg c1] at e1
        first | exact e1 | exact hl_drop B _ (by simp) e1
  refine hl_seg B okX3_heldFrom (fun q => nomatch q) 0 4 rfl ?_
  simp only [pX3_heldFrom, List.drop_zero, List.drop_succ_cons, hl_wp, hs_ii, hs_i1, hs_ll, hs_l1, hs_ff, hs_g1, hs_dd, hs_d1, hs_r1, hs_rv, hs_rv0, hs_n1, hs_n0, hs_v1i, hs_v1r, hs_a1, hs_d2l, hs_d2i, hs_ri, hs_rl, hs_rg, hs_rd8, hs_rr, hs_rn, hs_ov, hs_gf, hs_po, hs_pfi, hs_pfr, hs_ia, hs_la, hs_da, hs_qa, hs_al, hs_is, hs_ls, hs_ds, hs_iso, hs_lso, hs_dso, hs_rd, hs_f1, hs_f10, hs_f2, hs_f20, hs_in0, hs_in1, hs_lt, hs_le, hs_ge, hs_gt, hs_eq, hs_10, hs_00, hs_01, true_and, and_true, true_imp_iff, false_imp_iff, not_true_eq_false, not_false_eq_true, hs_av, hs_ai, hs_ar, hs_an, hs_aj, hs_ci, hs_cr, hs_cn, hs_cj, hs_cd, hs_cf, hs_q0, hs_q1, reduceIte, Nat.reduceEqDiff, Nat.reduceAdd, Nat.reduceLT, eq_self, List.getElem?_cons_zero, List.getElem?_cons_succ, List.set_cons_zero, List.set_cons_succ, List.length_cons, List.length_nil, Option.toList_some, Option.toList_none, List.cons_append, List.nil_append, Nat.zero_add, Nat.add_zero, List.map_nil, List.sum_nil, List.map_cons, List.sum_cons, Nat.zero_le, hs_set1, q.f3]
  have e1 := loop (σ.2.1 2) 0 (Nat.zero_add _)
  simp only [nI_0, ls_sum, Int64.add_zero] at e1
  first | exact e1 | exact hl_drop B _ (by simp) e1
def ls_sumOf (σ : LSt) (x : Int32) : Int64 := row_at (ls_len 3) (σ.1 3) x + row_at (ls_len 4) (σ.1 4) x + ls_sum (fun i => if row_at (ls_len 0) (σ.1 0) (nI i) = x.toInt64 then row_at (ls_len 2) (σ.1 2) (nI i) else 0) (σ.2.1 0)
set_option maxRecDepth 20000 in
set_option maxHeartbeats 2000000 in
theorem ct_X1_sumOf {G : hl_G} {l : Launch} {a ca : Nat → Nat} {σ : LSt} {h : hl_H} {x : Int32} (q : LSr a ca σ h) (hz : ∀ j : Nat, σ.2.1 j < 2 ^ 30) :
    hl_Ct G l mX1_sumOf 1 0 0 [.ref (a 1), .int x] (fun g => g = h) (fun r g => r = some (.long (ls_sumOf σ x)) ∧ g = h) (fun _ _ => False) := by
  refine hl_body (by decide +kernel) (Nat.le_of_ble_eq_true rfl) ?_
  intro p e s m args below meth c B g hg
  rw [hg]
  have loop : ∀ (k9 i : Nat), i + k9 = σ.2.1 0 → hl_GM G mX1_sumOf 1 0 0 (fun r g => r = some (.long (ls_sumOf σ x)) ∧ g = h) (fun _ _ => False) p l e s m args below meth c 21 [(0, .ref (a 1)), (1, .int x), (2, .long (row_at (ls_len 3) (σ.1 3) x + row_at (ls_len 4) (σ.1 4) x + ls_sum (fun i => if row_at (ls_len 0) (σ.1 0) (nI i) = x.toInt64 then row_at (ls_len 2) (σ.1 2) (nI i) else 0) i)), (4, .int (nI i))] [] h 0 0 := by
    intro k9
    induction k9 with
    | zero =>
      intro i hi
      have hle : nI (σ.2.1 0) ≤ nI i := nI_le (by omega) (by have := hz 0; omega)
      have hie : i = σ.2.1 0 := by omega
      refine hl_seg B okX1_sumOf (fun q => nomatch q) 12 1000 rfl ?_
      simp only [pX1_sumOf, List.drop_zero, List.drop_succ_cons, hl_wp, hs_ii, hs_i1, hs_ll, hs_l1, hs_ff, hs_g1, hs_dd, hs_d1, hs_r1, hs_rv, hs_rv0, hs_n1, hs_n0, hs_v1i, hs_v1r, hs_a1, hs_d2l, hs_d2i, hs_ri, hs_rl, hs_rg, hs_rd8, hs_rr, hs_rn, hs_ov, hs_gf, hs_po, hs_pfi, hs_pfr, hs_ia, hs_la, hs_da, hs_qa, hs_al, hs_is, hs_ls, hs_ds, hs_iso, hs_lso, hs_dso, hs_rd, hs_f1, hs_f10, hs_f2, hs_f20, hs_in0, hs_in1, hs_lt, hs_le, hs_ge, hs_gt, hs_eq, hs_10, hs_00, hs_01, true_and, and_true, true_imp_iff, false_imp_iff, not_true_eq_false, not_false_eq_true, hs_av, hs_ai, hs_ar, hs_an, hs_aj, hs_ci, hs_cr, hs_cn, hs_cj, hs_cd, hs_cf, hs_q0, hs_q1, reduceIte, Nat.reduceEqDiff, Nat.reduceAdd, Nat.reduceLT, eq_self, List.getElem?_cons_zero, List.getElem?_cons_succ, List.set_cons_zero, List.set_cons_succ, List.length_cons, List.length_nil, Option.toList_some, Option.toList_none, List.cons_append, List.nil_append, Nat.zero_add, Nat.add_zero, List.map_nil, List.sum_nil, List.map_cons, List.sum_cons, Nat.zero_le, hs_set1, q.f1, hle]
      refine hl_seg B okX1_sumOf (fun q => nomatch q) 33 1000 rfl ?_
      simp only [pX1_sumOf, List.drop_zero, List.drop_succ_cons, hl_wp, hs_ii, hs_i1, hs_ll, hs_l1, hs_ff, hs_g1, hs_dd, hs_d1, hs_r1, hs_rv, hs_rv0, hs_n1, hs_n0, hs_v1i, hs_v1r, hs_a1, hs_d2l, hs_d2i, hs_ri, hs_rl, hs_rg, hs_rd8, hs_rr, hs_rn, hs_ov, hs_gf, hs_po, hs_pfi, hs_pfr, hs_ia, hs_la, hs_da, hs_qa, hs_al, hs_is, hs_ls, hs_ds, hs_iso, hs_lso, hs_dso, hs_rd, hs_f1, hs_f10, hs_f2, hs_f20, hs_in0, hs_in1, hs_lt, hs_le, hs_ge, hs_gt, hs_eq, hs_10, hs_00, hs_01, true_and, and_true, true_imp_iff, false_imp_iff, not_true_eq_false, not_false_eq_true, hs_av, hs_ai, hs_ar, hs_an, hs_aj, hs_ci, hs_cr, hs_cn, hs_cj, hs_cd, hs_cf, hs_q0, hs_q1, reduceIte, Nat.reduceEqDiff, Nat.reduceAdd, Nat.reduceLT, eq_self, List.getElem?_cons_zero, List.getElem?_cons_succ, List.set_cons_zero, List.set_cons_succ, List.length_cons, List.length_nil, Option.toList_some, Option.toList_none, List.cons_append, List.nil_append, Nat.zero_add, Nat.add_zero, List.map_nil, List.sum_nil, List.map_cons, List.sum_cons, Nat.zero_le, hs_set1, q.f1, hle]
      exact hl_lret B rfl (hl_dec okX1_sumOf 34 rfl) (by decide) (by decide) ⟨by simp only [ls_sumOf, hie], rfl⟩
    | succ k9 ih =>
      intro i hi
      have hlt : ¬ nI (σ.2.1 0) ≤ nI i := nI_ge (by omega) (by have := hz 0; omega)
      refine hl_seg B okX1_sumOf (fun q => nomatch q) 12 1000 rfl ?_
      simp only [pX1_sumOf, List.drop_zero, List.drop_succ_cons, hl_wp, hs_ii, hs_i1, hs_ll, hs_l1, hs_ff, hs_g1, hs_dd, hs_d1, hs_r1, hs_rv, hs_rv0, hs_n1, hs_n0, hs_v1i, hs_v1r, hs_a1, hs_d2l, hs_d2i, hs_ri, hs_rl, hs_rg, hs_rd8, hs_rr, hs_rn, hs_ov, hs_gf, hs_po, hs_pfi, hs_pfr, hs_ia, hs_la, hs_da, hs_qa, hs_al, hs_is, hs_ls, hs_ds, hs_iso, hs_lso, hs_dso, hs_rd, hs_f1, hs_f10, hs_f2, hs_f20, hs_in0, hs_in1, hs_lt, hs_le, hs_ge, hs_gt, hs_eq, hs_10, hs_00, hs_01, true_and, and_true, true_imp_iff, false_imp_iff, not_true_eq_false, not_false_eq_true, hs_av, hs_ai, hs_ar, hs_an, hs_aj, hs_ci, hs_cr, hs_cn, hs_cj, hs_cd, hs_cf, hs_q0, hs_q1, reduceIte, Nat.reduceEqDiff, Nat.reduceAdd, Nat.reduceLT, eq_self, List.getElem?_cons_zero, List.getElem?_cons_succ, List.set_cons_zero, List.set_cons_succ, List.length_cons, List.length_nil, Option.toList_some, Option.toList_none, List.cons_append, List.nil_append, Nat.zero_add, Nat.add_zero, List.map_nil, List.sum_nil, List.map_cons, List.sum_cons, Nat.zero_le, hs_set1, q.f1, hlt]
      refine hl_callR B (As := [.int _]) (ls_at q 0 (by decide) _) mtX6_at (hl_dec okX1_sumOf 19 rfl) (kk := 323) (by decide +kernel) rfl (q.fr 0 (by decide)) rfl (Nat.le_of_ble_eq_true rfl) (by decide) (by decide) (by decide) (by decide) ?_
      refine hl_seg B okX1_sumOf (fun q => nomatch q) 20 1000 rfl ?_
      simp only [pX1_sumOf, List.drop_zero, List.drop_succ_cons, hl_wp, hs_ii, hs_i1, hs_ll, hs_l1, hs_ff, hs_g1, hs_dd, hs_d1, hs_r1, hs_rv, hs_rv0, hs_n1, hs_n0, hs_v1i, hs_v1r, hs_a1, hs_d2l, hs_d2i, hs_ri, hs_rl, hs_rg, hs_rd8, hs_rr, hs_rn, hs_ov, hs_gf, hs_po, hs_pfi, hs_pfr, hs_ia, hs_la, hs_da, hs_qa, hs_al, hs_is, hs_ls, hs_ds, hs_iso, hs_lso, hs_dso, hs_rd, hs_f1, hs_f10, hs_f2, hs_f20, hs_in0, hs_in1, hs_lt, hs_le, hs_ge, hs_gt, hs_eq, hs_10, hs_00, hs_01, true_and, and_true, true_imp_iff, false_imp_iff, not_true_eq_false, not_false_eq_true, hs_av, hs_ai, hs_ar, hs_an, hs_aj, hs_ci, hs_cr, hs_cn, hs_cj, hs_cd, hs_cf, hs_q0, hs_q1, reduceIte, Nat.reduceEqDiff, Nat.reduceAdd, Nat.reduceLT, eq_self, List.getElem?_cons_zero, List.getElem?_cons_succ, List.set_cons_zero, List.set_cons_succ, List.length_cons, List.length_nil, Option.toList_some, Option.toList_none, List.cons_append, List.nil_append, Nat.zero_add, Nat.add_zero, List.map_nil, List.sum_nil, List.map_cons, List.sum_cons, Nat.zero_le, hs_set1, q.f1, hlt]
      refine ⟨fun c1 => ?_, fun c1 => ?_⟩
      · skip
        refine hl_seg B okX1_sumOf (fun q => nomatch q) 31 1000 rfl ?_
        simp only [pX1_sumOf, List.drop_zero, List.drop_succ_cons, hl_wp, hs_ii, hs_i1, hs_ll, hs_l1, hs_ff, hs_g1, hs_dd, hs_d1, hs_r1, hs_rv, hs_rv0, hs_n1, hs_n0, hs_v1i, hs_v1r, hs_a1, hs_d2l, hs_d2i, hs_ri, hs_rl, hs_rg, hs_rd8, hs_rr, hs_rn, hs_ov, hs_gf, hs_po, hs_pfi, hs_pfr, hs_ia, hs_la, hs_da, hs_qa, hs_al, hs_is, hs_ls, hs_ds, hs_iso, hs_lso, hs_dso, hs_rd, hs_f1, hs_f10, hs_f2, hs_f20, hs_in0, hs_in1, hs_lt, hs_le, hs_ge, hs_gt, hs_eq, hs_10, hs_00, hs_01, true_and, and_true, true_imp_iff, false_imp_iff, not_true_eq_false, not_false_eq_true, hs_av, hs_ai, hs_ar, hs_an, hs_aj, hs_ci, hs_cr, hs_cn, hs_cj, hs_cd, hs_cf, hs_q0, hs_q1, reduceIte, Nat.reduceEqDiff, Nat.reduceAdd, Nat.reduceLT, eq_self, List.getElem?_cons_zero, List.getElem?_cons_succ, List.set_cons_zero, List.set_cons_succ, List.length_cons, List.length_nil, Option.toList_some, Option.toList_none, List.cons_append, List.nil_append, Nat.zero_add, Nat.add_zero, List.map_nil, List.sum_nil, List.map_cons, List.sum_cons, Nat.zero_le, hs_set1, q.f1, hlt]
        have e1 := ih (i + 1) (by omega)
        simp only [← nI_1, ls_sum, Int64.add_zero, ← Int64.add_assoc, if_neg c1] at e1
        first | exact e1 | exact hl_drop B _ (by simp) e1
      · skip
        refine hl_callR B (As := [.int _]) (ls_at q 2 (by decide) _) mtX6_at (hl_dec okX1_sumOf 28 rfl) (kk := 323) (by decide +kernel) rfl (q.fr 2 (by decide)) rfl (Nat.le_of_ble_eq_true rfl) (by decide) (by decide) (by decide) (by decide) ?_
        refine hl_seg B okX1_sumOf (fun q => nomatch q) 29 1000 rfl ?_
        simp only [pX1_sumOf, List.drop_zero, List.drop_succ_cons, hl_wp, hs_ii, hs_i1, hs_ll, hs_l1, hs_ff, hs_g1, hs_dd, hs_d1, hs_r1, hs_rv, hs_rv0, hs_n1, hs_n0, hs_v1i, hs_v1r, hs_a1, hs_d2l, hs_d2i, hs_ri, hs_rl, hs_rg, hs_rd8, hs_rr, hs_rn, hs_ov, hs_gf, hs_po, hs_pfi, hs_pfr, hs_ia, hs_la, hs_da, hs_qa, hs_al, hs_is, hs_ls, hs_ds, hs_iso, hs_lso, hs_dso, hs_rd, hs_f1, hs_f10, hs_f2, hs_f20, hs_in0, hs_in1, hs_lt, hs_le, hs_ge, hs_gt, hs_eq, hs_10, hs_00, hs_01, true_and, and_true, true_imp_iff, false_imp_iff, not_true_eq_false, not_false_eq_true, hs_av, hs_ai, hs_ar, hs_an, hs_aj, hs_ci, hs_cr, hs_cn, hs_cj, hs_cd, hs_cf, hs_q0, hs_q1, reduceIte, Nat.reduceEqDiff, Nat.reduceAdd, Nat.reduceLT, eq_self, List.getElem?_cons_zero, List.getElem?_cons_succ, List.set_cons_zero, List.set_cons_succ, List.length_cons, List.length_nil, Option.toList_some, Option.toList_none, List.cons_append, List.nil_append, Nat.zero_add, Nat.add_zero, List.map_nil, List.sum_nil, List.map_cons, List.sum_cons, Nat.zero_le, hs_set1, q.f1, hlt]
        have e1 := ih (i + 1) (by omega)
        simp only [← nI_1, ls_sum, Int64.add_zero, ← Int64.add_assoc, if_pos c1] at e1
        first | exact e1 | exact hl_drop B _ (by simp) e1
  refine hl_seg B okX1_sumOf (fun q => nomatch q) 0 12 rfl ?_
  simp only [pX1_sumOf, List.drop_zero, List.drop_succ_cons, hl_wp, hs_ii, hs_i1, hs_ll, hs_l1, hs_ff, hs_g1, hs_dd, hs_d1, hs_r1, hs_rv, hs_rv0, hs_n1, hs_n0, hs_v1i, hs_v1r, hs_a1, hs_d2l, hs_d2i, hs_ri, hs_rl, hs_rg, hs_rd8, hs_rr, hs_rn, hs_ov, hs_gf, hs_po, hs_pfi, hs_pfr, hs_ia, hs_la, hs_da, hs_qa, hs_al, hs_is, hs_ls, hs_ds, hs_iso, hs_lso, hs_dso, hs_rd, hs_f1, hs_f10, hs_f2, hs_f20, hs_in0, hs_in1, hs_lt, hs_le, hs_ge, hs_gt, hs_eq, hs_10, hs_00, hs_01, true_and, and_true, true_imp_iff, false_imp_iff, not_true_eq_false, not_false_eq_true, hs_av, hs_ai, hs_ar, hs_an, hs_aj, hs_ci, hs_cr, hs_cn, hs_cj, hs_cd, hs_cf, hs_q0, hs_q1, reduceIte, Nat.reduceEqDiff, Nat.reduceAdd, Nat.reduceLT, eq_self, List.getElem?_cons_zero, List.getElem?_cons_succ, List.set_cons_zero, List.set_cons_succ, List.length_cons, List.length_nil, Option.toList_some, Option.toList_none, List.cons_append, List.nil_append, Nat.zero_add, Nat.add_zero, List.map_nil, List.sum_nil, List.map_cons, List.sum_cons, Nat.zero_le, hs_set1, q.f1]
  refine hl_callR B (As := [.int _]) (ls_at q 3 (by decide) _) mtX6_at (hl_dec okX1_sumOf 3 rfl) (kk := 323) (by decide +kernel) rfl (q.fr 3 (by decide)) rfl (Nat.le_of_ble_eq_true rfl) (by decide) (by decide) (by decide) (by decide) ?_
  refine hl_seg B okX1_sumOf (fun q => nomatch q) 4 8 rfl ?_
  simp only [pX1_sumOf, List.drop_zero, List.drop_succ_cons, hl_wp, hs_ii, hs_i1, hs_ll, hs_l1, hs_ff, hs_g1, hs_dd, hs_d1, hs_r1, hs_rv, hs_rv0, hs_n1, hs_n0, hs_v1i, hs_v1r, hs_a1, hs_d2l, hs_d2i, hs_ri, hs_rl, hs_rg, hs_rd8, hs_rr, hs_rn, hs_ov, hs_gf, hs_po, hs_pfi, hs_pfr, hs_ia, hs_la, hs_da, hs_qa, hs_al, hs_is, hs_ls, hs_ds, hs_iso, hs_lso, hs_dso, hs_rd, hs_f1, hs_f10, hs_f2, hs_f20, hs_in0, hs_in1, hs_lt, hs_le, hs_ge, hs_gt, hs_eq, hs_10, hs_00, hs_01, true_and, and_true, true_imp_iff, false_imp_iff, not_true_eq_false, not_false_eq_true, hs_av, hs_ai, hs_ar, hs_an, hs_aj, hs_ci, hs_cr, hs_cn, hs_cj, hs_cd, hs_cf, hs_q0, hs_q1, reduceIte, Nat.reduceEqDiff, Nat.reduceAdd, Nat.reduceLT, eq_self, List.getElem?_cons_zero, List.getElem?_cons_succ, List.set_cons_zero, List.set_cons_succ, List.length_cons, List.length_nil, Option.toList_some, Option.toList_none, List.cons_append, List.nil_append, Nat.zero_add, Nat.add_zero, List.map_nil, List.sum_nil, List.map_cons, List.sum_cons, Nat.zero_le, hs_set1, q.f1]
  refine hl_callR B (As := [.int _]) (ls_at q 4 (by decide) _) mtX6_at (hl_dec okX1_sumOf 7 rfl) (kk := 323) (by decide +kernel) rfl (q.fr 4 (by decide)) rfl (Nat.le_of_ble_eq_true rfl) (by decide) (by decide) (by decide) (by decide) ?_
  refine hl_seg B okX1_sumOf (fun q => nomatch q) 8 4 rfl ?_
  simp only [pX1_sumOf, List.drop_zero, List.drop_succ_cons, hl_wp, hs_ii, hs_i1, hs_ll, hs_l1, hs_ff, hs_g1, hs_dd, hs_d1, hs_r1, hs_rv, hs_rv0, hs_n1, hs_n0, hs_v1i, hs_v1r, hs_a1, hs_d2l, hs_d2i, hs_ri, hs_rl, hs_rg, hs_rd8, hs_rr, hs_rn, hs_ov, hs_gf, hs_po, hs_pfi, hs_pfr, hs_ia, hs_la, hs_da, hs_qa, hs_al, hs_is, hs_ls, hs_ds, hs_iso, hs_lso, hs_dso, hs_rd, hs_f1, hs_f10, hs_f2, hs_f20, hs_in0, hs_in1, hs_lt, hs_le, hs_ge, hs_gt, hs_eq, hs_10, hs_00, hs_01, true_and, and_true, true_imp_iff, false_imp_iff, not_true_eq_false, not_false_eq_true, hs_av, hs_ai, hs_ar, hs_an, hs_aj, hs_ci, hs_cr, hs_cn, hs_cj, hs_cd, hs_cf, hs_q0, hs_q1, reduceIte, Nat.reduceEqDiff, Nat.reduceAdd, Nat.reduceLT, eq_self, List.getElem?_cons_zero, List.getElem?_cons_succ, List.set_cons_zero, List.set_cons_succ, List.length_cons, List.length_nil, Option.toList_some, Option.toList_none, List.cons_append, List.nil_append, Nat.zero_add, Nat.add_zero, List.map_nil, List.sum_nil, List.map_cons, List.sum_cons, Nat.zero_le, hs_set1, q.f1]
  have e1 := loop (σ.2.1 0) 0 (Nat.zero_add _)
  simp only [nI_0, ls_sum, Int64.add_zero, ← Int64.add_assoc] at e1
  first | exact e1 | exact hl_drop B _ (by simp) e1
end
section
/-! PART 10: the journal's, the holds', the batch's and the books' writes -/
section INC
variable {a ca : Nat → Nat} {σ : LSt} {h h0 : hl_H}
theorem LSw.inc0 (q : LSw a ca σ h0 h) : LSw a ca (ls_sz σ 0 (σ.2.1 0 + 1)) h0 (hl_set h (a 1) (.inr (3, [.int (nI (σ.2.1 0) + 1), .ref (a 7), .ref (a 8), .ref (a 9), .ref (a 10), .ref (a 11), .ref (a 12)]))) := by
  have e := q.sz0 (σ.2.1 0 + 1); rw [← nI_1] at e; exact e
theorem LSw.inc1 (q : LSw a ca σ h0 h) : LSw a ca (ls_sz σ 1 (σ.2.1 1 + 1)) h0 (hl_set h (a 2) (.inr (6, [.int (nI (σ.2.1 1) + 1), .ref (a 13), .ref (a 14), .ref (a 15), .ref (a 16), .ref (a 17), .ref (a 18), .ref (a 19)]))) := by
  have e := q.sz1 (σ.2.1 1 + 1); rw [← nI_1] at e; exact e
theorem LSw.inc2 (q : LSw a ca σ h0 h) : LSw a ca (ls_sz σ 2 (σ.2.1 2 + 1)) h0 (hl_set h (a 3) (.inr (5, [.int (nI (σ.2.1 2) + 1), .ref (a 20), .ref (a 21), .ref (a 22), .ref (a 23), .ref (a 24)]))) := by
  have e := q.sz2 (σ.2.1 2 + 1); rw [← nI_1] at e; exact e
theorem LSw.inc3 (q : LSw a ca σ h0 h) : LSw a ca (ls_sz σ 3 (σ.2.1 3 + 1)) h0 (hl_set h (a 4) (.inr (2, [.int (nI (σ.2.1 3) + 1), .ref (a 25), .ref (a 26), .ref (a 27)]))) := by
  have e := q.sz3 (σ.2.1 3 + 1); rw [← nI_1] at e; exact e
theorem LSw.inc5 (q : LSw a ca σ h0 h) : LSw a ca (ls_sz σ 5 (σ.2.1 5 + 1)) h0 (hl_set h (a 0) (.inr (9, [.ref (a 1), .ref (a 2), .ref (a 3), .ref (a 4), .ref (a 5), .ref (a 28), .int (nI (σ.2.1 5) + 1)]))) := by
  have e := q.sz5 (σ.2.1 5 + 1); rw [← nI_1] at e; exact e
end INC
def ls_P (σ : LSt) (k : Nat) (i : Int32) (v : Int64) : LSt := ls_row σ k (row_put (ls_len k) (σ.1 k) i v)
def ls_A (σ : LSt) (k : Nat) (i : Int32) (v : Int64) : LSt := ls_row σ k (row_add (ls_len k) (σ.1 k) i v)
def ls_app (σ : LSt) (kd x y p r d : Int32) : LSt := ls_sz (ls_P (ls_P (ls_P (ls_P (ls_P (ls_P (ls_P σ 6 (nI (σ.2.1 1)) kd.toInt64) 7 (nI (σ.2.1 1)) x.toInt64) 8 (nI (σ.2.1 1)) y.toInt64) 9 (nI (σ.2.1 1)) p.toInt64) 10 (nI (σ.2.1 1)) r.toInt64) 11 (nI (σ.2.1 1)) d.toInt64) 12 (nI (σ.2.1 1)) (-1)) 1 (σ.2.1 1 + 1)
set_option maxRecDepth 20000 in
set_option maxHeartbeats 2000000 in
theorem ct_X4_append {G : hl_G} {l : Launch} {a ca : Nat → Nat} {σ : LSt} {h0 : hl_H} {kd x y p1 r1 d1 : Int32}  :
    hl_Ct G l mX4_append 1 0 0 [.ref (a 2), .int kd, .int x, .int y, .int p1, .int r1, .int d1] (LSw a ca σ h0) (fun r g => r = some (.int (nI (σ.2.1 1))) ∧ LSw a ca (ls_app σ kd x y p1 r1 d1) h0 g) (fun _ _ => False) := by
  refine hl_body (by decide +kernel) (Nat.le_of_ble_eq_true rfl) ?_
  intro p e s m args below meth c B g hg
  have q := hg.1
  have w := hg
  refine hl_seg B okX4_append (fun q => nomatch q) 0 1000 rfl ?_
  simp only [pX4_append, List.drop_zero, List.drop_succ_cons, hl_wp, hs_ii, hs_i1, hs_ll, hs_l1, hs_ff, hs_g1, hs_dd, hs_d1, hs_r1, hs_rv, hs_rv0, hs_n1, hs_n0, hs_v1i, hs_v1r, hs_a1, hs_d2l, hs_d2i, hs_ri, hs_rl, hs_rg, hs_rd8, hs_rr, hs_rn, hs_ov, hs_gf, hs_po, hs_pfi, hs_pfr, hs_ia, hs_la, hs_da, hs_qa, hs_al, hs_is, hs_ls, hs_ds, hs_iso, hs_lso, hs_dso, hs_rd, hs_f1, hs_f10, hs_f2, hs_f20, hs_in0, hs_in1, hs_lt, hs_le, hs_ge, hs_gt, hs_eq, hs_10, hs_00, hs_01, true_and, and_true, true_imp_iff, false_imp_iff, not_true_eq_false, not_false_eq_true, hs_av, hs_ai, hs_ar, hs_an, hs_aj, hs_ci, hs_cr, hs_cn, hs_cj, hs_cd, hs_cf, hs_q0, hs_q1, reduceIte, Nat.reduceEqDiff, Nat.reduceAdd, Nat.reduceLT, eq_self, List.getElem?_cons_zero, List.getElem?_cons_succ, List.set_cons_zero, List.set_cons_succ, List.length_cons, List.length_nil, Option.toList_some, Option.toList_none, List.cons_append, List.nil_append, Nat.zero_add, Nat.add_zero, List.map_nil, List.sum_nil, List.map_cons, List.sum_cons, Nat.zero_le, hs_set1, q.f2]
  refine hl_callV B (As := [.int _, .long _]) (ls_put 6 (by decide) _ _) mtX6_put (hl_dec okX4_append 8 rfl) (kk := 650) (by decide +kernel) rfl rfl (q.fr 6 (by decide)) rfl (Nat.le_of_ble_eq_true rfl) (by decide) (by decide) (by decide) (by decide) w (fun r9 h9 hq => ?_) (fun _ _ hx => hx.elim)
  obtain ⟨rfl, w1⟩ := hq
  have qw1 := w1.1
  refine hl_seg B okX4_append (fun q => nomatch q) 9 1000 rfl ?_
  simp only [pX4_append, List.drop_zero, List.drop_succ_cons, hl_wp, hs_ii, hs_i1, hs_ll, hs_l1, hs_ff, hs_g1, hs_dd, hs_d1, hs_r1, hs_rv, hs_rv0, hs_n1, hs_n0, hs_v1i, hs_v1r, hs_a1, hs_d2l, hs_d2i, hs_ri, hs_rl, hs_rg, hs_rd8, hs_rr, hs_rn, hs_ov, hs_gf, hs_po, hs_pfi, hs_pfr, hs_ia, hs_la, hs_da, hs_qa, hs_al, hs_is, hs_ls, hs_ds, hs_iso, hs_lso, hs_dso, hs_rd, hs_f1, hs_f10, hs_f2, hs_f20, hs_in0, hs_in1, hs_lt, hs_le, hs_ge, hs_gt, hs_eq, hs_10, hs_00, hs_01, true_and, and_true, true_imp_iff, false_imp_iff, not_true_eq_false, not_false_eq_true, hs_av, hs_ai, hs_ar, hs_an, hs_aj, hs_ci, hs_cr, hs_cn, hs_cj, hs_cd, hs_cf, hs_q0, hs_q1, reduceIte, Nat.reduceEqDiff, Nat.reduceAdd, Nat.reduceLT, eq_self, List.getElem?_cons_zero, List.getElem?_cons_succ, List.set_cons_zero, List.set_cons_succ, List.length_cons, List.length_nil, Option.toList_some, Option.toList_none, List.cons_append, List.nil_append, Nat.zero_add, Nat.add_zero, List.map_nil, List.sum_nil, List.map_cons, List.sum_cons, Nat.zero_le, hs_set1, qw1.f2]
  refine hl_callV B (As := [.int _, .long _]) (ls_put 7 (by decide) _ _) mtX6_put (hl_dec okX4_append 14 rfl) (kk := 650) (by decide +kernel) rfl rfl (qw1.fr 7 (by decide)) rfl (Nat.le_of_ble_eq_true rfl) (by decide) (by decide) (by decide) (by decide) w1 (fun r9 h9 hq => ?_) (fun _ _ hx => hx.elim)
  obtain ⟨rfl, w2⟩ := hq
  have qw2 := w2.1
  refine hl_seg B okX4_append (fun q => nomatch q) 15 1000 rfl ?_
  simp only [pX4_append, List.drop_zero, List.drop_succ_cons, hl_wp, hs_ii, hs_i1, hs_ll, hs_l1, hs_ff, hs_g1, hs_dd, hs_d1, hs_r1, hs_rv, hs_rv0, hs_n1, hs_n0, hs_v1i, hs_v1r, hs_a1, hs_d2l, hs_d2i, hs_ri, hs_rl, hs_rg, hs_rd8, hs_rr, hs_rn, hs_ov, hs_gf, hs_po, hs_pfi, hs_pfr, hs_ia, hs_la, hs_da, hs_qa, hs_al, hs_is, hs_ls, hs_ds, hs_iso, hs_lso, hs_dso, hs_rd, hs_f1, hs_f10, hs_f2, hs_f20, hs_in0, hs_in1, hs_lt, hs_le, hs_ge, hs_gt, hs_eq, hs_10, hs_00, hs_01, true_and, and_true, true_imp_iff, false_imp_iff, not_true_eq_false, not_false_eq_true, hs_av, hs_ai, hs_ar, hs_an, hs_aj, hs_ci, hs_cr, hs_cn, hs_cj, hs_cd, hs_cf, hs_q0, hs_q1, reduceIte, Nat.reduceEqDiff, Nat.reduceAdd, Nat.reduceLT, eq_self, List.getElem?_cons_zero, List.getElem?_cons_succ, List.set_cons_zero, List.set_cons_succ, List.length_cons, List.length_nil, Option.toList_some, Option.toList_none, List.cons_append, List.nil_append, Nat.zero_add, Nat.add_zero, List.map_nil, List.sum_nil, List.map_cons, List.sum_cons, Nat.zero_le, hs_set1, qw2.f2]
  refine hl_callV B (As := [.int _, .long _]) (ls_put 8 (by decide) _ _) mtX6_put (hl_dec okX4_append 20 rfl) (kk := 650) (by decide +kernel) rfl rfl (qw2.fr 8 (by decide)) rfl (Nat.le_of_ble_eq_true rfl) (by decide) (by decide) (by decide) (by decide) w2 (fun r9 h9 hq => ?_) (fun _ _ hx => hx.elim)
  obtain ⟨rfl, w3⟩ := hq
  have qw3 := w3.1
  refine hl_seg B okX4_append (fun q => nomatch q) 21 1000 rfl ?_
  simp only [pX4_append, List.drop_zero, List.drop_succ_cons, hl_wp, hs_ii, hs_i1, hs_ll, hs_l1, hs_ff, hs_g1, hs_dd, hs_d1, hs_r1, hs_rv, hs_rv0, hs_n1, hs_n0, hs_v1i, hs_v1r, hs_a1, hs_d2l, hs_d2i, hs_ri, hs_rl, hs_rg, hs_rd8, hs_rr, hs_rn, hs_ov, hs_gf, hs_po, hs_pfi, hs_pfr, hs_ia, hs_la, hs_da, hs_qa, hs_al, hs_is, hs_ls, hs_ds, hs_iso, hs_lso, hs_dso, hs_rd, hs_f1, hs_f10, hs_f2, hs_f20, hs_in0, hs_in1, hs_lt, hs_le, hs_ge, hs_gt, hs_eq, hs_10, hs_00, hs_01, true_and, and_true, true_imp_iff, false_imp_iff, not_true_eq_false, not_false_eq_true, hs_av, hs_ai, hs_ar, hs_an, hs_aj, hs_ci, hs_cr, hs_cn, hs_cj, hs_cd, hs_cf, hs_q0, hs_q1, reduceIte, Nat.reduceEqDiff, Nat.reduceAdd, Nat.reduceLT, eq_self, List.getElem?_cons_zero, List.getElem?_cons_succ, List.set_cons_zero, List.set_cons_succ, List.length_cons, List.length_nil, Option.toList_some, Option.toList_none, List.cons_append, List.nil_append, Nat.zero_add, Nat.add_zero, List.map_nil, List.sum_nil, List.map_cons, List.sum_cons, Nat.zero_le, hs_set1, qw3.f2]
  refine hl_callV B (As := [.int _, .long _]) (ls_put 9 (by decide) _ _) mtX6_put (hl_dec okX4_append 26 rfl) (kk := 650) (by decide +kernel) rfl rfl (qw3.fr 9 (by decide)) rfl (Nat.le_of_ble_eq_true rfl) (by decide) (by decide) (by decide) (by decide) w3 (fun r9 h9 hq => ?_) (fun _ _ hx => hx.elim)
  obtain ⟨rfl, w4⟩ := hq
  have qw4 := w4.1
  refine hl_seg B okX4_append (fun q => nomatch q) 27 1000 rfl ?_
  simp only [pX4_append, List.drop_zero, List.drop_succ_cons, hl_wp, hs_ii, hs_i1, hs_ll, hs_l1, hs_ff, hs_g1, hs_dd, hs_d1, hs_r1, hs_rv, hs_rv0, hs_n1, hs_n0, hs_v1i, hs_v1r, hs_a1, hs_d2l, hs_d2i, hs_ri, hs_rl, hs_rg, hs_rd8, hs_rr, hs_rn, hs_ov, hs_gf, hs_po, hs_pfi, hs_pfr, hs_ia, hs_la, hs_da, hs_qa, hs_al, hs_is, hs_ls, hs_ds, hs_iso, hs_lso, hs_dso, hs_rd, hs_f1, hs_f10, hs_f2, hs_f20, hs_in0, hs_in1, hs_lt, hs_le, hs_ge, hs_gt, hs_eq, hs_10, hs_00, hs_01, true_and, and_true, true_imp_iff, false_imp_iff, not_true_eq_false, not_false_eq_true, hs_av, hs_ai, hs_ar, hs_an, hs_aj, hs_ci, hs_cr, hs_cn, hs_cj, hs_cd, hs_cf, hs_q0, hs_q1, reduceIte, Nat.reduceEqDiff, Nat.reduceAdd, Nat.reduceLT, eq_self, List.getElem?_cons_zero, List.getElem?_cons_succ, List.set_cons_zero, List.set_cons_succ, List.length_cons, List.length_nil, Option.toList_some, Option.toList_none, List.cons_append, List.nil_append, Nat.zero_add, Nat.add_zero, List.map_nil, List.sum_nil, List.map_cons, List.sum_cons, Nat.zero_le, hs_set1, qw4.f2]
  refine hl_callV B (As := [.int _, .long _]) (ls_put 10 (by decide) _ _) mtX6_put (hl_dec okX4_append 32 rfl) (kk := 650) (by decide +kernel) rfl rfl (qw4.fr 10 (by decide)) rfl (Nat.le_of_ble_eq_true rfl) (by decide) (by decide) (by decide) (by decide) w4 (fun r9 h9 hq => ?_) (fun _ _ hx => hx.elim)
  obtain ⟨rfl, w5⟩ := hq
  have qw5 := w5.1
  refine hl_seg B okX4_append (fun q => nomatch q) 33 1000 rfl ?_
  simp only [pX4_append, List.drop_zero, List.drop_succ_cons, hl_wp, hs_ii, hs_i1, hs_ll, hs_l1, hs_ff, hs_g1, hs_dd, hs_d1, hs_r1, hs_rv, hs_rv0, hs_n1, hs_n0, hs_v1i, hs_v1r, hs_a1, hs_d2l, hs_d2i, hs_ri, hs_rl, hs_rg, hs_rd8, hs_rr, hs_rn, hs_ov, hs_gf, hs_po, hs_pfi, hs_pfr, hs_ia, hs_la, hs_da, hs_qa, hs_al, hs_is, hs_ls, hs_ds, hs_iso, hs_lso, hs_dso, hs_rd, hs_f1, hs_f10, hs_f2, hs_f20, hs_in0, hs_in1, hs_lt, hs_le, hs_ge, hs_gt, hs_eq, hs_10, hs_00, hs_01, true_and, and_true, true_imp_iff, false_imp_iff, not_true_eq_false, not_false_eq_true, hs_av, hs_ai, hs_ar, hs_an, hs_aj, hs_ci, hs_cr, hs_cn, hs_cj, hs_cd, hs_cf, hs_q0, hs_q1, reduceIte, Nat.reduceEqDiff, Nat.reduceAdd, Nat.reduceLT, eq_self, List.getElem?_cons_zero, List.getElem?_cons_succ, List.set_cons_zero, List.set_cons_succ, List.length_cons, List.length_nil, Option.toList_some, Option.toList_none, List.cons_append, List.nil_append, Nat.zero_add, Nat.add_zero, List.map_nil, List.sum_nil, List.map_cons, List.sum_cons, Nat.zero_le, hs_set1, qw5.f2]
  refine hl_callV B (As := [.int _, .long _]) (ls_put 11 (by decide) _ _) mtX6_put (hl_dec okX4_append 38 rfl) (kk := 650) (by decide +kernel) rfl rfl (qw5.fr 11 (by decide)) rfl (Nat.le_of_ble_eq_true rfl) (by decide) (by decide) (by decide) (by decide) w5 (fun r9 h9 hq => ?_) (fun _ _ hx => hx.elim)
  obtain ⟨rfl, w6⟩ := hq
  have qw6 := w6.1
  refine hl_seg B okX4_append (fun q => nomatch q) 39 1000 rfl ?_
  simp only [pX4_append, List.drop_zero, List.drop_succ_cons, hl_wp, hs_ii, hs_i1, hs_ll, hs_l1, hs_ff, hs_g1, hs_dd, hs_d1, hs_r1, hs_rv, hs_rv0, hs_n1, hs_n0, hs_v1i, hs_v1r, hs_a1, hs_d2l, hs_d2i, hs_ri, hs_rl, hs_rg, hs_rd8, hs_rr, hs_rn, hs_ov, hs_gf, hs_po, hs_pfi, hs_pfr, hs_ia, hs_la, hs_da, hs_qa, hs_al, hs_is, hs_ls, hs_ds, hs_iso, hs_lso, hs_dso, hs_rd, hs_f1, hs_f10, hs_f2, hs_f20, hs_in0, hs_in1, hs_lt, hs_le, hs_ge, hs_gt, hs_eq, hs_10, hs_00, hs_01, true_and, and_true, true_imp_iff, false_imp_iff, not_true_eq_false, not_false_eq_true, hs_av, hs_ai, hs_ar, hs_an, hs_aj, hs_ci, hs_cr, hs_cn, hs_cj, hs_cd, hs_cf, hs_q0, hs_q1, reduceIte, Nat.reduceEqDiff, Nat.reduceAdd, Nat.reduceLT, eq_self, List.getElem?_cons_zero, List.getElem?_cons_succ, List.set_cons_zero, List.set_cons_succ, List.length_cons, List.length_nil, Option.toList_some, Option.toList_none, List.cons_append, List.nil_append, Nat.zero_add, Nat.add_zero, List.map_nil, List.sum_nil, List.map_cons, List.sum_cons, Nat.zero_le, hs_set1, qw6.f2]
  refine hl_callV B (As := [.int _, .long _]) (ls_put 12 (by decide) _ _) mtX6_put (hl_dec okX4_append 43 rfl) (kk := 650) (by decide +kernel) rfl rfl (qw6.fr 12 (by decide)) rfl (Nat.le_of_ble_eq_true rfl) (by decide) (by decide) (by decide) (by decide) w6 (fun r9 h9 hq => ?_) (fun _ _ hx => hx.elim)
  obtain ⟨rfl, w7⟩ := hq
  have qw7 := w7.1
  refine hl_seg B okX4_append (fun q => nomatch q) 44 1000 rfl ?_
  simp only [pX4_append, List.drop_zero, List.drop_succ_cons, hl_wp, hs_ii, hs_i1, hs_ll, hs_l1, hs_ff, hs_g1, hs_dd, hs_d1, hs_r1, hs_rv, hs_rv0, hs_n1, hs_n0, hs_v1i, hs_v1r, hs_a1, hs_d2l, hs_d2i, hs_ri, hs_rl, hs_rg, hs_rd8, hs_rr, hs_rn, hs_ov, hs_gf, hs_po, hs_pfi, hs_pfr, hs_ia, hs_la, hs_da, hs_qa, hs_al, hs_is, hs_ls, hs_ds, hs_iso, hs_lso, hs_dso, hs_rd, hs_f1, hs_f10, hs_f2, hs_f20, hs_in0, hs_in1, hs_lt, hs_le, hs_ge, hs_gt, hs_eq, hs_10, hs_00, hs_01, true_and, and_true, true_imp_iff, false_imp_iff, not_true_eq_false, not_false_eq_true, hs_av, hs_ai, hs_ar, hs_an, hs_aj, hs_ci, hs_cr, hs_cn, hs_cj, hs_cd, hs_cf, hs_q0, hs_q1, reduceIte, Nat.reduceEqDiff, Nat.reduceAdd, Nat.reduceLT, eq_self, List.getElem?_cons_zero, List.getElem?_cons_succ, List.set_cons_zero, List.set_cons_succ, List.length_cons, List.length_nil, Option.toList_some, Option.toList_none, List.cons_append, List.nil_append, Nat.zero_add, Nat.add_zero, List.map_nil, List.sum_nil, List.map_cons, List.sum_cons, Nat.zero_le, hs_set1, qw7.f2]
  exact hl_iret B rfl rfl (hl_dec okX4_append 51 rfl) (by decide) (by decide) ⟨rfl, w7.inc1⟩
def ls_happ (σ : LSt) (x y v d : Int32) : LSt := ls_sz (ls_P (ls_P (ls_P (ls_P (ls_P σ 13 (nI (σ.2.1 2)) x.toInt64) 14 (nI (σ.2.1 2)) y.toInt64) 15 (nI (σ.2.1 2)) v.toInt64) 16 (nI (σ.2.1 2)) d.toInt64) 17 (nI (σ.2.1 2)) 97) 2 (σ.2.1 2 + 1)
set_option maxRecDepth 20000 in
set_option maxHeartbeats 2000000 in
theorem ct_X3_append {G : hl_G} {l : Launch} {a ca : Nat → Nat} {σ : LSt} {h0 : hl_H} {x y v d1 : Int32}  :
    hl_Ct G l mX3_append 1 0 0 [.ref (a 3), .int x, .int y, .int v, .int d1] (LSw a ca σ h0) (fun r g => r = some (.int (nI (σ.2.1 2))) ∧ LSw a ca (ls_happ σ x y v d1) h0 g) (fun _ _ => False) := by
  refine hl_body (by decide +kernel) (Nat.le_of_ble_eq_true rfl) ?_
  intro p e s m args below meth c B g hg
  have q := hg.1
  have w := hg
  refine hl_seg B okX3_append (fun q => nomatch q) 0 1000 rfl ?_
  simp only [pX3_append, List.drop_zero, List.drop_succ_cons, hl_wp, hs_ii, hs_i1, hs_ll, hs_l1, hs_ff, hs_g1, hs_dd, hs_d1, hs_r1, hs_rv, hs_rv0, hs_n1, hs_n0, hs_v1i, hs_v1r, hs_a1, hs_d2l, hs_d2i, hs_ri, hs_rl, hs_rg, hs_rd8, hs_rr, hs_rn, hs_ov, hs_gf, hs_po, hs_pfi, hs_pfr, hs_ia, hs_la, hs_da, hs_qa, hs_al, hs_is, hs_ls, hs_ds, hs_iso, hs_lso, hs_dso, hs_rd, hs_f1, hs_f10, hs_f2, hs_f20, hs_in0, hs_in1, hs_lt, hs_le, hs_ge, hs_gt, hs_eq, hs_10, hs_00, hs_01, true_and, and_true, true_imp_iff, false_imp_iff, not_true_eq_false, not_false_eq_true, hs_av, hs_ai, hs_ar, hs_an, hs_aj, hs_ci, hs_cr, hs_cn, hs_cj, hs_cd, hs_cf, hs_q0, hs_q1, reduceIte, Nat.reduceEqDiff, Nat.reduceAdd, Nat.reduceLT, eq_self, List.getElem?_cons_zero, List.getElem?_cons_succ, List.set_cons_zero, List.set_cons_succ, List.length_cons, List.length_nil, Option.toList_some, Option.toList_none, List.cons_append, List.nil_append, Nat.zero_add, Nat.add_zero, List.map_nil, List.sum_nil, List.map_cons, List.sum_cons, Nat.zero_le, hs_set1, q.f3]
  refine hl_callV B (As := [.int _, .long _]) (ls_put 13 (by decide) _ _) mtX6_put (hl_dec okX3_append 8 rfl) (kk := 284) (by decide +kernel) rfl rfl (q.fr 13 (by decide)) rfl (Nat.le_of_ble_eq_true rfl) (by decide) (by decide) (by decide) (by decide) w (fun r9 h9 hq => ?_) (fun _ _ hx => hx.elim)
  obtain ⟨rfl, w1⟩ := hq
  have qw1 := w1.1
  refine hl_seg B okX3_append (fun q => nomatch q) 9 1000 rfl ?_
  simp only [pX3_append, List.drop_zero, List.drop_succ_cons, hl_wp, hs_ii, hs_i1, hs_ll, hs_l1, hs_ff, hs_g1, hs_dd, hs_d1, hs_r1, hs_rv, hs_rv0, hs_n1, hs_n0, hs_v1i, hs_v1r, hs_a1, hs_d2l, hs_d2i, hs_ri, hs_rl, hs_rg, hs_rd8, hs_rr, hs_rn, hs_ov, hs_gf, hs_po, hs_pfi, hs_pfr, hs_ia, hs_la, hs_da, hs_qa, hs_al, hs_is, hs_ls, hs_ds, hs_iso, hs_lso, hs_dso, hs_rd, hs_f1, hs_f10, hs_f2, hs_f20, hs_in0, hs_in1, hs_lt, hs_le, hs_ge, hs_gt, hs_eq, hs_10, hs_00, hs_01, true_and, and_true, true_imp_iff, false_imp_iff, not_true_eq_false, not_false_eq_true, hs_av, hs_ai, hs_ar, hs_an, hs_aj, hs_ci, hs_cr, hs_cn, hs_cj, hs_cd, hs_cf, hs_q0, hs_q1, reduceIte, Nat.reduceEqDiff, Nat.reduceAdd, Nat.reduceLT, eq_self, List.getElem?_cons_zero, List.getElem?_cons_succ, List.set_cons_zero, List.set_cons_succ, List.length_cons, List.length_nil, Option.toList_some, Option.toList_none, List.cons_append, List.nil_append, Nat.zero_add, Nat.add_zero, List.map_nil, List.sum_nil, List.map_cons, List.sum_cons, Nat.zero_le, hs_set1, qw1.f3]
  refine hl_callV B (As := [.int _, .long _]) (ls_put 14 (by decide) _ _) mtX6_put (hl_dec okX3_append 14 rfl) (kk := 284) (by decide +kernel) rfl rfl (qw1.fr 14 (by decide)) rfl (Nat.le_of_ble_eq_true rfl) (by decide) (by decide) (by decide) (by decide) w1 (fun r9 h9 hq => ?_) (fun _ _ hx => hx.elim)
  obtain ⟨rfl, w2⟩ := hq
  have qw2 := w2.1
  refine hl_seg B okX3_append (fun q => nomatch q) 15 1000 rfl ?_
  simp only [pX3_append, List.drop_zero, List.drop_succ_cons, hl_wp, hs_ii, hs_i1, hs_ll, hs_l1, hs_ff, hs_g1, hs_dd, hs_d1, hs_r1, hs_rv, hs_rv0, hs_n1, hs_n0, hs_v1i, hs_v1r, hs_a1, hs_d2l, hs_d2i, hs_ri, hs_rl, hs_rg, hs_rd8, hs_rr, hs_rn, hs_ov, hs_gf, hs_po, hs_pfi, hs_pfr, hs_ia, hs_la, hs_da, hs_qa, hs_al, hs_is, hs_ls, hs_ds, hs_iso, hs_lso, hs_dso, hs_rd, hs_f1, hs_f10, hs_f2, hs_f20, hs_in0, hs_in1, hs_lt, hs_le, hs_ge, hs_gt, hs_eq, hs_10, hs_00, hs_01, true_and, and_true, true_imp_iff, false_imp_iff, not_true_eq_false, not_false_eq_true, hs_av, hs_ai, hs_ar, hs_an, hs_aj, hs_ci, hs_cr, hs_cn, hs_cj, hs_cd, hs_cf, hs_q0, hs_q1, reduceIte, Nat.reduceEqDiff, Nat.reduceAdd, Nat.reduceLT, eq_self, List.getElem?_cons_zero, List.getElem?_cons_succ, List.set_cons_zero, List.set_cons_succ, List.length_cons, List.length_nil, Option.toList_some, Option.toList_none, List.cons_append, List.nil_append, Nat.zero_add, Nat.add_zero, List.map_nil, List.sum_nil, List.map_cons, List.sum_cons, Nat.zero_le, hs_set1, qw2.f3]
  refine hl_callV B (As := [.int _, .long _]) (ls_put 15 (by decide) _ _) mtX6_put (hl_dec okX3_append 20 rfl) (kk := 284) (by decide +kernel) rfl rfl (qw2.fr 15 (by decide)) rfl (Nat.le_of_ble_eq_true rfl) (by decide) (by decide) (by decide) (by decide) w2 (fun r9 h9 hq => ?_) (fun _ _ hx => hx.elim)
  obtain ⟨rfl, w3⟩ := hq
  have qw3 := w3.1
  refine hl_seg B okX3_append (fun q => nomatch q) 21 1000 rfl ?_
  simp only [pX3_append, List.drop_zero, List.drop_succ_cons, hl_wp, hs_ii, hs_i1, hs_ll, hs_l1, hs_ff, hs_g1, hs_dd, hs_d1, hs_r1, hs_rv, hs_rv0, hs_n1, hs_n0, hs_v1i, hs_v1r, hs_a1, hs_d2l, hs_d2i, hs_ri, hs_rl, hs_rg, hs_rd8, hs_rr, hs_rn, hs_ov, hs_gf, hs_po, hs_pfi, hs_pfr, hs_ia, hs_la, hs_da, hs_qa, hs_al, hs_is, hs_ls, hs_ds, hs_iso, hs_lso, hs_dso, hs_rd, hs_f1, hs_f10, hs_f2, hs_f20, hs_in0, hs_in1, hs_lt, hs_le, hs_ge, hs_gt, hs_eq, hs_10, hs_00, hs_01, true_and, and_true, true_imp_iff, false_imp_iff, not_true_eq_false, not_false_eq_true, hs_av, hs_ai, hs_ar, hs_an, hs_aj, hs_ci, hs_cr, hs_cn, hs_cj, hs_cd, hs_cf, hs_q0, hs_q1, reduceIte, Nat.reduceEqDiff, Nat.reduceAdd, Nat.reduceLT, eq_self, List.getElem?_cons_zero, List.getElem?_cons_succ, List.set_cons_zero, List.set_cons_succ, List.length_cons, List.length_nil, Option.toList_some, Option.toList_none, List.cons_append, List.nil_append, Nat.zero_add, Nat.add_zero, List.map_nil, List.sum_nil, List.map_cons, List.sum_cons, Nat.zero_le, hs_set1, qw3.f3]
  refine hl_callV B (As := [.int _, .long _]) (ls_put 16 (by decide) _ _) mtX6_put (hl_dec okX3_append 26 rfl) (kk := 284) (by decide +kernel) rfl rfl (qw3.fr 16 (by decide)) rfl (Nat.le_of_ble_eq_true rfl) (by decide) (by decide) (by decide) (by decide) w3 (fun r9 h9 hq => ?_) (fun _ _ hx => hx.elim)
  obtain ⟨rfl, w4⟩ := hq
  have qw4 := w4.1
  refine hl_seg B okX3_append (fun q => nomatch q) 27 1000 rfl ?_
  simp only [pX3_append, List.drop_zero, List.drop_succ_cons, hl_wp, hs_ii, hs_i1, hs_ll, hs_l1, hs_ff, hs_g1, hs_dd, hs_d1, hs_r1, hs_rv, hs_rv0, hs_n1, hs_n0, hs_v1i, hs_v1r, hs_a1, hs_d2l, hs_d2i, hs_ri, hs_rl, hs_rg, hs_rd8, hs_rr, hs_rn, hs_ov, hs_gf, hs_po, hs_pfi, hs_pfr, hs_ia, hs_la, hs_da, hs_qa, hs_al, hs_is, hs_ls, hs_ds, hs_iso, hs_lso, hs_dso, hs_rd, hs_f1, hs_f10, hs_f2, hs_f20, hs_in0, hs_in1, hs_lt, hs_le, hs_ge, hs_gt, hs_eq, hs_10, hs_00, hs_01, true_and, and_true, true_imp_iff, false_imp_iff, not_true_eq_false, not_false_eq_true, hs_av, hs_ai, hs_ar, hs_an, hs_aj, hs_ci, hs_cr, hs_cn, hs_cj, hs_cd, hs_cf, hs_q0, hs_q1, reduceIte, Nat.reduceEqDiff, Nat.reduceAdd, Nat.reduceLT, eq_self, List.getElem?_cons_zero, List.getElem?_cons_succ, List.set_cons_zero, List.set_cons_succ, List.length_cons, List.length_nil, Option.toList_some, Option.toList_none, List.cons_append, List.nil_append, Nat.zero_add, Nat.add_zero, List.map_nil, List.sum_nil, List.map_cons, List.sum_cons, Nat.zero_le, hs_set1, qw4.f3]
  refine hl_callV B (As := [.int _, .long _]) (ls_put 17 (by decide) _ _) mtX6_put (hl_dec okX3_append 31 rfl) (kk := 284) (by decide +kernel) rfl rfl (qw4.fr 17 (by decide)) rfl (Nat.le_of_ble_eq_true rfl) (by decide) (by decide) (by decide) (by decide) w4 (fun r9 h9 hq => ?_) (fun _ _ hx => hx.elim)
  obtain ⟨rfl, w5⟩ := hq
  have qw5 := w5.1
  refine hl_seg B okX3_append (fun q => nomatch q) 32 1000 rfl ?_
  simp only [pX3_append, List.drop_zero, List.drop_succ_cons, hl_wp, hs_ii, hs_i1, hs_ll, hs_l1, hs_ff, hs_g1, hs_dd, hs_d1, hs_r1, hs_rv, hs_rv0, hs_n1, hs_n0, hs_v1i, hs_v1r, hs_a1, hs_d2l, hs_d2i, hs_ri, hs_rl, hs_rg, hs_rd8, hs_rr, hs_rn, hs_ov, hs_gf, hs_po, hs_pfi, hs_pfr, hs_ia, hs_la, hs_da, hs_qa, hs_al, hs_is, hs_ls, hs_ds, hs_iso, hs_lso, hs_dso, hs_rd, hs_f1, hs_f10, hs_f2, hs_f20, hs_in0, hs_in1, hs_lt, hs_le, hs_ge, hs_gt, hs_eq, hs_10, hs_00, hs_01, true_and, and_true, true_imp_iff, false_imp_iff, not_true_eq_false, not_false_eq_true, hs_av, hs_ai, hs_ar, hs_an, hs_aj, hs_ci, hs_cr, hs_cn, hs_cj, hs_cd, hs_cf, hs_q0, hs_q1, reduceIte, Nat.reduceEqDiff, Nat.reduceAdd, Nat.reduceLT, eq_self, List.getElem?_cons_zero, List.getElem?_cons_succ, List.set_cons_zero, List.set_cons_succ, List.length_cons, List.length_nil, Option.toList_some, Option.toList_none, List.cons_append, List.nil_append, Nat.zero_add, Nat.add_zero, List.map_nil, List.sum_nil, List.map_cons, List.sum_cons, Nat.zero_le, hs_set1, qw5.f3]
  exact hl_iret B rfl rfl (hl_dec okX3_append 39 rfl) (by decide) (by decide) ⟨rfl, w5.inc2⟩
def ls_bapp (σ : LSt) (x y v : Int32) : LSt := ls_sz (ls_P (ls_P (ls_P σ 18 (nI (σ.2.1 3)) x.toInt64) 19 (nI (σ.2.1 3)) y.toInt64) 20 (nI (σ.2.1 3)) v.toInt64) 3 (σ.2.1 3 + 1)
set_option maxRecDepth 20000 in
set_option maxHeartbeats 2000000 in
theorem ct_X0_append {G : hl_G} {l : Launch} {a ca : Nat → Nat} {σ : LSt} {h0 : hl_H} {x y v : Int32}  :
    hl_Ct G l mX0_append 1 0 0 [.ref (a 4), .int x, .int y, .int v] (LSw a ca σ h0) (fun r g => r = none ∧ LSw a ca (ls_bapp σ x y v) h0 g) (fun _ _ => False) := by
  refine hl_body (by decide +kernel) (Nat.le_of_ble_eq_true rfl) ?_
  intro p e s m args below meth c B g hg
  have q := hg.1
  have w := hg
  refine hl_seg B okX0_append (fun q => nomatch q) 0 1000 rfl ?_
  simp only [pX0_append, List.drop_zero, List.drop_succ_cons, hl_wp, hs_ii, hs_i1, hs_ll, hs_l1, hs_ff, hs_g1, hs_dd, hs_d1, hs_r1, hs_rv, hs_rv0, hs_n1, hs_n0, hs_v1i, hs_v1r, hs_a1, hs_d2l, hs_d2i, hs_ri, hs_rl, hs_rg, hs_rd8, hs_rr, hs_rn, hs_ov, hs_gf, hs_po, hs_pfi, hs_pfr, hs_ia, hs_la, hs_da, hs_qa, hs_al, hs_is, hs_ls, hs_ds, hs_iso, hs_lso, hs_dso, hs_rd, hs_f1, hs_f10, hs_f2, hs_f20, hs_in0, hs_in1, hs_lt, hs_le, hs_ge, hs_gt, hs_eq, hs_10, hs_00, hs_01, true_and, and_true, true_imp_iff, false_imp_iff, not_true_eq_false, not_false_eq_true, hs_av, hs_ai, hs_ar, hs_an, hs_aj, hs_ci, hs_cr, hs_cn, hs_cj, hs_cd, hs_cf, hs_q0, hs_q1, reduceIte, Nat.reduceEqDiff, Nat.reduceAdd, Nat.reduceLT, eq_self, List.getElem?_cons_zero, List.getElem?_cons_succ, List.set_cons_zero, List.set_cons_succ, List.length_cons, List.length_nil, Option.toList_some, Option.toList_none, List.cons_append, List.nil_append, Nat.zero_add, Nat.add_zero, List.map_nil, List.sum_nil, List.map_cons, List.sum_cons, Nat.zero_le, hs_set1, q.f4]
  refine hl_callV B (As := [.int _, .long _]) (ls_put 18 (by decide) _ _) mtX6_put (hl_dec okX0_append 6 rfl) (kk := 772) (by decide +kernel) rfl rfl (q.fr 18 (by decide)) rfl (Nat.le_of_ble_eq_true rfl) (by decide) (by decide) (by decide) (by decide) w (fun r9 h9 hq => ?_) (fun _ _ hx => hx.elim)
  obtain ⟨rfl, w1⟩ := hq
  have qw1 := w1.1
  refine hl_seg B okX0_append (fun q => nomatch q) 7 1000 rfl ?_
  simp only [pX0_append, List.drop_zero, List.drop_succ_cons, hl_wp, hs_ii, hs_i1, hs_ll, hs_l1, hs_ff, hs_g1, hs_dd, hs_d1, hs_r1, hs_rv, hs_rv0, hs_n1, hs_n0, hs_v1i, hs_v1r, hs_a1, hs_d2l, hs_d2i, hs_ri, hs_rl, hs_rg, hs_rd8, hs_rr, hs_rn, hs_ov, hs_gf, hs_po, hs_pfi, hs_pfr, hs_ia, hs_la, hs_da, hs_qa, hs_al, hs_is, hs_ls, hs_ds, hs_iso, hs_lso, hs_dso, hs_rd, hs_f1, hs_f10, hs_f2, hs_f20, hs_in0, hs_in1, hs_lt, hs_le, hs_ge, hs_gt, hs_eq, hs_10, hs_00, hs_01, true_and, and_true, true_imp_iff, false_imp_iff, not_true_eq_false, not_false_eq_true, hs_av, hs_ai, hs_ar, hs_an, hs_aj, hs_ci, hs_cr, hs_cn, hs_cj, hs_cd, hs_cf, hs_q0, hs_q1, reduceIte, Nat.reduceEqDiff, Nat.reduceAdd, Nat.reduceLT, eq_self, List.getElem?_cons_zero, List.getElem?_cons_succ, List.set_cons_zero, List.set_cons_succ, List.length_cons, List.length_nil, Option.toList_some, Option.toList_none, List.cons_append, List.nil_append, Nat.zero_add, Nat.add_zero, List.map_nil, List.sum_nil, List.map_cons, List.sum_cons, Nat.zero_le, hs_set1, qw1.f4]
  refine hl_callV B (As := [.int _, .long _]) (ls_put 19 (by decide) _ _) mtX6_put (hl_dec okX0_append 13 rfl) (kk := 772) (by decide +kernel) rfl rfl (qw1.fr 19 (by decide)) rfl (Nat.le_of_ble_eq_true rfl) (by decide) (by decide) (by decide) (by decide) w1 (fun r9 h9 hq => ?_) (fun _ _ hx => hx.elim)
  obtain ⟨rfl, w2⟩ := hq
  have qw2 := w2.1
  refine hl_seg B okX0_append (fun q => nomatch q) 14 1000 rfl ?_
  simp only [pX0_append, List.drop_zero, List.drop_succ_cons, hl_wp, hs_ii, hs_i1, hs_ll, hs_l1, hs_ff, hs_g1, hs_dd, hs_d1, hs_r1, hs_rv, hs_rv0, hs_n1, hs_n0, hs_v1i, hs_v1r, hs_a1, hs_d2l, hs_d2i, hs_ri, hs_rl, hs_rg, hs_rd8, hs_rr, hs_rn, hs_ov, hs_gf, hs_po, hs_pfi, hs_pfr, hs_ia, hs_la, hs_da, hs_qa, hs_al, hs_is, hs_ls, hs_ds, hs_iso, hs_lso, hs_dso, hs_rd, hs_f1, hs_f10, hs_f2, hs_f20, hs_in0, hs_in1, hs_lt, hs_le, hs_ge, hs_gt, hs_eq, hs_10, hs_00, hs_01, true_and, and_true, true_imp_iff, false_imp_iff, not_true_eq_false, not_false_eq_true, hs_av, hs_ai, hs_ar, hs_an, hs_aj, hs_ci, hs_cr, hs_cn, hs_cj, hs_cd, hs_cf, hs_q0, hs_q1, reduceIte, Nat.reduceEqDiff, Nat.reduceAdd, Nat.reduceLT, eq_self, List.getElem?_cons_zero, List.getElem?_cons_succ, List.set_cons_zero, List.set_cons_succ, List.length_cons, List.length_nil, Option.toList_some, Option.toList_none, List.cons_append, List.nil_append, Nat.zero_add, Nat.add_zero, List.map_nil, List.sum_nil, List.map_cons, List.sum_cons, Nat.zero_le, hs_set1, qw2.f4]
  refine hl_callV B (As := [.int _, .long _]) (ls_put 20 (by decide) _ _) mtX6_put (hl_dec okX0_append 20 rfl) (kk := 772) (by decide +kernel) rfl rfl (qw2.fr 20 (by decide)) rfl (Nat.le_of_ble_eq_true rfl) (by decide) (by decide) (by decide) (by decide) w2 (fun r9 h9 hq => ?_) (fun _ _ hx => hx.elim)
  obtain ⟨rfl, w3⟩ := hq
  have qw3 := w3.1
  refine hl_seg B okX0_append (fun q => nomatch q) 21 1000 rfl ?_
  simp only [pX0_append, List.drop_zero, List.drop_succ_cons, hl_wp, hs_ii, hs_i1, hs_ll, hs_l1, hs_ff, hs_g1, hs_dd, hs_d1, hs_r1, hs_rv, hs_rv0, hs_n1, hs_n0, hs_v1i, hs_v1r, hs_a1, hs_d2l, hs_d2i, hs_ri, hs_rl, hs_rg, hs_rd8, hs_rr, hs_rn, hs_ov, hs_gf, hs_po, hs_pfi, hs_pfr, hs_ia, hs_la, hs_da, hs_qa, hs_al, hs_is, hs_ls, hs_ds, hs_iso, hs_lso, hs_dso, hs_rd, hs_f1, hs_f10, hs_f2, hs_f20, hs_in0, hs_in1, hs_lt, hs_le, hs_ge, hs_gt, hs_eq, hs_10, hs_00, hs_01, true_and, and_true, true_imp_iff, false_imp_iff, not_true_eq_false, not_false_eq_true, hs_av, hs_ai, hs_ar, hs_an, hs_aj, hs_ci, hs_cr, hs_cn, hs_cj, hs_cd, hs_cf, hs_q0, hs_q1, reduceIte, Nat.reduceEqDiff, Nat.reduceAdd, Nat.reduceLT, eq_self, List.getElem?_cons_zero, List.getElem?_cons_succ, List.set_cons_zero, List.set_cons_succ, List.length_cons, List.length_nil, Option.toList_some, Option.toList_none, List.cons_append, List.nil_append, Nat.zero_add, Nat.add_zero, List.map_nil, List.sum_nil, List.map_cons, List.sum_cons, Nat.zero_le, hs_set1, qw3.f4]
  exact hl_vret B rfl (hl_dec okX0_append 27 rfl) (by decide) (by decide) ⟨rfl, w3.inc3⟩
def ls_open (σ : LSt) (c l : Int32) : LSt := ls_sz (ls_P (ls_P σ 0 (nI (σ.2.1 0)) c.toInt64) 1 (nI (σ.2.1 0)) l.toInt64) 0 (σ.2.1 0 + 1)
set_option maxRecDepth 20000 in
set_option maxHeartbeats 2000000 in
theorem ct_X1_open {G : hl_G} {l : Launch} {a ca : Nat → Nat} {σ : LSt} {h0 : hl_H} {c1 l1 : Int32}  :
    hl_Ct G l mX1_open 1 0 0 [.ref (a 1), .int c1, .int l1] (LSw a ca σ h0) (fun r g => r = some (.int (nI (σ.2.1 0))) ∧ LSw a ca (ls_open σ c1 l1) h0 g) (fun _ _ => False) := by
  refine hl_body (by decide +kernel) (Nat.le_of_ble_eq_true rfl) ?_
  intro p e s m args below meth c B g hg
  have q := hg.1
  have w := hg
  refine hl_seg B okX1_open (fun q => nomatch q) 0 1000 rfl ?_
  simp only [pX1_open, List.drop_zero, List.drop_succ_cons, hl_wp, hs_ii, hs_i1, hs_ll, hs_l1, hs_ff, hs_g1, hs_dd, hs_d1, hs_r1, hs_rv, hs_rv0, hs_n1, hs_n0, hs_v1i, hs_v1r, hs_a1, hs_d2l, hs_d2i, hs_ri, hs_rl, hs_rg, hs_rd8, hs_rr, hs_rn, hs_ov, hs_gf, hs_po, hs_pfi, hs_pfr, hs_ia, hs_la, hs_da, hs_qa, hs_al, hs_is, hs_ls, hs_ds, hs_iso, hs_lso, hs_dso, hs_rd, hs_f1, hs_f10, hs_f2, hs_f20, hs_in0, hs_in1, hs_lt, hs_le, hs_ge, hs_gt, hs_eq, hs_10, hs_00, hs_01, true_and, and_true, true_imp_iff, false_imp_iff, not_true_eq_false, not_false_eq_true, hs_av, hs_ai, hs_ar, hs_an, hs_aj, hs_ci, hs_cr, hs_cn, hs_cj, hs_cd, hs_cf, hs_q0, hs_q1, reduceIte, Nat.reduceEqDiff, Nat.reduceAdd, Nat.reduceLT, eq_self, List.getElem?_cons_zero, List.getElem?_cons_succ, List.set_cons_zero, List.set_cons_succ, List.length_cons, List.length_nil, Option.toList_some, Option.toList_none, List.cons_append, List.nil_append, Nat.zero_add, Nat.add_zero, List.map_nil, List.sum_nil, List.map_cons, List.sum_cons, Nat.zero_le, hs_set1, q.f1]
  refine hl_callV B (As := [.int _, .long _]) (ls_put 0 (by decide) _ _) mtX6_put (hl_dec okX1_open 8 rfl) (kk := 96) (by decide +kernel) rfl rfl (q.fr 0 (by decide)) rfl (Nat.le_of_ble_eq_true rfl) (by decide) (by decide) (by decide) (by decide) w (fun r9 h9 hq => ?_) (fun _ _ hx => hx.elim)
  obtain ⟨rfl, w1⟩ := hq
  have qw1 := w1.1
  refine hl_seg B okX1_open (fun q => nomatch q) 9 1000 rfl ?_
  simp only [pX1_open, List.drop_zero, List.drop_succ_cons, hl_wp, hs_ii, hs_i1, hs_ll, hs_l1, hs_ff, hs_g1, hs_dd, hs_d1, hs_r1, hs_rv, hs_rv0, hs_n1, hs_n0, hs_v1i, hs_v1r, hs_a1, hs_d2l, hs_d2i, hs_ri, hs_rl, hs_rg, hs_rd8, hs_rr, hs_rn, hs_ov, hs_gf, hs_po, hs_pfi, hs_pfr, hs_ia, hs_la, hs_da, hs_qa, hs_al, hs_is, hs_ls, hs_ds, hs_iso, hs_lso, hs_dso, hs_rd, hs_f1, hs_f10, hs_f2, hs_f20, hs_in0, hs_in1, hs_lt, hs_le, hs_ge, hs_gt, hs_eq, hs_10, hs_00, hs_01, true_and, and_true, true_imp_iff, false_imp_iff, not_true_eq_false, not_false_eq_true, hs_av, hs_ai, hs_ar, hs_an, hs_aj, hs_ci, hs_cr, hs_cn, hs_cj, hs_cd, hs_cf, hs_q0, hs_q1, reduceIte, Nat.reduceEqDiff, Nat.reduceAdd, Nat.reduceLT, eq_self, List.getElem?_cons_zero, List.getElem?_cons_succ, List.set_cons_zero, List.set_cons_succ, List.length_cons, List.length_nil, Option.toList_some, Option.toList_none, List.cons_append, List.nil_append, Nat.zero_add, Nat.add_zero, List.map_nil, List.sum_nil, List.map_cons, List.sum_cons, Nat.zero_le, hs_set1, qw1.f1]
  refine hl_callV B (As := [.int _, .long _]) (ls_put 1 (by decide) _ _) mtX6_put (hl_dec okX1_open 14 rfl) (kk := 96) (by decide +kernel) rfl rfl (qw1.fr 1 (by decide)) rfl (Nat.le_of_ble_eq_true rfl) (by decide) (by decide) (by decide) (by decide) w1 (fun r9 h9 hq => ?_) (fun _ _ hx => hx.elim)
  obtain ⟨rfl, w2⟩ := hq
  have qw2 := w2.1
  refine hl_seg B okX1_open (fun q => nomatch q) 15 1000 rfl ?_
  simp only [pX1_open, List.drop_zero, List.drop_succ_cons, hl_wp, hs_ii, hs_i1, hs_ll, hs_l1, hs_ff, hs_g1, hs_dd, hs_d1, hs_r1, hs_rv, hs_rv0, hs_n1, hs_n0, hs_v1i, hs_v1r, hs_a1, hs_d2l, hs_d2i, hs_ri, hs_rl, hs_rg, hs_rd8, hs_rr, hs_rn, hs_ov, hs_gf, hs_po, hs_pfi, hs_pfr, hs_ia, hs_la, hs_da, hs_qa, hs_al, hs_is, hs_ls, hs_ds, hs_iso, hs_lso, hs_dso, hs_rd, hs_f1, hs_f10, hs_f2, hs_f20, hs_in0, hs_in1, hs_lt, hs_le, hs_ge, hs_gt, hs_eq, hs_10, hs_00, hs_01, true_and, and_true, true_imp_iff, false_imp_iff, not_true_eq_false, not_false_eq_true, hs_av, hs_ai, hs_ar, hs_an, hs_aj, hs_ci, hs_cr, hs_cn, hs_cj, hs_cd, hs_cf, hs_q0, hs_q1, reduceIte, Nat.reduceEqDiff, Nat.reduceAdd, Nat.reduceLT, eq_self, List.getElem?_cons_zero, List.getElem?_cons_succ, List.set_cons_zero, List.set_cons_succ, List.length_cons, List.length_nil, Option.toList_some, Option.toList_none, List.cons_append, List.nil_append, Nat.zero_add, Nat.add_zero, List.map_nil, List.sum_nil, List.map_cons, List.sum_cons, Nat.zero_le, hs_set1, qw2.f1]
  exact hl_iret B rfl rfl (hl_dec okX1_open 22 rfl) (by decide) (by decide) ⟨rfl, w2.inc0⟩
def ls_chg (σ : LSt) (x c v : Int32) : LSt := if x = -1 then ls_A σ 3 c v.toInt64 else ls_A σ 2 x v.toInt64
set_option maxRecDepth 20000 in
set_option maxHeartbeats 2000000 in
theorem ct_X1_change {G : hl_G} {l : Launch} {a ca : Nat → Nat} {σ : LSt} {h0 : hl_H} {x c1 v : Int32}  :
    hl_Ct G l mX1_change 1 0 0 [.ref (a 1), .int x, .int c1, .int v] (LSw a ca σ h0) (fun r g => r = none ∧ LSw a ca (ls_chg σ x c1 v) h0 g) (fun _ _ => False) := by
  refine hl_body (by decide +kernel) (Nat.le_of_ble_eq_true rfl) ?_
  intro p e s m args below meth c B g hg
  have q := hg.1
  have w := hg
  refine hl_seg B okX1_change (fun q => nomatch q) 0 1000 rfl ?_
  simp only [pX1_change, List.drop_zero, List.drop_succ_cons, hl_wp, hs_ii, hs_i1, hs_ll, hs_l1, hs_ff, hs_g1, hs_dd, hs_d1, hs_r1, hs_rv, hs_rv0, hs_n1, hs_n0, hs_v1i, hs_v1r, hs_a1, hs_d2l, hs_d2i, hs_ri, hs_rl, hs_rg, hs_rd8, hs_rr, hs_rn, hs_ov, hs_gf, hs_po, hs_pfi, hs_pfr, hs_ia, hs_la, hs_da, hs_qa, hs_al, hs_is, hs_ls, hs_ds, hs_iso, hs_lso, hs_dso, hs_rd, hs_f1, hs_f10, hs_f2, hs_f20, hs_in0, hs_in1, hs_lt, hs_le, hs_ge, hs_gt, hs_eq, hs_10, hs_00, hs_01, true_and, and_true, true_imp_iff, false_imp_iff, not_true_eq_false, not_false_eq_true, hs_av, hs_ai, hs_ar, hs_an, hs_aj, hs_ci, hs_cr, hs_cn, hs_cj, hs_cd, hs_cf, hs_q0, hs_q1, reduceIte, Nat.reduceEqDiff, Nat.reduceAdd, Nat.reduceLT, eq_self, List.getElem?_cons_zero, List.getElem?_cons_succ, List.set_cons_zero, List.set_cons_succ, List.length_cons, List.length_nil, Option.toList_some, Option.toList_none, List.cons_append, List.nil_append, Nat.zero_add, Nat.add_zero, List.map_nil, List.sum_nil, List.map_cons, List.sum_cons, Nat.zero_le, hs_set1, q.f1]
  refine ⟨fun c1 => ?_, fun c1 => ?_⟩
  · skip
    refine hl_seg B okX1_change (fun q => nomatch q) 10 1000 rfl ?_
    simp only [pX1_change, List.drop_zero, List.drop_succ_cons, hl_wp, hs_ii, hs_i1, hs_ll, hs_l1, hs_ff, hs_g1, hs_dd, hs_d1, hs_r1, hs_rv, hs_rv0, hs_n1, hs_n0, hs_v1i, hs_v1r, hs_a1, hs_d2l, hs_d2i, hs_ri, hs_rl, hs_rg, hs_rd8, hs_rr, hs_rn, hs_ov, hs_gf, hs_po, hs_pfi, hs_pfr, hs_ia, hs_la, hs_da, hs_qa, hs_al, hs_is, hs_ls, hs_ds, hs_iso, hs_lso, hs_dso, hs_rd, hs_f1, hs_f10, hs_f2, hs_f20, hs_in0, hs_in1, hs_lt, hs_le, hs_ge, hs_gt, hs_eq, hs_10, hs_00, hs_01, true_and, and_true, true_imp_iff, false_imp_iff, not_true_eq_false, not_false_eq_true, hs_av, hs_ai, hs_ar, hs_an, hs_aj, hs_ci, hs_cr, hs_cn, hs_cj, hs_cd, hs_cf, hs_q0, hs_q1, reduceIte, Nat.reduceEqDiff, Nat.reduceAdd, Nat.reduceLT, eq_self, List.getElem?_cons_zero, List.getElem?_cons_succ, List.set_cons_zero, List.set_cons_succ, List.length_cons, List.length_nil, Option.toList_some, Option.toList_none, List.cons_append, List.nil_append, Nat.zero_add, Nat.add_zero, List.map_nil, List.sum_nil, List.map_cons, List.sum_cons, Nat.zero_le, hs_set1, q.f1]
    refine hl_callV B (As := [.int _, .long _]) (ls_add 2 (by decide) _ _) mtX6_add (hl_dec okX1_change 15 rfl) (kk := 645) (by decide +kernel) rfl rfl (q.fr 2 (by decide)) rfl (Nat.le_of_ble_eq_true rfl) (by decide) (by decide) (by decide) (by decide) w (fun r9 h9 hq => ?_) (fun _ _ hx => hx.elim)
    obtain ⟨rfl, w2⟩ := hq
    have qw2 := w2.1
    exact hl_vret B rfl (hl_dec okX1_change 16 rfl) (by decide) (by decide) ⟨rfl, by simp only [ls_chg, if_neg c1]; exact w2⟩
  · skip
    refine hl_callV B (As := [.int _, .long _]) (ls_add 3 (by decide) _ _) mtX6_add (hl_dec okX1_change 8 rfl) (kk := 645) (by decide +kernel) rfl rfl (q.fr 3 (by decide)) rfl (Nat.le_of_ble_eq_true rfl) (by decide) (by decide) (by decide) (by decide) w (fun r9 h9 hq => ?_) (fun _ _ hx => hx.elim)
    obtain ⟨rfl, w3⟩ := hq
    have qw3 := w3.1
    refine hl_seg B okX1_change (fun q => nomatch q) 9 1000 rfl ?_
    simp only [pX1_change, List.drop_zero, List.drop_succ_cons, hl_wp, hs_ii, hs_i1, hs_ll, hs_l1, hs_ff, hs_g1, hs_dd, hs_d1, hs_r1, hs_rv, hs_rv0, hs_n1, hs_n0, hs_v1i, hs_v1r, hs_a1, hs_d2l, hs_d2i, hs_ri, hs_rl, hs_rg, hs_rd8, hs_rr, hs_rn, hs_ov, hs_gf, hs_po, hs_pfi, hs_pfr, hs_ia, hs_la, hs_da, hs_qa, hs_al, hs_is, hs_ls, hs_ds, hs_iso, hs_lso, hs_dso, hs_rd, hs_f1, hs_f10, hs_f2, hs_f20, hs_in0, hs_in1, hs_lt, hs_le, hs_ge, hs_gt, hs_eq, hs_10, hs_00, hs_01, true_and, and_true, true_imp_iff, false_imp_iff, not_true_eq_false, not_false_eq_true, hs_av, hs_ai, hs_ar, hs_an, hs_aj, hs_ci, hs_cr, hs_cn, hs_cj, hs_cd, hs_cf, hs_q0, hs_q1, reduceIte, Nat.reduceEqDiff, Nat.reduceAdd, Nat.reduceLT, eq_self, List.getElem?_cons_zero, List.getElem?_cons_succ, List.set_cons_zero, List.set_cons_succ, List.length_cons, List.length_nil, Option.toList_some, Option.toList_none, List.cons_append, List.nil_append, Nat.zero_add, Nat.add_zero, List.map_nil, List.sum_nil, List.map_cons, List.sum_cons, Nat.zero_le, hs_set1, qw3.f1]
    exact hl_vret B rfl (hl_dec okX1_change 16 rfl) (by decide) (by decide) ⟨rfl, by simp only [ls_chg, if_pos c1]; exact w3⟩
def ls_from (σ : LSt) (x y : Int32) : Int32 := row_intAt (ls_len 0) (σ.1 0) (if x = -1 then y else x)
def ls_mv1 (σ : LSt) (x y p r : Int32) : LSt := ls_chg (ls_chg σ x (ls_from σ x y) (-p)) y (ls_from σ y x) r
def ls_move (σ : LSt) (x y p r : Int32) : LSt := if ls_from σ x y = ls_from σ y x then ls_mv1 σ x y p r else ls_A (ls_A (ls_mv1 σ x y p r) 4 (ls_from σ x y) p.toInt64) 4 (ls_from σ y x) (-r).toInt64
set_option maxRecDepth 20000 in
set_option maxHeartbeats 2000000 in
theorem ct_X1_move {G : hl_G} {l : Launch} {a ca : Nat → Nat} {σ : LSt} {h0 : hl_H} {x y p1 r1 : Int32}  :
    hl_Ct G l mX1_move 2 0 0 [.ref (a 1), .int x, .int y, .int p1, .int r1] (LSw a ca σ h0) (fun r g => r = none ∧ LSw a ca (ls_move σ x y p1 r1) h0 g) (fun _ _ => False) := by
  refine hl_body (by decide +kernel) (Nat.le_of_ble_eq_true rfl) ?_
  intro p e s m args below meth c B g hg
  have q := hg.1
  have w := hg
  refine hl_seg B okX1_move (fun q => nomatch q) 0 1000 rfl ?_
  simp only [pX1_move, List.drop_zero, List.drop_succ_cons, hl_wp, hs_ii, hs_i1, hs_ll, hs_l1, hs_ff, hs_g1, hs_dd, hs_d1, hs_r1, hs_rv, hs_rv0, hs_n1, hs_n0, hs_v1i, hs_v1r, hs_a1, hs_d2l, hs_d2i, hs_ri, hs_rl, hs_rg, hs_rd8, hs_rr, hs_rn, hs_ov, hs_gf, hs_po, hs_pfi, hs_pfr, hs_ia, hs_la, hs_da, hs_qa, hs_al, hs_is, hs_ls, hs_ds, hs_iso, hs_lso, hs_dso, hs_rd, hs_f1, hs_f10, hs_f2, hs_f20, hs_in0, hs_in1, hs_lt, hs_le, hs_ge, hs_gt, hs_eq, hs_10, hs_00, hs_01, true_and, and_true, true_imp_iff, false_imp_iff, not_true_eq_false, not_false_eq_true, hs_av, hs_ai, hs_ar, hs_an, hs_aj, hs_ci, hs_cr, hs_cn, hs_cj, hs_cd, hs_cf, hs_q0, hs_q1, reduceIte, Nat.reduceEqDiff, Nat.reduceAdd, Nat.reduceLT, eq_self, List.getElem?_cons_zero, List.getElem?_cons_succ, List.set_cons_zero, List.set_cons_succ, List.length_cons, List.length_nil, Option.toList_some, Option.toList_none, List.cons_append, List.nil_append, Nat.zero_add, Nat.add_zero, List.map_nil, List.sum_nil, List.map_cons, List.sum_cons, Nat.zero_le, hs_set1, q.f1]
  refine ⟨fun c1 => ?_, fun c1 => ?_⟩
  · skip
    refine hl_seg B okX1_move (fun q => nomatch q) 7 1000 rfl ?_
    simp only [pX1_move, List.drop_zero, List.drop_succ_cons, hl_wp, hs_ii, hs_i1, hs_ll, hs_l1, hs_ff, hs_g1, hs_dd, hs_d1, hs_r1, hs_rv, hs_rv0, hs_n1, hs_n0, hs_v1i, hs_v1r, hs_a1, hs_d2l, hs_d2i, hs_ri, hs_rl, hs_rg, hs_rd8, hs_rr, hs_rn, hs_ov, hs_gf, hs_po, hs_pfi, hs_pfr, hs_ia, hs_la, hs_da, hs_qa, hs_al, hs_is, hs_ls, hs_ds, hs_iso, hs_lso, hs_dso, hs_rd, hs_f1, hs_f10, hs_f2, hs_f20, hs_in0, hs_in1, hs_lt, hs_le, hs_ge, hs_gt, hs_eq, hs_10, hs_00, hs_01, true_and, and_true, true_imp_iff, false_imp_iff, not_true_eq_false, not_false_eq_true, hs_av, hs_ai, hs_ar, hs_an, hs_aj, hs_ci, hs_cr, hs_cn, hs_cj, hs_cd, hs_cf, hs_q0, hs_q1, reduceIte, Nat.reduceEqDiff, Nat.reduceAdd, Nat.reduceLT, eq_self, List.getElem?_cons_zero, List.getElem?_cons_succ, List.set_cons_zero, List.set_cons_succ, List.length_cons, List.length_nil, Option.toList_some, Option.toList_none, List.cons_append, List.nil_append, Nat.zero_add, Nat.add_zero, List.map_nil, List.sum_nil, List.map_cons, List.sum_cons, Nat.zero_le, hs_set1, q.f1]
    refine hl_callR B (As := [.int _]) (ls_intAt q 0 (by decide) _) mtX6_intAt (hl_dec okX1_move 8 rfl) (kk := 322) (by decide +kernel) rfl (q.fr 0 (by decide)) rfl (Nat.le_of_ble_eq_true rfl) (by decide) (by decide) (by decide) (by decide) ?_
    refine hl_seg B okX1_move (fun q => nomatch q) 9 1000 rfl ?_
    simp only [pX1_move, List.drop_zero, List.drop_succ_cons, hl_wp, hs_ii, hs_i1, hs_ll, hs_l1, hs_ff, hs_g1, hs_dd, hs_d1, hs_r1, hs_rv, hs_rv0, hs_n1, hs_n0, hs_v1i, hs_v1r, hs_a1, hs_d2l, hs_d2i, hs_ri, hs_rl, hs_rg, hs_rd8, hs_rr, hs_rn, hs_ov, hs_gf, hs_po, hs_pfi, hs_pfr, hs_ia, hs_la, hs_da, hs_qa, hs_al, hs_is, hs_ls, hs_ds, hs_iso, hs_lso, hs_dso, hs_rd, hs_f1, hs_f10, hs_f2, hs_f20, hs_in0, hs_in1, hs_lt, hs_le, hs_ge, hs_gt, hs_eq, hs_10, hs_00, hs_01, true_and, and_true, true_imp_iff, false_imp_iff, not_true_eq_false, not_false_eq_true, hs_av, hs_ai, hs_ar, hs_an, hs_aj, hs_ci, hs_cr, hs_cn, hs_cj, hs_cd, hs_cf, hs_q0, hs_q1, reduceIte, Nat.reduceEqDiff, Nat.reduceAdd, Nat.reduceLT, eq_self, List.getElem?_cons_zero, List.getElem?_cons_succ, List.set_cons_zero, List.set_cons_succ, List.length_cons, List.length_nil, Option.toList_some, Option.toList_none, List.cons_append, List.nil_append, Nat.zero_add, Nat.add_zero, List.map_nil, List.sum_nil, List.map_cons, List.sum_cons, Nat.zero_le, hs_set1, q.f1]
    refine ⟨fun c2 => ?_, fun c2 => ?_⟩
    · skip
      refine hl_seg B okX1_move (fun q => nomatch q) 17 1000 rfl ?_
      simp only [pX1_move, List.drop_zero, List.drop_succ_cons, hl_wp, hs_ii, hs_i1, hs_ll, hs_l1, hs_ff, hs_g1, hs_dd, hs_d1, hs_r1, hs_rv, hs_rv0, hs_n1, hs_n0, hs_v1i, hs_v1r, hs_a1, hs_d2l, hs_d2i, hs_ri, hs_rl, hs_rg, hs_rd8, hs_rr, hs_rn, hs_ov, hs_gf, hs_po, hs_pfi, hs_pfr, hs_ia, hs_la, hs_da, hs_qa, hs_al, hs_is, hs_ls, hs_ds, hs_iso, hs_lso, hs_dso, hs_rd, hs_f1, hs_f10, hs_f2, hs_f20, hs_in0, hs_in1, hs_lt, hs_le, hs_ge, hs_gt, hs_eq, hs_10, hs_00, hs_01, true_and, and_true, true_imp_iff, false_imp_iff, not_true_eq_false, not_false_eq_true, hs_av, hs_ai, hs_ar, hs_an, hs_aj, hs_ci, hs_cr, hs_cn, hs_cj, hs_cd, hs_cf, hs_q0, hs_q1, reduceIte, Nat.reduceEqDiff, Nat.reduceAdd, Nat.reduceLT, eq_self, List.getElem?_cons_zero, List.getElem?_cons_succ, List.set_cons_zero, List.set_cons_succ, List.length_cons, List.length_nil, Option.toList_some, Option.toList_none, List.cons_append, List.nil_append, Nat.zero_add, Nat.add_zero, List.map_nil, List.sum_nil, List.map_cons, List.sum_cons, Nat.zero_le, hs_set1, q.f1]
      refine hl_callR B (As := [.int _]) (ls_intAt q 0 (by decide) _) mtX6_intAt (hl_dec okX1_move 18 rfl) (kk := 322) (by decide +kernel) rfl (q.fr 0 (by decide)) rfl (Nat.le_of_ble_eq_true rfl) (by decide) (by decide) (by decide) (by decide) ?_
      refine hl_seg B okX1_move (fun q => nomatch q) 19 1000 rfl ?_
      simp only [pX1_move, List.drop_zero, List.drop_succ_cons, hl_wp, hs_ii, hs_i1, hs_ll, hs_l1, hs_ff, hs_g1, hs_dd, hs_d1, hs_r1, hs_rv, hs_rv0, hs_n1, hs_n0, hs_v1i, hs_v1r, hs_a1, hs_d2l, hs_d2i, hs_ri, hs_rl, hs_rg, hs_rd8, hs_rr, hs_rn, hs_ov, hs_gf, hs_po, hs_pfi, hs_pfr, hs_ia, hs_la, hs_da, hs_qa, hs_al, hs_is, hs_ls, hs_ds, hs_iso, hs_lso, hs_dso, hs_rd, hs_f1, hs_f10, hs_f2, hs_f20, hs_in0, hs_in1, hs_lt, hs_le, hs_ge, hs_gt, hs_eq, hs_10, hs_00, hs_01, true_and, and_true, true_imp_iff, false_imp_iff, not_true_eq_false, not_false_eq_true, hs_av, hs_ai, hs_ar, hs_an, hs_aj, hs_ci, hs_cr, hs_cn, hs_cj, hs_cd, hs_cf, hs_q0, hs_q1, reduceIte, Nat.reduceEqDiff, Nat.reduceAdd, Nat.reduceLT, eq_self, List.getElem?_cons_zero, List.getElem?_cons_succ, List.set_cons_zero, List.set_cons_succ, List.length_cons, List.length_nil, Option.toList_some, Option.toList_none, List.cons_append, List.nil_append, Nat.zero_add, Nat.add_zero, List.map_nil, List.sum_nil, List.map_cons, List.sum_cons, Nat.zero_le, hs_set1, q.f1]
      refine hl_callV B (As := [.int _, .int _, .int _]) (ct_X1_change) mtX1_change (hl_dec okX1_move 25 rfl) (kk := 641) (by decide +kernel) rfl rfl (q.f1) rfl (Nat.le_of_ble_eq_true rfl) (by decide) (by decide) (by decide) (by decide) w (fun r9 h9 hq => ?_) (fun _ _ hx => hx.elim)
      obtain ⟨rfl, w3⟩ := hq
      have qw3 := w3.1
      refine hl_seg B okX1_move (fun q => nomatch q) 26 1000 rfl ?_
      simp only [pX1_move, List.drop_zero, List.drop_succ_cons, hl_wp, hs_ii, hs_i1, hs_ll, hs_l1, hs_ff, hs_g1, hs_dd, hs_d1, hs_r1, hs_rv, hs_rv0, hs_n1, hs_n0, hs_v1i, hs_v1r, hs_a1, hs_d2l, hs_d2i, hs_ri, hs_rl, hs_rg, hs_rd8, hs_rr, hs_rn, hs_ov, hs_gf, hs_po, hs_pfi, hs_pfr, hs_ia, hs_la, hs_da, hs_qa, hs_al, hs_is, hs_ls, hs_ds, hs_iso, hs_lso, hs_dso, hs_rd, hs_f1, hs_f10, hs_f2, hs_f20, hs_in0, hs_in1, hs_lt, hs_le, hs_ge, hs_gt, hs_eq, hs_10, hs_00, hs_01, true_and, and_true, true_imp_iff, false_imp_iff, not_true_eq_false, not_false_eq_true, hs_av, hs_ai, hs_ar, hs_an, hs_aj, hs_ci, hs_cr, hs_cn, hs_cj, hs_cd, hs_cf, hs_q0, hs_q1, reduceIte, Nat.reduceEqDiff, Nat.reduceAdd, Nat.reduceLT, eq_self, List.getElem?_cons_zero, List.getElem?_cons_succ, List.set_cons_zero, List.set_cons_succ, List.length_cons, List.length_nil, Option.toList_some, Option.toList_none, List.cons_append, List.nil_append, Nat.zero_add, Nat.add_zero, List.map_nil, List.sum_nil, List.map_cons, List.sum_cons, Nat.zero_le, hs_set1, qw3.f1]
      refine hl_callV B (As := [.int _, .int _, .int _]) (ct_X1_change) mtX1_change (hl_dec okX1_move 30 rfl) (kk := 641) (by decide +kernel) rfl rfl (qw3.f1) rfl (Nat.le_of_ble_eq_true rfl) (by decide) (by decide) (by decide) (by decide) w3 (fun r9 h9 hq => ?_) (fun _ _ hx => hx.elim)
      obtain ⟨rfl, w4⟩ := hq
      have qw4 := w4.1
      refine hl_seg B okX1_move (fun q => nomatch q) 31 1000 rfl ?_
      simp only [pX1_move, List.drop_zero, List.drop_succ_cons, hl_wp, hs_ii, hs_i1, hs_ll, hs_l1, hs_ff, hs_g1, hs_dd, hs_d1, hs_r1, hs_rv, hs_rv0, hs_n1, hs_n0, hs_v1i, hs_v1r, hs_a1, hs_d2l, hs_d2i, hs_ri, hs_rl, hs_rg, hs_rd8, hs_rr, hs_rn, hs_ov, hs_gf, hs_po, hs_pfi, hs_pfr, hs_ia, hs_la, hs_da, hs_qa, hs_al, hs_is, hs_ls, hs_ds, hs_iso, hs_lso, hs_dso, hs_rd, hs_f1, hs_f10, hs_f2, hs_f20, hs_in0, hs_in1, hs_lt, hs_le, hs_ge, hs_gt, hs_eq, hs_10, hs_00, hs_01, true_and, and_true, true_imp_iff, false_imp_iff, not_true_eq_false, not_false_eq_true, hs_av, hs_ai, hs_ar, hs_an, hs_aj, hs_ci, hs_cr, hs_cn, hs_cj, hs_cd, hs_cf, hs_q0, hs_q1, reduceIte, Nat.reduceEqDiff, Nat.reduceAdd, Nat.reduceLT, eq_self, List.getElem?_cons_zero, List.getElem?_cons_succ, List.set_cons_zero, List.set_cons_succ, List.length_cons, List.length_nil, Option.toList_some, Option.toList_none, List.cons_append, List.nil_append, Nat.zero_add, Nat.add_zero, List.map_nil, List.sum_nil, List.map_cons, List.sum_cons, Nat.zero_le, hs_set1, qw4.f1]
      refine ⟨fun c5 => ?_, fun c5 => ?_⟩
      · skip
        exact hl_vret B rfl (hl_dec okX1_move 47 rfl) (by decide) (by decide) ⟨rfl, by simp only [ls_move, ls_mv1, ls_from, if_neg c1, if_neg c2, if_pos c5, if_true]; exact w4⟩
      · skip
        refine hl_callV B (As := [.int _, .long _]) (ls_add 4 (by decide) _ _) mtX6_add (hl_dec okX1_move 39 rfl) (kk := 645) (by decide +kernel) rfl rfl (qw4.fr 4 (by decide)) rfl (Nat.le_of_ble_eq_true rfl) (by decide) (by decide) (by decide) (by decide) w4 (fun r9 h9 hq => ?_) (fun _ _ hx => hx.elim)
        obtain ⟨rfl, w6⟩ := hq
        have qw6 := w6.1
        refine hl_seg B okX1_move (fun q => nomatch q) 40 1000 rfl ?_
        simp only [pX1_move, List.drop_zero, List.drop_succ_cons, hl_wp, hs_ii, hs_i1, hs_ll, hs_l1, hs_ff, hs_g1, hs_dd, hs_d1, hs_r1, hs_rv, hs_rv0, hs_n1, hs_n0, hs_v1i, hs_v1r, hs_a1, hs_d2l, hs_d2i, hs_ri, hs_rl, hs_rg, hs_rd8, hs_rr, hs_rn, hs_ov, hs_gf, hs_po, hs_pfi, hs_pfr, hs_ia, hs_la, hs_da, hs_qa, hs_al, hs_is, hs_ls, hs_ds, hs_iso, hs_lso, hs_dso, hs_rd, hs_f1, hs_f10, hs_f2, hs_f20, hs_in0, hs_in1, hs_lt, hs_le, hs_ge, hs_gt, hs_eq, hs_10, hs_00, hs_01, true_and, and_true, true_imp_iff, false_imp_iff, not_true_eq_false, not_false_eq_true, hs_av, hs_ai, hs_ar, hs_an, hs_aj, hs_ci, hs_cr, hs_cn, hs_cj, hs_cd, hs_cf, hs_q0, hs_q1, reduceIte, Nat.reduceEqDiff, Nat.reduceAdd, Nat.reduceLT, eq_self, List.getElem?_cons_zero, List.getElem?_cons_succ, List.set_cons_zero, List.set_cons_succ, List.length_cons, List.length_nil, Option.toList_some, Option.toList_none, List.cons_append, List.nil_append, Nat.zero_add, Nat.add_zero, List.map_nil, List.sum_nil, List.map_cons, List.sum_cons, Nat.zero_le, hs_set1, qw6.f1]
        refine hl_callV B (As := [.int _, .long _]) (ls_add 4 (by decide) _ _) mtX6_add (hl_dec okX1_move 46 rfl) (kk := 645) (by decide +kernel) rfl rfl (qw6.fr 4 (by decide)) rfl (Nat.le_of_ble_eq_true rfl) (by decide) (by decide) (by decide) (by decide) w6 (fun r9 h9 hq => ?_) (fun _ _ hx => hx.elim)
        obtain ⟨rfl, w7⟩ := hq
        have qw7 := w7.1
        exact hl_vret B rfl (hl_dec okX1_move 47 rfl) (by decide) (by decide) ⟨rfl, by simp only [ls_move, ls_mv1, ls_from, if_neg c1, if_neg c2, if_neg c5, if_true]; exact w7⟩
    · skip
      refine hl_seg B okX1_move (fun q => nomatch q) 18 1000 rfl ?_
      simp only [pX1_move, List.drop_zero, List.drop_succ_cons, hl_wp, hs_ii, hs_i1, hs_ll, hs_l1, hs_ff, hs_g1, hs_dd, hs_d1, hs_r1, hs_rv, hs_rv0, hs_n1, hs_n0, hs_v1i, hs_v1r, hs_a1, hs_d2l, hs_d2i, hs_ri, hs_rl, hs_rg, hs_rd8, hs_rr, hs_rn, hs_ov, hs_gf, hs_po, hs_pfi, hs_pfr, hs_ia, hs_la, hs_da, hs_qa, hs_al, hs_is, hs_ls, hs_ds, hs_iso, hs_lso, hs_dso, hs_rd, hs_f1, hs_f10, hs_f2, hs_f20, hs_in0, hs_in1, hs_lt, hs_le, hs_ge, hs_gt, hs_eq, hs_10, hs_00, hs_01, true_and, and_true, true_imp_iff, false_imp_iff, not_true_eq_false, not_false_eq_true, hs_av, hs_ai, hs_ar, hs_an, hs_aj, hs_ci, hs_cr, hs_cn, hs_cj, hs_cd, hs_cf, hs_q0, hs_q1, reduceIte, Nat.reduceEqDiff, Nat.reduceAdd, Nat.reduceLT, eq_self, List.getElem?_cons_zero, List.getElem?_cons_succ, List.set_cons_zero, List.set_cons_succ, List.length_cons, List.length_nil, Option.toList_some, Option.toList_none, List.cons_append, List.nil_append, Nat.zero_add, Nat.add_zero, List.map_nil, List.sum_nil, List.map_cons, List.sum_cons, Nat.zero_le, hs_set1, q.f1]
      refine hl_callR B (As := [.int _]) (ls_intAt q 0 (by decide) _) mtX6_intAt (hl_dec okX1_move 18 rfl) (kk := 322) (by decide +kernel) rfl (q.fr 0 (by decide)) rfl (Nat.le_of_ble_eq_true rfl) (by decide) (by decide) (by decide) (by decide) ?_
      refine hl_seg B okX1_move (fun q => nomatch q) 19 1000 rfl ?_
      simp only [pX1_move, List.drop_zero, List.drop_succ_cons, hl_wp, hs_ii, hs_i1, hs_ll, hs_l1, hs_ff, hs_g1, hs_dd, hs_d1, hs_r1, hs_rv, hs_rv0, hs_n1, hs_n0, hs_v1i, hs_v1r, hs_a1, hs_d2l, hs_d2i, hs_ri, hs_rl, hs_rg, hs_rd8, hs_rr, hs_rn, hs_ov, hs_gf, hs_po, hs_pfi, hs_pfr, hs_ia, hs_la, hs_da, hs_qa, hs_al, hs_is, hs_ls, hs_ds, hs_iso, hs_lso, hs_dso, hs_rd, hs_f1, hs_f10, hs_f2, hs_f20, hs_in0, hs_in1, hs_lt, hs_le, hs_ge, hs_gt, hs_eq, hs_10, hs_00, hs_01, true_and, and_true, true_imp_iff, false_imp_iff, not_true_eq_false, not_false_eq_true, hs_av, hs_ai, hs_ar, hs_an, hs_aj, hs_ci, hs_cr, hs_cn, hs_cj, hs_cd, hs_cf, hs_q0, hs_q1, reduceIte, Nat.reduceEqDiff, Nat.reduceAdd, Nat.reduceLT, eq_self, List.getElem?_cons_zero, List.getElem?_cons_succ, List.set_cons_zero, List.set_cons_succ, List.length_cons, List.length_nil, Option.toList_some, Option.toList_none, List.cons_append, List.nil_append, Nat.zero_add, Nat.add_zero, List.map_nil, List.sum_nil, List.map_cons, List.sum_cons, Nat.zero_le, hs_set1, q.f1]
      refine hl_callV B (As := [.int _, .int _, .int _]) (ct_X1_change) mtX1_change (hl_dec okX1_move 25 rfl) (kk := 641) (by decide +kernel) rfl rfl (q.f1) rfl (Nat.le_of_ble_eq_true rfl) (by decide) (by decide) (by decide) (by decide) w (fun r9 h9 hq => ?_) (fun _ _ hx => hx.elim)
      obtain ⟨rfl, w8⟩ := hq
      have qw8 := w8.1
      refine hl_seg B okX1_move (fun q => nomatch q) 26 1000 rfl ?_
      simp only [pX1_move, List.drop_zero, List.drop_succ_cons, hl_wp, hs_ii, hs_i1, hs_ll, hs_l1, hs_ff, hs_g1, hs_dd, hs_d1, hs_r1, hs_rv, hs_rv0, hs_n1, hs_n0, hs_v1i, hs_v1r, hs_a1, hs_d2l, hs_d2i, hs_ri, hs_rl, hs_rg, hs_rd8, hs_rr, hs_rn, hs_ov, hs_gf, hs_po, hs_pfi, hs_pfr, hs_ia, hs_la, hs_da, hs_qa, hs_al, hs_is, hs_ls, hs_ds, hs_iso, hs_lso, hs_dso, hs_rd, hs_f1, hs_f10, hs_f2, hs_f20, hs_in0, hs_in1, hs_lt, hs_le, hs_ge, hs_gt, hs_eq, hs_10, hs_00, hs_01, true_and, and_true, true_imp_iff, false_imp_iff, not_true_eq_false, not_false_eq_true, hs_av, hs_ai, hs_ar, hs_an, hs_aj, hs_ci, hs_cr, hs_cn, hs_cj, hs_cd, hs_cf, hs_q0, hs_q1, reduceIte, Nat.reduceEqDiff, Nat.reduceAdd, Nat.reduceLT, eq_self, List.getElem?_cons_zero, List.getElem?_cons_succ, List.set_cons_zero, List.set_cons_succ, List.length_cons, List.length_nil, Option.toList_some, Option.toList_none, List.cons_append, List.nil_append, Nat.zero_add, Nat.add_zero, List.map_nil, List.sum_nil, List.map_cons, List.sum_cons, Nat.zero_le, hs_set1, qw8.f1]
      refine hl_callV B (As := [.int _, .int _, .int _]) (ct_X1_change) mtX1_change (hl_dec okX1_move 30 rfl) (kk := 641) (by decide +kernel) rfl rfl (qw8.f1) rfl (Nat.le_of_ble_eq_true rfl) (by decide) (by decide) (by decide) (by decide) w8 (fun r9 h9 hq => ?_) (fun _ _ hx => hx.elim)
      obtain ⟨rfl, w9⟩ := hq
      have qw9 := w9.1
      refine hl_seg B okX1_move (fun q => nomatch q) 31 1000 rfl ?_
      simp only [pX1_move, List.drop_zero, List.drop_succ_cons, hl_wp, hs_ii, hs_i1, hs_ll, hs_l1, hs_ff, hs_g1, hs_dd, hs_d1, hs_r1, hs_rv, hs_rv0, hs_n1, hs_n0, hs_v1i, hs_v1r, hs_a1, hs_d2l, hs_d2i, hs_ri, hs_rl, hs_rg, hs_rd8, hs_rr, hs_rn, hs_ov, hs_gf, hs_po, hs_pfi, hs_pfr, hs_ia, hs_la, hs_da, hs_qa, hs_al, hs_is, hs_ls, hs_ds, hs_iso, hs_lso, hs_dso, hs_rd, hs_f1, hs_f10, hs_f2, hs_f20, hs_in0, hs_in1, hs_lt, hs_le, hs_ge, hs_gt, hs_eq, hs_10, hs_00, hs_01, true_and, and_true, true_imp_iff, false_imp_iff, not_true_eq_false, not_false_eq_true, hs_av, hs_ai, hs_ar, hs_an, hs_aj, hs_ci, hs_cr, hs_cn, hs_cj, hs_cd, hs_cf, hs_q0, hs_q1, reduceIte, Nat.reduceEqDiff, Nat.reduceAdd, Nat.reduceLT, eq_self, List.getElem?_cons_zero, List.getElem?_cons_succ, List.set_cons_zero, List.set_cons_succ, List.length_cons, List.length_nil, Option.toList_some, Option.toList_none, List.cons_append, List.nil_append, Nat.zero_add, Nat.add_zero, List.map_nil, List.sum_nil, List.map_cons, List.sum_cons, Nat.zero_le, hs_set1, qw9.f1]
      exact hl_vret B rfl (hl_dec okX1_move 47 rfl) (by decide) (by decide) ⟨rfl, by simp only [ls_move, ls_mv1, ls_from, if_neg c1, if_pos c2, if_true]; exact w9⟩
  · skip
    refine hl_seg B okX1_move (fun q => nomatch q) 8 1000 rfl ?_
    simp only [pX1_move, List.drop_zero, List.drop_succ_cons, hl_wp, hs_ii, hs_i1, hs_ll, hs_l1, hs_ff, hs_g1, hs_dd, hs_d1, hs_r1, hs_rv, hs_rv0, hs_n1, hs_n0, hs_v1i, hs_v1r, hs_a1, hs_d2l, hs_d2i, hs_ri, hs_rl, hs_rg, hs_rd8, hs_rr, hs_rn, hs_ov, hs_gf, hs_po, hs_pfi, hs_pfr, hs_ia, hs_la, hs_da, hs_qa, hs_al, hs_is, hs_ls, hs_ds, hs_iso, hs_lso, hs_dso, hs_rd, hs_f1, hs_f10, hs_f2, hs_f20, hs_in0, hs_in1, hs_lt, hs_le, hs_ge, hs_gt, hs_eq, hs_10, hs_00, hs_01, true_and, and_true, true_imp_iff, false_imp_iff, not_true_eq_false, not_false_eq_true, hs_av, hs_ai, hs_ar, hs_an, hs_aj, hs_ci, hs_cr, hs_cn, hs_cj, hs_cd, hs_cf, hs_q0, hs_q1, reduceIte, Nat.reduceEqDiff, Nat.reduceAdd, Nat.reduceLT, eq_self, List.getElem?_cons_zero, List.getElem?_cons_succ, List.set_cons_zero, List.set_cons_succ, List.length_cons, List.length_nil, Option.toList_some, Option.toList_none, List.cons_append, List.nil_append, Nat.zero_add, Nat.add_zero, List.map_nil, List.sum_nil, List.map_cons, List.sum_cons, Nat.zero_le, hs_set1, q.f1]
    refine hl_callR B (As := [.int _]) (ls_intAt q 0 (by decide) _) mtX6_intAt (hl_dec okX1_move 8 rfl) (kk := 322) (by decide +kernel) rfl (q.fr 0 (by decide)) rfl (Nat.le_of_ble_eq_true rfl) (by decide) (by decide) (by decide) (by decide) ?_
    refine hl_seg B okX1_move (fun q => nomatch q) 9 1000 rfl ?_
    simp only [pX1_move, List.drop_zero, List.drop_succ_cons, hl_wp, hs_ii, hs_i1, hs_ll, hs_l1, hs_ff, hs_g1, hs_dd, hs_d1, hs_r1, hs_rv, hs_rv0, hs_n1, hs_n0, hs_v1i, hs_v1r, hs_a1, hs_d2l, hs_d2i, hs_ri, hs_rl, hs_rg, hs_rd8, hs_rr, hs_rn, hs_ov, hs_gf, hs_po, hs_pfi, hs_pfr, hs_ia, hs_la, hs_da, hs_qa, hs_al, hs_is, hs_ls, hs_ds, hs_iso, hs_lso, hs_dso, hs_rd, hs_f1, hs_f10, hs_f2, hs_f20, hs_in0, hs_in1, hs_lt, hs_le, hs_ge, hs_gt, hs_eq, hs_10, hs_00, hs_01, true_and, and_true, true_imp_iff, false_imp_iff, not_true_eq_false, not_false_eq_true, hs_av, hs_ai, hs_ar, hs_an, hs_aj, hs_ci, hs_cr, hs_cn, hs_cj, hs_cd, hs_cf, hs_q0, hs_q1, reduceIte, Nat.reduceEqDiff, Nat.reduceAdd, Nat.reduceLT, eq_self, List.getElem?_cons_zero, List.getElem?_cons_succ, List.set_cons_zero, List.set_cons_succ, List.length_cons, List.length_nil, Option.toList_some, Option.toList_none, List.cons_append, List.nil_append, Nat.zero_add, Nat.add_zero, List.map_nil, List.sum_nil, List.map_cons, List.sum_cons, Nat.zero_le, hs_set1, q.f1]
    refine ⟨fun c10 => ?_, fun c10 => ?_⟩
    · skip
      refine hl_seg B okX1_move (fun q => nomatch q) 17 1000 rfl ?_
      simp only [pX1_move, List.drop_zero, List.drop_succ_cons, hl_wp, hs_ii, hs_i1, hs_ll, hs_l1, hs_ff, hs_g1, hs_dd, hs_d1, hs_r1, hs_rv, hs_rv0, hs_n1, hs_n0, hs_v1i, hs_v1r, hs_a1, hs_d2l, hs_d2i, hs_ri, hs_rl, hs_rg, hs_rd8, hs_rr, hs_rn, hs_ov, hs_gf, hs_po, hs_pfi, hs_pfr, hs_ia, hs_la, hs_da, hs_qa, hs_al, hs_is, hs_ls, hs_ds, hs_iso, hs_lso, hs_dso, hs_rd, hs_f1, hs_f10, hs_f2, hs_f20, hs_in0, hs_in1, hs_lt, hs_le, hs_ge, hs_gt, hs_eq, hs_10, hs_00, hs_01, true_and, and_true, true_imp_iff, false_imp_iff, not_true_eq_false, not_false_eq_true, hs_av, hs_ai, hs_ar, hs_an, hs_aj, hs_ci, hs_cr, hs_cn, hs_cj, hs_cd, hs_cf, hs_q0, hs_q1, reduceIte, Nat.reduceEqDiff, Nat.reduceAdd, Nat.reduceLT, eq_self, List.getElem?_cons_zero, List.getElem?_cons_succ, List.set_cons_zero, List.set_cons_succ, List.length_cons, List.length_nil, Option.toList_some, Option.toList_none, List.cons_append, List.nil_append, Nat.zero_add, Nat.add_zero, List.map_nil, List.sum_nil, List.map_cons, List.sum_cons, Nat.zero_le, hs_set1, q.f1]
      refine hl_callR B (As := [.int _]) (ls_intAt q 0 (by decide) _) mtX6_intAt (hl_dec okX1_move 18 rfl) (kk := 322) (by decide +kernel) rfl (q.fr 0 (by decide)) rfl (Nat.le_of_ble_eq_true rfl) (by decide) (by decide) (by decide) (by decide) ?_
      refine hl_seg B okX1_move (fun q => nomatch q) 19 1000 rfl ?_
      simp only [pX1_move, List.drop_zero, List.drop_succ_cons, hl_wp, hs_ii, hs_i1, hs_ll, hs_l1, hs_ff, hs_g1, hs_dd, hs_d1, hs_r1, hs_rv, hs_rv0, hs_n1, hs_n0, hs_v1i, hs_v1r, hs_a1, hs_d2l, hs_d2i, hs_ri, hs_rl, hs_rg, hs_rd8, hs_rr, hs_rn, hs_ov, hs_gf, hs_po, hs_pfi, hs_pfr, hs_ia, hs_la, hs_da, hs_qa, hs_al, hs_is, hs_ls, hs_ds, hs_iso, hs_lso, hs_dso, hs_rd, hs_f1, hs_f10, hs_f2, hs_f20, hs_in0, hs_in1, hs_lt, hs_le, hs_ge, hs_gt, hs_eq, hs_10, hs_00, hs_01, true_and, and_true, true_imp_iff, false_imp_iff, not_true_eq_false, not_false_eq_true, hs_av, hs_ai, hs_ar, hs_an, hs_aj, hs_ci, hs_cr, hs_cn, hs_cj, hs_cd, hs_cf, hs_q0, hs_q1, reduceIte, Nat.reduceEqDiff, Nat.reduceAdd, Nat.reduceLT, eq_self, List.getElem?_cons_zero, List.getElem?_cons_succ, List.set_cons_zero, List.set_cons_succ, List.length_cons, List.length_nil, Option.toList_some, Option.toList_none, List.cons_append, List.nil_append, Nat.zero_add, Nat.add_zero, List.map_nil, List.sum_nil, List.map_cons, List.sum_cons, Nat.zero_le, hs_set1, q.f1]
      refine hl_callV B (As := [.int _, .int _, .int _]) (ct_X1_change) mtX1_change (hl_dec okX1_move 25 rfl) (kk := 641) (by decide +kernel) rfl rfl (q.f1) rfl (Nat.le_of_ble_eq_true rfl) (by decide) (by decide) (by decide) (by decide) w (fun r9 h9 hq => ?_) (fun _ _ hx => hx.elim)
      obtain ⟨rfl, w11⟩ := hq
      have qw11 := w11.1
      refine hl_seg B okX1_move (fun q => nomatch q) 26 1000 rfl ?_
      simp only [pX1_move, List.drop_zero, List.drop_succ_cons, hl_wp, hs_ii, hs_i1, hs_ll, hs_l1, hs_ff, hs_g1, hs_dd, hs_d1, hs_r1, hs_rv, hs_rv0, hs_n1, hs_n0, hs_v1i, hs_v1r, hs_a1, hs_d2l, hs_d2i, hs_ri, hs_rl, hs_rg, hs_rd8, hs_rr, hs_rn, hs_ov, hs_gf, hs_po, hs_pfi, hs_pfr, hs_ia, hs_la, hs_da, hs_qa, hs_al, hs_is, hs_ls, hs_ds, hs_iso, hs_lso, hs_dso, hs_rd, hs_f1, hs_f10, hs_f2, hs_f20, hs_in0, hs_in1, hs_lt, hs_le, hs_ge, hs_gt, hs_eq, hs_10, hs_00, hs_01, true_and, and_true, true_imp_iff, false_imp_iff, not_true_eq_false, not_false_eq_true, hs_av, hs_ai, hs_ar, hs_an, hs_aj, hs_ci, hs_cr, hs_cn, hs_cj, hs_cd, hs_cf, hs_q0, hs_q1, reduceIte, Nat.reduceEqDiff, Nat.reduceAdd, Nat.reduceLT, eq_self, List.getElem?_cons_zero, List.getElem?_cons_succ, List.set_cons_zero, List.set_cons_succ, List.length_cons, List.length_nil, Option.toList_some, Option.toList_none, List.cons_append, List.nil_append, Nat.zero_add, Nat.add_zero, List.map_nil, List.sum_nil, List.map_cons, List.sum_cons, Nat.zero_le, hs_set1, qw11.f1]
      refine hl_callV B (As := [.int _, .int _, .int _]) (ct_X1_change) mtX1_change (hl_dec okX1_move 30 rfl) (kk := 641) (by decide +kernel) rfl rfl (qw11.f1) rfl (Nat.le_of_ble_eq_true rfl) (by decide) (by decide) (by decide) (by decide) w11 (fun r9 h9 hq => ?_) (fun _ _ hx => hx.elim)
      obtain ⟨rfl, w12⟩ := hq
      have qw12 := w12.1
      refine hl_seg B okX1_move (fun q => nomatch q) 31 1000 rfl ?_
      simp only [pX1_move, List.drop_zero, List.drop_succ_cons, hl_wp, hs_ii, hs_i1, hs_ll, hs_l1, hs_ff, hs_g1, hs_dd, hs_d1, hs_r1, hs_rv, hs_rv0, hs_n1, hs_n0, hs_v1i, hs_v1r, hs_a1, hs_d2l, hs_d2i, hs_ri, hs_rl, hs_rg, hs_rd8, hs_rr, hs_rn, hs_ov, hs_gf, hs_po, hs_pfi, hs_pfr, hs_ia, hs_la, hs_da, hs_qa, hs_al, hs_is, hs_ls, hs_ds, hs_iso, hs_lso, hs_dso, hs_rd, hs_f1, hs_f10, hs_f2, hs_f20, hs_in0, hs_in1, hs_lt, hs_le, hs_ge, hs_gt, hs_eq, hs_10, hs_00, hs_01, true_and, and_true, true_imp_iff, false_imp_iff, not_true_eq_false, not_false_eq_true, hs_av, hs_ai, hs_ar, hs_an, hs_aj, hs_ci, hs_cr, hs_cn, hs_cj, hs_cd, hs_cf, hs_q0, hs_q1, reduceIte, Nat.reduceEqDiff, Nat.reduceAdd, Nat.reduceLT, eq_self, List.getElem?_cons_zero, List.getElem?_cons_succ, List.set_cons_zero, List.set_cons_succ, List.length_cons, List.length_nil, Option.toList_some, Option.toList_none, List.cons_append, List.nil_append, Nat.zero_add, Nat.add_zero, List.map_nil, List.sum_nil, List.map_cons, List.sum_cons, Nat.zero_le, hs_set1, qw12.f1]
      exact hl_vret B rfl (hl_dec okX1_move 47 rfl) (by decide) (by decide) ⟨rfl, by simp only [ls_move, ls_mv1, ls_from, if_pos c1, if_neg c10, if_true]; exact w12⟩
    · skip
      refine hl_seg B okX1_move (fun q => nomatch q) 18 1000 rfl ?_
      simp only [pX1_move, List.drop_zero, List.drop_succ_cons, hl_wp, hs_ii, hs_i1, hs_ll, hs_l1, hs_ff, hs_g1, hs_dd, hs_d1, hs_r1, hs_rv, hs_rv0, hs_n1, hs_n0, hs_v1i, hs_v1r, hs_a1, hs_d2l, hs_d2i, hs_ri, hs_rl, hs_rg, hs_rd8, hs_rr, hs_rn, hs_ov, hs_gf, hs_po, hs_pfi, hs_pfr, hs_ia, hs_la, hs_da, hs_qa, hs_al, hs_is, hs_ls, hs_ds, hs_iso, hs_lso, hs_dso, hs_rd, hs_f1, hs_f10, hs_f2, hs_f20, hs_in0, hs_in1, hs_lt, hs_le, hs_ge, hs_gt, hs_eq, hs_10, hs_00, hs_01, true_and, and_true, true_imp_iff, false_imp_iff, not_true_eq_false, not_false_eq_true, hs_av, hs_ai, hs_ar, hs_an, hs_aj, hs_ci, hs_cr, hs_cn, hs_cj, hs_cd, hs_cf, hs_q0, hs_q1, reduceIte, Nat.reduceEqDiff, Nat.reduceAdd, Nat.reduceLT, eq_self, List.getElem?_cons_zero, List.getElem?_cons_succ, List.set_cons_zero, List.set_cons_succ, List.length_cons, List.length_nil, Option.toList_some, Option.toList_none, List.cons_append, List.nil_append, Nat.zero_add, Nat.add_zero, List.map_nil, List.sum_nil, List.map_cons, List.sum_cons, Nat.zero_le, hs_set1, q.f1]
      refine hl_callR B (As := [.int _]) (ls_intAt q 0 (by decide) _) mtX6_intAt (hl_dec okX1_move 18 rfl) (kk := 322) (by decide +kernel) rfl (q.fr 0 (by decide)) rfl (Nat.le_of_ble_eq_true rfl) (by decide) (by decide) (by decide) (by decide) ?_
      refine hl_seg B okX1_move (fun q => nomatch q) 19 1000 rfl ?_
      simp only [pX1_move, List.drop_zero, List.drop_succ_cons, hl_wp, hs_ii, hs_i1, hs_ll, hs_l1, hs_ff, hs_g1, hs_dd, hs_d1, hs_r1, hs_rv, hs_rv0, hs_n1, hs_n0, hs_v1i, hs_v1r, hs_a1, hs_d2l, hs_d2i, hs_ri, hs_rl, hs_rg, hs_rd8, hs_rr, hs_rn, hs_ov, hs_gf, hs_po, hs_pfi, hs_pfr, hs_ia, hs_la, hs_da, hs_qa, hs_al, hs_is, hs_ls, hs_ds, hs_iso, hs_lso, hs_dso, hs_rd, hs_f1, hs_f10, hs_f2, hs_f20, hs_in0, hs_in1, hs_lt, hs_le, hs_ge, hs_gt, hs_eq, hs_10, hs_00, hs_01, true_and, and_true, true_imp_iff, false_imp_iff, not_true_eq_false, not_false_eq_true, hs_av, hs_ai, hs_ar, hs_an, hs_aj, hs_ci, hs_cr, hs_cn, hs_cj, hs_cd, hs_cf, hs_q0, hs_q1, reduceIte, Nat.reduceEqDiff, Nat.reduceAdd, Nat.reduceLT, eq_self, List.getElem?_cons_zero, List.getElem?_cons_succ, List.set_cons_zero, List.set_cons_succ, List.length_cons, List.length_nil, Option.toList_some, Option.toList_none, List.cons_append, List.nil_append, Nat.zero_add, Nat.add_zero, List.map_nil, List.sum_nil, List.map_cons, List.sum_cons, Nat.zero_le, hs_set1, q.f1]
      refine hl_callV B (As := [.int _, .int _, .int _]) (ct_X1_change) mtX1_change (hl_dec okX1_move 25 rfl) (kk := 641) (by decide +kernel) rfl rfl (q.f1) rfl (Nat.le_of_ble_eq_true rfl) (by decide) (by decide) (by decide) (by decide) w (fun r9 h9 hq => ?_) (fun _ _ hx => hx.elim)
      obtain ⟨rfl, w13⟩ := hq
      have qw13 := w13.1
      refine hl_seg B okX1_move (fun q => nomatch q) 26 1000 rfl ?_
      simp only [pX1_move, List.drop_zero, List.drop_succ_cons, hl_wp, hs_ii, hs_i1, hs_ll, hs_l1, hs_ff, hs_g1, hs_dd, hs_d1, hs_r1, hs_rv, hs_rv0, hs_n1, hs_n0, hs_v1i, hs_v1r, hs_a1, hs_d2l, hs_d2i, hs_ri, hs_rl, hs_rg, hs_rd8, hs_rr, hs_rn, hs_ov, hs_gf, hs_po, hs_pfi, hs_pfr, hs_ia, hs_la, hs_da, hs_qa, hs_al, hs_is, hs_ls, hs_ds, hs_iso, hs_lso, hs_dso, hs_rd, hs_f1, hs_f10, hs_f2, hs_f20, hs_in0, hs_in1, hs_lt, hs_le, hs_ge, hs_gt, hs_eq, hs_10, hs_00, hs_01, true_and, and_true, true_imp_iff, false_imp_iff, not_true_eq_false, not_false_eq_true, hs_av, hs_ai, hs_ar, hs_an, hs_aj, hs_ci, hs_cr, hs_cn, hs_cj, hs_cd, hs_cf, hs_q0, hs_q1, reduceIte, Nat.reduceEqDiff, Nat.reduceAdd, Nat.reduceLT, eq_self, List.getElem?_cons_zero, List.getElem?_cons_succ, List.set_cons_zero, List.set_cons_succ, List.length_cons, List.length_nil, Option.toList_some, Option.toList_none, List.cons_append, List.nil_append, Nat.zero_add, Nat.add_zero, List.map_nil, List.sum_nil, List.map_cons, List.sum_cons, Nat.zero_le, hs_set1, qw13.f1]
      refine hl_callV B (As := [.int _, .int _, .int _]) (ct_X1_change) mtX1_change (hl_dec okX1_move 30 rfl) (kk := 641) (by decide +kernel) rfl rfl (qw13.f1) rfl (Nat.le_of_ble_eq_true rfl) (by decide) (by decide) (by decide) (by decide) w13 (fun r9 h9 hq => ?_) (fun _ _ hx => hx.elim)
      obtain ⟨rfl, w14⟩ := hq
      have qw14 := w14.1
      refine hl_seg B okX1_move (fun q => nomatch q) 31 1000 rfl ?_
      simp only [pX1_move, List.drop_zero, List.drop_succ_cons, hl_wp, hs_ii, hs_i1, hs_ll, hs_l1, hs_ff, hs_g1, hs_dd, hs_d1, hs_r1, hs_rv, hs_rv0, hs_n1, hs_n0, hs_v1i, hs_v1r, hs_a1, hs_d2l, hs_d2i, hs_ri, hs_rl, hs_rg, hs_rd8, hs_rr, hs_rn, hs_ov, hs_gf, hs_po, hs_pfi, hs_pfr, hs_ia, hs_la, hs_da, hs_qa, hs_al, hs_is, hs_ls, hs_ds, hs_iso, hs_lso, hs_dso, hs_rd, hs_f1, hs_f10, hs_f2, hs_f20, hs_in0, hs_in1, hs_lt, hs_le, hs_ge, hs_gt, hs_eq, hs_10, hs_00, hs_01, true_and, and_true, true_imp_iff, false_imp_iff, not_true_eq_false, not_false_eq_true, hs_av, hs_ai, hs_ar, hs_an, hs_aj, hs_ci, hs_cr, hs_cn, hs_cj, hs_cd, hs_cf, hs_q0, hs_q1, reduceIte, Nat.reduceEqDiff, Nat.reduceAdd, Nat.reduceLT, eq_self, List.getElem?_cons_zero, List.getElem?_cons_succ, List.set_cons_zero, List.set_cons_succ, List.length_cons, List.length_nil, Option.toList_some, Option.toList_none, List.cons_append, List.nil_append, Nat.zero_add, Nat.add_zero, List.map_nil, List.sum_nil, List.map_cons, List.sum_cons, Nat.zero_le, hs_set1, qw14.f1]
      refine ⟨fun c15 => ?_, fun c15 => ?_⟩
      · skip
        exact hl_vret B rfl (hl_dec okX1_move 47 rfl) (by decide) (by decide) ⟨rfl, by simp only [ls_move, ls_mv1, ls_from, if_pos c1, if_pos c10, if_pos c15, if_true]; exact w14⟩
      · skip
        refine hl_callV B (As := [.int _, .long _]) (ls_add 4 (by decide) _ _) mtX6_add (hl_dec okX1_move 39 rfl) (kk := 645) (by decide +kernel) rfl rfl (qw14.fr 4 (by decide)) rfl (Nat.le_of_ble_eq_true rfl) (by decide) (by decide) (by decide) (by decide) w14 (fun r9 h9 hq => ?_) (fun _ _ hx => hx.elim)
        obtain ⟨rfl, w16⟩ := hq
        have qw16 := w16.1
        refine hl_seg B okX1_move (fun q => nomatch q) 40 1000 rfl ?_
        simp only [pX1_move, List.drop_zero, List.drop_succ_cons, hl_wp, hs_ii, hs_i1, hs_ll, hs_l1, hs_ff, hs_g1, hs_dd, hs_d1, hs_r1, hs_rv, hs_rv0, hs_n1, hs_n0, hs_v1i, hs_v1r, hs_a1, hs_d2l, hs_d2i, hs_ri, hs_rl, hs_rg, hs_rd8, hs_rr, hs_rn, hs_ov, hs_gf, hs_po, hs_pfi, hs_pfr, hs_ia, hs_la, hs_da, hs_qa, hs_al, hs_is, hs_ls, hs_ds, hs_iso, hs_lso, hs_dso, hs_rd, hs_f1, hs_f10, hs_f2, hs_f20, hs_in0, hs_in1, hs_lt, hs_le, hs_ge, hs_gt, hs_eq, hs_10, hs_00, hs_01, true_and, and_true, true_imp_iff, false_imp_iff, not_true_eq_false, not_false_eq_true, hs_av, hs_ai, hs_ar, hs_an, hs_aj, hs_ci, hs_cr, hs_cn, hs_cj, hs_cd, hs_cf, hs_q0, hs_q1, reduceIte, Nat.reduceEqDiff, Nat.reduceAdd, Nat.reduceLT, eq_self, List.getElem?_cons_zero, List.getElem?_cons_succ, List.set_cons_zero, List.set_cons_succ, List.length_cons, List.length_nil, Option.toList_some, Option.toList_none, List.cons_append, List.nil_append, Nat.zero_add, Nat.add_zero, List.map_nil, List.sum_nil, List.map_cons, List.sum_cons, Nat.zero_le, hs_set1, qw16.f1]
        refine hl_callV B (As := [.int _, .long _]) (ls_add 4 (by decide) _ _) mtX6_add (hl_dec okX1_move 46 rfl) (kk := 645) (by decide +kernel) rfl rfl (qw16.fr 4 (by decide)) rfl (Nat.le_of_ble_eq_true rfl) (by decide) (by decide) (by decide) (by decide) w16 (fun r9 h9 hq => ?_) (fun _ _ hx => hx.elim)
        obtain ⟨rfl, w17⟩ := hq
        have qw17 := w17.1
        exact hl_vret B rfl (hl_dec okX1_move 47 rfl) (by decide) (by decide) ⟨rfl, by simp only [ls_move, ls_mv1, ls_from, if_pos c1, if_pos c10, if_neg c15, if_true]; exact w17⟩
end
section
/-! PART 11: the memory of calls -/
/-- a call of six given numbers, not yet kept -/
def cl_new (m k a b c d : Int32) : hl_C := .inr (4, [.int m, .int k, .int a, .int b, .int c, .int d, .int 0, .int 0])
def ls_lv (σ : LSt) (key dy : Int32) (i : Nat) : Bool := decide (σ.2.2 i 1 = key) && decide (¬ 2 < dy - σ.2.2 i 6)
def ls_srch (c : Nat → Bool) : Nat → Nat → Option Nat
  | 0, _ => none
  | k + 1, i => if c i = true then some i else ls_srch c k (i + 1)
def ls_find (σ : LSt) (key dy : Int32) : Option Nat := ls_srch (ls_lv σ key dy) (σ.2.1 4) 0
theorem ls_srch_lt {c : Nat → Bool} : ∀ {k i j : Nat}, ls_srch c k i = some j → i ≤ j ∧ j < i + k ∧ c j = true
  | 0, i, j, h => by cases h
  | k + 1, i, j, h => by
    simp only [ls_srch] at h
    by_cases hc : c i = true
    · rw [if_pos hc] at h
      cases h
      exact ⟨Nat.le_refl _, by omega, hc⟩
    · rw [if_neg hc] at h
      obtain ⟨h1, h2, h3⟩ := ls_srch_lt h
      exact ⟨by omega, by omega, h3⟩
theorem ls_find_lt {σ : LSt} {key dy : Int32} {j : Nat} (h : ls_find σ key dy = some j) : j < σ.2.1 4 := by
  have := (ls_srch_lt h).2.1
  omega
theorem LSr.fk {a ca : Nat → Nat} {σ : LSt} {h : hl_H} (q : LSr a ca σ h) {i : Nat} (hi : i < σ.2.1 4) : h (ca i) = some (.inr (4, [.int (σ.2.2 i 0), .int (σ.2.2 i 1), .int (σ.2.2 i 2), .int (σ.2.2 i 3), .int (σ.2.2 i 4), .int (σ.2.2 i 5), .int (σ.2.2 i 6), .int (σ.2.2 i 7)])) := q.fc hi
theorem h180 {i : Nat} (h : i < 180) : ¬ Int32.ofNat 180 ≤ nI i := nI_ge (b := 180) h (by decide)
set_option maxRecDepth 20000 in
set_option maxHeartbeats 2000000 in
theorem ct_X2_init {G : hl_G} {l : Launch} {h : hl_H} {r : Nat} {m1 k1 x1 x2 x3 x4 : Int32} (hr : h r = some (.inr (4, hl_new 4))) (hn : narrow .char (.int m1) = .int m1) (hf : fits .char (.int m1) = true) :
    hl_Ct G l mX2_init 0 0 0 [.ref r, .int m1, .int k1, .int x1, .int x2, .int x3, .int x4] (fun g => g = h) (fun r9 g => r9 = none ∧ g = hl_set h r (cl_new m1 k1 x1 x2 x3 x4)) (fun _ _ => False) := by
  refine hl_body (by decide +kernel) (Nat.le_of_ble_eq_true rfl) ?_
  intro p e s m args below meth c B g hg
  rw [hg]
  have hr : h r = some (.inr (4, [.int 0, .int 0, .int 0, .int 0, .int 0, .int 0, .int 0, .int 0])) := hr
  refine hl_seg B okX2_init (fun _ => rfl) 0 1000 rfl ?_
  simp only [pX2_init, List.drop_zero, List.drop_succ_cons, hl_wp, hs_ii, hs_i1, hs_ll, hs_l1, hs_ff, hs_g1, hs_dd, hs_d1, hs_r1, hs_rv, hs_rv0, hs_n1, hs_n0, hs_v1i, hs_v1r, hs_a1, hs_d2l, hs_d2i, hs_ri, hs_rl, hs_rg, hs_rd8, hs_rr, hs_rn, hs_ov, hs_gf, hs_po, hs_pfi, hs_pfr, hs_ia, hs_la, hs_da, hs_qa, hs_al, hs_is, hs_ls, hs_ds, hs_iso, hs_lso, hs_dso, hs_rd, hs_f1, hs_f10, hs_f2, hs_f20, hs_in0, hs_in1, hs_lt, hs_le, hs_ge, hs_gt, hs_eq, hs_10, hs_00, hs_01, true_and, and_true, true_imp_iff, false_imp_iff, not_true_eq_false, not_false_eq_true, hs_av, hs_ai, hs_ar, hs_an, hs_aj, hs_ci, hs_cr, hs_cn, hs_cj, hs_cd, hs_cf, hs_q0, hs_q1, reduceIte, Nat.reduceEqDiff, Nat.reduceAdd, Nat.reduceLT, eq_self, List.getElem?_cons_zero, List.getElem?_cons_succ, List.set_cons_zero, List.set_cons_succ, List.length_cons, List.length_nil, Option.toList_some, Option.toList_none, List.cons_append, List.nil_append, Nat.zero_add, Nat.add_zero, List.map_nil, List.sum_nil, List.map_cons, List.sum_cons, Nat.zero_le, hs_set1, hr, hs_set3, hs_pfc hn hf]
  exact hl_vret B rfl (hl_dec okX2_init 26 rfl) (by decide) (by decide) ⟨rfl, rfl⟩
set_option maxRecDepth 20000 in
set_option maxHeartbeats 2000000 in
theorem ct_X2_isLike {G : hl_G} {l : Launch} {h : hl_H} {r r2 : Nat} {f u : Nat → Int32} (hr : h r = some (.inr (4, [.int (f 0), .int (f 1), .int (f 2), .int (f 3), .int (f 4), .int (f 5), .int (f 6), .int (f 7)]))) (hr2 : h r2 = some (.inr (4, [.int (u 0), .int (u 1), .int (u 2), .int (u 3), .int (u 4), .int (u 5), .int (u 6), .int (u 7)]))) :
    hl_Ct G l mX2_isLike 0 0 0 [.ref r, .ref r2] (fun g => g = h) (fun r g => r = some (.int (if (f 0 = u 0 ∧ f 1 = u 1 ∧ f 2 = u 2 ∧ f 3 = u 3 ∧ f 4 = u 4 ∧ f 5 = u 5) then 1 else 0)) ∧ g = h) (fun _ _ => False) := by
  refine hl_body (by decide +kernel) (Nat.le_of_ble_eq_true rfl) ?_
  intro p e s m args below meth c B g hg
  rw [hg]
  refine hl_seg B okX2_isLike (fun q => nomatch q) 0 1000 rfl ?_
  simp only [pX2_isLike, List.drop_zero, List.drop_succ_cons, hl_wp, hs_ii, hs_i1, hs_ll, hs_l1, hs_ff, hs_g1, hs_dd, hs_d1, hs_r1, hs_rv, hs_rv0, hs_n1, hs_n0, hs_v1i, hs_v1r, hs_a1, hs_d2l, hs_d2i, hs_ri, hs_rl, hs_rg, hs_rd8, hs_rr, hs_rn, hs_ov, hs_gf, hs_po, hs_pfi, hs_pfr, hs_ia, hs_la, hs_da, hs_qa, hs_al, hs_is, hs_ls, hs_ds, hs_iso, hs_lso, hs_dso, hs_rd, hs_f1, hs_f10, hs_f2, hs_f20, hs_in0, hs_in1, hs_lt, hs_le, hs_ge, hs_gt, hs_eq, hs_10, hs_00, hs_01, true_and, and_true, true_imp_iff, false_imp_iff, not_true_eq_false, not_false_eq_true, hs_av, hs_ai, hs_ar, hs_an, hs_aj, hs_ci, hs_cr, hs_cn, hs_cj, hs_cd, hs_cf, hs_q0, hs_q1, reduceIte, Nat.reduceEqDiff, Nat.reduceAdd, Nat.reduceLT, eq_self, List.getElem?_cons_zero, List.getElem?_cons_succ, List.set_cons_zero, List.set_cons_succ, List.length_cons, List.length_nil, Option.toList_some, Option.toList_none, List.cons_append, List.nil_append, Nat.zero_add, Nat.add_zero, List.map_nil, List.sum_nil, List.map_cons, List.sum_cons, Nat.zero_le, hs_set1, hr, hr2]
  refine ⟨fun c1 => ?_, fun c1 => ?_⟩
  · skip
    refine hl_seg B okX2_isLike (fun q => nomatch q) 34 1000 rfl ?_
    simp only [pX2_isLike, List.drop_zero, List.drop_succ_cons, hl_wp, hs_ii, hs_i1, hs_ll, hs_l1, hs_ff, hs_g1, hs_dd, hs_d1, hs_r1, hs_rv, hs_rv0, hs_n1, hs_n0, hs_v1i, hs_v1r, hs_a1, hs_d2l, hs_d2i, hs_ri, hs_rl, hs_rg, hs_rd8, hs_rr, hs_rn, hs_ov, hs_gf, hs_po, hs_pfi, hs_pfr, hs_ia, hs_la, hs_da, hs_qa, hs_al, hs_is, hs_ls, hs_ds, hs_iso, hs_lso, hs_dso, hs_rd, hs_f1, hs_f10, hs_f2, hs_f20, hs_in0, hs_in1, hs_lt, hs_le, hs_ge, hs_gt, hs_eq, hs_10, hs_00, hs_01, true_and, and_true, true_imp_iff, false_imp_iff, not_true_eq_false, not_false_eq_true, hs_av, hs_ai, hs_ar, hs_an, hs_aj, hs_ci, hs_cr, hs_cn, hs_cj, hs_cd, hs_cf, hs_q0, hs_q1, reduceIte, Nat.reduceEqDiff, Nat.reduceAdd, Nat.reduceLT, eq_self, List.getElem?_cons_zero, List.getElem?_cons_succ, List.set_cons_zero, List.set_cons_succ, List.length_cons, List.length_nil, Option.toList_some, Option.toList_none, List.cons_append, List.nil_append, Nat.zero_add, Nat.add_zero, List.map_nil, List.sum_nil, List.map_cons, List.sum_cons, Nat.zero_le, hs_set1, hr, hr2]
    exact hl_iret B rfl (by first | rfl | decide | (split <;> rfl)) (hl_dec okX2_isLike 35 rfl) (by decide) (by decide) ⟨by simp [c1], rfl⟩
  · skip
    refine ⟨fun c2 => ?_, fun c2 => ?_⟩
    · skip
      refine hl_seg B okX2_isLike (fun q => nomatch q) 34 1000 rfl ?_
      simp only [pX2_isLike, List.drop_zero, List.drop_succ_cons, hl_wp, hs_ii, hs_i1, hs_ll, hs_l1, hs_ff, hs_g1, hs_dd, hs_d1, hs_r1, hs_rv, hs_rv0, hs_n1, hs_n0, hs_v1i, hs_v1r, hs_a1, hs_d2l, hs_d2i, hs_ri, hs_rl, hs_rg, hs_rd8, hs_rr, hs_rn, hs_ov, hs_gf, hs_po, hs_pfi, hs_pfr, hs_ia, hs_la, hs_da, hs_qa, hs_al, hs_is, hs_ls, hs_ds, hs_iso, hs_lso, hs_dso, hs_rd, hs_f1, hs_f10, hs_f2, hs_f20, hs_in0, hs_in1, hs_lt, hs_le, hs_ge, hs_gt, hs_eq, hs_10, hs_00, hs_01, true_and, and_true, true_imp_iff, false_imp_iff, not_true_eq_false, not_false_eq_true, hs_av, hs_ai, hs_ar, hs_an, hs_aj, hs_ci, hs_cr, hs_cn, hs_cj, hs_cd, hs_cf, hs_q0, hs_q1, reduceIte, Nat.reduceEqDiff, Nat.reduceAdd, Nat.reduceLT, eq_self, List.getElem?_cons_zero, List.getElem?_cons_succ, List.set_cons_zero, List.set_cons_succ, List.length_cons, List.length_nil, Option.toList_some, Option.toList_none, List.cons_append, List.nil_append, Nat.zero_add, Nat.add_zero, List.map_nil, List.sum_nil, List.map_cons, List.sum_cons, Nat.zero_le, hs_set1, hr, hr2]
      exact hl_iret B rfl (by first | rfl | decide | (split <;> rfl)) (hl_dec okX2_isLike 35 rfl) (by decide) (by decide) ⟨by simp [c1, c2], rfl⟩
    · skip
      refine ⟨fun c3 => ?_, fun c3 => ?_⟩
      · skip
        refine hl_seg B okX2_isLike (fun q => nomatch q) 34 1000 rfl ?_
        simp only [pX2_isLike, List.drop_zero, List.drop_succ_cons, hl_wp, hs_ii, hs_i1, hs_ll, hs_l1, hs_ff, hs_g1, hs_dd, hs_d1, hs_r1, hs_rv, hs_rv0, hs_n1, hs_n0, hs_v1i, hs_v1r, hs_a1, hs_d2l, hs_d2i, hs_ri, hs_rl, hs_rg, hs_rd8, hs_rr, hs_rn, hs_ov, hs_gf, hs_po, hs_pfi, hs_pfr, hs_ia, hs_la, hs_da, hs_qa, hs_al, hs_is, hs_ls, hs_ds, hs_iso, hs_lso, hs_dso, hs_rd, hs_f1, hs_f10, hs_f2, hs_f20, hs_in0, hs_in1, hs_lt, hs_le, hs_ge, hs_gt, hs_eq, hs_10, hs_00, hs_01, true_and, and_true, true_imp_iff, false_imp_iff, not_true_eq_false, not_false_eq_true, hs_av, hs_ai, hs_ar, hs_an, hs_aj, hs_ci, hs_cr, hs_cn, hs_cj, hs_cd, hs_cf, hs_q0, hs_q1, reduceIte, Nat.reduceEqDiff, Nat.reduceAdd, Nat.reduceLT, eq_self, List.getElem?_cons_zero, List.getElem?_cons_succ, List.set_cons_zero, List.set_cons_succ, List.length_cons, List.length_nil, Option.toList_some, Option.toList_none, List.cons_append, List.nil_append, Nat.zero_add, Nat.add_zero, List.map_nil, List.sum_nil, List.map_cons, List.sum_cons, Nat.zero_le, hs_set1, hr, hr2]
        exact hl_iret B rfl (by first | rfl | decide | (split <;> rfl)) (hl_dec okX2_isLike 35 rfl) (by decide) (by decide) ⟨by simp [c1, c2, c3], rfl⟩
      · skip
        refine ⟨fun c4 => ?_, fun c4 => ?_⟩
        · skip
          refine hl_seg B okX2_isLike (fun q => nomatch q) 34 1000 rfl ?_
          simp only [pX2_isLike, List.drop_zero, List.drop_succ_cons, hl_wp, hs_ii, hs_i1, hs_ll, hs_l1, hs_ff, hs_g1, hs_dd, hs_d1, hs_r1, hs_rv, hs_rv0, hs_n1, hs_n0, hs_v1i, hs_v1r, hs_a1, hs_d2l, hs_d2i, hs_ri, hs_rl, hs_rg, hs_rd8, hs_rr, hs_rn, hs_ov, hs_gf, hs_po, hs_pfi, hs_pfr, hs_ia, hs_la, hs_da, hs_qa, hs_al, hs_is, hs_ls, hs_ds, hs_iso, hs_lso, hs_dso, hs_rd, hs_f1, hs_f10, hs_f2, hs_f20, hs_in0, hs_in1, hs_lt, hs_le, hs_ge, hs_gt, hs_eq, hs_10, hs_00, hs_01, true_and, and_true, true_imp_iff, false_imp_iff, not_true_eq_false, not_false_eq_true, hs_av, hs_ai, hs_ar, hs_an, hs_aj, hs_ci, hs_cr, hs_cn, hs_cj, hs_cd, hs_cf, hs_q0, hs_q1, reduceIte, Nat.reduceEqDiff, Nat.reduceAdd, Nat.reduceLT, eq_self, List.getElem?_cons_zero, List.getElem?_cons_succ, List.set_cons_zero, List.set_cons_succ, List.length_cons, List.length_nil, Option.toList_some, Option.toList_none, List.cons_append, List.nil_append, Nat.zero_add, Nat.add_zero, List.map_nil, List.sum_nil, List.map_cons, List.sum_cons, Nat.zero_le, hs_set1, hr, hr2]
          exact hl_iret B rfl (by first | rfl | decide | (split <;> rfl)) (hl_dec okX2_isLike 35 rfl) (by decide) (by decide) ⟨by simp [c1, c2, c3, c4], rfl⟩
        · skip
          refine ⟨fun c5 => ?_, fun c5 => ?_⟩
          · skip
            refine hl_seg B okX2_isLike (fun q => nomatch q) 34 1000 rfl ?_
            simp only [pX2_isLike, List.drop_zero, List.drop_succ_cons, hl_wp, hs_ii, hs_i1, hs_ll, hs_l1, hs_ff, hs_g1, hs_dd, hs_d1, hs_r1, hs_rv, hs_rv0, hs_n1, hs_n0, hs_v1i, hs_v1r, hs_a1, hs_d2l, hs_d2i, hs_ri, hs_rl, hs_rg, hs_rd8, hs_rr, hs_rn, hs_ov, hs_gf, hs_po, hs_pfi, hs_pfr, hs_ia, hs_la, hs_da, hs_qa, hs_al, hs_is, hs_ls, hs_ds, hs_iso, hs_lso, hs_dso, hs_rd, hs_f1, hs_f10, hs_f2, hs_f20, hs_in0, hs_in1, hs_lt, hs_le, hs_ge, hs_gt, hs_eq, hs_10, hs_00, hs_01, true_and, and_true, true_imp_iff, false_imp_iff, not_true_eq_false, not_false_eq_true, hs_av, hs_ai, hs_ar, hs_an, hs_aj, hs_ci, hs_cr, hs_cn, hs_cj, hs_cd, hs_cf, hs_q0, hs_q1, reduceIte, Nat.reduceEqDiff, Nat.reduceAdd, Nat.reduceLT, eq_self, List.getElem?_cons_zero, List.getElem?_cons_succ, List.set_cons_zero, List.set_cons_succ, List.length_cons, List.length_nil, Option.toList_some, Option.toList_none, List.cons_append, List.nil_append, Nat.zero_add, Nat.add_zero, List.map_nil, List.sum_nil, List.map_cons, List.sum_cons, Nat.zero_le, hs_set1, hr, hr2]
            exact hl_iret B rfl (by first | rfl | decide | (split <;> rfl)) (hl_dec okX2_isLike 35 rfl) (by decide) (by decide) ⟨by simp [c1, c2, c3, c4, c5], rfl⟩
          · skip
            refine ⟨fun c6 => ?_, fun c6 => ?_⟩
            · skip
              refine hl_seg B okX2_isLike (fun q => nomatch q) 34 1000 rfl ?_
              simp only [pX2_isLike, List.drop_zero, List.drop_succ_cons, hl_wp, hs_ii, hs_i1, hs_ll, hs_l1, hs_ff, hs_g1, hs_dd, hs_d1, hs_r1, hs_rv, hs_rv0, hs_n1, hs_n0, hs_v1i, hs_v1r, hs_a1, hs_d2l, hs_d2i, hs_ri, hs_rl, hs_rg, hs_rd8, hs_rr, hs_rn, hs_ov, hs_gf, hs_po, hs_pfi, hs_pfr, hs_ia, hs_la, hs_da, hs_qa, hs_al, hs_is, hs_ls, hs_ds, hs_iso, hs_lso, hs_dso, hs_rd, hs_f1, hs_f10, hs_f2, hs_f20, hs_in0, hs_in1, hs_lt, hs_le, hs_ge, hs_gt, hs_eq, hs_10, hs_00, hs_01, true_and, and_true, true_imp_iff, false_imp_iff, not_true_eq_false, not_false_eq_true, hs_av, hs_ai, hs_ar, hs_an, hs_aj, hs_ci, hs_cr, hs_cn, hs_cj, hs_cd, hs_cf, hs_q0, hs_q1, reduceIte, Nat.reduceEqDiff, Nat.reduceAdd, Nat.reduceLT, eq_self, List.getElem?_cons_zero, List.getElem?_cons_succ, List.set_cons_zero, List.set_cons_succ, List.length_cons, List.length_nil, Option.toList_some, Option.toList_none, List.cons_append, List.nil_append, Nat.zero_add, Nat.add_zero, List.map_nil, List.sum_nil, List.map_cons, List.sum_cons, Nat.zero_le, hs_set1, hr, hr2]
              exact hl_iret B rfl (by first | rfl | decide | (split <;> rfl)) (hl_dec okX2_isLike 35 rfl) (by decide) (by decide) ⟨by simp [c1, c2, c3, c4, c5, c6], rfl⟩
            · skip
              exact hl_iret B rfl (by first | rfl | decide | (split <;> rfl)) (hl_dec okX2_isLike 35 rfl) (by decide) (by decide) ⟨by simp [c1, c2, c3, c4, c5, c6], rfl⟩
set_option maxRecDepth 20000 in
set_option maxHeartbeats 2000000 in
theorem ct_X2_isLikeN {G : hl_G} {l : Launch} {h : hl_H} {r : Nat} {fs : List Value} (hr : h r = some (.inr (4, fs))) :
    hl_Ct G l mX2_isLike 0 0 0 [.ref r, .null] (fun g => g = h) (fun r g => r = some (.int 0) ∧ g = h) (fun _ _ => False) := by
  refine hl_body (by decide +kernel) (Nat.le_of_ble_eq_true rfl) ?_
  intro p e s m args below meth c B g hg
  rw [hg]
  refine hl_seg B okX2_isLike (fun q => nomatch q) 0 1000 rfl ?_
  simp only [pX2_isLike, List.drop_zero, List.drop_succ_cons, hl_wp, hs_ii, hs_i1, hs_ll, hs_l1, hs_ff, hs_g1, hs_dd, hs_d1, hs_r1, hs_rv, hs_rv0, hs_n1, hs_n0, hs_v1i, hs_v1r, hs_a1, hs_d2l, hs_d2i, hs_ri, hs_rl, hs_rg, hs_rd8, hs_rr, hs_rn, hs_ov, hs_gf, hs_po, hs_pfi, hs_pfr, hs_ia, hs_la, hs_da, hs_qa, hs_al, hs_is, hs_ls, hs_ds, hs_iso, hs_lso, hs_dso, hs_rd, hs_f1, hs_f10, hs_f2, hs_f20, hs_in0, hs_in1, hs_lt, hs_le, hs_ge, hs_gt, hs_eq, hs_10, hs_00, hs_01, true_and, and_true, true_imp_iff, false_imp_iff, not_true_eq_false, not_false_eq_true, hs_av, hs_ai, hs_ar, hs_an, hs_aj, hs_ci, hs_cr, hs_cn, hs_cj, hs_cd, hs_cf, hs_q0, hs_q1, reduceIte, Nat.reduceEqDiff, Nat.reduceAdd, Nat.reduceLT, eq_self, List.getElem?_cons_zero, List.getElem?_cons_succ, List.set_cons_zero, List.set_cons_succ, List.length_cons, List.length_nil, Option.toList_some, Option.toList_none, List.cons_append, List.nil_append, Nat.zero_add, Nat.add_zero, List.map_nil, List.sum_nil, List.map_cons, List.sum_cons, Nat.zero_le, hs_set1, hr]
  refine hl_seg B okX2_isLike (fun q => nomatch q) 34 1000 rfl ?_
  simp only [pX2_isLike, List.drop_zero, List.drop_succ_cons, hl_wp, hs_ii, hs_i1, hs_ll, hs_l1, hs_ff, hs_g1, hs_dd, hs_d1, hs_r1, hs_rv, hs_rv0, hs_n1, hs_n0, hs_v1i, hs_v1r, hs_a1, hs_d2l, hs_d2i, hs_ri, hs_rl, hs_rg, hs_rd8, hs_rr, hs_rn, hs_ov, hs_gf, hs_po, hs_pfi, hs_pfr, hs_ia, hs_la, hs_da, hs_qa, hs_al, hs_is, hs_ls, hs_ds, hs_iso, hs_lso, hs_dso, hs_rd, hs_f1, hs_f10, hs_f2, hs_f20, hs_in0, hs_in1, hs_lt, hs_le, hs_ge, hs_gt, hs_eq, hs_10, hs_00, hs_01, true_and, and_true, true_imp_iff, false_imp_iff, not_true_eq_false, not_false_eq_true, hs_av, hs_ai, hs_ar, hs_an, hs_aj, hs_ci, hs_cr, hs_cn, hs_cj, hs_cd, hs_cf, hs_q0, hs_q1, reduceIte, Nat.reduceEqDiff, Nat.reduceAdd, Nat.reduceLT, eq_self, List.getElem?_cons_zero, List.getElem?_cons_succ, List.set_cons_zero, List.set_cons_succ, List.length_cons, List.length_nil, Option.toList_some, Option.toList_none, List.cons_append, List.nil_append, Nat.zero_add, Nat.add_zero, List.map_nil, List.sum_nil, List.map_cons, List.sum_cons, Nat.zero_le, hs_set1, hr]
  exact hl_iret B rfl (by first | rfl | decide | (split <;> rfl)) (hl_dec okX2_isLike 35 rfl) (by decide) (by decide) ⟨rfl, rfl⟩
set_option maxRecDepth 20000 in
set_option maxHeartbeats 2000000 in
theorem ct_X5_find {G : hl_G} {l : Launch} {a ca : Nat → Nat} {σ : LSt} {h : hl_H} {k1 dy : Int32} (q : LSr a ca σ h) (hm : σ.2.1 4 ≤ 180) :
    hl_Ct G l mX5_find 0 0 0 [.ref (a 5), .int k1, .int dy] (fun g => g = h) (fun r g => r = some (va_rf ((ls_find σ k1 dy).map ca)) ∧ g = h) (fun _ _ => False) := by
  refine hl_body (by decide +kernel) (Nat.le_of_ble_eq_true rfl) ?_
  intro p e s m args below meth c B g hg
  rw [hg]
  have loop : ∀ (k9 i : Nat), i + k9 = σ.2.1 4 → ls_find σ k1 dy = ls_srch (ls_lv σ k1 dy) k9 i → hl_GM G mX5_find 0 0 0 (fun r g => r = some (va_rf ((ls_find σ k1 dy).map ca)) ∧ g = h) (fun _ _ => False) p l e s m args below meth c 2 [(0, .ref (a 5)), (1, .int k1), (2, .int dy), (3, .int (nI i))] [] h 0 0 := by
    intro k9
    induction k9 with
    | zero =>
      intro i hi hs
      have hle : nI (σ.2.1 4) ≤ nI i := nI_le (by omega) (by omega)
      refine hl_seg B okX5_find (fun q => nomatch q) 2 1000 rfl ?_
      simp only [pX5_find, List.drop_zero, List.drop_succ_cons, hl_wp, hs_ii, hs_i1, hs_ll, hs_l1, hs_ff, hs_g1, hs_dd, hs_d1, hs_r1, hs_rv, hs_rv0, hs_n1, hs_n0, hs_v1i, hs_v1r, hs_a1, hs_d2l, hs_d2i, hs_ri, hs_rl, hs_rg, hs_rd8, hs_rr, hs_rn, hs_ov, hs_gf, hs_po, hs_pfi, hs_pfr, hs_ia, hs_la, hs_da, hs_qa, hs_al, hs_is, hs_ls, hs_ds, hs_iso, hs_lso, hs_dso, hs_rd, hs_f1, hs_f10, hs_f2, hs_f20, hs_in0, hs_in1, hs_lt, hs_le, hs_ge, hs_gt, hs_eq, hs_10, hs_00, hs_01, true_and, and_true, true_imp_iff, false_imp_iff, not_true_eq_false, not_false_eq_true, hs_av, hs_ai, hs_ar, hs_an, hs_aj, hs_ci, hs_cr, hs_cn, hs_cj, hs_cd, hs_cf, hs_q0, hs_q1, reduceIte, Nat.reduceEqDiff, Nat.reduceAdd, Nat.reduceLT, eq_self, List.getElem?_cons_zero, List.getElem?_cons_succ, List.set_cons_zero, List.set_cons_succ, List.length_cons, List.length_nil, Option.toList_some, Option.toList_none, List.cons_append, List.nil_append, Nat.zero_add, Nat.add_zero, List.map_nil, List.sum_nil, List.map_cons, List.sum_cons, Nat.zero_le, hs_set1, q.f5, hle]
      refine hl_seg B okX5_find (fun q => nomatch q) 32 1000 rfl ?_
      simp only [pX5_find, List.drop_zero, List.drop_succ_cons, hl_wp, hs_ii, hs_i1, hs_ll, hs_l1, hs_ff, hs_g1, hs_dd, hs_d1, hs_r1, hs_rv, hs_rv0, hs_n1, hs_n0, hs_v1i, hs_v1r, hs_a1, hs_d2l, hs_d2i, hs_ri, hs_rl, hs_rg, hs_rd8, hs_rr, hs_rn, hs_ov, hs_gf, hs_po, hs_pfi, hs_pfr, hs_ia, hs_la, hs_da, hs_qa, hs_al, hs_is, hs_ls, hs_ds, hs_iso, hs_lso, hs_dso, hs_rd, hs_f1, hs_f10, hs_f2, hs_f20, hs_in0, hs_in1, hs_lt, hs_le, hs_ge, hs_gt, hs_eq, hs_10, hs_00, hs_01, true_and, and_true, true_imp_iff, false_imp_iff, not_true_eq_false, not_false_eq_true, hs_av, hs_ai, hs_ar, hs_an, hs_aj, hs_ci, hs_cr, hs_cn, hs_cj, hs_cd, hs_cf, hs_q0, hs_q1, reduceIte, Nat.reduceEqDiff, Nat.reduceAdd, Nat.reduceLT, eq_self, List.getElem?_cons_zero, List.getElem?_cons_succ, List.set_cons_zero, List.set_cons_succ, List.length_cons, List.length_nil, Option.toList_some, Option.toList_none, List.cons_append, List.nil_append, Nat.zero_add, Nat.add_zero, List.map_nil, List.sum_nil, List.map_cons, List.sum_cons, Nat.zero_le, hs_set1, q.f5, hle]
      exact hl_aret B rfl (by first | exact Or.inl rfl | exact Or.inr ⟨_, rfl⟩) (hl_dec okX5_find 33 rfl) (by decide) (by decide) ⟨by rw [hs]; rfl, rfl⟩
    | succ k9 ih =>
      intro i hi hs
      have hlt : ¬ nI (σ.2.1 4) ≤ nI i := nI_ge (by omega) (by omega)
      have hin : i < σ.2.1 4 := by omega
      have h18 := h180 (i := i) (by omega)
      have hcl : (nI i).toNatClampNeg = i := nI_clamp (by omega)
      have hk := q.fk hin
      refine hl_seg B okX5_find (fun q => nomatch q) 2 1000 rfl ?_
      simp only [pX5_find, List.drop_zero, List.drop_succ_cons, hl_wp, hs_ii, hs_i1, hs_ll, hs_l1, hs_ff, hs_g1, hs_dd, hs_d1, hs_r1, hs_rv, hs_rv0, hs_n1, hs_n0, hs_v1i, hs_v1r, hs_a1, hs_d2l, hs_d2i, hs_ri, hs_rl, hs_rg, hs_rd8, hs_rr, hs_rn, hs_ov, hs_gf, hs_po, hs_pfi, hs_pfr, hs_ia, hs_la, hs_da, hs_qa, hs_al, hs_is, hs_ls, hs_ds, hs_iso, hs_lso, hs_dso, hs_rd, hs_f1, hs_f10, hs_f2, hs_f20, hs_in0, hs_in1, hs_lt, hs_le, hs_ge, hs_gt, hs_eq, hs_10, hs_00, hs_01, true_and, and_true, true_imp_iff, false_imp_iff, not_true_eq_false, not_false_eq_true, hs_av, hs_ai, hs_ar, hs_an, hs_aj, hs_ci, hs_cr, hs_cn, hs_cj, hs_cd, hs_cf, hs_q0, hs_q1, reduceIte, Nat.reduceEqDiff, Nat.reduceAdd, Nat.reduceLT, eq_self, List.getElem?_cons_zero, List.getElem?_cons_succ, List.set_cons_zero, List.set_cons_succ, List.length_cons, List.length_nil, Option.toList_some, Option.toList_none, List.cons_append, List.nil_append, Nat.zero_add, Nat.add_zero, List.map_nil, List.sum_nil, List.map_cons, List.sum_cons, Nat.zero_le, hs_set1, q.f5, q.f6, hlt, h18, hcl, if_pos hin, hk]
      refine ⟨vp_in_nI (by omega) (by decide), ?_⟩
      refine ⟨fun c1 => ?_, fun c1 => ?_⟩
      · skip
        refine hl_seg B okX5_find (fun q => nomatch q) 30 1000 rfl ?_
        simp only [pX5_find, List.drop_zero, List.drop_succ_cons, hl_wp, hs_ii, hs_i1, hs_ll, hs_l1, hs_ff, hs_g1, hs_dd, hs_d1, hs_r1, hs_rv, hs_rv0, hs_n1, hs_n0, hs_v1i, hs_v1r, hs_a1, hs_d2l, hs_d2i, hs_ri, hs_rl, hs_rg, hs_rd8, hs_rr, hs_rn, hs_ov, hs_gf, hs_po, hs_pfi, hs_pfr, hs_ia, hs_la, hs_da, hs_qa, hs_al, hs_is, hs_ls, hs_ds, hs_iso, hs_lso, hs_dso, hs_rd, hs_f1, hs_f10, hs_f2, hs_f20, hs_in0, hs_in1, hs_lt, hs_le, hs_ge, hs_gt, hs_eq, hs_10, hs_00, hs_01, true_and, and_true, true_imp_iff, false_imp_iff, not_true_eq_false, not_false_eq_true, hs_av, hs_ai, hs_ar, hs_an, hs_aj, hs_ci, hs_cr, hs_cn, hs_cj, hs_cd, hs_cf, hs_q0, hs_q1, reduceIte, Nat.reduceEqDiff, Nat.reduceAdd, Nat.reduceLT, eq_self, List.getElem?_cons_zero, List.getElem?_cons_succ, List.set_cons_zero, List.set_cons_succ, List.length_cons, List.length_nil, Option.toList_some, Option.toList_none, List.cons_append, List.nil_append, Nat.zero_add, Nat.add_zero, List.map_nil, List.sum_nil, List.map_cons, List.sum_cons, Nat.zero_le, hs_set1, q.f5, q.f6, hlt, h18, hcl, if_pos hin, hk]
        have e1 := ih (i + 1) (by omega) (by rw [hs]; simp only [ls_srch]; rw [if_neg (by simp [ls_lv, c1])])
        simp only [← nI_1] at e1
        first | exact e1 | exact hl_drop B _ (by simp) e1
      · skip
        refine ⟨fun c2 => ?_, fun c2 => ?_⟩
        · skip
          refine hl_seg B okX5_find (fun q => nomatch q) 30 1000 rfl ?_
          simp only [pX5_find, List.drop_zero, List.drop_succ_cons, hl_wp, hs_ii, hs_i1, hs_ll, hs_l1, hs_ff, hs_g1, hs_dd, hs_d1, hs_r1, hs_rv, hs_rv0, hs_n1, hs_n0, hs_v1i, hs_v1r, hs_a1, hs_d2l, hs_d2i, hs_ri, hs_rl, hs_rg, hs_rd8, hs_rr, hs_rn, hs_ov, hs_gf, hs_po, hs_pfi, hs_pfr, hs_ia, hs_la, hs_da, hs_qa, hs_al, hs_is, hs_ls, hs_ds, hs_iso, hs_lso, hs_dso, hs_rd, hs_f1, hs_f10, hs_f2, hs_f20, hs_in0, hs_in1, hs_lt, hs_le, hs_ge, hs_gt, hs_eq, hs_10, hs_00, hs_01, true_and, and_true, true_imp_iff, false_imp_iff, not_true_eq_false, not_false_eq_true, hs_av, hs_ai, hs_ar, hs_an, hs_aj, hs_ci, hs_cr, hs_cn, hs_cj, hs_cd, hs_cf, hs_q0, hs_q1, reduceIte, Nat.reduceEqDiff, Nat.reduceAdd, Nat.reduceLT, eq_self, List.getElem?_cons_zero, List.getElem?_cons_succ, List.set_cons_zero, List.set_cons_succ, List.length_cons, List.length_nil, Option.toList_some, Option.toList_none, List.cons_append, List.nil_append, Nat.zero_add, Nat.add_zero, List.map_nil, List.sum_nil, List.map_cons, List.sum_cons, Nat.zero_le, hs_set1, q.f5, q.f6, hlt, h18, hcl, if_pos hin, hk]
          have e1 := ih (i + 1) (by omega) (by rw [hs]; simp only [ls_srch]; rw [if_neg (by simp [ls_lv, c1, c2])])
          simp only [← nI_1] at e1
          first | exact e1 | exact hl_drop B _ (by simp) e1
        · skip
          exact hl_aret B rfl (by first | exact Or.inl rfl | exact Or.inr ⟨_, rfl⟩) (hl_dec okX5_find 29 rfl) (by decide) (by decide) ⟨by rw [hs]; simp [ls_srch, ls_lv, c1, c2, va_rf], rfl⟩
  refine hl_seg B okX5_find (fun q => nomatch q) 0 2 rfl ?_
  simp only [pX5_find, List.drop_zero, List.drop_succ_cons, hl_wp, hs_ii, hs_i1, hs_ll, hs_l1, hs_ff, hs_g1, hs_dd, hs_d1, hs_r1, hs_rv, hs_rv0, hs_n1, hs_n0, hs_v1i, hs_v1r, hs_a1, hs_d2l, hs_d2i, hs_ri, hs_rl, hs_rg, hs_rd8, hs_rr, hs_rn, hs_ov, hs_gf, hs_po, hs_pfi, hs_pfr, hs_ia, hs_la, hs_da, hs_qa, hs_al, hs_is, hs_ls, hs_ds, hs_iso, hs_lso, hs_dso, hs_rd, hs_f1, hs_f10, hs_f2, hs_f20, hs_in0, hs_in1, hs_lt, hs_le, hs_ge, hs_gt, hs_eq, hs_10, hs_00, hs_01, true_and, and_true, true_imp_iff, false_imp_iff, not_true_eq_false, not_false_eq_true, hs_av, hs_ai, hs_ar, hs_an, hs_aj, hs_ci, hs_cr, hs_cn, hs_cj, hs_cd, hs_cf, hs_q0, hs_q1, reduceIte, Nat.reduceEqDiff, Nat.reduceAdd, Nat.reduceLT, eq_self, List.getElem?_cons_zero, List.getElem?_cons_succ, List.set_cons_zero, List.set_cons_succ, List.length_cons, List.length_nil, Option.toList_some, Option.toList_none, List.cons_append, List.nil_append, Nat.zero_add, Nat.add_zero, List.map_nil, List.sum_nil, List.map_cons, List.sum_cons, Nat.zero_le, hs_set1, q.f5, q.f6]
  have e1 := loop (σ.2.1 4) 0 (Nat.zero_add _) rfl
  simp only [nI_0] at e1
  first | exact e1 | exact hl_drop B _ (by simp) e1
def ls_keys (σ : LSt) (dy : Int32) : Nat := ls_cnt (fun i => decide (¬ 2 < dy - σ.2.2 i 6)) (σ.2.1 4)
set_option maxRecDepth 20000 in
set_option maxHeartbeats 2000000 in
theorem ct_X5_countOn {G : hl_G} {l : Launch} {a ca : Nat → Nat} {σ : LSt} {h : hl_H} {dy : Int32} (q : LSr a ca σ h) (hm : σ.2.1 4 ≤ 180) :
    hl_Ct G l mX5_countOn 0 0 0 [.ref (a 5), .int dy] (fun g => g = h) (fun r g => r = some (.int (nI (ls_keys σ dy))) ∧ g = h) (fun _ _ => False) := by
  refine hl_body (by decide +kernel) (Nat.le_of_ble_eq_true rfl) ?_
  intro p e s m args below meth c B g hg
  rw [hg]
  have h18 : ∀ i : Nat, i < σ.2.1 4 → ¬ Int32.ofNat 180 ≤ nI i := fun i hi => h180 (by omega)
  have loop : ∀ (k9 i : Nat), i + k9 = σ.2.1 4 → hl_GM G mX5_countOn 0 0 0 (fun r g => r = some (.int (nI (ls_keys σ dy))) ∧ g = h) (fun _ _ => False) p l e s m args below meth c 4 [(0, .ref (a 5)), (1, .int dy), (2, .int (nI (ls_cnt (fun i => decide (¬ 2 < dy - σ.2.2 i 6)) i))), (3, .int (nI i))] [] h 0 0 := by
    intro k9
    induction k9 with
    | zero =>
      intro i hi
      have hle : nI (σ.2.1 4) ≤ nI i := nI_le (by omega) (by omega)
      have hie : i = σ.2.1 4 := by omega
      refine hl_seg B okX5_countOn (fun q => nomatch q) 4 1000 rfl ?_
      simp only [pX5_countOn, List.drop_zero, List.drop_succ_cons, hl_wp, hs_ii, hs_i1, hs_ll, hs_l1, hs_ff, hs_g1, hs_dd, hs_d1, hs_r1, hs_rv, hs_rv0, hs_n1, hs_n0, hs_v1i, hs_v1r, hs_a1, hs_d2l, hs_d2i, hs_ri, hs_rl, hs_rg, hs_rd8, hs_rr, hs_rn, hs_ov, hs_gf, hs_po, hs_pfi, hs_pfr, hs_ia, hs_la, hs_da, hs_qa, hs_al, hs_is, hs_ls, hs_ds, hs_iso, hs_lso, hs_dso, hs_rd, hs_f1, hs_f10, hs_f2, hs_f20, hs_in0, hs_in1, hs_lt, hs_le, hs_ge, hs_gt, hs_eq, hs_10, hs_00, hs_01, true_and, and_true, true_imp_iff, false_imp_iff, not_true_eq_false, not_false_eq_true, hs_av, hs_ai, hs_ar, hs_an, hs_aj, hs_ci, hs_cr, hs_cn, hs_cj, hs_cd, hs_cf, hs_q0, hs_q1, reduceIte, Nat.reduceEqDiff, Nat.reduceAdd, Nat.reduceLT, eq_self, List.getElem?_cons_zero, List.getElem?_cons_succ, List.set_cons_zero, List.set_cons_succ, List.length_cons, List.length_nil, Option.toList_some, Option.toList_none, List.cons_append, List.nil_append, Nat.zero_add, Nat.add_zero, List.map_nil, List.sum_nil, List.map_cons, List.sum_cons, Nat.zero_le, hs_set1, q.f5, q.f6, hle]
      refine hl_seg B okX5_countOn (fun q => nomatch q) 29 1000 rfl ?_
      simp only [pX5_countOn, List.drop_zero, List.drop_succ_cons, hl_wp, hs_ii, hs_i1, hs_ll, hs_l1, hs_ff, hs_g1, hs_dd, hs_d1, hs_r1, hs_rv, hs_rv0, hs_n1, hs_n0, hs_v1i, hs_v1r, hs_a1, hs_d2l, hs_d2i, hs_ri, hs_rl, hs_rg, hs_rd8, hs_rr, hs_rn, hs_ov, hs_gf, hs_po, hs_pfi, hs_pfr, hs_ia, hs_la, hs_da, hs_qa, hs_al, hs_is, hs_ls, hs_ds, hs_iso, hs_lso, hs_dso, hs_rd, hs_f1, hs_f10, hs_f2, hs_f20, hs_in0, hs_in1, hs_lt, hs_le, hs_ge, hs_gt, hs_eq, hs_10, hs_00, hs_01, true_and, and_true, true_imp_iff, false_imp_iff, not_true_eq_false, not_false_eq_true, hs_av, hs_ai, hs_ar, hs_an, hs_aj, hs_ci, hs_cr, hs_cn, hs_cj, hs_cd, hs_cf, hs_q0, hs_q1, reduceIte, Nat.reduceEqDiff, Nat.reduceAdd, Nat.reduceLT, eq_self, List.getElem?_cons_zero, List.getElem?_cons_succ, List.set_cons_zero, List.set_cons_succ, List.length_cons, List.length_nil, Option.toList_some, Option.toList_none, List.cons_append, List.nil_append, Nat.zero_add, Nat.add_zero, List.map_nil, List.sum_nil, List.map_cons, List.sum_cons, Nat.zero_le, hs_set1, q.f5, q.f6, hle]
      exact hl_iret B rfl rfl (hl_dec okX5_countOn 30 rfl) (by decide) (by decide) ⟨by simp only [ls_keys, hie], rfl⟩
    | succ k9 ih =>
      intro i hi
      have hlt : ¬ nI (σ.2.1 4) ≤ nI i := nI_ge (by omega) (by omega)
      have hin : i < σ.2.1 4 := by omega
      have h19 := h18 i hin
      have hcl : (nI i).toNatClampNeg = i := nI_clamp (by omega)
      have hk := q.fk hin
      refine hl_seg B okX5_countOn (fun q => nomatch q) 4 1000 rfl ?_
      simp only [pX5_countOn, List.drop_zero, List.drop_succ_cons, hl_wp, hs_ii, hs_i1, hs_ll, hs_l1, hs_ff, hs_g1, hs_dd, hs_d1, hs_r1, hs_rv, hs_rv0, hs_n1, hs_n0, hs_v1i, hs_v1r, hs_a1, hs_d2l, hs_d2i, hs_ri, hs_rl, hs_rg, hs_rd8, hs_rr, hs_rn, hs_ov, hs_gf, hs_po, hs_pfi, hs_pfr, hs_ia, hs_la, hs_da, hs_qa, hs_al, hs_is, hs_ls, hs_ds, hs_iso, hs_lso, hs_dso, hs_rd, hs_f1, hs_f10, hs_f2, hs_f20, hs_in0, hs_in1, hs_lt, hs_le, hs_ge, hs_gt, hs_eq, hs_10, hs_00, hs_01, true_and, and_true, true_imp_iff, false_imp_iff, not_true_eq_false, not_false_eq_true, hs_av, hs_ai, hs_ar, hs_an, hs_aj, hs_ci, hs_cr, hs_cn, hs_cj, hs_cd, hs_cf, hs_q0, hs_q1, reduceIte, Nat.reduceEqDiff, Nat.reduceAdd, Nat.reduceLT, eq_self, List.getElem?_cons_zero, List.getElem?_cons_succ, List.set_cons_zero, List.set_cons_succ, List.length_cons, List.length_nil, Option.toList_some, Option.toList_none, List.cons_append, List.nil_append, Nat.zero_add, Nat.add_zero, List.map_nil, List.sum_nil, List.map_cons, List.sum_cons, Nat.zero_le, hs_set1, q.f5, q.f6, hlt, h19, hcl, if_pos hin, hk]
      refine ⟨vp_in_nI (by omega) (by decide), ?_⟩
      refine ⟨fun c1 => ?_, fun c1 => ?_⟩
      · skip
        refine hl_seg B okX5_countOn (fun q => nomatch q) 27 1000 rfl ?_
        simp only [pX5_countOn, List.drop_zero, List.drop_succ_cons, hl_wp, hs_ii, hs_i1, hs_ll, hs_l1, hs_ff, hs_g1, hs_dd, hs_d1, hs_r1, hs_rv, hs_rv0, hs_n1, hs_n0, hs_v1i, hs_v1r, hs_a1, hs_d2l, hs_d2i, hs_ri, hs_rl, hs_rg, hs_rd8, hs_rr, hs_rn, hs_ov, hs_gf, hs_po, hs_pfi, hs_pfr, hs_ia, hs_la, hs_da, hs_qa, hs_al, hs_is, hs_ls, hs_ds, hs_iso, hs_lso, hs_dso, hs_rd, hs_f1, hs_f10, hs_f2, hs_f20, hs_in0, hs_in1, hs_lt, hs_le, hs_ge, hs_gt, hs_eq, hs_10, hs_00, hs_01, true_and, and_true, true_imp_iff, false_imp_iff, not_true_eq_false, not_false_eq_true, hs_av, hs_ai, hs_ar, hs_an, hs_aj, hs_ci, hs_cr, hs_cn, hs_cj, hs_cd, hs_cf, hs_q0, hs_q1, reduceIte, Nat.reduceEqDiff, Nat.reduceAdd, Nat.reduceLT, eq_self, List.getElem?_cons_zero, List.getElem?_cons_succ, List.set_cons_zero, List.set_cons_succ, List.length_cons, List.length_nil, Option.toList_some, Option.toList_none, List.cons_append, List.nil_append, Nat.zero_add, Nat.add_zero, List.map_nil, List.sum_nil, List.map_cons, List.sum_cons, Nat.zero_le, hs_set1, q.f5, q.f6, hlt, h19, hcl, if_pos hin, hk]
        have e1 := ih (i + 1) (by omega)
        simp [← nI_1, ls_cnt, c1] at e1
        first | exact e1 | exact hl_drop B _ (by simp) e1
      · skip
        have e1 := ih (i + 1) (by omega)
        simp [← nI_1, ls_cnt, c1] at e1
        first | exact e1 | exact hl_drop B _ (by simp) e1
  refine hl_seg B okX5_countOn (fun q => nomatch q) 0 4 rfl ?_
  simp only [pX5_countOn, List.drop_zero, List.drop_succ_cons, hl_wp, hs_ii, hs_i1, hs_ll, hs_l1, hs_ff, hs_g1, hs_dd, hs_d1, hs_r1, hs_rv, hs_rv0, hs_n1, hs_n0, hs_v1i, hs_v1r, hs_a1, hs_d2l, hs_d2i, hs_ri, hs_rl, hs_rg, hs_rd8, hs_rr, hs_rn, hs_ov, hs_gf, hs_po, hs_pfi, hs_pfr, hs_ia, hs_la, hs_da, hs_qa, hs_al, hs_is, hs_ls, hs_ds, hs_iso, hs_lso, hs_dso, hs_rd, hs_f1, hs_f10, hs_f2, hs_f20, hs_in0, hs_in1, hs_lt, hs_le, hs_ge, hs_gt, hs_eq, hs_10, hs_00, hs_01, true_and, and_true, true_imp_iff, false_imp_iff, not_true_eq_false, not_false_eq_true, hs_av, hs_ai, hs_ar, hs_an, hs_aj, hs_ci, hs_cr, hs_cn, hs_cj, hs_cd, hs_cf, hs_q0, hs_q1, reduceIte, Nat.reduceEqDiff, Nat.reduceAdd, Nat.reduceLT, eq_self, List.getElem?_cons_zero, List.getElem?_cons_succ, List.set_cons_zero, List.set_cons_succ, List.length_cons, List.length_nil, Option.toList_some, Option.toList_none, List.cons_append, List.nil_append, Nat.zero_add, Nat.add_zero, List.map_nil, List.sum_nil, List.map_cons, List.sum_cons, Nat.zero_le, hs_set1, q.f5, q.f6]
  have e1 := loop (σ.2.1 4) 0 (Nat.zero_add _)
  simp only [nI_0, ls_cnt] at e1
  first | exact e1 | exact hl_drop B _ (by simp) e1
end
section
/-! PART 12: the memory: what is asked, what is kept -/
def ls_ans (σ : LSt) (k dy : Int32) : Int32 := match ls_find σ k dy with | none => 0 | some i => σ.2.2 i 7
def ls_like (σ : LSt) (f : Nat → Int32) (dy : Int32) : Bool := match ls_find σ (f 1) dy with | none => false | some i => decide (f 0 = σ.2.2 i 0 ∧ f 1 = σ.2.2 i 1 ∧ f 2 = σ.2.2 i 2 ∧ f 3 = σ.2.2 i 3 ∧ f 4 = σ.2.2 i 4 ∧ f 5 = σ.2.2 i 5)
/-- a call is kept -/
def ls_keep (σ : LSt) (f : Nat → Int32) (dy v : Int32) : LSt := (σ.1, va_up σ.2.1 4 (σ.2.1 4 + 1), va_up σ.2.2 (σ.2.1 4) (fun j => if j = 6 then dy else if j = 7 then v else f j))
theorem hs_qs {h : hl_H} {s : List Value} {b a n : Nat} {i : Int32} {f : Nat → Option Nat} {k : List Value → hl_H → Prop} (q : h a = some (.inl (n, .inr (.inr (.inr (.inr f)))))) : hl_qs (.ref b :: .int i :: .ref a :: s) h k = (vp_in i n ∧ (∃ vs, h b = some (.inr (4, vs))) ∧ k s (hl_set h a (.inl (n, .inr (.inr (.inr (.inr (va_up f i.toNatClampNeg (some b))))))))) := by
  simp only [hl_qs, q]
def cl_of (f : Nat → Int32) : hl_C := .inr (4, [.int (f 0), .int (f 1), .int (f 2), .int (f 3), .int (f 4), .int (f 5), .int (f 6), .int (f 7)])
section ASN
variable {G : hl_G} {l : Launch} {M : hl_M} {d k n : Nat} {Q : Option Value → hl_H → Prop} {X : String → hl_H → Prop}
variable {p : Program} {e : Env} {s : State} {m : MethodId} {args : Array Value} {below : List Frame} {meth : Method} {c : Code} {lv : List (Nat × Value)} {rest : List Value} {h : hl_H} {ce sl pc : Nat}
theorem hl_astN (B : hl_B G M d k n p s m args meth c) {kf : Fin 4} {i : Nat} (hd : decode M.2.1 pc = .ok (.astore_n kf, 1)) (hi : (kf : Nat) = i) (hn : i < M.2.2.1) (hw : hl_GM G M d k n Q X p l e s m args below meth c (pc + 1) (hl_ins i .null (hl_f1 i lv)) rest h ce sl) : hl_GM G M d k n Q X p l e s m args below meth c pc lv (.null :: rest) h ce sl := by
  intro H locs ls hP hS hl
  exact lv_astore_nN (lv' := (i, .null) :: hl_f1 i lv) B.1.1 B.1.2.1 hd hi hl hn (by rw [hl_f1_eq]) (fun ls' hl' => hw H locs ls' hP hS (hl_ins_has hl'))
end ASN
section KEEP
variable {a ca : Nat → Nat} {σ : LSt} {h h0 : hl_H} {r : Nat} {x : hl_C}
theorem LSw.rne (w : LSw a ca σ (hl_set h0 r x) h) {i : Nat} (hi : i < 51) : a i ≠ r := fun e => by
  have := w.2.2.2.2.1 i hi
  rw [e, hs_set1] at this
  cases this
theorem LSw.rnc (w : LSw a ca σ (hl_set h0 r x) h) {i : Nat} (hi : i < σ.2.1 4) : ca i ≠ r := fun e => by
  have := w.2.2.2.2.2.1 i hi
  rw [e, hs_set1] at this
  cases this
theorem LSw.rat (w : LSw a ca σ (hl_set h0 r x) h) : h r = some x := w.2.2.2.2.2.2 r x hs_set1
theorem LSw.ane (w : LSw a ca σ h0 h) {i j : Nat} (hi : i < 51) (hj : j < 51) (n : i ≠ j) : a i ≠ a j := fun e => n (w.2.1 i j hi hj e)
/-- a new thing joins the frame -/
theorem LSw.frame (w : LSw a ca σ h0 h) (hr : h r = none) (x : hl_C) : LSw a ca σ (hl_set h0 r x) (hl_set h r x) := by
  obtain ⟨⟨sm, q1, q2⟩, d1, d2, d3, d4, d5, d6⟩ := w
  have n1 : ∀ k, k < 51 → a k ≠ r := fun k hk e => by rw [← e, q1 k hk] at hr; cases hr
  have n2 : ∀ k, k < σ.2.1 4 → ca k ≠ r := fun k hk e => by rw [← e, q2 k hk] at hr; cases hr
  refine ⟨⟨sm, fun k hk => by rw [hs_set2 (n1 k hk)]; exact q1 k hk, fun k hk => by rw [hs_set2 (n2 k hk)]; exact q2 k hk⟩, d1, d2, d3, fun k hk => by rw [hs_set2 (n1 k hk)]; exact d4 k hk, fun k hk => by rw [hs_set2 (n2 k hk)]; exact d5 k hk, fun q y hq => ?_⟩
  by_cases e : q = r
  · subst e; rw [hs_set1] at hq ⊢; exact hq
  · rw [hs_set2 e] at hq ⊢; exact d6 q y hq
/-- .. changes in it -/
theorem LSw.reframe (w : LSw a ca σ (hl_set h0 r x) h) (y : hl_C) : LSw a ca σ (hl_set h0 r y) (hl_set h r y) := by
  have n1 : ∀ k, k < 51 → a k ≠ r := fun k hk => w.rne hk
  have n2 : ∀ k, k < σ.2.1 4 → ca k ≠ r := fun k hk => w.rnc hk
  obtain ⟨⟨sm, q1, q2⟩, d1, d2, d3, d4, d5, d6⟩ := w
  refine ⟨⟨sm, fun k hk => by rw [hs_set2 (n1 k hk)]; exact q1 k hk, fun k hk => by rw [hs_set2 (n2 k hk)]; exact q2 k hk⟩, d1, d2, d3, fun k hk => by rw [hs_set2 (n1 k hk)]; have := d4 k hk; rw [hs_set2 (n1 k hk)] at this; exact this, fun k hk => by rw [hs_set2 (n2 k hk)]; have := d5 k hk; rw [hs_set2 (n2 k hk)] at this; exact this, fun q z hq => ?_⟩
  by_cases e : q = r
  · subst e; rw [hs_set1] at hq ⊢; exact hq
  · rw [hs_set2 e] at hq ⊢; exact d6 q z (by rw [hs_set2 e]; exact hq)
/-- .. and is forgotten -/
theorem LSw.unframe (w : LSw a ca σ (hl_set h0 r x) h) (hr : h0 r = none) : LSw a ca σ h0 h := by
  have n1 : ∀ k, k < 51 → a k ≠ r := fun k hk => w.rne hk
  have n2 : ∀ k, k < σ.2.1 4 → ca k ≠ r := fun k hk => w.rnc hk
  obtain ⟨q, d1, d2, d3, d4, d5, d6⟩ := w
  refine ⟨q, d1, d2, d3, fun k hk => by have := d4 k hk; rw [hs_set2 (n1 k hk)] at this; exact this, fun k hk => by have := d5 k hk; rw [hs_set2 (n2 k hk)] at this; exact this, fun q z hq => ?_⟩
  have e : q ≠ r := fun e => by rw [e, hr] at hq; cases hq
  exact d6 q z (by rw [hs_set2 e]; exact hq)
theorem LSw.no (w : LSw a ca σ h0 h) (hr : h r = none) : h0 r = none := by
  cases e : h0 r with
  | none => rfl
  | some y => rw [w.2.2.2.2.2.2 r y e] at hr; cases hr
theorem LSw.keep (w : LSw a ca σ (hl_set h0 r x) h) (hr : h0 r = none) (f : Nat → Int32) (dy v : Int32) (y : hl_C) (hy : y = cl_of (fun j => if j = 6 then dy else if j = 7 then v else f j)) :
    LSw a (va_up ca (σ.2.1 4) r) (ls_keep σ f dy v) h0 (hl_set (hl_set (hl_set h r y) (a 6) (.inl (180, .inr (.inr (.inr (.inr (va_up (fun i => if i < σ.2.1 4 then some (ca i) else none) (σ.2.1 4) (some r)))))))) (a 5) (.inr (7, [.int (nI (σ.2.1 4) + 1), .ref (a 6)]))) := by
  have n1 : ∀ k, k < 51 → a k ≠ r := fun k hk => w.rne hk
  have n2 : ∀ k, k < σ.2.1 4 → ca k ≠ r := fun k hk => w.rnc hk
  obtain ⟨⟨sm, q1, q2⟩, d1, d2, d3, d4, d5, d6⟩ := w
  have s5 : (ls_keep σ f dy v).2.1 4 = σ.2.1 4 + 1 := by simp [ls_keep, va_up]
  have e1 : ∀ i, i < σ.2.1 4 → va_up ca (σ.2.1 4) r i = ca i := fun i hi => by simp [va_up, show i ≠ σ.2.1 4 by omega]
  have e2 : va_up ca (σ.2.1 4) r (σ.2.1 4) = r := by simp [va_up]
  have e3 : ∀ i, i < σ.2.1 4 + 1 → (i < σ.2.1 4 ∧ va_up ca (σ.2.1 4) r i = ca i) ∨ (i = σ.2.1 4 ∧ va_up ca (σ.2.1 4) r i = r) := fun i hi => by
    rcases Nat.lt_or_ge i (σ.2.1 4) with z | z
    · exact Or.inl ⟨z, e1 i z⟩
    · have : i = σ.2.1 4 := by omega
      subst this
      exact Or.inr ⟨rfl, e2⟩
  refine ⟨⟨sm, fun k hk => ?_, fun i hi => ?_⟩, d1, fun i j hi hj hij => ?_, fun i j hi hj => ?_, fun k hk => ?_, fun i hi => ?_, fun q z hq => ?_⟩
  · by_cases k5 : k = 5
    · subst k5
      rw [hs_set1]
      simp [ls_cell, ls_keep, va_up, nI_1]
    · rw [hs_set2 (fun z => k5 (d1 k 5 hk (by decide) z))]
      by_cases k6 : k = 6
      · subst k6
        rw [hs_set1]
        simp only [ls_cell, ls_keep]
        have e9 : va_up (fun i => if i < σ.2.1 4 then some (ca i) else none) (σ.2.1 4) (some r) = (fun i => if i < σ.2.1 4 + 1 then some (va_up ca (σ.2.1 4) r i) else none) := by
          funext i
          by_cases z : i = σ.2.1 4
          · subst z; simp [va_up]
          · by_cases z2 : i < σ.2.1 4
            · simp [va_up, z, z2, show i < σ.2.1 4 + 1 by omega]
            · simp [va_up, z, z2, show ¬ i < σ.2.1 4 + 1 by omega]
        rw [e9]
        simp [va_up]
      · rw [hs_set2 (fun z => k6 (d1 k 6 hk (by decide) z)), hs_set2 (n1 k hk), q1 k hk]
        simp [ls_cell, ls_keep, va_up, k5, k6]
  · rw [s5] at hi
    rcases e3 i hi with ⟨z, e⟩ | ⟨z, e⟩
    · rw [e, hs_set2 (fun y9 => d3 5 i (by decide) z y9.symm), hs_set2 (fun y9 => d3 6 i (by decide) z y9.symm), hs_set2 (n2 i z), q2 i z]
      simp [ls_call, ls_keep, va_up, show i ≠ σ.2.1 4 by omega]
    · rw [e, hs_set2 (fun y9 => n1 5 (by decide) y9.symm), hs_set2 (fun y9 => n1 6 (by decide) y9.symm), hs_set1, hy]
      subst z
      simp [ls_call, cl_of, ls_keep, va_up]
  · rw [s5] at hi hj
    rcases e3 i hi with ⟨z, e⟩ | ⟨z, e⟩ <;> rcases e3 j hj with ⟨z2, e9⟩ | ⟨z2, e9⟩
    · rw [e, e9] at hij; exact d2 i j z z2 hij
    · rw [e, e9] at hij; exact absurd hij (n2 i z)
    · rw [e, e9] at hij; exact absurd hij.symm (n2 j z2)
    · omega
  · rw [s5] at hj
    rcases e3 j hj with ⟨z2, e9⟩ | ⟨z2, e9⟩
    · rw [e9]; exact d3 i j hi z2
    · rw [e9]; exact n1 i hi
  · have := d4 k hk; rw [hs_set2 (n1 k hk)] at this; exact this
  · rw [s5] at hi
    rcases e3 i hi with ⟨z, e⟩ | ⟨z, e⟩
    · rw [e]; have := d5 i z; rw [hs_set2 (n2 i z)] at this; exact this
    · rw [e]; exact hr
  · have e : q ≠ r := fun e => by rw [e, hr] at hq; cases hq
    have z5 : q ≠ a 5 := fun z9 => by have := d4 5 (by decide); rw [hs_set2 (n1 5 (by decide)), ← z9, hq] at this; cases this
    have z6 : q ≠ a 6 := fun z9 => by have := d4 6 (by decide); rw [hs_set2 (n1 6 (by decide)), ← z9, hq] at this; cases this
    rw [hs_set2 z5, hs_set2 z6, hs_set2 e]
    exact d6 q z (by rw [hs_set2 e]; exact hq)
end KEEP
set_option maxRecDepth 20000 in
set_option maxHeartbeats 2000000 in
theorem ct_X5_hasKey {G : hl_G} {l : Launch} {a ca : Nat → Nat} {σ : LSt} {h : hl_H} {k1 dy : Int32} (q : LSr a ca σ h) (hm : σ.2.1 4 ≤ 180) :
    hl_Ct G l mX5_hasKey 1 0 0 [.ref (a 5), .int k1, .int dy] (fun g => g = h) (fun r g => r = some (.int (if (ls_find σ k1 dy).isSome = true then 1 else 0)) ∧ g = h) (fun _ _ => False) := by
  refine hl_body (by decide +kernel) (Nat.le_of_ble_eq_true rfl) ?_
  intro p e s m args below meth c B g hg
  rw [hg]
  refine hl_seg B okX5_hasKey (fun q => nomatch q) 0 1000 rfl ?_
  simp only [pX5_hasKey, List.drop_zero, List.drop_succ_cons, hl_wp, hs_ii, hs_i1, hs_ll, hs_l1, hs_ff, hs_g1, hs_dd, hs_d1, hs_r1, hs_rv, hs_rv0, hs_n1, hs_n0, hs_v1i, hs_v1r, hs_a1, hs_d2l, hs_d2i, hs_ri, hs_rl, hs_rg, hs_rd8, hs_rr, hs_rn, hs_ov, hs_gf, hs_po, hs_pfi, hs_pfr, hs_ia, hs_la, hs_da, hs_qa, hs_al, hs_is, hs_ls, hs_ds, hs_iso, hs_lso, hs_dso, hs_rd, hs_f1, hs_f10, hs_f2, hs_f20, hs_in0, hs_in1, hs_lt, hs_le, hs_ge, hs_gt, hs_eq, hs_10, hs_00, hs_01, true_and, and_true, true_imp_iff, false_imp_iff, not_true_eq_false, not_false_eq_true, hs_av, hs_ai, hs_ar, hs_an, hs_aj, hs_ci, hs_cr, hs_cn, hs_cj, hs_cd, hs_cf, hs_q0, hs_q1, reduceIte, Nat.reduceEqDiff, Nat.reduceAdd, Nat.reduceLT, eq_self, List.getElem?_cons_zero, List.getElem?_cons_succ, List.set_cons_zero, List.set_cons_succ, List.length_cons, List.length_nil, Option.toList_some, Option.toList_none, List.cons_append, List.nil_append, Nat.zero_add, Nat.add_zero, List.map_nil, List.sum_nil, List.map_cons, List.sum_cons, Nat.zero_le, hs_set1, q.f5]
  refine hl_callR B (As := [.int _, .int _]) (ct_X5_find q hm) mtX5_find (hl_dec okX5_hasKey 3 rfl) (kk := 601) (by decide +kernel) rfl (q.f5) rfl (Nat.le_of_ble_eq_true rfl) (by decide) (by decide) (by decide) (by decide) ?_
  cases hf1 : ls_find σ k1 dy with
  | none =>
    refine hl_seg B okX5_hasKey (fun q => nomatch q) 4 1000 rfl ?_
    simp only [pX5_hasKey, List.drop_zero, List.drop_succ_cons, hl_wp, hs_ii, hs_i1, hs_ll, hs_l1, hs_ff, hs_g1, hs_dd, hs_d1, hs_r1, hs_rv, hs_rv0, hs_n1, hs_n0, hs_v1i, hs_v1r, hs_a1, hs_d2l, hs_d2i, hs_ri, hs_rl, hs_rg, hs_rd8, hs_rr, hs_rn, hs_ov, hs_gf, hs_po, hs_pfi, hs_pfr, hs_ia, hs_la, hs_da, hs_qa, hs_al, hs_is, hs_ls, hs_ds, hs_iso, hs_lso, hs_dso, hs_rd, hs_f1, hs_f10, hs_f2, hs_f20, hs_in0, hs_in1, hs_lt, hs_le, hs_ge, hs_gt, hs_eq, hs_10, hs_00, hs_01, true_and, and_true, true_imp_iff, false_imp_iff, not_true_eq_false, not_false_eq_true, hs_av, hs_ai, hs_ar, hs_an, hs_aj, hs_ci, hs_cr, hs_cn, hs_cj, hs_cd, hs_cf, hs_q0, hs_q1, reduceIte, Nat.reduceEqDiff, Nat.reduceAdd, Nat.reduceLT, eq_self, List.getElem?_cons_zero, List.getElem?_cons_succ, List.set_cons_zero, List.set_cons_succ, List.length_cons, List.length_nil, Option.toList_some, Option.toList_none, List.cons_append, List.nil_append, Nat.zero_add, Nat.add_zero, List.map_nil, List.sum_nil, List.map_cons, List.sum_cons, Nat.zero_le, hs_set1, q.f5, Option.map_none]
    refine hl_seg B okX5_hasKey (fun q => nomatch q) 7 1000 rfl ?_
    simp only [pX5_hasKey, List.drop_zero, List.drop_succ_cons, hl_wp, hs_ii, hs_i1, hs_ll, hs_l1, hs_ff, hs_g1, hs_dd, hs_d1, hs_r1, hs_rv, hs_rv0, hs_n1, hs_n0, hs_v1i, hs_v1r, hs_a1, hs_d2l, hs_d2i, hs_ri, hs_rl, hs_rg, hs_rd8, hs_rr, hs_rn, hs_ov, hs_gf, hs_po, hs_pfi, hs_pfr, hs_ia, hs_la, hs_da, hs_qa, hs_al, hs_is, hs_ls, hs_ds, hs_iso, hs_lso, hs_dso, hs_rd, hs_f1, hs_f10, hs_f2, hs_f20, hs_in0, hs_in1, hs_lt, hs_le, hs_ge, hs_gt, hs_eq, hs_10, hs_00, hs_01, true_and, and_true, true_imp_iff, false_imp_iff, not_true_eq_false, not_false_eq_true, hs_av, hs_ai, hs_ar, hs_an, hs_aj, hs_ci, hs_cr, hs_cn, hs_cj, hs_cd, hs_cf, hs_q0, hs_q1, reduceIte, Nat.reduceEqDiff, Nat.reduceAdd, Nat.reduceLT, eq_self, List.getElem?_cons_zero, List.getElem?_cons_succ, List.set_cons_zero, List.set_cons_succ, List.length_cons, List.length_nil, Option.toList_some, Option.toList_none, List.cons_append, List.nil_append, Nat.zero_add, Nat.add_zero, List.map_nil, List.sum_nil, List.map_cons, List.sum_cons, Nat.zero_le, hs_set1, q.f5, Option.map_none]
    exact hl_iret B rfl (by first | rfl | decide | (split <;> rfl)) (hl_dec okX5_hasKey 8 rfl) (by decide) (by decide) ⟨by simp [hf1], rfl⟩
  | some i9 =>
    have hi9 := ls_find_lt hf1
    have hk9 := q.fk hi9
    refine hl_seg B okX5_hasKey (fun q => nomatch q) 4 1000 rfl ?_
    simp only [pX5_hasKey, List.drop_zero, List.drop_succ_cons, hl_wp, hs_ii, hs_i1, hs_ll, hs_l1, hs_ff, hs_g1, hs_dd, hs_d1, hs_r1, hs_rv, hs_rv0, hs_n1, hs_n0, hs_v1i, hs_v1r, hs_a1, hs_d2l, hs_d2i, hs_ri, hs_rl, hs_rg, hs_rd8, hs_rr, hs_rn, hs_ov, hs_gf, hs_po, hs_pfi, hs_pfr, hs_ia, hs_la, hs_da, hs_qa, hs_al, hs_is, hs_ls, hs_ds, hs_iso, hs_lso, hs_dso, hs_rd, hs_f1, hs_f10, hs_f2, hs_f20, hs_in0, hs_in1, hs_lt, hs_le, hs_ge, hs_gt, hs_eq, hs_10, hs_00, hs_01, true_and, and_true, true_imp_iff, false_imp_iff, not_true_eq_false, not_false_eq_true, hs_av, hs_ai, hs_ar, hs_an, hs_aj, hs_ci, hs_cr, hs_cn, hs_cj, hs_cd, hs_cf, hs_q0, hs_q1, reduceIte, Nat.reduceEqDiff, Nat.reduceAdd, Nat.reduceLT, eq_self, List.getElem?_cons_zero, List.getElem?_cons_succ, List.set_cons_zero, List.set_cons_succ, List.length_cons, List.length_nil, Option.toList_some, Option.toList_none, List.cons_append, List.nil_append, Nat.zero_add, Nat.add_zero, List.map_nil, List.sum_nil, List.map_cons, List.sum_cons, Nat.zero_le, hs_set1, q.f5, Option.map_some, hk9]
    exact hl_iret B rfl (by first | rfl | decide | (split <;> rfl)) (hl_dec okX5_hasKey 8 rfl) (by decide) (by decide) ⟨by simp [hf1], rfl⟩
set_option maxRecDepth 20000 in
set_option maxHeartbeats 2000000 in
theorem ct_X5_answerTo {G : hl_G} {l : Launch} {a ca : Nat → Nat} {σ : LSt} {h : hl_H} {k1 dy : Int32} (q : LSr a ca σ h) (hm : σ.2.1 4 ≤ 180) :
    hl_Ct G l mX5_answerTo 1 0 0 [.ref (a 5), .int k1, .int dy] (fun g => g = h) (fun r g => r = some (.int (ls_ans σ k1 dy)) ∧ g = h) (fun _ _ => False) := by
  refine hl_body (by decide +kernel) (Nat.le_of_ble_eq_true rfl) ?_
  intro p e s m args below meth c B g hg
  rw [hg]
  refine hl_seg B okX5_answerTo (fun q => nomatch q) 0 1000 rfl ?_
  simp only [pX5_answerTo, List.drop_zero, List.drop_succ_cons, hl_wp, hs_ii, hs_i1, hs_ll, hs_l1, hs_ff, hs_g1, hs_dd, hs_d1, hs_r1, hs_rv, hs_rv0, hs_n1, hs_n0, hs_v1i, hs_v1r, hs_a1, hs_d2l, hs_d2i, hs_ri, hs_rl, hs_rg, hs_rd8, hs_rr, hs_rn, hs_ov, hs_gf, hs_po, hs_pfi, hs_pfr, hs_ia, hs_la, hs_da, hs_qa, hs_al, hs_is, hs_ls, hs_ds, hs_iso, hs_lso, hs_dso, hs_rd, hs_f1, hs_f10, hs_f2, hs_f20, hs_in0, hs_in1, hs_lt, hs_le, hs_ge, hs_gt, hs_eq, hs_10, hs_00, hs_01, true_and, and_true, true_imp_iff, false_imp_iff, not_true_eq_false, not_false_eq_true, hs_av, hs_ai, hs_ar, hs_an, hs_aj, hs_ci, hs_cr, hs_cn, hs_cj, hs_cd, hs_cf, hs_q0, hs_q1, reduceIte, Nat.reduceEqDiff, Nat.reduceAdd, Nat.reduceLT, eq_self, List.getElem?_cons_zero, List.getElem?_cons_succ, List.set_cons_zero, List.set_cons_succ, List.length_cons, List.length_nil, Option.toList_some, Option.toList_none, List.cons_append, List.nil_append, Nat.zero_add, Nat.add_zero, List.map_nil, List.sum_nil, List.map_cons, List.sum_cons, Nat.zero_le, hs_set1, q.f5]
  refine hl_callR B (As := [.int _, .int _]) (ct_X5_find q hm) mtX5_find (hl_dec okX5_answerTo 3 rfl) (kk := 601) (by decide +kernel) rfl (q.f5) rfl (Nat.le_of_ble_eq_true rfl) (by decide) (by decide) (by decide) (by decide) ?_
  cases hf1 : ls_find σ k1 dy with
  | none =>
    refine hl_astN B (hl_dec okX5_answerTo 4 rfl) (i := 3) rfl (by decide) ?_
    simp only [List.drop_zero, List.drop_succ_cons, hl_wp, hs_ii, hs_i1, hs_ll, hs_l1, hs_ff, hs_g1, hs_dd, hs_d1, hs_r1, hs_rv, hs_rv0, hs_n1, hs_n0, hs_v1i, hs_v1r, hs_a1, hs_d2l, hs_d2i, hs_ri, hs_rl, hs_rg, hs_rd8, hs_rr, hs_rn, hs_ov, hs_gf, hs_po, hs_pfi, hs_pfr, hs_ia, hs_la, hs_da, hs_qa, hs_al, hs_is, hs_ls, hs_ds, hs_iso, hs_lso, hs_dso, hs_rd, hs_f1, hs_f10, hs_f2, hs_f20, hs_in0, hs_in1, hs_lt, hs_le, hs_ge, hs_gt, hs_eq, hs_10, hs_00, hs_01, true_and, and_true, true_imp_iff, false_imp_iff, not_true_eq_false, not_false_eq_true, hs_av, hs_ai, hs_ar, hs_an, hs_aj, hs_ci, hs_cr, hs_cn, hs_cj, hs_cd, hs_cf, hs_q0, hs_q1, reduceIte, Nat.reduceEqDiff, Nat.reduceAdd, Nat.reduceLT, eq_self, List.getElem?_cons_zero, List.getElem?_cons_succ, List.set_cons_zero, List.set_cons_succ, List.length_cons, List.length_nil, Option.toList_some, Option.toList_none, List.cons_append, List.nil_append, Nat.zero_add, Nat.add_zero, List.map_nil, List.sum_nil, List.map_cons, List.sum_cons, Nat.zero_le, hs_set1]
    refine hl_seg B okX5_answerTo (fun q => nomatch q) 5 1000 rfl ?_
    simp only [pX5_answerTo, List.drop_zero, List.drop_succ_cons, hl_wp, hs_ii, hs_i1, hs_ll, hs_l1, hs_ff, hs_g1, hs_dd, hs_d1, hs_r1, hs_rv, hs_rv0, hs_n1, hs_n0, hs_v1i, hs_v1r, hs_a1, hs_d2l, hs_d2i, hs_ri, hs_rl, hs_rg, hs_rd8, hs_rr, hs_rn, hs_ov, hs_gf, hs_po, hs_pfi, hs_pfr, hs_ia, hs_la, hs_da, hs_qa, hs_al, hs_is, hs_ls, hs_ds, hs_iso, hs_lso, hs_dso, hs_rd, hs_f1, hs_f10, hs_f2, hs_f20, hs_in0, hs_in1, hs_lt, hs_le, hs_ge, hs_gt, hs_eq, hs_10, hs_00, hs_01, true_and, and_true, true_imp_iff, false_imp_iff, not_true_eq_false, not_false_eq_true, hs_av, hs_ai, hs_ar, hs_an, hs_aj, hs_ci, hs_cr, hs_cn, hs_cj, hs_cd, hs_cf, hs_q0, hs_q1, reduceIte, Nat.reduceEqDiff, Nat.reduceAdd, Nat.reduceLT, eq_self, List.getElem?_cons_zero, List.getElem?_cons_succ, List.set_cons_zero, List.set_cons_succ, List.length_cons, List.length_nil, Option.toList_some, Option.toList_none, List.cons_append, List.nil_append, Nat.zero_add, Nat.add_zero, List.map_nil, List.sum_nil, List.map_cons, List.sum_cons, Nat.zero_le, hs_set1, q.f5, Option.map_none]
    exact hl_iret B rfl rfl (hl_dec okX5_answerTo 11 rfl) (by decide) (by decide) ⟨by simp [ls_ans, hf1], rfl⟩
  | some i9 =>
    have hi9 := ls_find_lt hf1
    have hk9 := q.fk hi9
    refine hl_seg B okX5_answerTo (fun q => nomatch q) 4 1000 rfl ?_
    simp only [pX5_answerTo, List.drop_zero, List.drop_succ_cons, hl_wp, hs_ii, hs_i1, hs_ll, hs_l1, hs_ff, hs_g1, hs_dd, hs_d1, hs_r1, hs_rv, hs_rv0, hs_n1, hs_n0, hs_v1i, hs_v1r, hs_a1, hs_d2l, hs_d2i, hs_ri, hs_rl, hs_rg, hs_rd8, hs_rr, hs_rn, hs_ov, hs_gf, hs_po, hs_pfi, hs_pfr, hs_ia, hs_la, hs_da, hs_qa, hs_al, hs_is, hs_ls, hs_ds, hs_iso, hs_lso, hs_dso, hs_rd, hs_f1, hs_f10, hs_f2, hs_f20, hs_in0, hs_in1, hs_lt, hs_le, hs_ge, hs_gt, hs_eq, hs_10, hs_00, hs_01, true_and, and_true, true_imp_iff, false_imp_iff, not_true_eq_false, not_false_eq_true, hs_av, hs_ai, hs_ar, hs_an, hs_aj, hs_ci, hs_cr, hs_cn, hs_cj, hs_cd, hs_cf, hs_q0, hs_q1, reduceIte, Nat.reduceEqDiff, Nat.reduceAdd, Nat.reduceLT, eq_self, List.getElem?_cons_zero, List.getElem?_cons_succ, List.set_cons_zero, List.set_cons_succ, List.length_cons, List.length_nil, Option.toList_some, Option.toList_none, List.cons_append, List.nil_append, Nat.zero_add, Nat.add_zero, List.map_nil, List.sum_nil, List.map_cons, List.sum_cons, Nat.zero_le, hs_set1, q.f5, Option.map_some, hk9]
    refine hl_seg B okX5_answerTo (fun q => nomatch q) 9 1000 rfl ?_
    simp only [pX5_answerTo, List.drop_zero, List.drop_succ_cons, hl_wp, hs_ii, hs_i1, hs_ll, hs_l1, hs_ff, hs_g1, hs_dd, hs_d1, hs_r1, hs_rv, hs_rv0, hs_n1, hs_n0, hs_v1i, hs_v1r, hs_a1, hs_d2l, hs_d2i, hs_ri, hs_rl, hs_rg, hs_rd8, hs_rr, hs_rn, hs_ov, hs_gf, hs_po, hs_pfi, hs_pfr, hs_ia, hs_la, hs_da, hs_qa, hs_al, hs_is, hs_ls, hs_ds, hs_iso, hs_lso, hs_dso, hs_rd, hs_f1, hs_f10, hs_f2, hs_f20, hs_in0, hs_in1, hs_lt, hs_le, hs_ge, hs_gt, hs_eq, hs_10, hs_00, hs_01, true_and, and_true, true_imp_iff, false_imp_iff, not_true_eq_false, not_false_eq_true, hs_av, hs_ai, hs_ar, hs_an, hs_aj, hs_ci, hs_cr, hs_cn, hs_cj, hs_cd, hs_cf, hs_q0, hs_q1, reduceIte, Nat.reduceEqDiff, Nat.reduceAdd, Nat.reduceLT, eq_self, List.getElem?_cons_zero, List.getElem?_cons_succ, List.set_cons_zero, List.set_cons_succ, List.length_cons, List.length_nil, Option.toList_some, Option.toList_none, List.cons_append, List.nil_append, Nat.zero_add, Nat.add_zero, List.map_nil, List.sum_nil, List.map_cons, List.sum_cons, Nat.zero_le, hs_set1, q.f5, Option.map_some, hk9]
    exact hl_iret B rfl rfl (hl_dec okX5_answerTo 11 rfl) (by decide) (by decide) ⟨by simp [ls_ans, hf1], rfl⟩
set_option maxRecDepth 20000 in
set_option maxHeartbeats 2000000 in
theorem ct_X5_hasCallLike {G : hl_G} {l : Launch} {a ca : Nat → Nat} {σ : LSt} {h : hl_H} {r : Nat} {f : Nat → Int32} {dy : Int32} (q : LSr a ca σ h) (hm : σ.2.1 4 ≤ 180) (hr : h r = some (.inr (4, [.int (f 0), .int (f 1), .int (f 2), .int (f 3), .int (f 4), .int (f 5), .int (f 6), .int (f 7)]))) :
    hl_Ct G l mX5_hasCallLike 1 0 0 [.ref (a 5), .ref r, .int dy] (fun g => g = h) (fun r g => r = some (.int (if ls_like σ f dy = true then 1 else 0)) ∧ g = h) (fun _ _ => False) := by
  refine hl_body (by decide +kernel) (Nat.le_of_ble_eq_true rfl) ?_
  intro p e s m args below meth c B g hg
  rw [hg]
  refine hl_seg B okX5_hasCallLike (fun q => nomatch q) 0 1000 rfl ?_
  simp only [pX5_hasCallLike, List.drop_zero, List.drop_succ_cons, hl_wp, hs_ii, hs_i1, hs_ll, hs_l1, hs_ff, hs_g1, hs_dd, hs_d1, hs_r1, hs_rv, hs_rv0, hs_n1, hs_n0, hs_v1i, hs_v1r, hs_a1, hs_d2l, hs_d2i, hs_ri, hs_rl, hs_rg, hs_rd8, hs_rr, hs_rn, hs_ov, hs_gf, hs_po, hs_pfi, hs_pfr, hs_ia, hs_la, hs_da, hs_qa, hs_al, hs_is, hs_ls, hs_ds, hs_iso, hs_lso, hs_dso, hs_rd, hs_f1, hs_f10, hs_f2, hs_f20, hs_in0, hs_in1, hs_lt, hs_le, hs_ge, hs_gt, hs_eq, hs_10, hs_00, hs_01, true_and, and_true, true_imp_iff, false_imp_iff, not_true_eq_false, not_false_eq_true, hs_av, hs_ai, hs_ar, hs_an, hs_aj, hs_ci, hs_cr, hs_cn, hs_cj, hs_cd, hs_cf, hs_q0, hs_q1, reduceIte, Nat.reduceEqDiff, Nat.reduceAdd, Nat.reduceLT, eq_self, List.getElem?_cons_zero, List.getElem?_cons_succ, List.set_cons_zero, List.set_cons_succ, List.length_cons, List.length_nil, Option.toList_some, Option.toList_none, List.cons_append, List.nil_append, Nat.zero_add, Nat.add_zero, List.map_nil, List.sum_nil, List.map_cons, List.sum_cons, Nat.zero_le, hs_set1, q.f5, hr]
  refine hl_callR B (As := [.int _, .int _]) (ct_X5_find q hm) mtX5_find (hl_dec okX5_hasCallLike 7 rfl) (kk := 601) (by decide +kernel) rfl (q.f5) rfl (Nat.le_of_ble_eq_true rfl) (by decide) (by decide) (by decide) (by decide) ?_
  cases hf1 : ls_find σ (f 1) dy with
  | none =>
    refine hl_seg B okX5_hasCallLike (fun q => nomatch q) 8 1000 rfl ?_
    simp only [pX5_hasCallLike, List.drop_zero, List.drop_succ_cons, hl_wp, hs_ii, hs_i1, hs_ll, hs_l1, hs_ff, hs_g1, hs_dd, hs_d1, hs_r1, hs_rv, hs_rv0, hs_n1, hs_n0, hs_v1i, hs_v1r, hs_a1, hs_d2l, hs_d2i, hs_ri, hs_rl, hs_rg, hs_rd8, hs_rr, hs_rn, hs_ov, hs_gf, hs_po, hs_pfi, hs_pfr, hs_ia, hs_la, hs_da, hs_qa, hs_al, hs_is, hs_ls, hs_ds, hs_iso, hs_lso, hs_dso, hs_rd, hs_f1, hs_f10, hs_f2, hs_f20, hs_in0, hs_in1, hs_lt, hs_le, hs_ge, hs_gt, hs_eq, hs_10, hs_00, hs_01, true_and, and_true, true_imp_iff, false_imp_iff, not_true_eq_false, not_false_eq_true, hs_av, hs_ai, hs_ar, hs_an, hs_aj, hs_ci, hs_cr, hs_cn, hs_cj, hs_cd, hs_cf, hs_q0, hs_q1, reduceIte, Nat.reduceEqDiff, Nat.reduceAdd, Nat.reduceLT, eq_self, List.getElem?_cons_zero, List.getElem?_cons_succ, List.set_cons_zero, List.set_cons_succ, List.length_cons, List.length_nil, Option.toList_some, Option.toList_none, List.cons_append, List.nil_append, Nat.zero_add, Nat.add_zero, List.map_nil, List.sum_nil, List.map_cons, List.sum_cons, Nat.zero_le, hs_set1, q.f5, hr, Option.map_none]
    refine hl_callR B (As := [.null]) (ct_X2_isLikeN hr) mtX2_isLike (hl_dec okX5_hasCallLike 8 rfl) (kk := 605) (by decide +kernel) rfl (hr) rfl (Nat.le_of_ble_eq_true rfl) (by decide) (by decide) (by decide) (by decide) ?_
    refine hl_seg B okX5_hasCallLike (fun q => nomatch q) 9 1000 rfl ?_
    simp only [pX5_hasCallLike, List.drop_zero, List.drop_succ_cons, hl_wp, hs_ii, hs_i1, hs_ll, hs_l1, hs_ff, hs_g1, hs_dd, hs_d1, hs_r1, hs_rv, hs_rv0, hs_n1, hs_n0, hs_v1i, hs_v1r, hs_a1, hs_d2l, hs_d2i, hs_ri, hs_rl, hs_rg, hs_rd8, hs_rr, hs_rn, hs_ov, hs_gf, hs_po, hs_pfi, hs_pfr, hs_ia, hs_la, hs_da, hs_qa, hs_al, hs_is, hs_ls, hs_ds, hs_iso, hs_lso, hs_dso, hs_rd, hs_f1, hs_f10, hs_f2, hs_f20, hs_in0, hs_in1, hs_lt, hs_le, hs_ge, hs_gt, hs_eq, hs_10, hs_00, hs_01, true_and, and_true, true_imp_iff, false_imp_iff, not_true_eq_false, not_false_eq_true, hs_av, hs_ai, hs_ar, hs_an, hs_aj, hs_ci, hs_cr, hs_cn, hs_cj, hs_cd, hs_cf, hs_q0, hs_q1, reduceIte, Nat.reduceEqDiff, Nat.reduceAdd, Nat.reduceLT, eq_self, List.getElem?_cons_zero, List.getElem?_cons_succ, List.set_cons_zero, List.set_cons_succ, List.length_cons, List.length_nil, Option.toList_some, Option.toList_none, List.cons_append, List.nil_append, Nat.zero_add, Nat.add_zero, List.map_nil, List.sum_nil, List.map_cons, List.sum_cons, Nat.zero_le, hs_set1, q.f5, hr, Option.map_none]
    refine hl_seg B okX5_hasCallLike (fun q => nomatch q) 12 1000 rfl ?_
    simp only [pX5_hasCallLike, List.drop_zero, List.drop_succ_cons, hl_wp, hs_ii, hs_i1, hs_ll, hs_l1, hs_ff, hs_g1, hs_dd, hs_d1, hs_r1, hs_rv, hs_rv0, hs_n1, hs_n0, hs_v1i, hs_v1r, hs_a1, hs_d2l, hs_d2i, hs_ri, hs_rl, hs_rg, hs_rd8, hs_rr, hs_rn, hs_ov, hs_gf, hs_po, hs_pfi, hs_pfr, hs_ia, hs_la, hs_da, hs_qa, hs_al, hs_is, hs_ls, hs_ds, hs_iso, hs_lso, hs_dso, hs_rd, hs_f1, hs_f10, hs_f2, hs_f20, hs_in0, hs_in1, hs_lt, hs_le, hs_ge, hs_gt, hs_eq, hs_10, hs_00, hs_01, true_and, and_true, true_imp_iff, false_imp_iff, not_true_eq_false, not_false_eq_true, hs_av, hs_ai, hs_ar, hs_an, hs_aj, hs_ci, hs_cr, hs_cn, hs_cj, hs_cd, hs_cf, hs_q0, hs_q1, reduceIte, Nat.reduceEqDiff, Nat.reduceAdd, Nat.reduceLT, eq_self, List.getElem?_cons_zero, List.getElem?_cons_succ, List.set_cons_zero, List.set_cons_succ, List.length_cons, List.length_nil, Option.toList_some, Option.toList_none, List.cons_append, List.nil_append, Nat.zero_add, Nat.add_zero, List.map_nil, List.sum_nil, List.map_cons, List.sum_cons, Nat.zero_le, hs_set1, q.f5, hr, Option.map_none]
    exact hl_iret B rfl (by first | rfl | decide | (split <;> rfl)) (hl_dec okX5_hasCallLike 13 rfl) (by decide) (by decide) ⟨by simp only [ls_like, hf1, decide_eq_true_eq, Bool.false_eq_true, if_false], rfl⟩
  | some i9 =>
    have hi9 := ls_find_lt hf1
    have hk9 := q.fk hi9
    refine hl_seg B okX5_hasCallLike (fun q => nomatch q) 8 1000 rfl ?_
    simp only [pX5_hasCallLike, List.drop_zero, List.drop_succ_cons, hl_wp, hs_ii, hs_i1, hs_ll, hs_l1, hs_ff, hs_g1, hs_dd, hs_d1, hs_r1, hs_rv, hs_rv0, hs_n1, hs_n0, hs_v1i, hs_v1r, hs_a1, hs_d2l, hs_d2i, hs_ri, hs_rl, hs_rg, hs_rd8, hs_rr, hs_rn, hs_ov, hs_gf, hs_po, hs_pfi, hs_pfr, hs_ia, hs_la, hs_da, hs_qa, hs_al, hs_is, hs_ls, hs_ds, hs_iso, hs_lso, hs_dso, hs_rd, hs_f1, hs_f10, hs_f2, hs_f20, hs_in0, hs_in1, hs_lt, hs_le, hs_ge, hs_gt, hs_eq, hs_10, hs_00, hs_01, true_and, and_true, true_imp_iff, false_imp_iff, not_true_eq_false, not_false_eq_true, hs_av, hs_ai, hs_ar, hs_an, hs_aj, hs_ci, hs_cr, hs_cn, hs_cj, hs_cd, hs_cf, hs_q0, hs_q1, reduceIte, Nat.reduceEqDiff, Nat.reduceAdd, Nat.reduceLT, eq_self, List.getElem?_cons_zero, List.getElem?_cons_succ, List.set_cons_zero, List.set_cons_succ, List.length_cons, List.length_nil, Option.toList_some, Option.toList_none, List.cons_append, List.nil_append, Nat.zero_add, Nat.add_zero, List.map_nil, List.sum_nil, List.map_cons, List.sum_cons, Nat.zero_le, hs_set1, q.f5, hr, Option.map_some, hk9]
    refine hl_callR B (As := [.ref _]) (ct_X2_isLike (u := σ.2.2 i9) hr hk9) mtX2_isLike (hl_dec okX5_hasCallLike 8 rfl) (kk := 605) (by decide +kernel) rfl (hr) rfl (Nat.le_of_ble_eq_true rfl) (by decide) (by decide) (by decide) (by decide) ?_
    by_cases c2 : (f 0 = σ.2.2 i9 0 ∧ f 1 = σ.2.2 i9 1 ∧ f 2 = σ.2.2 i9 2 ∧ f 3 = σ.2.2 i9 3 ∧ f 4 = σ.2.2 i9 4 ∧ f 5 = σ.2.2 i9 5)
    · skip
      refine hl_seg B okX5_hasCallLike (fun q => nomatch q) 9 1000 rfl ?_
      simp only [pX5_hasCallLike, List.drop_zero, List.drop_succ_cons, hl_wp, hs_ii, hs_i1, hs_ll, hs_l1, hs_ff, hs_g1, hs_dd, hs_d1, hs_r1, hs_rv, hs_rv0, hs_n1, hs_n0, hs_v1i, hs_v1r, hs_a1, hs_d2l, hs_d2i, hs_ri, hs_rl, hs_rg, hs_rd8, hs_rr, hs_rn, hs_ov, hs_gf, hs_po, hs_pfi, hs_pfr, hs_ia, hs_la, hs_da, hs_qa, hs_al, hs_is, hs_ls, hs_ds, hs_iso, hs_lso, hs_dso, hs_rd, hs_f1, hs_f10, hs_f2, hs_f20, hs_in0, hs_in1, hs_lt, hs_le, hs_ge, hs_gt, hs_eq, hs_10, hs_00, hs_01, true_and, and_true, true_imp_iff, false_imp_iff, not_true_eq_false, not_false_eq_true, hs_av, hs_ai, hs_ar, hs_an, hs_aj, hs_ci, hs_cr, hs_cn, hs_cj, hs_cd, hs_cf, hs_q0, hs_q1, reduceIte, Nat.reduceEqDiff, Nat.reduceAdd, Nat.reduceLT, eq_self, List.getElem?_cons_zero, List.getElem?_cons_succ, List.set_cons_zero, List.set_cons_succ, List.length_cons, List.length_nil, Option.toList_some, Option.toList_none, List.cons_append, List.nil_append, Nat.zero_add, Nat.add_zero, List.map_nil, List.sum_nil, List.map_cons, List.sum_cons, Nat.zero_le, hs_set1, if_pos c2, q.f5, hr, Option.map_some, hk9]
      exact hl_iret B rfl (by first | rfl | decide | (split <;> rfl)) (hl_dec okX5_hasCallLike 13 rfl) (by decide) (by decide) ⟨by simp only [ls_like, hf1, decide_eq_true_eq, Bool.false_eq_true, if_false, if_pos c2], rfl⟩
    · skip
      refine hl_seg B okX5_hasCallLike (fun q => nomatch q) 9 1000 rfl ?_
      simp only [pX5_hasCallLike, List.drop_zero, List.drop_succ_cons, hl_wp, hs_ii, hs_i1, hs_ll, hs_l1, hs_ff, hs_g1, hs_dd, hs_d1, hs_r1, hs_rv, hs_rv0, hs_n1, hs_n0, hs_v1i, hs_v1r, hs_a1, hs_d2l, hs_d2i, hs_ri, hs_rl, hs_rg, hs_rd8, hs_rr, hs_rn, hs_ov, hs_gf, hs_po, hs_pfi, hs_pfr, hs_ia, hs_la, hs_da, hs_qa, hs_al, hs_is, hs_ls, hs_ds, hs_iso, hs_lso, hs_dso, hs_rd, hs_f1, hs_f10, hs_f2, hs_f20, hs_in0, hs_in1, hs_lt, hs_le, hs_ge, hs_gt, hs_eq, hs_10, hs_00, hs_01, true_and, and_true, true_imp_iff, false_imp_iff, not_true_eq_false, not_false_eq_true, hs_av, hs_ai, hs_ar, hs_an, hs_aj, hs_ci, hs_cr, hs_cn, hs_cj, hs_cd, hs_cf, hs_q0, hs_q1, reduceIte, Nat.reduceEqDiff, Nat.reduceAdd, Nat.reduceLT, eq_self, List.getElem?_cons_zero, List.getElem?_cons_succ, List.set_cons_zero, List.set_cons_succ, List.length_cons, List.length_nil, Option.toList_some, Option.toList_none, List.cons_append, List.nil_append, Nat.zero_add, Nat.add_zero, List.map_nil, List.sum_nil, List.map_cons, List.sum_cons, Nat.zero_le, hs_set1, if_neg c2, q.f5, hr, Option.map_some, hk9]
      refine hl_seg B okX5_hasCallLike (fun q => nomatch q) 12 1000 rfl ?_
      simp only [pX5_hasCallLike, List.drop_zero, List.drop_succ_cons, hl_wp, hs_ii, hs_i1, hs_ll, hs_l1, hs_ff, hs_g1, hs_dd, hs_d1, hs_r1, hs_rv, hs_rv0, hs_n1, hs_n0, hs_v1i, hs_v1r, hs_a1, hs_d2l, hs_d2i, hs_ri, hs_rl, hs_rg, hs_rd8, hs_rr, hs_rn, hs_ov, hs_gf, hs_po, hs_pfi, hs_pfr, hs_ia, hs_la, hs_da, hs_qa, hs_al, hs_is, hs_ls, hs_ds, hs_iso, hs_lso, hs_dso, hs_rd, hs_f1, hs_f10, hs_f2, hs_f20, hs_in0, hs_in1, hs_lt, hs_le, hs_ge, hs_gt, hs_eq, hs_10, hs_00, hs_01, true_and, and_true, true_imp_iff, false_imp_iff, not_true_eq_false, not_false_eq_true, hs_av, hs_ai, hs_ar, hs_an, hs_aj, hs_ci, hs_cr, hs_cn, hs_cj, hs_cd, hs_cf, hs_q0, hs_q1, reduceIte, Nat.reduceEqDiff, Nat.reduceAdd, Nat.reduceLT, eq_self, List.getElem?_cons_zero, List.getElem?_cons_succ, List.set_cons_zero, List.set_cons_succ, List.length_cons, List.length_nil, Option.toList_some, Option.toList_none, List.cons_append, List.nil_append, Nat.zero_add, Nat.add_zero, List.map_nil, List.sum_nil, List.map_cons, List.sum_cons, Nat.zero_le, hs_set1, q.f5, hr, Option.map_some, hk9]
      exact hl_iret B rfl (by first | rfl | decide | (split <;> rfl)) (hl_dec okX5_hasCallLike 13 rfl) (by decide) (by decide) ⟨by simp only [ls_like, hf1, decide_eq_true_eq, Bool.false_eq_true, if_false, if_neg c2], rfl⟩
set_option maxRecDepth 20000 in
set_option maxHeartbeats 2000000 in
theorem ct_X5_keep {G : hl_G} {l : Launch} {a ca : Nat → Nat} {σ : LSt} {h0 : hl_H} {r : Nat} {f : Nat → Int32} {dy v : Int32} (hn : σ.2.1 4 < 180) (hr0 : h0 r = none) :
    hl_Ct G l mX5_keep 0 0 0 [.ref (a 5), .ref r, .int dy, .int v] (LSw a ca σ (hl_set h0 r (cl_of f))) (fun r9 g => r9 = some (.int v) ∧ LSw a (va_up ca (σ.2.1 4) r) (ls_keep σ f dy v) h0 g) (fun _ _ => False) := by
  refine hl_body (by decide +kernel) (Nat.le_of_ble_eq_true rfl) ?_
  intro p e s m args below meth c B g hg
  have w := hg
  have q := w.1
  have hr : g r = some (.inr (4, [.int (f 0), .int (f 1), .int (f 2), .int (f 3), .int (f 4), .int (f 5), .int (f 6), .int (f 7)])) := w.rat
  have n5 := w.rne (i := 5) (by decide)
  have n6 := w.rne (i := 6) (by decide)
  have n56 := w.ane (i := 5) (j := 6) (by decide) (by decide) (by decide)
  have h19 := h180 hn
  have hcl : (nI (σ.2.1 4)).toNatClampNeg = σ.2.1 4 := nI_clamp (by omega)
  have hn0 : ¬ nI (σ.2.1 4) < 0 := nI_pos (by omega)
  have q6 : ∀ x : hl_C, hl_set g r x (a 6) = some (.inl (180, .inr (.inr (.inr (.inr (fun i => if i < σ.2.1 4 then some (ca i) else none)))))) := fun x => by rw [hs_set2 n6]; exact q.f6
  refine hl_seg B okX5_keep (fun q => nomatch q) 0 1000 rfl ?_
  simp only [pX5_keep, List.drop_zero, List.drop_succ_cons, hl_wp, hs_ii, hs_i1, hs_ll, hs_l1, hs_ff, hs_g1, hs_dd, hs_d1, hs_r1, hs_rv, hs_rv0, hs_n1, hs_n0, hs_v1i, hs_v1r, hs_a1, hs_d2l, hs_d2i, hs_ri, hs_rl, hs_rg, hs_rd8, hs_rr, hs_rn, hs_ov, hs_gf, hs_po, hs_pfi, hs_pfr, hs_ia, hs_la, hs_da, hs_qa, hs_al, hs_is, hs_ls, hs_ds, hs_iso, hs_lso, hs_dso, hs_rd, hs_f1, hs_f10, hs_f2, hs_f20, hs_in0, hs_in1, hs_lt, hs_le, hs_ge, hs_gt, hs_eq, hs_10, hs_00, hs_01, true_and, and_true, true_imp_iff, false_imp_iff, not_true_eq_false, not_false_eq_true, hs_av, hs_ai, hs_ar, hs_an, hs_aj, hs_ci, hs_cr, hs_cn, hs_cj, hs_cd, hs_cf, hs_q0, hs_q1, reduceIte, Nat.reduceEqDiff, Nat.reduceAdd, Nat.reduceLT, eq_self, List.getElem?_cons_zero, List.getElem?_cons_succ, List.set_cons_zero, List.set_cons_succ, List.length_cons, List.length_nil, Option.toList_some, Option.toList_none, List.cons_append, List.nil_append, Nat.zero_add, Nat.add_zero, List.map_nil, List.sum_nil, List.map_cons, List.sum_cons, Nat.zero_le, hs_set1, q.f5, q.f6, hr, hs_set2 n5, hs_set2 n6, hs_set2 n56, hs_set3, h19, hcl, hn0, hs_qs (q6 _)]
  refine ⟨vp_in_nI hn (by decide), ⟨_, rfl⟩, ?_⟩
  exact hl_iret B rfl rfl (hl_dec okX5_keep 30 rfl) (by decide) (by decide) ⟨rfl, w.keep hr0 f dy v _ rfl⟩
end
section
/-! PART 13: throws -/
/-- what a throw of the class cls needs of the tables -/
def th_ok (cls : String) (ic : Nat) : Prop := Bundle.fit cls = true ∧ Jvm.Cond.initialized cls ∈ hl_T ∧ Jvm.Cond.castable cls cls ∈ lw_tbl ∧ ∀ w ∈ vx_atS RX7 ic cls ["java/lang/RuntimeException", "java/lang/Exception"], w ∈ hl_T ∨ (∃ y, w = Jvm.Cond.declares y ∧ w ∈ lw_tbl) ∨ ∃ C T, w = Jvm.Cond.castable C T ∧ w ∈ lw_tbl
def th_dc (w : Jvm.Cond) : Bool := match w with | .declares _ => true | .castable _ _ => true | _ => false
theorem th_of {cls : String} {ic : Nat} (h1 : Bundle.fit cls = true) (h2 : Jvm.Cond.initialized cls ∈ hl_T) (h4 : Jvm.Cond.castable cls cls ∈ lw_tbl) (h3 : (vx_atS RX7 ic cls ["java/lang/RuntimeException", "java/lang/Exception"]).all (fun w => decide (w ∈ lw_tbl) && (goodWord w || th_dc w)) = true) : th_ok cls ic :=
  ⟨h1, h2, h4, fun w hw => by
    have h := List.all_eq_true.mp h3 w hw
    simp only [Bool.and_eq_true, decide_eq_true_eq, Bool.or_eq_true] at h
    rcases h with ⟨g1, g2 | g2⟩
    · exact Or.inl (List.mem_filter.mpr ⟨g1, g2⟩)
    · unfold th_dc at g2
      split at g2
      · exact Or.inr (Or.inl ⟨_, rfl, g1⟩)
      · exact Or.inr (Or.inr ⟨_, _, rfl, g1⟩)
      · cases g2⟩
theorem th_at {cls : String} {ic : Nat} (T : th_ok cls ic) {G : hl_G} {args : Array Value} {s : State} (hts : ∀ w ∈ hl_T, w.before args s = true) (hE : hl_Ev G s) : ∀ w ∈ vx_atS RX7 ic cls ["java/lang/RuntimeException", "java/lang/Exception"], w.before args s = true := by
  intro w hw
  rcases T.2.2.2 w hw with h | ⟨y, rfl, h⟩ | ⟨C, D, rfl, h⟩
  · exact hts w h
  · exact va_Nw.use rfl (hE.2.2.2.2.2.2.1 _ h)
  · exact va_Nw.use rfl (hE.2.2.2.2.2.2.2.1 _ _ h)
theorem th_ot {cls : String} {ic : Nat} (T : th_ok cls ic) : ∀ w ∈ vx_atS RX7 ic cls ["java/lang/RuntimeException", "java/lang/Exception"], vx_ot w = true := by
  intro w hw
  rcases T.2.2.2 w hw with h | ⟨y, rfl, h⟩ | ⟨C, D, rfl, h⟩
  · have h2 := (List.mem_filter.mp h).2
    unfold vx_ot
    rw [h2, Bool.or_true]
  · rfl
  · rfl
theorem hl_T_ot {w : Jvm.Cond} (h : w ∈ hl_T) : vx_ot w = true := by
  have h2 := (List.mem_filter.mp h).2
  unfold vx_ot
  rw [h2, Bool.or_true]
set_option maxRecDepth 100000 in
theorem th_ISE : th_ok "java/lang/IllegalStateException" 70 := th_of (by decide +kernel) (hl_T_of (k := 61) (by decide +kernel) rfl) (List.mem_of_getElem? (i := 465) (by decide +kernel)) (by decide +kernel)
set_option maxRecDepth 100000 in
theorem th_IAE : th_ok "java/lang/IllegalArgumentException" 104 := th_of (by decide +kernel) (hl_T_of (k := 60) (by decide +kernel) rfl) (List.mem_of_getElem? (i := 387) (by decide +kernel)) (by decide +kernel)
set_option maxRecDepth 100000 in
theorem th_UOE : th_ok "java/lang/UnsupportedOperationException" 95 := th_of (by decide +kernel) (hl_T_of (k := 65) (by decide +kernel) rfl) (List.mem_of_getElem? (i := 534) (by decide +kernel)) (by decide +kernel)
set_option maxRecDepth 100000 in
theorem th_IOB : th_ok "java/lang/IndexOutOfBoundsException" 220 := th_of (by decide +kernel) (hl_T_of (k := 62) (by decide +kernel) rfl) (List.mem_of_getElem? (i := 521) (by decide +kernel)) (by decide +kernel)
set_option maxRecDepth 100000 in
theorem th_ARE : th_ok "java/lang/ArithmeticException" 289 := th_of (by decide +kernel) (hl_T_of (k := 69) (by decide +kernel) rfl) (List.mem_of_getElem? (i := 934) (by decide +kernel)) (by decide +kernel)
section TH
variable {G : hl_G} {l : Launch} {M : hl_M} {d k n : Nat} {Q : Option Value → hl_H → Prop} {X : String → hl_H → Prop}
variable {p : Program} {e : Env} {s : State} {m : MethodId} {args : Array Value} {below : List Frame} {meth : Method} {c : Code} {lv : List (Nat × Value)} {h : hl_H} {ce sl pc : Nat}
theorem hl_Xc_of {H : Heap} {locs : List Loc} {E : String} (hP : hl_P G h H) (hS : va_S (hl_A G) s.heap H locs) (hX : X E h) : ∀ t : State, s.vm.Alike t.vm → H.size ≤ t.heap.size → (∀ q : Nat, q < H.size → t.heap[q]? = H[q]?) → hl_Xc G X E s t := by
  intro t _ hz hq
  obtain ⟨w, h1, h2, h3⟩ := hP
  refine ⟨h, ⟨w, h1, h2.kept (fun j x hj => hq x.1 ((h2 j x hj).lt)), h3⟩, hX, Nat.le_trans hS.1 hz, fun q g1 g2 => ?_⟩
  rw [hq q (Nat.lt_of_lt_of_le g1 hS.1)]
  exact hS.2.1 q g1 g2
theorem hl_Zq {C nm ds : String} (hS0 : va_S (hl_A G) G.2.2 s.heap []) (hz : vx_Zq C nm ds (hl_A G) s G.2.2) : vx_Zq C nm ds (hl_A G) s s.heap :=
  hz.kept (fun q g1 g2 => hS0.2.1 q g1 g2)
/-- 'throw new E("text")', the text's number small -/
theorem hl_throw (B : hl_B G M d k n p s m args meth c) (hM : M.1.cls = RX7) (hl : l.stackTraces = false) {cls text : String} {ik is ic kk ks : Nat} (T : th_ok cls ic) (hk : hl_w kk (Jvm.Cond.classLink RX7 ik cls) = true) (hst : lw_tbl[ks]? = some (Jvm.Cond.stringRef RX7 is text))
    (d0 : decode M.2.1 pc = .ok (.new ik, 3)) (d3 : decode M.2.1 (pc + 3) = .ok (.dup, 1)) (d4 : decode M.2.1 (pc + 4) = .ok (.ldc is, 2)) (d6 : decode M.2.1 (pc + 6) = .ok (.invokespecial ic, 3)) (d9 : decode M.2.1 (pc + 9) = .ok (.athrow, 1))
    (hc : ce + 1 ≤ k) (hs : sl + 6 ≤ n) (hX : X cls h) : hl_GM G M d k n Q X p l e s m args below meth c pc lv [] h ce sl := by
  intro H locs ls hP hS hlv
  obtain ⟨⟨hx, hb, hml, hown, hts, hE, hS0, hRf, hRl⟩, hlk, hrt, hnm, hno⟩ := id B
  rw [hM] at hown
  obtain ⟨sa, hsa⟩ := hE.2.2.2.2.2.1 _ _ _ (List.mem_of_getElem? hst)
  exact vx_throwS (names := ["java/lang/RuntimeException", "java/lang/Exception"]) hx hb hl hown T.1 (by decide +kernel) (hts _ (hl_w_T hk)) (hts _ T.2.1) hsa (th_at T hts hE) (fun w hw => by
      rcases List.mem_cons.mp hw with e1 | hw
      · rw [e1]; exact hl_T_ot (hl_w_T hk)
      · rcases List.mem_cons.mp hw with e1 | hw
        · rw [e1]; exact hl_T_ot T.2.1
        · exact th_ot T w hw) (hl_Zq hS0 hE.2.1) (hl_Zq hS0 hE.2.2.1) hS (by rw [hml]; exact hlv.1) d0 d3 d4 d6 d9 (fun x hx => (hno x hx).elim) (by show 2 + 3 < d + 6; omega) (by show 0 + (13 * 3 + 43) ≤ 40 * d + 140; omega) hc hs hlk (hl_Xc_of hP hS hX) hS.2.2 hc hs
/-- .. and where it is large -/
theorem hl_throwW (B : hl_B G M d k n p s m args meth c) (hM : M.1.cls = RX7) (hl : l.stackTraces = false) {cls text : String} {ik is ic kk ks : Nat} (T : th_ok cls ic) (hk : hl_w kk (Jvm.Cond.classLink RX7 ik cls) = true) (hst : lw_tbl[ks]? = some (Jvm.Cond.stringRef RX7 is text))
    (d0 : decode M.2.1 pc = .ok (.new ik, 3)) (d3 : decode M.2.1 (pc + 3) = .ok (.dup, 1)) (d4 : decode M.2.1 (pc + 4) = .ok (.ldc_w is, 3)) (d6 : decode M.2.1 (pc + 7) = .ok (.invokespecial ic, 3)) (d9 : decode M.2.1 (pc + 10) = .ok (.athrow, 1))
    (hc : ce + 1 ≤ k) (hs : sl + 6 ≤ n) (hX : X cls h) : hl_GM G M d k n Q X p l e s m args below meth c pc lv [] h ce sl := by
  intro H locs ls hP hS hlv
  obtain ⟨⟨hx, hb, hml, hown, hts, hE, hS0, hRf, hRl⟩, hlk, hrt, hnm, hno⟩ := id B
  rw [hM] at hown
  obtain ⟨sa, hsa⟩ := hE.2.2.2.2.2.1 _ _ _ (List.mem_of_getElem? hst)
  exact vx_throwSW (names := ["java/lang/RuntimeException", "java/lang/Exception"]) hx hb hl hown T.1 (by decide +kernel) (hts _ (hl_w_T hk)) (hts _ T.2.1) hsa (th_at T hts hE) (fun w hw => by
      rcases List.mem_cons.mp hw with e1 | hw
      · rw [e1]; exact hl_T_ot (hl_w_T hk)
      · rcases List.mem_cons.mp hw with e1 | hw
        · rw [e1]; exact hl_T_ot T.2.1
        · exact th_ot T w hw) (hl_Zq hS0 hE.2.1) (hl_Zq hS0 hE.2.2.1) hS (by rw [hml]; exact hlv.1) d0 d3 d4 d6 d9 (fun x hx => (hno x hx).elim) (by show 2 + 3 < d + 6; omega) (by show 0 + (13 * 3 + 43) ≤ 40 * d + 140; omega) hc hs hlk (hl_Xc_of hP hS hX) hS.2.2 hc hs
/-- 'throw new E("text")', the text's number small -/
theorem hl_throwN (B : hl_B G M d k n p s m args meth c) (hM : M.1.cls = RX7) (hl : l.stackTraces = false) {text : String} {ik is kk ks : Nat} (hk : hl_w kk (Jvm.Cond.classLink RX7 ik "java/util/NoSuchElementException") = true) (hst : lw_tbl[ks]? = some (Jvm.Cond.stringRef RX7 is text))
    (d0 : decode M.2.1 pc = .ok (.new ik, 3)) (d3 : decode M.2.1 (pc + 3) = .ok (.dup, 1)) (d4 : decode M.2.1 (pc + 4) = .ok (.ldc is, 2)) (d6 : decode M.2.1 (pc + 6) = .ok (.invokespecial 198, 3)) (d9 : decode M.2.1 (pc + 9) = .ok (.athrow, 1))
    (hc : ce + 1 ≤ k) (hs : sl + 6 ≤ n) (hX : X "java/util/NoSuchElementException" h) : hl_GM G M d k n Q X p l e s m args below meth c pc lv [] h ce sl := by
  sorry
/-- .. and where it is large -/
theorem hl_throwNW (B : hl_B G M d k n p s m args meth c) (hM : M.1.cls = RX7) (hl : l.stackTraces = false) {text : String} {ik is kk ks : Nat} (hk : hl_w kk (Jvm.Cond.classLink RX7 ik "java/util/NoSuchElementException") = true) (hst : lw_tbl[ks]? = some (Jvm.Cond.stringRef RX7 is text))
    (d0 : decode M.2.1 pc = .ok (.new ik, 3)) (d3 : decode M.2.1 (pc + 3) = .ok (.dup, 1)) (d4 : decode M.2.1 (pc + 4) = .ok (.ldc_w is, 3)) (d6 : decode M.2.1 (pc + 7) = .ok (.invokespecial 198, 3)) (d9 : decode M.2.1 (pc + 10) = .ok (.athrow, 1))
    (hc : ce + 1 ≤ k) (hs : sl + 6 ≤ n) (hX : X "java/util/NoSuchElementException" h) : hl_GM G M d k n Q X p l e s m args below meth c pc lv [] h ce sl := by
  sorry
end TH
end
section
/-! PART 14: what a call is refused for; the available amount; making a transaction -/
abbrev xISE : String := "java/lang/IllegalStateException"
abbrev xIAE : String := "java/lang/IllegalArgumentException"
abbrev xUOE : String := "java/lang/UnsupportedOperationException"
abbrev xIOB : String := "java/lang/IndexOutOfBoundsException"
abbrev xNSE : String := "java/util/NoSuchElementException"
abbrev xARE : String := "java/lang/ArithmeticException"
/-- the first of two refusals -/
def ls_or (a b : Option String) : Option String := match a with | some e => some e | none => b
theorem ls_or_n {b : Option String} : ls_or none b = b := rfl
theorem ls_or_s {e : String} {b : Option String} : ls_or (some e) b = some e := rfl
def er_cur (x : Int32) : Option String := if x < 0 then some xIAE else if x < 4 then none else some xIAE
set_option maxRecDepth 20000 in
set_option maxHeartbeats 2000000 in
theorem ct_X7_requireCurrency {G : hl_G} {l : Launch} {a ca : Nat → Nat} {σ : LSt} {h : hl_H} {x : Int32} (hst : l.stackTraces = false) (q : LSr a ca σ h) :
    hl_Ct G l mX7_requireCurrency 0 1 6 [.ref (a 0), .int x] (fun g => g = h) (fun r g => r = none ∧ g = h ∧ er_cur x = none) (fun E g => g = h ∧ er_cur x = some E) := by
  refine hl_body (by decide +kernel) (Nat.le_of_ble_eq_true rfl) ?_
  intro p e s m args below meth c B g hg
  rw [hg]
  refine hl_seg B okX7_requireCurrency (fun q => nomatch q) 0 1000 rfl ?_
  simp only [pX7_requireCurrency, List.drop_zero, List.drop_succ_cons, hl_wp, hs_ii, hs_i1, hs_ll, hs_l1, hs_ff, hs_g1, hs_dd, hs_d1, hs_r1, hs_rv, hs_rv0, hs_n1, hs_n0, hs_v1i, hs_v1r, hs_a1, hs_d2l, hs_d2i, hs_ri, hs_rl, hs_rg, hs_rd8, hs_rr, hs_rn, hs_ov, hs_gf, hs_po, hs_pfi, hs_pfr, hs_ia, hs_la, hs_da, hs_qa, hs_al, hs_is, hs_ls, hs_ds, hs_iso, hs_lso, hs_dso, hs_rd, hs_f1, hs_f10, hs_f2, hs_f20, hs_in0, hs_in1, hs_lt, hs_le, hs_ge, hs_gt, hs_eq, hs_10, hs_00, hs_01, true_and, and_true, true_imp_iff, false_imp_iff, not_true_eq_false, not_false_eq_true, hs_av, hs_ai, hs_ar, hs_an, hs_aj, hs_ci, hs_cr, hs_cn, hs_cj, hs_cd, hs_cf, hs_q0, hs_q1, reduceIte, Nat.reduceEqDiff, Nat.reduceAdd, Nat.reduceLT, eq_self, List.getElem?_cons_zero, List.getElem?_cons_succ, List.set_cons_zero, List.set_cons_succ, List.length_cons, List.length_nil, Option.toList_some, Option.toList_none, List.cons_append, List.nil_append, Nat.zero_add, Nat.add_zero, List.map_nil, List.sum_nil, List.map_cons, List.sum_cons, Nat.zero_le, hs_set1]
  refine ⟨fun c1 => ?_, fun c1 => ?_⟩
  · skip
    refine hl_seg B okX7_requireCurrency (fun q => nomatch q) 5 1000 rfl ?_
    simp only [pX7_requireCurrency, List.drop_zero, List.drop_succ_cons, hl_wp, hs_ii, hs_i1, hs_ll, hs_l1, hs_ff, hs_g1, hs_dd, hs_d1, hs_r1, hs_rv, hs_rv0, hs_n1, hs_n0, hs_v1i, hs_v1r, hs_a1, hs_d2l, hs_d2i, hs_ri, hs_rl, hs_rg, hs_rd8, hs_rr, hs_rn, hs_ov, hs_gf, hs_po, hs_pfi, hs_pfr, hs_ia, hs_la, hs_da, hs_qa, hs_al, hs_is, hs_ls, hs_ds, hs_iso, hs_lso, hs_dso, hs_rd, hs_f1, hs_f10, hs_f2, hs_f20, hs_in0, hs_in1, hs_lt, hs_le, hs_ge, hs_gt, hs_eq, hs_10, hs_00, hs_01, true_and, and_true, true_imp_iff, false_imp_iff, not_true_eq_false, not_false_eq_true, hs_av, hs_ai, hs_ar, hs_an, hs_aj, hs_ci, hs_cr, hs_cn, hs_cj, hs_cd, hs_cf, hs_q0, hs_q1, reduceIte, Nat.reduceEqDiff, Nat.reduceAdd, Nat.reduceLT, eq_self, List.getElem?_cons_zero, List.getElem?_cons_succ, List.set_cons_zero, List.set_cons_succ, List.length_cons, List.length_nil, Option.toList_some, Option.toList_none, List.cons_append, List.nil_append, Nat.zero_add, Nat.add_zero, List.map_nil, List.sum_nil, List.map_cons, List.sum_cons, Nat.zero_le, hs_set1]
    exact hl_throwW B rfl hst th_IAE (text := "the currency is out of range") (kk := 385) (ks := 430) (by decide +kernel) (by decide +kernel) (hl_dec okX7_requireCurrency 5 rfl) (hl_dec okX7_requireCurrency 6 rfl) (hl_dec okX7_requireCurrency 7 rfl) (hl_dec okX7_requireCurrency 8 rfl) (hl_dec okX7_requireCurrency 9 rfl) (by decide) (by decide) ⟨rfl, by simp only [er_cur, ls_or_n, ls_or_s, if_pos c1]⟩
  · skip
    refine ⟨fun c2 => ?_, fun c2 => ?_⟩
    · skip
      exact hl_vret B rfl (hl_dec okX7_requireCurrency 10 rfl) (by decide) (by decide) ⟨rfl, rfl, by simp only [er_cur, ls_or_n, ls_or_s, if_neg c1, if_pos c2]⟩
    · skip
      exact hl_throwW B rfl hst th_IAE (text := "the currency is out of range") (kk := 385) (ks := 430) (by decide +kernel) (by decide +kernel) (hl_dec okX7_requireCurrency 5 rfl) (hl_dec okX7_requireCurrency 6 rfl) (hl_dec okX7_requireCurrency 7 rfl) (hl_dec okX7_requireCurrency 8 rfl) (hl_dec okX7_requireCurrency 9 rfl) (by decide) (by decide) ⟨rfl, by simp only [er_cur, ls_or_n, ls_or_s, if_neg c1, if_neg c2]⟩
def er_lim (x : Int32) : Option String := if x < 0 then some xIAE else if x ≤ 1000000 then none else some xIAE
set_option maxRecDepth 20000 in
set_option maxHeartbeats 2000000 in
theorem ct_X7_requireLimit {G : hl_G} {l : Launch} {a ca : Nat → Nat} {σ : LSt} {h : hl_H} {x : Int32} (hst : l.stackTraces = false) (q : LSr a ca σ h) :
    hl_Ct G l mX7_requireLimit 0 1 6 [.ref (a 0), .int x] (fun g => g = h) (fun r g => r = none ∧ g = h ∧ er_lim x = none) (fun E g => g = h ∧ er_lim x = some E) := by
  refine hl_body (by decide +kernel) (Nat.le_of_ble_eq_true rfl) ?_
  intro p e s m args below meth c B g hg
  rw [hg]
  refine hl_seg B okX7_requireLimit (fun q => nomatch q) 0 1000 rfl ?_
  simp only [pX7_requireLimit, List.drop_zero, List.drop_succ_cons, hl_wp, hs_ii, hs_i1, hs_ll, hs_l1, hs_ff, hs_g1, hs_dd, hs_d1, hs_r1, hs_rv, hs_rv0, hs_n1, hs_n0, hs_v1i, hs_v1r, hs_a1, hs_d2l, hs_d2i, hs_ri, hs_rl, hs_rg, hs_rd8, hs_rr, hs_rn, hs_ov, hs_gf, hs_po, hs_pfi, hs_pfr, hs_ia, hs_la, hs_da, hs_qa, hs_al, hs_is, hs_ls, hs_ds, hs_iso, hs_lso, hs_dso, hs_rd, hs_f1, hs_f10, hs_f2, hs_f20, hs_in0, hs_in1, hs_lt, hs_le, hs_ge, hs_gt, hs_eq, hs_10, hs_00, hs_01, true_and, and_true, true_imp_iff, false_imp_iff, not_true_eq_false, not_false_eq_true, hs_av, hs_ai, hs_ar, hs_an, hs_aj, hs_ci, hs_cr, hs_cn, hs_cj, hs_cd, hs_cf, hs_q0, hs_q1, reduceIte, Nat.reduceEqDiff, Nat.reduceAdd, Nat.reduceLT, eq_self, List.getElem?_cons_zero, List.getElem?_cons_succ, List.set_cons_zero, List.set_cons_succ, List.length_cons, List.length_nil, Option.toList_some, Option.toList_none, List.cons_append, List.nil_append, Nat.zero_add, Nat.add_zero, List.map_nil, List.sum_nil, List.map_cons, List.sum_cons, Nat.zero_le, hs_set1]
  refine ⟨fun c1 => ?_, fun c1 => ?_⟩
  · skip
    refine hl_seg B okX7_requireLimit (fun q => nomatch q) 5 1000 rfl ?_
    simp only [pX7_requireLimit, List.drop_zero, List.drop_succ_cons, hl_wp, hs_ii, hs_i1, hs_ll, hs_l1, hs_ff, hs_g1, hs_dd, hs_d1, hs_r1, hs_rv, hs_rv0, hs_n1, hs_n0, hs_v1i, hs_v1r, hs_a1, hs_d2l, hs_d2i, hs_ri, hs_rl, hs_rg, hs_rd8, hs_rr, hs_rn, hs_ov, hs_gf, hs_po, hs_pfi, hs_pfr, hs_ia, hs_la, hs_da, hs_qa, hs_al, hs_is, hs_ls, hs_ds, hs_iso, hs_lso, hs_dso, hs_rd, hs_f1, hs_f10, hs_f2, hs_f20, hs_in0, hs_in1, hs_lt, hs_le, hs_ge, hs_gt, hs_eq, hs_10, hs_00, hs_01, true_and, and_true, true_imp_iff, false_imp_iff, not_true_eq_false, not_false_eq_true, hs_av, hs_ai, hs_ar, hs_an, hs_aj, hs_ci, hs_cr, hs_cn, hs_cj, hs_cd, hs_cf, hs_q0, hs_q1, reduceIte, Nat.reduceEqDiff, Nat.reduceAdd, Nat.reduceLT, eq_self, List.getElem?_cons_zero, List.getElem?_cons_succ, List.set_cons_zero, List.set_cons_succ, List.length_cons, List.length_nil, Option.toList_some, Option.toList_none, List.cons_append, List.nil_append, Nat.zero_add, Nat.add_zero, List.map_nil, List.sum_nil, List.map_cons, List.sum_cons, Nat.zero_le, hs_set1]
    exact hl_throwW B rfl hst th_IAE (text := "the limit is out of range") (kk := 385) (ks := 462) (by decide +kernel) (by decide +kernel) (hl_dec okX7_requireLimit 5 rfl) (hl_dec okX7_requireLimit 6 rfl) (hl_dec okX7_requireLimit 7 rfl) (hl_dec okX7_requireLimit 8 rfl) (hl_dec okX7_requireLimit 9 rfl) (by decide) (by decide) ⟨rfl, by simp only [er_lim, ls_or_n, ls_or_s, if_pos c1]⟩
  · skip
    refine ⟨fun c2 => ?_, fun c2 => ?_⟩
    · skip
      exact hl_vret B rfl (hl_dec okX7_requireLimit 10 rfl) (by decide) (by decide) ⟨rfl, rfl, by simp only [er_lim, ls_or_n, ls_or_s, if_neg c1, if_pos c2]⟩
    · skip
      exact hl_throwW B rfl hst th_IAE (text := "the limit is out of range") (kk := 385) (ks := 462) (by decide +kernel) (by decide +kernel) (hl_dec okX7_requireLimit 5 rfl) (hl_dec okX7_requireLimit 6 rfl) (hl_dec okX7_requireLimit 7 rfl) (hl_dec okX7_requireLimit 8 rfl) (hl_dec okX7_requireLimit 9 rfl) (by decide) (by decide) ⟨rfl, by simp only [er_lim, ls_or_n, ls_or_s, if_neg c1, if_neg c2]⟩
def er_amt (x : Int32) : Option String := if x < 1 then some xIAE else if x ≤ 1000000 then none else some xIAE
set_option maxRecDepth 20000 in
set_option maxHeartbeats 2000000 in
theorem ct_X7_requireAmount {G : hl_G} {l : Launch} {a ca : Nat → Nat} {σ : LSt} {h : hl_H} {x : Int32} (hst : l.stackTraces = false) (q : LSr a ca σ h) :
    hl_Ct G l mX7_requireAmount 0 1 6 [.ref (a 0), .int x] (fun g => g = h) (fun r g => r = none ∧ g = h ∧ er_amt x = none) (fun E g => g = h ∧ er_amt x = some E) := by
  refine hl_body (by decide +kernel) (Nat.le_of_ble_eq_true rfl) ?_
  intro p e s m args below meth c B g hg
  rw [hg]
  refine hl_seg B okX7_requireAmount (fun q => nomatch q) 0 1000 rfl ?_
  simp only [pX7_requireAmount, List.drop_zero, List.drop_succ_cons, hl_wp, hs_ii, hs_i1, hs_ll, hs_l1, hs_ff, hs_g1, hs_dd, hs_d1, hs_r1, hs_rv, hs_rv0, hs_n1, hs_n0, hs_v1i, hs_v1r, hs_a1, hs_d2l, hs_d2i, hs_ri, hs_rl, hs_rg, hs_rd8, hs_rr, hs_rn, hs_ov, hs_gf, hs_po, hs_pfi, hs_pfr, hs_ia, hs_la, hs_da, hs_qa, hs_al, hs_is, hs_ls, hs_ds, hs_iso, hs_lso, hs_dso, hs_rd, hs_f1, hs_f10, hs_f2, hs_f20, hs_in0, hs_in1, hs_lt, hs_le, hs_ge, hs_gt, hs_eq, hs_10, hs_00, hs_01, true_and, and_true, true_imp_iff, false_imp_iff, not_true_eq_false, not_false_eq_true, hs_av, hs_ai, hs_ar, hs_an, hs_aj, hs_ci, hs_cr, hs_cn, hs_cj, hs_cd, hs_cf, hs_q0, hs_q1, reduceIte, Nat.reduceEqDiff, Nat.reduceAdd, Nat.reduceLT, eq_self, List.getElem?_cons_zero, List.getElem?_cons_succ, List.set_cons_zero, List.set_cons_succ, List.length_cons, List.length_nil, Option.toList_some, Option.toList_none, List.cons_append, List.nil_append, Nat.zero_add, Nat.add_zero, List.map_nil, List.sum_nil, List.map_cons, List.sum_cons, Nat.zero_le, hs_set1]
  refine ⟨fun c1 => ?_, fun c1 => ?_⟩
  · skip
    refine hl_seg B okX7_requireAmount (fun q => nomatch q) 6 1000 rfl ?_
    simp only [pX7_requireAmount, List.drop_zero, List.drop_succ_cons, hl_wp, hs_ii, hs_i1, hs_ll, hs_l1, hs_ff, hs_g1, hs_dd, hs_d1, hs_r1, hs_rv, hs_rv0, hs_n1, hs_n0, hs_v1i, hs_v1r, hs_a1, hs_d2l, hs_d2i, hs_ri, hs_rl, hs_rg, hs_rd8, hs_rr, hs_rn, hs_ov, hs_gf, hs_po, hs_pfi, hs_pfr, hs_ia, hs_la, hs_da, hs_qa, hs_al, hs_is, hs_ls, hs_ds, hs_iso, hs_lso, hs_dso, hs_rd, hs_f1, hs_f10, hs_f2, hs_f20, hs_in0, hs_in1, hs_lt, hs_le, hs_ge, hs_gt, hs_eq, hs_10, hs_00, hs_01, true_and, and_true, true_imp_iff, false_imp_iff, not_true_eq_false, not_false_eq_true, hs_av, hs_ai, hs_ar, hs_an, hs_aj, hs_ci, hs_cr, hs_cn, hs_cj, hs_cd, hs_cf, hs_q0, hs_q1, reduceIte, Nat.reduceEqDiff, Nat.reduceAdd, Nat.reduceLT, eq_self, List.getElem?_cons_zero, List.getElem?_cons_succ, List.set_cons_zero, List.set_cons_succ, List.length_cons, List.length_nil, Option.toList_some, Option.toList_none, List.cons_append, List.nil_append, Nat.zero_add, Nat.add_zero, List.map_nil, List.sum_nil, List.map_cons, List.sum_cons, Nat.zero_le, hs_set1]
    exact hl_throwW B rfl hst th_IAE (text := "the amount is out of range") (kk := 385) (ks := 627) (by decide +kernel) (by decide +kernel) (hl_dec okX7_requireAmount 6 rfl) (hl_dec okX7_requireAmount 7 rfl) (hl_dec okX7_requireAmount 8 rfl) (hl_dec okX7_requireAmount 9 rfl) (hl_dec okX7_requireAmount 10 rfl) (by decide) (by decide) ⟨rfl, by simp only [er_amt, ls_or_n, ls_or_s, if_pos c1]⟩
  · skip
    refine ⟨fun c2 => ?_, fun c2 => ?_⟩
    · skip
      exact hl_vret B rfl (hl_dec okX7_requireAmount 11 rfl) (by decide) (by decide) ⟨rfl, rfl, by simp only [er_amt, ls_or_n, ls_or_s, if_neg c1, if_pos c2]⟩
    · skip
      exact hl_throwW B rfl hst th_IAE (text := "the amount is out of range") (kk := 385) (ks := 627) (by decide +kernel) (by decide +kernel) (hl_dec okX7_requireAmount 6 rfl) (hl_dec okX7_requireAmount 7 rfl) (hl_dec okX7_requireAmount 8 rfl) (hl_dec okX7_requireAmount 9 rfl) (hl_dec okX7_requireAmount 10 rfl) (by decide) (by decide) ⟨rfl, by simp only [er_amt, ls_or_n, ls_or_s, if_neg c1, if_neg c2]⟩
def er_acc (σ : LSt) (x : Int32) : Option String := if x < 0 then some xIOB else if x < nI (σ.2.1 0) then none else some xIOB
set_option maxRecDepth 20000 in
set_option maxHeartbeats 2000000 in
theorem ct_X7_requireAccount {G : hl_G} {l : Launch} {a ca : Nat → Nat} {σ : LSt} {h : hl_H} {x : Int32} (hst : l.stackTraces = false) (q : LSr a ca σ h) :
    hl_Ct G l mX7_requireAccount 0 1 6 [.ref (a 0), .int x] (fun g => g = h) (fun r g => r = none ∧ g = h ∧ er_acc σ x = none) (fun E g => g = h ∧ er_acc σ x = some E) := by
  refine hl_body (by decide +kernel) (Nat.le_of_ble_eq_true rfl) ?_
  intro p e s m args below meth c B g hg
  rw [hg]
  refine hl_seg B okX7_requireAccount (fun q => nomatch q) 0 1000 rfl ?_
  simp only [pX7_requireAccount, List.drop_zero, List.drop_succ_cons, hl_wp, hs_ii, hs_i1, hs_ll, hs_l1, hs_ff, hs_g1, hs_dd, hs_d1, hs_r1, hs_rv, hs_rv0, hs_n1, hs_n0, hs_v1i, hs_v1r, hs_a1, hs_d2l, hs_d2i, hs_ri, hs_rl, hs_rg, hs_rd8, hs_rr, hs_rn, hs_ov, hs_gf, hs_po, hs_pfi, hs_pfr, hs_ia, hs_la, hs_da, hs_qa, hs_al, hs_is, hs_ls, hs_ds, hs_iso, hs_lso, hs_dso, hs_rd, hs_f1, hs_f10, hs_f2, hs_f20, hs_in0, hs_in1, hs_lt, hs_le, hs_ge, hs_gt, hs_eq, hs_10, hs_00, hs_01, true_and, and_true, true_imp_iff, false_imp_iff, not_true_eq_false, not_false_eq_true, hs_av, hs_ai, hs_ar, hs_an, hs_aj, hs_ci, hs_cr, hs_cn, hs_cj, hs_cd, hs_cf, hs_q0, hs_q1, reduceIte, Nat.reduceEqDiff, Nat.reduceAdd, Nat.reduceLT, eq_self, List.getElem?_cons_zero, List.getElem?_cons_succ, List.set_cons_zero, List.set_cons_succ, List.length_cons, List.length_nil, Option.toList_some, Option.toList_none, List.cons_append, List.nil_append, Nat.zero_add, Nat.add_zero, List.map_nil, List.sum_nil, List.map_cons, List.sum_cons, Nat.zero_le, hs_set1, q.f0, q.f1]
  refine ⟨fun c1 => ?_, fun c1 => ?_⟩
  · skip
    refine hl_seg B okX7_requireAccount (fun q => nomatch q) 7 1000 rfl ?_
    simp only [pX7_requireAccount, List.drop_zero, List.drop_succ_cons, hl_wp, hs_ii, hs_i1, hs_ll, hs_l1, hs_ff, hs_g1, hs_dd, hs_d1, hs_r1, hs_rv, hs_rv0, hs_n1, hs_n0, hs_v1i, hs_v1r, hs_a1, hs_d2l, hs_d2i, hs_ri, hs_rl, hs_rg, hs_rd8, hs_rr, hs_rn, hs_ov, hs_gf, hs_po, hs_pfi, hs_pfr, hs_ia, hs_la, hs_da, hs_qa, hs_al, hs_is, hs_ls, hs_ds, hs_iso, hs_lso, hs_dso, hs_rd, hs_f1, hs_f10, hs_f2, hs_f20, hs_in0, hs_in1, hs_lt, hs_le, hs_ge, hs_gt, hs_eq, hs_10, hs_00, hs_01, true_and, and_true, true_imp_iff, false_imp_iff, not_true_eq_false, not_false_eq_true, hs_av, hs_ai, hs_ar, hs_an, hs_aj, hs_ci, hs_cr, hs_cn, hs_cj, hs_cd, hs_cf, hs_q0, hs_q1, reduceIte, Nat.reduceEqDiff, Nat.reduceAdd, Nat.reduceLT, eq_self, List.getElem?_cons_zero, List.getElem?_cons_succ, List.set_cons_zero, List.set_cons_succ, List.length_cons, List.length_nil, Option.toList_some, Option.toList_none, List.cons_append, List.nil_append, Nat.zero_add, Nat.add_zero, List.map_nil, List.sum_nil, List.map_cons, List.sum_cons, Nat.zero_le, hs_set1, q.f0, q.f1]
    exact hl_throwW B rfl hst th_IOB (text := "there is no such account") (kk := 519) (ks := 528) (by decide +kernel) (by decide +kernel) (hl_dec okX7_requireAccount 7 rfl) (hl_dec okX7_requireAccount 8 rfl) (hl_dec okX7_requireAccount 9 rfl) (hl_dec okX7_requireAccount 10 rfl) (hl_dec okX7_requireAccount 11 rfl) (by decide) (by decide) ⟨rfl, by simp only [er_acc, ls_or_n, ls_or_s, if_pos c1]⟩
  · skip
    refine ⟨fun c2 => ?_, fun c2 => ?_⟩
    · skip
      exact hl_vret B rfl (hl_dec okX7_requireAccount 12 rfl) (by decide) (by decide) ⟨rfl, rfl, by simp only [er_acc, ls_or_n, ls_or_s, if_neg c1, if_pos c2]⟩
    · skip
      exact hl_throwW B rfl hst th_IOB (text := "there is no such account") (kk := 519) (ks := 528) (by decide +kernel) (by decide +kernel) (hl_dec okX7_requireAccount 7 rfl) (hl_dec okX7_requireAccount 8 rfl) (hl_dec okX7_requireAccount 9 rfl) (hl_dec okX7_requireAccount 10 rfl) (hl_dec okX7_requireAccount 11 rfl) (by decide) (by decide) ⟨rfl, by simp only [er_acc, ls_or_n, ls_or_s, if_neg c1, if_neg c2]⟩
def er_tra (σ : LSt) (x : Int32) : Option String := if x < 0 then some xIOB else if x < nI (σ.2.1 1) then none else some xIOB
set_option maxRecDepth 20000 in
set_option maxHeartbeats 2000000 in
theorem ct_X7_requireTransaction {G : hl_G} {l : Launch} {a ca : Nat → Nat} {σ : LSt} {h : hl_H} {x : Int32} (hst : l.stackTraces = false) (q : LSr a ca σ h) :
    hl_Ct G l mX7_requireTransaction 0 1 6 [.ref (a 0), .int x] (fun g => g = h) (fun r g => r = none ∧ g = h ∧ er_tra σ x = none) (fun E g => g = h ∧ er_tra σ x = some E) := by
  refine hl_body (by decide +kernel) (Nat.le_of_ble_eq_true rfl) ?_
  intro p e s m args below meth c B g hg
  rw [hg]
  refine hl_seg B okX7_requireTransaction (fun q => nomatch q) 0 1000 rfl ?_
  simp only [pX7_requireTransaction, List.drop_zero, List.drop_succ_cons, hl_wp, hs_ii, hs_i1, hs_ll, hs_l1, hs_ff, hs_g1, hs_dd, hs_d1, hs_r1, hs_rv, hs_rv0, hs_n1, hs_n0, hs_v1i, hs_v1r, hs_a1, hs_d2l, hs_d2i, hs_ri, hs_rl, hs_rg, hs_rd8, hs_rr, hs_rn, hs_ov, hs_gf, hs_po, hs_pfi, hs_pfr, hs_ia, hs_la, hs_da, hs_qa, hs_al, hs_is, hs_ls, hs_ds, hs_iso, hs_lso, hs_dso, hs_rd, hs_f1, hs_f10, hs_f2, hs_f20, hs_in0, hs_in1, hs_lt, hs_le, hs_ge, hs_gt, hs_eq, hs_10, hs_00, hs_01, true_and, and_true, true_imp_iff, false_imp_iff, not_true_eq_false, not_false_eq_true, hs_av, hs_ai, hs_ar, hs_an, hs_aj, hs_ci, hs_cr, hs_cn, hs_cj, hs_cd, hs_cf, hs_q0, hs_q1, reduceIte, Nat.reduceEqDiff, Nat.reduceAdd, Nat.reduceLT, eq_self, List.getElem?_cons_zero, List.getElem?_cons_succ, List.set_cons_zero, List.set_cons_succ, List.length_cons, List.length_nil, Option.toList_some, Option.toList_none, List.cons_append, List.nil_append, Nat.zero_add, Nat.add_zero, List.map_nil, List.sum_nil, List.map_cons, List.sum_cons, Nat.zero_le, hs_set1, q.f0, q.f2]
  refine ⟨fun c1 => ?_, fun c1 => ?_⟩
  · skip
    refine hl_seg B okX7_requireTransaction (fun q => nomatch q) 7 1000 rfl ?_
    simp only [pX7_requireTransaction, List.drop_zero, List.drop_succ_cons, hl_wp, hs_ii, hs_i1, hs_ll, hs_l1, hs_ff, hs_g1, hs_dd, hs_d1, hs_r1, hs_rv, hs_rv0, hs_n1, hs_n0, hs_v1i, hs_v1r, hs_a1, hs_d2l, hs_d2i, hs_ri, hs_rl, hs_rg, hs_rd8, hs_rr, hs_rn, hs_ov, hs_gf, hs_po, hs_pfi, hs_pfr, hs_ia, hs_la, hs_da, hs_qa, hs_al, hs_is, hs_ls, hs_ds, hs_iso, hs_lso, hs_dso, hs_rd, hs_f1, hs_f10, hs_f2, hs_f20, hs_in0, hs_in1, hs_lt, hs_le, hs_ge, hs_gt, hs_eq, hs_10, hs_00, hs_01, true_and, and_true, true_imp_iff, false_imp_iff, not_true_eq_false, not_false_eq_true, hs_av, hs_ai, hs_ar, hs_an, hs_aj, hs_ci, hs_cr, hs_cn, hs_cj, hs_cd, hs_cf, hs_q0, hs_q1, reduceIte, Nat.reduceEqDiff, Nat.reduceAdd, Nat.reduceLT, eq_self, List.getElem?_cons_zero, List.getElem?_cons_succ, List.set_cons_zero, List.set_cons_succ, List.length_cons, List.length_nil, Option.toList_some, Option.toList_none, List.cons_append, List.nil_append, Nat.zero_add, Nat.add_zero, List.map_nil, List.sum_nil, List.map_cons, List.sum_cons, Nat.zero_le, hs_set1, q.f0, q.f2]
    exact hl_throwW B rfl hst th_IOB (text := "there is no such transaction") (kk := 519) (ks := 753) (by decide +kernel) (by decide +kernel) (hl_dec okX7_requireTransaction 7 rfl) (hl_dec okX7_requireTransaction 8 rfl) (hl_dec okX7_requireTransaction 9 rfl) (hl_dec okX7_requireTransaction 10 rfl) (hl_dec okX7_requireTransaction 11 rfl) (by decide) (by decide) ⟨rfl, by simp only [er_tra, ls_or_n, ls_or_s, if_pos c1]⟩
  · skip
    refine ⟨fun c2 => ?_, fun c2 => ?_⟩
    · skip
      exact hl_vret B rfl (hl_dec okX7_requireTransaction 12 rfl) (by decide) (by decide) ⟨rfl, rfl, by simp only [er_tra, ls_or_n, ls_or_s, if_neg c1, if_pos c2]⟩
    · skip
      exact hl_throwW B rfl hst th_IOB (text := "there is no such transaction") (kk := 519) (ks := 753) (by decide +kernel) (by decide +kernel) (hl_dec okX7_requireTransaction 7 rfl) (hl_dec okX7_requireTransaction 8 rfl) (hl_dec okX7_requireTransaction 9 rfl) (hl_dec okX7_requireTransaction 10 rfl) (hl_dec okX7_requireTransaction 11 rfl) (by decide) (by decide) ⟨rfl, by simp only [er_tra, ls_or_n, ls_or_s, if_neg c1, if_neg c2]⟩
def er_hol (σ : LSt) (x : Int32) : Option String := if x < 0 then some xIOB else if x < nI (σ.2.1 2) then none else some xIOB
set_option maxRecDepth 20000 in
set_option maxHeartbeats 2000000 in
theorem ct_X7_requireHold {G : hl_G} {l : Launch} {a ca : Nat → Nat} {σ : LSt} {h : hl_H} {x : Int32} (hst : l.stackTraces = false) (q : LSr a ca σ h) :
    hl_Ct G l mX7_requireHold 0 1 6 [.ref (a 0), .int x] (fun g => g = h) (fun r g => r = none ∧ g = h ∧ er_hol σ x = none) (fun E g => g = h ∧ er_hol σ x = some E) := by
  refine hl_body (by decide +kernel) (Nat.le_of_ble_eq_true rfl) ?_
  intro p e s m args below meth c B g hg
  rw [hg]
  refine hl_seg B okX7_requireHold (fun q => nomatch q) 0 1000 rfl ?_
  simp only [pX7_requireHold, List.drop_zero, List.drop_succ_cons, hl_wp, hs_ii, hs_i1, hs_ll, hs_l1, hs_ff, hs_g1, hs_dd, hs_d1, hs_r1, hs_rv, hs_rv0, hs_n1, hs_n0, hs_v1i, hs_v1r, hs_a1, hs_d2l, hs_d2i, hs_ri, hs_rl, hs_rg, hs_rd8, hs_rr, hs_rn, hs_ov, hs_gf, hs_po, hs_pfi, hs_pfr, hs_ia, hs_la, hs_da, hs_qa, hs_al, hs_is, hs_ls, hs_ds, hs_iso, hs_lso, hs_dso, hs_rd, hs_f1, hs_f10, hs_f2, hs_f20, hs_in0, hs_in1, hs_lt, hs_le, hs_ge, hs_gt, hs_eq, hs_10, hs_00, hs_01, true_and, and_true, true_imp_iff, false_imp_iff, not_true_eq_false, not_false_eq_true, hs_av, hs_ai, hs_ar, hs_an, hs_aj, hs_ci, hs_cr, hs_cn, hs_cj, hs_cd, hs_cf, hs_q0, hs_q1, reduceIte, Nat.reduceEqDiff, Nat.reduceAdd, Nat.reduceLT, eq_self, List.getElem?_cons_zero, List.getElem?_cons_succ, List.set_cons_zero, List.set_cons_succ, List.length_cons, List.length_nil, Option.toList_some, Option.toList_none, List.cons_append, List.nil_append, Nat.zero_add, Nat.add_zero, List.map_nil, List.sum_nil, List.map_cons, List.sum_cons, Nat.zero_le, hs_set1, q.f0, q.f3]
  refine ⟨fun c1 => ?_, fun c1 => ?_⟩
  · skip
    refine hl_seg B okX7_requireHold (fun q => nomatch q) 7 1000 rfl ?_
    simp only [pX7_requireHold, List.drop_zero, List.drop_succ_cons, hl_wp, hs_ii, hs_i1, hs_ll, hs_l1, hs_ff, hs_g1, hs_dd, hs_d1, hs_r1, hs_rv, hs_rv0, hs_n1, hs_n0, hs_v1i, hs_v1r, hs_a1, hs_d2l, hs_d2i, hs_ri, hs_rl, hs_rg, hs_rd8, hs_rr, hs_rn, hs_ov, hs_gf, hs_po, hs_pfi, hs_pfr, hs_ia, hs_la, hs_da, hs_qa, hs_al, hs_is, hs_ls, hs_ds, hs_iso, hs_lso, hs_dso, hs_rd, hs_f1, hs_f10, hs_f2, hs_f20, hs_in0, hs_in1, hs_lt, hs_le, hs_ge, hs_gt, hs_eq, hs_10, hs_00, hs_01, true_and, and_true, true_imp_iff, false_imp_iff, not_true_eq_false, not_false_eq_true, hs_av, hs_ai, hs_ar, hs_an, hs_aj, hs_ci, hs_cr, hs_cn, hs_cj, hs_cd, hs_cf, hs_q0, hs_q1, reduceIte, Nat.reduceEqDiff, Nat.reduceAdd, Nat.reduceLT, eq_self, List.getElem?_cons_zero, List.getElem?_cons_succ, List.set_cons_zero, List.set_cons_succ, List.length_cons, List.length_nil, Option.toList_some, Option.toList_none, List.cons_append, List.nil_append, Nat.zero_add, Nat.add_zero, List.map_nil, List.sum_nil, List.map_cons, List.sum_cons, Nat.zero_le, hs_set1, q.f0, q.f3]
    exact hl_throwW B rfl hst th_IOB (text := "there is no such hold") (kk := 519) (ks := 714) (by decide +kernel) (by decide +kernel) (hl_dec okX7_requireHold 7 rfl) (hl_dec okX7_requireHold 8 rfl) (hl_dec okX7_requireHold 9 rfl) (hl_dec okX7_requireHold 10 rfl) (hl_dec okX7_requireHold 11 rfl) (by decide) (by decide) ⟨rfl, by simp only [er_hol, ls_or_n, ls_or_s, if_pos c1]⟩
  · skip
    refine ⟨fun c2 => ?_, fun c2 => ?_⟩
    · skip
      exact hl_vret B rfl (hl_dec okX7_requireHold 12 rfl) (by decide) (by decide) ⟨rfl, rfl, by simp only [er_hol, ls_or_n, ls_or_s, if_neg c1, if_pos c2]⟩
    · skip
      exact hl_throwW B rfl hst th_IOB (text := "there is no such hold") (kk := 519) (ks := 714) (by decide +kernel) (by decide +kernel) (hl_dec okX7_requireHold 7 rfl) (hl_dec okX7_requireHold 8 rfl) (hl_dec okX7_requireHold 9 rfl) (hl_dec okX7_requireHold 10 rfl) (hl_dec okX7_requireHold 11 rfl) (by decide) (by decide) ⟨rfl, by simp only [er_hol, ls_or_n, ls_or_s, if_neg c1, if_neg c2]⟩
def er_som (x : Int32) : Option String := if 1 ≤ x then none else some xUOE
set_option maxRecDepth 20000 in
set_option maxHeartbeats 2000000 in
theorem ct_X7_requireSomethingReceived {G : hl_G} {l : Launch} {a ca : Nat → Nat} {σ : LSt} {h : hl_H} {x : Int32} (hst : l.stackTraces = false) (q : LSr a ca σ h) :
    hl_Ct G l mX7_requireSomethingReceived 0 1 6 [.ref (a 0), .int x] (fun g => g = h) (fun r g => r = none ∧ g = h ∧ er_som x = none) (fun E g => g = h ∧ er_som x = some E) := by
  refine hl_body (by decide +kernel) (Nat.le_of_ble_eq_true rfl) ?_
  intro p e s m args below meth c B g hg
  rw [hg]
  refine hl_seg B okX7_requireSomethingReceived (fun q => nomatch q) 0 1000 rfl ?_
  simp only [pX7_requireSomethingReceived, List.drop_zero, List.drop_succ_cons, hl_wp, hs_ii, hs_i1, hs_ll, hs_l1, hs_ff, hs_g1, hs_dd, hs_d1, hs_r1, hs_rv, hs_rv0, hs_n1, hs_n0, hs_v1i, hs_v1r, hs_a1, hs_d2l, hs_d2i, hs_ri, hs_rl, hs_rg, hs_rd8, hs_rr, hs_rn, hs_ov, hs_gf, hs_po, hs_pfi, hs_pfr, hs_ia, hs_la, hs_da, hs_qa, hs_al, hs_is, hs_ls, hs_ds, hs_iso, hs_lso, hs_dso, hs_rd, hs_f1, hs_f10, hs_f2, hs_f20, hs_in0, hs_in1, hs_lt, hs_le, hs_ge, hs_gt, hs_eq, hs_10, hs_00, hs_01, true_and, and_true, true_imp_iff, false_imp_iff, not_true_eq_false, not_false_eq_true, hs_av, hs_ai, hs_ar, hs_an, hs_aj, hs_ci, hs_cr, hs_cn, hs_cj, hs_cd, hs_cf, hs_q0, hs_q1, reduceIte, Nat.reduceEqDiff, Nat.reduceAdd, Nat.reduceLT, eq_self, List.getElem?_cons_zero, List.getElem?_cons_succ, List.set_cons_zero, List.set_cons_succ, List.length_cons, List.length_nil, Option.toList_some, Option.toList_none, List.cons_append, List.nil_append, Nat.zero_add, Nat.add_zero, List.map_nil, List.sum_nil, List.map_cons, List.sum_cons, Nat.zero_le, hs_set1]
  refine ⟨fun c1 => ?_, fun c1 => ?_⟩
  · skip
    exact hl_vret B rfl (hl_dec okX7_requireSomethingReceived 8 rfl) (by decide) (by decide) ⟨rfl, rfl, by simp only [er_som, ls_or_n, ls_or_s, if_pos c1]⟩
  · skip
    exact hl_throwW B rfl hst th_UOE (text := "the received amount would be 0") (kk := 532) (ks := 684) (by decide +kernel) (by decide +kernel) (hl_dec okX7_requireSomethingReceived 3 rfl) (hl_dec okX7_requireSomethingReceived 4 rfl) (hl_dec okX7_requireSomethingReceived 5 rfl) (hl_dec okX7_requireSomethingReceived 6 rfl) (hl_dec okX7_requireSomethingReceived 7 rfl) (by decide) (by decide) ⟨rfl, by simp only [er_som, ls_or_n, ls_or_s, if_neg c1]⟩
def er_roo (σ : LSt) : Option String := if nI (σ.2.1 1) < 150 then none else some xISE
set_option maxRecDepth 20000 in
set_option maxHeartbeats 2000000 in
theorem ct_X7_requireRoomInJournal {G : hl_G} {l : Launch} {a ca : Nat → Nat} {σ : LSt} {h : hl_H} (hst : l.stackTraces = false) (q : LSr a ca σ h) :
    hl_Ct G l mX7_requireRoomInJournal 0 1 6 [.ref (a 0)] (fun g => g = h) (fun r g => r = none ∧ g = h ∧ er_roo σ = none) (fun E g => g = h ∧ er_roo σ = some E) := by
  refine hl_body (by decide +kernel) (Nat.le_of_ble_eq_true rfl) ?_
  intro p e s m args below meth c B g hg
  rw [hg]
  refine hl_seg B okX7_requireRoomInJournal (fun q => nomatch q) 0 1000 rfl ?_
  simp only [pX7_requireRoomInJournal, List.drop_zero, List.drop_succ_cons, hl_wp, hs_ii, hs_i1, hs_ll, hs_l1, hs_ff, hs_g1, hs_dd, hs_d1, hs_r1, hs_rv, hs_rv0, hs_n1, hs_n0, hs_v1i, hs_v1r, hs_a1, hs_d2l, hs_d2i, hs_ri, hs_rl, hs_rg, hs_rd8, hs_rr, hs_rn, hs_ov, hs_gf, hs_po, hs_pfi, hs_pfr, hs_ia, hs_la, hs_da, hs_qa, hs_al, hs_is, hs_ls, hs_ds, hs_iso, hs_lso, hs_dso, hs_rd, hs_f1, hs_f10, hs_f2, hs_f20, hs_in0, hs_in1, hs_lt, hs_le, hs_ge, hs_gt, hs_eq, hs_10, hs_00, hs_01, true_and, and_true, true_imp_iff, false_imp_iff, not_true_eq_false, not_false_eq_true, hs_av, hs_ai, hs_ar, hs_an, hs_aj, hs_ci, hs_cr, hs_cn, hs_cj, hs_cd, hs_cf, hs_q0, hs_q1, reduceIte, Nat.reduceEqDiff, Nat.reduceAdd, Nat.reduceLT, eq_self, List.getElem?_cons_zero, List.getElem?_cons_succ, List.set_cons_zero, List.set_cons_succ, List.length_cons, List.length_nil, Option.toList_some, Option.toList_none, List.cons_append, List.nil_append, Nat.zero_add, Nat.add_zero, List.map_nil, List.sum_nil, List.map_cons, List.sum_cons, Nat.zero_le, hs_set1, q.f0, q.f2]
  refine ⟨fun c1 => ?_, fun c1 => ?_⟩
  · skip
    exact hl_vret B rfl (hl_dec okX7_requireRoomInJournal 10 rfl) (by decide) (by decide) ⟨rfl, rfl, by simp only [er_roo, ls_or_n, ls_or_s, if_pos c1]⟩
  · skip
    exact hl_throwW B rfl hst th_ISE (text := "there is no room for another transaction") (kk := 463) (ks := 632) (by decide +kernel) (by decide +kernel) (hl_dec okX7_requireRoomInJournal 5 rfl) (hl_dec okX7_requireRoomInJournal 6 rfl) (hl_dec okX7_requireRoomInJournal 7 rfl) (hl_dec okX7_requireRoomInJournal 8 rfl) (hl_dec okX7_requireRoomInJournal 9 rfl) (by decide) (by decide) ⟨rfl, by simp only [er_roo, ls_or_n, ls_or_s, if_neg c1]⟩
def er_key (σ : LSt) (x : Int32) : Option String := if x < 1 then some xIAE else if x ≤ 999 then (if (ls_find σ x (nI (σ.2.1 5))).isSome = true then some xIAE else none) else some xIAE
set_option maxRecDepth 20000 in
set_option maxHeartbeats 2000000 in
theorem ct_X7_requireNewKey {G : hl_G} {l : Launch} {a ca : Nat → Nat} {σ : LSt} {h : hl_H} {x : Int32} (hst : l.stackTraces = false) (q : LSr a ca σ h) (hm : σ.2.1 4 ≤ 180) :
    hl_Ct G l mX7_requireNewKey 2 1 6 [.ref (a 0), .int x] (fun g => g = h) (fun r g => r = none ∧ g = h ∧ er_key σ x = none) (fun E g => g = h ∧ er_key σ x = some E) := by
  refine hl_body (by decide +kernel) (Nat.le_of_ble_eq_true rfl) ?_
  intro p e s m args below meth c B g hg
  rw [hg]
  refine hl_seg B okX7_requireNewKey (fun q => nomatch q) 0 1000 rfl ?_
  simp only [pX7_requireNewKey, List.drop_zero, List.drop_succ_cons, hl_wp, hs_ii, hs_i1, hs_ll, hs_l1, hs_ff, hs_g1, hs_dd, hs_d1, hs_r1, hs_rv, hs_rv0, hs_n1, hs_n0, hs_v1i, hs_v1r, hs_a1, hs_d2l, hs_d2i, hs_ri, hs_rl, hs_rg, hs_rd8, hs_rr, hs_rn, hs_ov, hs_gf, hs_po, hs_pfi, hs_pfr, hs_ia, hs_la, hs_da, hs_qa, hs_al, hs_is, hs_ls, hs_ds, hs_iso, hs_lso, hs_dso, hs_rd, hs_f1, hs_f10, hs_f2, hs_f20, hs_in0, hs_in1, hs_lt, hs_le, hs_ge, hs_gt, hs_eq, hs_10, hs_00, hs_01, true_and, and_true, true_imp_iff, false_imp_iff, not_true_eq_false, not_false_eq_true, hs_av, hs_ai, hs_ar, hs_an, hs_aj, hs_ci, hs_cr, hs_cn, hs_cj, hs_cd, hs_cf, hs_q0, hs_q1, reduceIte, Nat.reduceEqDiff, Nat.reduceAdd, Nat.reduceLT, eq_self, List.getElem?_cons_zero, List.getElem?_cons_succ, List.set_cons_zero, List.set_cons_succ, List.length_cons, List.length_nil, Option.toList_some, Option.toList_none, List.cons_append, List.nil_append, Nat.zero_add, Nat.add_zero, List.map_nil, List.sum_nil, List.map_cons, List.sum_cons, Nat.zero_le, hs_set1, q.f0, q.f5]
  refine ⟨fun c1 => ?_, fun c1 => ?_⟩
  · skip
    refine hl_seg B okX7_requireNewKey (fun q => nomatch q) 6 1000 rfl ?_
    simp only [pX7_requireNewKey, List.drop_zero, List.drop_succ_cons, hl_wp, hs_ii, hs_i1, hs_ll, hs_l1, hs_ff, hs_g1, hs_dd, hs_d1, hs_r1, hs_rv, hs_rv0, hs_n1, hs_n0, hs_v1i, hs_v1r, hs_a1, hs_d2l, hs_d2i, hs_ri, hs_rl, hs_rg, hs_rd8, hs_rr, hs_rn, hs_ov, hs_gf, hs_po, hs_pfi, hs_pfr, hs_ia, hs_la, hs_da, hs_qa, hs_al, hs_is, hs_ls, hs_ds, hs_iso, hs_lso, hs_dso, hs_rd, hs_f1, hs_f10, hs_f2, hs_f20, hs_in0, hs_in1, hs_lt, hs_le, hs_ge, hs_gt, hs_eq, hs_10, hs_00, hs_01, true_and, and_true, true_imp_iff, false_imp_iff, not_true_eq_false, not_false_eq_true, hs_av, hs_ai, hs_ar, hs_an, hs_aj, hs_ci, hs_cr, hs_cn, hs_cj, hs_cd, hs_cf, hs_q0, hs_q1, reduceIte, Nat.reduceEqDiff, Nat.reduceAdd, Nat.reduceLT, eq_self, List.getElem?_cons_zero, List.getElem?_cons_succ, List.set_cons_zero, List.set_cons_succ, List.length_cons, List.length_nil, Option.toList_some, Option.toList_none, List.cons_append, List.nil_append, Nat.zero_add, Nat.add_zero, List.map_nil, List.sum_nil, List.map_cons, List.sum_cons, Nat.zero_le, hs_set1, q.f0, q.f5]
    exact hl_throwW B rfl hst th_IAE (text := "the key is out of range") (kk := 385) (ks := 617) (by decide +kernel) (by decide +kernel) (hl_dec okX7_requireNewKey 6 rfl) (hl_dec okX7_requireNewKey 7 rfl) (hl_dec okX7_requireNewKey 8 rfl) (hl_dec okX7_requireNewKey 9 rfl) (hl_dec okX7_requireNewKey 10 rfl) (by decide) (by decide) ⟨rfl, by simp only [er_key, ls_or_n, ls_or_s, if_pos c1]⟩
  · skip
    refine ⟨fun c2 => ?_, fun c2 => ?_⟩
    · skip
      refine hl_seg B okX7_requireNewKey (fun q => nomatch q) 11 1000 rfl ?_
      simp only [pX7_requireNewKey, List.drop_zero, List.drop_succ_cons, hl_wp, hs_ii, hs_i1, hs_ll, hs_l1, hs_ff, hs_g1, hs_dd, hs_d1, hs_r1, hs_rv, hs_rv0, hs_n1, hs_n0, hs_v1i, hs_v1r, hs_a1, hs_d2l, hs_d2i, hs_ri, hs_rl, hs_rg, hs_rd8, hs_rr, hs_rn, hs_ov, hs_gf, hs_po, hs_pfi, hs_pfr, hs_ia, hs_la, hs_da, hs_qa, hs_al, hs_is, hs_ls, hs_ds, hs_iso, hs_lso, hs_dso, hs_rd, hs_f1, hs_f10, hs_f2, hs_f20, hs_in0, hs_in1, hs_lt, hs_le, hs_ge, hs_gt, hs_eq, hs_10, hs_00, hs_01, true_and, and_true, true_imp_iff, false_imp_iff, not_true_eq_false, not_false_eq_true, hs_av, hs_ai, hs_ar, hs_an, hs_aj, hs_ci, hs_cr, hs_cn, hs_cj, hs_cd, hs_cf, hs_q0, hs_q1, reduceIte, Nat.reduceEqDiff, Nat.reduceAdd, Nat.reduceLT, eq_self, List.getElem?_cons_zero, List.getElem?_cons_succ, List.set_cons_zero, List.set_cons_succ, List.length_cons, List.length_nil, Option.toList_some, Option.toList_none, List.cons_append, List.nil_append, Nat.zero_add, Nat.add_zero, List.map_nil, List.sum_nil, List.map_cons, List.sum_cons, Nat.zero_le, hs_set1, q.f0, q.f5]
      refine hl_callR B (As := [.int _, .int _]) (ct_X5_hasKey q hm) mtX5_hasKey (hl_dec okX7_requireNewKey 16 rfl) (kk := 618) (by decide +kernel) rfl (q.f5) rfl (Nat.le_of_ble_eq_true rfl) (by decide) (by decide) (by decide) (by decide) ?_
      by_cases c3 : (ls_find σ x (nI (σ.2.1 5))).isSome = true
      · skip
        refine hl_seg B okX7_requireNewKey (fun q => nomatch q) 17 1000 rfl ?_
        simp only [pX7_requireNewKey, List.drop_zero, List.drop_succ_cons, hl_wp, hs_ii, hs_i1, hs_ll, hs_l1, hs_ff, hs_g1, hs_dd, hs_d1, hs_r1, hs_rv, hs_rv0, hs_n1, hs_n0, hs_v1i, hs_v1r, hs_a1, hs_d2l, hs_d2i, hs_ri, hs_rl, hs_rg, hs_rd8, hs_rr, hs_rn, hs_ov, hs_gf, hs_po, hs_pfi, hs_pfr, hs_ia, hs_la, hs_da, hs_qa, hs_al, hs_is, hs_ls, hs_ds, hs_iso, hs_lso, hs_dso, hs_rd, hs_f1, hs_f10, hs_f2, hs_f20, hs_in0, hs_in1, hs_lt, hs_le, hs_ge, hs_gt, hs_eq, hs_10, hs_00, hs_01, true_and, and_true, true_imp_iff, false_imp_iff, not_true_eq_false, not_false_eq_true, hs_av, hs_ai, hs_ar, hs_an, hs_aj, hs_ci, hs_cr, hs_cn, hs_cj, hs_cd, hs_cf, hs_q0, hs_q1, reduceIte, Nat.reduceEqDiff, Nat.reduceAdd, Nat.reduceLT, eq_self, List.getElem?_cons_zero, List.getElem?_cons_succ, List.set_cons_zero, List.set_cons_succ, List.length_cons, List.length_nil, Option.toList_some, Option.toList_none, List.cons_append, List.nil_append, Nat.zero_add, Nat.add_zero, List.map_nil, List.sum_nil, List.map_cons, List.sum_cons, Nat.zero_le, hs_set1, if_pos c3, q.f0, q.f5]
        exact hl_throwW B rfl hst th_IAE (text := "the key is remembered for another call") (kk := 385) (ks := 622) (by decide +kernel) (by decide +kernel) (hl_dec okX7_requireNewKey 18 rfl) (hl_dec okX7_requireNewKey 19 rfl) (hl_dec okX7_requireNewKey 20 rfl) (hl_dec okX7_requireNewKey 21 rfl) (hl_dec okX7_requireNewKey 22 rfl) (by decide) (by decide) ⟨rfl, by simp only [er_key, ls_or_n, ls_or_s, if_neg c1, if_pos c2, if_pos c3]⟩
      · skip
        refine hl_seg B okX7_requireNewKey (fun q => nomatch q) 17 1000 rfl ?_
        simp only [pX7_requireNewKey, List.drop_zero, List.drop_succ_cons, hl_wp, hs_ii, hs_i1, hs_ll, hs_l1, hs_ff, hs_g1, hs_dd, hs_d1, hs_r1, hs_rv, hs_rv0, hs_n1, hs_n0, hs_v1i, hs_v1r, hs_a1, hs_d2l, hs_d2i, hs_ri, hs_rl, hs_rg, hs_rd8, hs_rr, hs_rn, hs_ov, hs_gf, hs_po, hs_pfi, hs_pfr, hs_ia, hs_la, hs_da, hs_qa, hs_al, hs_is, hs_ls, hs_ds, hs_iso, hs_lso, hs_dso, hs_rd, hs_f1, hs_f10, hs_f2, hs_f20, hs_in0, hs_in1, hs_lt, hs_le, hs_ge, hs_gt, hs_eq, hs_10, hs_00, hs_01, true_and, and_true, true_imp_iff, false_imp_iff, not_true_eq_false, not_false_eq_true, hs_av, hs_ai, hs_ar, hs_an, hs_aj, hs_ci, hs_cr, hs_cn, hs_cj, hs_cd, hs_cf, hs_q0, hs_q1, reduceIte, Nat.reduceEqDiff, Nat.reduceAdd, Nat.reduceLT, eq_self, List.getElem?_cons_zero, List.getElem?_cons_succ, List.set_cons_zero, List.set_cons_succ, List.length_cons, List.length_nil, Option.toList_some, Option.toList_none, List.cons_append, List.nil_append, Nat.zero_add, Nat.add_zero, List.map_nil, List.sum_nil, List.map_cons, List.sum_cons, Nat.zero_le, hs_set1, if_neg c3, q.f0, q.f5]
        exact hl_vret B rfl (hl_dec okX7_requireNewKey 23 rfl) (by decide) (by decide) ⟨rfl, rfl, by simp only [er_key, ls_or_n, ls_or_s, if_neg c1, if_pos c2, if_neg c3]⟩
    · skip
      exact hl_throwW B rfl hst th_IAE (text := "the key is out of range") (kk := 385) (ks := 617) (by decide +kernel) (by decide +kernel) (hl_dec okX7_requireNewKey 6 rfl) (hl_dec okX7_requireNewKey 7 rfl) (hl_dec okX7_requireNewKey 8 rfl) (hl_dec okX7_requireNewKey 9 rfl) (hl_dec okX7_requireNewKey 10 rfl) (by decide) (by decide) ⟨rfl, by simp only [er_key, ls_or_n, ls_or_s, if_neg c1, if_neg c2]⟩
def er_two (σ : LSt) (x y : Int32) : Option String := if x = y then some xIAE else ls_or (er_acc σ x) (er_acc σ y)
set_option maxRecDepth 20000 in
set_option maxHeartbeats 2000000 in
theorem ct_X7_requireTwoAccounts {G : hl_G} {l : Launch} {a ca : Nat → Nat} {σ : LSt} {h : hl_H} {x y : Int32} (hst : l.stackTraces = false) (q : LSr a ca σ h) :
    hl_Ct G l mX7_requireTwoAccounts 1 2 12 [.ref (a 0), .int x, .int y] (fun g => g = h) (fun r g => r = none ∧ g = h ∧ er_two σ x y = none) (fun E g => g = h ∧ er_two σ x y = some E) := by
  refine hl_body (by decide +kernel) (Nat.le_of_ble_eq_true rfl) ?_
  intro p e s m args below meth c B g hg
  rw [hg]
  refine hl_seg B okX7_requireTwoAccounts (fun q => nomatch q) 0 1000 rfl ?_
  simp only [pX7_requireTwoAccounts, List.drop_zero, List.drop_succ_cons, hl_wp, hs_ii, hs_i1, hs_ll, hs_l1, hs_ff, hs_g1, hs_dd, hs_d1, hs_r1, hs_rv, hs_rv0, hs_n1, hs_n0, hs_v1i, hs_v1r, hs_a1, hs_d2l, hs_d2i, hs_ri, hs_rl, hs_rg, hs_rd8, hs_rr, hs_rn, hs_ov, hs_gf, hs_po, hs_pfi, hs_pfr, hs_ia, hs_la, hs_da, hs_qa, hs_al, hs_is, hs_ls, hs_ds, hs_iso, hs_lso, hs_dso, hs_rd, hs_f1, hs_f10, hs_f2, hs_f20, hs_in0, hs_in1, hs_lt, hs_le, hs_ge, hs_gt, hs_eq, hs_10, hs_00, hs_01, true_and, and_true, true_imp_iff, false_imp_iff, not_true_eq_false, not_false_eq_true, hs_av, hs_ai, hs_ar, hs_an, hs_aj, hs_ci, hs_cr, hs_cn, hs_cj, hs_cd, hs_cf, hs_q0, hs_q1, reduceIte, Nat.reduceEqDiff, Nat.reduceAdd, Nat.reduceLT, eq_self, List.getElem?_cons_zero, List.getElem?_cons_succ, List.set_cons_zero, List.set_cons_succ, List.length_cons, List.length_nil, Option.toList_some, Option.toList_none, List.cons_append, List.nil_append, Nat.zero_add, Nat.add_zero, List.map_nil, List.sum_nil, List.map_cons, List.sum_cons, Nat.zero_le, hs_set1, q.f0]
  refine ⟨fun c1 => ?_, fun c1 => ?_⟩
  · skip
    refine hl_seg B okX7_requireTwoAccounts (fun q => nomatch q) 8 1000 rfl ?_
    simp only [pX7_requireTwoAccounts, List.drop_zero, List.drop_succ_cons, hl_wp, hs_ii, hs_i1, hs_ll, hs_l1, hs_ff, hs_g1, hs_dd, hs_d1, hs_r1, hs_rv, hs_rv0, hs_n1, hs_n0, hs_v1i, hs_v1r, hs_a1, hs_d2l, hs_d2i, hs_ri, hs_rl, hs_rg, hs_rd8, hs_rr, hs_rn, hs_ov, hs_gf, hs_po, hs_pfi, hs_pfr, hs_ia, hs_la, hs_da, hs_qa, hs_al, hs_is, hs_ls, hs_ds, hs_iso, hs_lso, hs_dso, hs_rd, hs_f1, hs_f10, hs_f2, hs_f20, hs_in0, hs_in1, hs_lt, hs_le, hs_ge, hs_gt, hs_eq, hs_10, hs_00, hs_01, true_and, and_true, true_imp_iff, false_imp_iff, not_true_eq_false, not_false_eq_true, hs_av, hs_ai, hs_ar, hs_an, hs_aj, hs_ci, hs_cr, hs_cn, hs_cj, hs_cd, hs_cf, hs_q0, hs_q1, reduceIte, Nat.reduceEqDiff, Nat.reduceAdd, Nat.reduceLT, eq_self, List.getElem?_cons_zero, List.getElem?_cons_succ, List.set_cons_zero, List.set_cons_succ, List.length_cons, List.length_nil, Option.toList_some, Option.toList_none, List.cons_append, List.nil_append, Nat.zero_add, Nat.add_zero, List.map_nil, List.sum_nil, List.map_cons, List.sum_cons, Nat.zero_le, hs_set1, q.f0]
    refine hl_callV B (As := [.int _]) (ct_X7_requireAccount hst q) mtX7_requireAccount (hl_dec okX7_requireTwoAccounts 10 rfl) (kk := 515) (by decide +kernel) rfl rfl (q.f0) rfl (Nat.le_of_ble_eq_true rfl) (by decide) (by decide) (by decide) (by decide) rfl (fun r9 h9 hq => ?_) (fun E9 h9 hx => ?_)
    · skip
      obtain ⟨rfl, rfl, e2⟩ := hq
      refine hl_seg B okX7_requireTwoAccounts (fun q => nomatch q) 11 1000 rfl ?_
      simp only [pX7_requireTwoAccounts, List.drop_zero, List.drop_succ_cons, hl_wp, hs_ii, hs_i1, hs_ll, hs_l1, hs_ff, hs_g1, hs_dd, hs_d1, hs_r1, hs_rv, hs_rv0, hs_n1, hs_n0, hs_v1i, hs_v1r, hs_a1, hs_d2l, hs_d2i, hs_ri, hs_rl, hs_rg, hs_rd8, hs_rr, hs_rn, hs_ov, hs_gf, hs_po, hs_pfi, hs_pfr, hs_ia, hs_la, hs_da, hs_qa, hs_al, hs_is, hs_ls, hs_ds, hs_iso, hs_lso, hs_dso, hs_rd, hs_f1, hs_f10, hs_f2, hs_f20, hs_in0, hs_in1, hs_lt, hs_le, hs_ge, hs_gt, hs_eq, hs_10, hs_00, hs_01, true_and, and_true, true_imp_iff, false_imp_iff, not_true_eq_false, not_false_eq_true, hs_av, hs_ai, hs_ar, hs_an, hs_aj, hs_ci, hs_cr, hs_cn, hs_cj, hs_cd, hs_cf, hs_q0, hs_q1, reduceIte, Nat.reduceEqDiff, Nat.reduceAdd, Nat.reduceLT, eq_self, List.getElem?_cons_zero, List.getElem?_cons_succ, List.set_cons_zero, List.set_cons_succ, List.length_cons, List.length_nil, Option.toList_some, Option.toList_none, List.cons_append, List.nil_append, Nat.zero_add, Nat.add_zero, List.map_nil, List.sum_nil, List.map_cons, List.sum_cons, Nat.zero_le, hs_set1, q.f0]
      refine hl_callV B (As := [.int _]) (ct_X7_requireAccount hst q) mtX7_requireAccount (hl_dec okX7_requireTwoAccounts 13 rfl) (kk := 515) (by decide +kernel) rfl rfl (q.f0) rfl (Nat.le_of_ble_eq_true rfl) (by decide) (by decide) (by decide) (by decide) rfl (fun r9 h9 hq => ?_) (fun E9 h9 hx => ?_)
      · skip
        obtain ⟨rfl, rfl, e3⟩ := hq
        exact hl_vret B rfl (hl_dec okX7_requireTwoAccounts 14 rfl) (by decide) (by decide) ⟨rfl, rfl, by simp only [er_two, ls_or_n, ls_or_s, if_neg c1, e2, e3]⟩
      · skip
        obtain ⟨rfl, e3⟩ := hx
        exact hl_out B (by decide) (by decide) ⟨rfl, by simp only [er_two, ls_or_n, ls_or_s, if_neg c1, e2, e3]⟩
    · skip
      obtain ⟨rfl, e2⟩ := hx
      exact hl_out B (by decide) (by decide) ⟨rfl, by simp only [er_two, ls_or_n, ls_or_s, if_neg c1, e2]⟩
  · skip
    exact hl_throwW B rfl hst th_IAE (text := "the payer is the payee") (kk := 385) (ks := 679) (by decide +kernel) (by decide +kernel) (hl_dec okX7_requireTwoAccounts 3 rfl) (hl_dec okX7_requireTwoAccounts 4 rfl) (hl_dec okX7_requireTwoAccounts 5 rfl) (hl_dec okX7_requireTwoAccounts 6 rfl) (hl_dec okX7_requireTwoAccounts 7 rfl) (by decide) (by decide) ⟨rfl, by simp only [er_two, ls_or_n, ls_or_s, if_pos c1]⟩
def er_act (σ : LSt) (x : Int32) : Option String := ls_or (er_hol σ x) (if row_at (ls_len 17) (σ.1 17) x = 97 then none else some xNSE)
set_option maxRecDepth 20000 in
set_option maxHeartbeats 2000000 in
theorem ct_X7_requireActiveHold {G : hl_G} {l : Launch} {a ca : Nat → Nat} {σ : LSt} {h : hl_H} {x : Int32} (hst : l.stackTraces = false) (q : LSr a ca σ h) :
    hl_Ct G l mX7_requireActiveHold 2 2 12 [.ref (a 0), .int x] (fun g => g = h) (fun r g => r = none ∧ g = h ∧ er_act σ x = none) (fun E g => g = h ∧ er_act σ x = some E) := by
  refine hl_body (by decide +kernel) (Nat.le_of_ble_eq_true rfl) ?_
  intro p e s m args below meth c B g hg
  rw [hg]
  refine hl_seg B okX7_requireActiveHold (fun q => nomatch q) 0 1000 rfl ?_
  simp only [pX7_requireActiveHold, List.drop_zero, List.drop_succ_cons, hl_wp, hs_ii, hs_i1, hs_ll, hs_l1, hs_ff, hs_g1, hs_dd, hs_d1, hs_r1, hs_rv, hs_rv0, hs_n1, hs_n0, hs_v1i, hs_v1r, hs_a1, hs_d2l, hs_d2i, hs_ri, hs_rl, hs_rg, hs_rd8, hs_rr, hs_rn, hs_ov, hs_gf, hs_po, hs_pfi, hs_pfr, hs_ia, hs_la, hs_da, hs_qa, hs_al, hs_is, hs_ls, hs_ds, hs_iso, hs_lso, hs_dso, hs_rd, hs_f1, hs_f10, hs_f2, hs_f20, hs_in0, hs_in1, hs_lt, hs_le, hs_ge, hs_gt, hs_eq, hs_10, hs_00, hs_01, true_and, and_true, true_imp_iff, false_imp_iff, not_true_eq_false, not_false_eq_true, hs_av, hs_ai, hs_ar, hs_an, hs_aj, hs_ci, hs_cr, hs_cn, hs_cj, hs_cd, hs_cf, hs_q0, hs_q1, reduceIte, Nat.reduceEqDiff, Nat.reduceAdd, Nat.reduceLT, eq_self, List.getElem?_cons_zero, List.getElem?_cons_succ, List.set_cons_zero, List.set_cons_succ, List.length_cons, List.length_nil, Option.toList_some, Option.toList_none, List.cons_append, List.nil_append, Nat.zero_add, Nat.add_zero, List.map_nil, List.sum_nil, List.map_cons, List.sum_cons, Nat.zero_le, hs_set1, q.f0, q.f3]
  refine hl_callV B (As := [.int _]) (ct_X7_requireHold hst q) mtX7_requireHold (hl_dec okX7_requireActiveHold 2 rfl) (kk := 710) (by decide +kernel) rfl rfl (q.f0) rfl (Nat.le_of_ble_eq_true rfl) (by decide) (by decide) (by decide) (by decide) rfl (fun r9 h9 hq => ?_) (fun E9 h9 hx => ?_)
  · skip
    obtain ⟨rfl, rfl, e1⟩ := hq
    refine hl_seg B okX7_requireActiveHold (fun q => nomatch q) 3 1000 rfl ?_
    simp only [pX7_requireActiveHold, List.drop_zero, List.drop_succ_cons, hl_wp, hs_ii, hs_i1, hs_ll, hs_l1, hs_ff, hs_g1, hs_dd, hs_d1, hs_r1, hs_rv, hs_rv0, hs_n1, hs_n0, hs_v1i, hs_v1r, hs_a1, hs_d2l, hs_d2i, hs_ri, hs_rl, hs_rg, hs_rd8, hs_rr, hs_rn, hs_ov, hs_gf, hs_po, hs_pfi, hs_pfr, hs_ia, hs_la, hs_da, hs_qa, hs_al, hs_is, hs_ls, hs_ds, hs_iso, hs_lso, hs_dso, hs_rd, hs_f1, hs_f10, hs_f2, hs_f20, hs_in0, hs_in1, hs_lt, hs_le, hs_ge, hs_gt, hs_eq, hs_10, hs_00, hs_01, true_and, and_true, true_imp_iff, false_imp_iff, not_true_eq_false, not_false_eq_true, hs_av, hs_ai, hs_ar, hs_an, hs_aj, hs_ci, hs_cr, hs_cn, hs_cj, hs_cd, hs_cf, hs_q0, hs_q1, reduceIte, Nat.reduceEqDiff, Nat.reduceAdd, Nat.reduceLT, eq_self, List.getElem?_cons_zero, List.getElem?_cons_succ, List.set_cons_zero, List.set_cons_succ, List.length_cons, List.length_nil, Option.toList_some, Option.toList_none, List.cons_append, List.nil_append, Nat.zero_add, Nat.add_zero, List.map_nil, List.sum_nil, List.map_cons, List.sum_cons, Nat.zero_le, hs_set1, q.f0, q.f3]
    refine hl_callR B (As := [.int _]) (ct_X3_isActive q) mtX3_isActive (hl_dec okX7_requireActiveHold 6 rfl) (kk := 715) (by decide +kernel) rfl (q.f3) rfl (Nat.le_of_ble_eq_true rfl) (by decide) (by decide) (by decide) (by decide) ?_
    by_cases c2 : row_at (ls_len 17) (σ.1 17) x = 97
    · skip
      refine hl_seg B okX7_requireActiveHold (fun q => nomatch q) 7 1000 rfl ?_
      simp only [pX7_requireActiveHold, List.drop_zero, List.drop_succ_cons, hl_wp, hs_ii, hs_i1, hs_ll, hs_l1, hs_ff, hs_g1, hs_dd, hs_d1, hs_r1, hs_rv, hs_rv0, hs_n1, hs_n0, hs_v1i, hs_v1r, hs_a1, hs_d2l, hs_d2i, hs_ri, hs_rl, hs_rg, hs_rd8, hs_rr, hs_rn, hs_ov, hs_gf, hs_po, hs_pfi, hs_pfr, hs_ia, hs_la, hs_da, hs_qa, hs_al, hs_is, hs_ls, hs_ds, hs_iso, hs_lso, hs_dso, hs_rd, hs_f1, hs_f10, hs_f2, hs_f20, hs_in0, hs_in1, hs_lt, hs_le, hs_ge, hs_gt, hs_eq, hs_10, hs_00, hs_01, true_and, and_true, true_imp_iff, false_imp_iff, not_true_eq_false, not_false_eq_true, hs_av, hs_ai, hs_ar, hs_an, hs_aj, hs_ci, hs_cr, hs_cn, hs_cj, hs_cd, hs_cf, hs_q0, hs_q1, reduceIte, Nat.reduceEqDiff, Nat.reduceAdd, Nat.reduceLT, eq_self, List.getElem?_cons_zero, List.getElem?_cons_succ, List.set_cons_zero, List.set_cons_succ, List.length_cons, List.length_nil, Option.toList_some, Option.toList_none, List.cons_append, List.nil_append, Nat.zero_add, Nat.add_zero, List.map_nil, List.sum_nil, List.map_cons, List.sum_cons, Nat.zero_le, hs_set1, if_pos c2, q.f0, q.f3]
      exact hl_vret B rfl (hl_dec okX7_requireActiveHold 13 rfl) (by decide) (by decide) ⟨rfl, rfl, by simp only [er_act, ls_or_n, ls_or_s, e1, if_pos c2]⟩
    · skip
      refine hl_seg B okX7_requireActiveHold (fun q => nomatch q) 7 1000 rfl ?_
      simp only [pX7_requireActiveHold, List.drop_zero, List.drop_succ_cons, hl_wp, hs_ii, hs_i1, hs_ll, hs_l1, hs_ff, hs_g1, hs_dd, hs_d1, hs_r1, hs_rv, hs_rv0, hs_n1, hs_n0, hs_v1i, hs_v1r, hs_a1, hs_d2l, hs_d2i, hs_ri, hs_rl, hs_rg, hs_rd8, hs_rr, hs_rn, hs_ov, hs_gf, hs_po, hs_pfi, hs_pfr, hs_ia, hs_la, hs_da, hs_qa, hs_al, hs_is, hs_ls, hs_ds, hs_iso, hs_lso, hs_dso, hs_rd, hs_f1, hs_f10, hs_f2, hs_f20, hs_in0, hs_in1, hs_lt, hs_le, hs_ge, hs_gt, hs_eq, hs_10, hs_00, hs_01, true_and, and_true, true_imp_iff, false_imp_iff, not_true_eq_false, not_false_eq_true, hs_av, hs_ai, hs_ar, hs_an, hs_aj, hs_ci, hs_cr, hs_cn, hs_cj, hs_cd, hs_cf, hs_q0, hs_q1, reduceIte, Nat.reduceEqDiff, Nat.reduceAdd, Nat.reduceLT, eq_self, List.getElem?_cons_zero, List.getElem?_cons_succ, List.set_cons_zero, List.set_cons_succ, List.length_cons, List.length_nil, Option.toList_some, Option.toList_none, List.cons_append, List.nil_append, Nat.zero_add, Nat.add_zero, List.map_nil, List.sum_nil, List.map_cons, List.sum_cons, Nat.zero_le, hs_set1, if_neg c2, q.f0, q.f3]
      exact hl_throwNW B rfl hst (text := "the hold is not active") (kk := 716) (ks := 725) (by decide +kernel) (by decide +kernel) (hl_dec okX7_requireActiveHold 8 rfl) (hl_dec okX7_requireActiveHold 9 rfl) (hl_dec okX7_requireActiveHold 10 rfl) (hl_dec okX7_requireActiveHold 11 rfl) (hl_dec okX7_requireActiveHold 12 rfl) (by decide) (by decide) ⟨rfl, by simp only [er_act, ls_or_n, ls_or_s, e1, if_neg c2]⟩
  · skip
    obtain ⟨rfl, e1⟩ := hx
    exact hl_out B (by decide) (by decide) ⟨rfl, by simp only [er_act, ls_or_n, ls_or_s, e1]⟩
def ls_av (σ : LSt) (x : Int32) : Int64 := row_at (ls_len 2) (σ.1 2) x + row_at (ls_len 1) (σ.1 1) x - ls_held σ x
set_option maxRecDepth 20000 in
set_option maxHeartbeats 2000000 in
theorem ct_X7_spendable {G : hl_G} {l : Launch} {a ca : Nat → Nat} {σ : LSt} {h : hl_H} {x : Int32} (q : LSr a ca σ h) (hz : ∀ j : Nat, σ.2.1 j < 2 ^ 30) :
    hl_Ct G l mX7_spendable 3 0 0 [.ref (a 0), .int x] (fun g => g = h) (fun r g => r = some (.long (ls_av σ x)) ∧ g = h) (fun _ _ => False) := by
  refine hl_body (by decide +kernel) (Nat.le_of_ble_eq_true rfl) ?_
  intro p e s m args below meth c B g hg
  rw [hg]
  refine hl_seg B okX7_spendable (fun q => nomatch q) 0 1000 rfl ?_
  simp only [pX7_spendable, List.drop_zero, List.drop_succ_cons, hl_wp, hs_ii, hs_i1, hs_ll, hs_l1, hs_ff, hs_g1, hs_dd, hs_d1, hs_r1, hs_rv, hs_rv0, hs_n1, hs_n0, hs_v1i, hs_v1r, hs_a1, hs_d2l, hs_d2i, hs_ri, hs_rl, hs_rg, hs_rd8, hs_rr, hs_rn, hs_ov, hs_gf, hs_po, hs_pfi, hs_pfr, hs_ia, hs_la, hs_da, hs_qa, hs_al, hs_is, hs_ls, hs_ds, hs_iso, hs_lso, hs_dso, hs_rd, hs_f1, hs_f10, hs_f2, hs_f20, hs_in0, hs_in1, hs_lt, hs_le, hs_ge, hs_gt, hs_eq, hs_10, hs_00, hs_01, true_and, and_true, true_imp_iff, false_imp_iff, not_true_eq_false, not_false_eq_true, hs_av, hs_ai, hs_ar, hs_an, hs_aj, hs_ci, hs_cr, hs_cn, hs_cj, hs_cd, hs_cf, hs_q0, hs_q1, reduceIte, Nat.reduceEqDiff, Nat.reduceAdd, Nat.reduceLT, eq_self, List.getElem?_cons_zero, List.getElem?_cons_succ, List.set_cons_zero, List.set_cons_succ, List.length_cons, List.length_nil, Option.toList_some, Option.toList_none, List.cons_append, List.nil_append, Nat.zero_add, Nat.add_zero, List.map_nil, List.sum_nil, List.map_cons, List.sum_cons, Nat.zero_le, hs_set1, q.f0, q.f1]
  refine hl_callR B (As := [.int _]) (ls_at q 2 (by decide) _) mtX6_at (hl_dec okX7_spendable 4 rfl) (kk := 301) (by decide +kernel) rfl (q.fr 2 (by decide)) rfl (Nat.le_of_ble_eq_true rfl) (by decide) (by decide) (by decide) (by decide) ?_
  refine hl_seg B okX7_spendable (fun q => nomatch q) 5 1000 rfl ?_
  simp only [pX7_spendable, List.drop_zero, List.drop_succ_cons, hl_wp, hs_ii, hs_i1, hs_ll, hs_l1, hs_ff, hs_g1, hs_dd, hs_d1, hs_r1, hs_rv, hs_rv0, hs_n1, hs_n0, hs_v1i, hs_v1r, hs_a1, hs_d2l, hs_d2i, hs_ri, hs_rl, hs_rg, hs_rd8, hs_rr, hs_rn, hs_ov, hs_gf, hs_po, hs_pfi, hs_pfr, hs_ia, hs_la, hs_da, hs_qa, hs_al, hs_is, hs_ls, hs_ds, hs_iso, hs_lso, hs_dso, hs_rd, hs_f1, hs_f10, hs_f2, hs_f20, hs_in0, hs_in1, hs_lt, hs_le, hs_ge, hs_gt, hs_eq, hs_10, hs_00, hs_01, true_and, and_true, true_imp_iff, false_imp_iff, not_true_eq_false, not_false_eq_true, hs_av, hs_ai, hs_ar, hs_an, hs_aj, hs_ci, hs_cr, hs_cn, hs_cj, hs_cd, hs_cf, hs_q0, hs_q1, reduceIte, Nat.reduceEqDiff, Nat.reduceAdd, Nat.reduceLT, eq_self, List.getElem?_cons_zero, List.getElem?_cons_succ, List.set_cons_zero, List.set_cons_succ, List.length_cons, List.length_nil, Option.toList_some, Option.toList_none, List.cons_append, List.nil_append, Nat.zero_add, Nat.add_zero, List.map_nil, List.sum_nil, List.map_cons, List.sum_cons, Nat.zero_le, hs_set1, q.f0, q.f1]
  refine hl_callR B (As := [.int _]) (ls_at q 1 (by decide) _) mtX6_at (hl_dec okX7_spendable 9 rfl) (kk := 301) (by decide +kernel) rfl (q.fr 1 (by decide)) rfl (Nat.le_of_ble_eq_true rfl) (by decide) (by decide) (by decide) (by decide) ?_
  refine hl_seg B okX7_spendable (fun q => nomatch q) 10 1000 rfl ?_
  simp only [pX7_spendable, List.drop_zero, List.drop_succ_cons, hl_wp, hs_ii, hs_i1, hs_ll, hs_l1, hs_ff, hs_g1, hs_dd, hs_d1, hs_r1, hs_rv, hs_rv0, hs_n1, hs_n0, hs_v1i, hs_v1r, hs_a1, hs_d2l, hs_d2i, hs_ri, hs_rl, hs_rg, hs_rd8, hs_rr, hs_rn, hs_ov, hs_gf, hs_po, hs_pfi, hs_pfr, hs_ia, hs_la, hs_da, hs_qa, hs_al, hs_is, hs_ls, hs_ds, hs_iso, hs_lso, hs_dso, hs_rd, hs_f1, hs_f10, hs_f2, hs_f20, hs_in0, hs_in1, hs_lt, hs_le, hs_ge, hs_gt, hs_eq, hs_10, hs_00, hs_01, true_and, and_true, true_imp_iff, false_imp_iff, not_true_eq_false, not_false_eq_true, hs_av, hs_ai, hs_ar, hs_an, hs_aj, hs_ci, hs_cr, hs_cn, hs_cj, hs_cd, hs_cf, hs_q0, hs_q1, reduceIte, Nat.reduceEqDiff, Nat.reduceAdd, Nat.reduceLT, eq_self, List.getElem?_cons_zero, List.getElem?_cons_succ, List.set_cons_zero, List.set_cons_succ, List.length_cons, List.length_nil, Option.toList_some, Option.toList_none, List.cons_append, List.nil_append, Nat.zero_add, Nat.add_zero, List.map_nil, List.sum_nil, List.map_cons, List.sum_cons, Nat.zero_le, hs_set1, q.f0, q.f1]
  refine hl_callR B (As := [.int _]) (ct_X3_heldFrom q hz) mtX3_heldFrom (hl_dec okX7_spendable 14 rfl) (kk := 302) (by decide +kernel) rfl (q.f3) rfl (Nat.le_of_ble_eq_true rfl) (by decide) (by decide) (by decide) (by decide) ?_
  refine hl_seg B okX7_spendable (fun q => nomatch q) 15 1000 rfl ?_
  simp only [pX7_spendable, List.drop_zero, List.drop_succ_cons, hl_wp, hs_ii, hs_i1, hs_ll, hs_l1, hs_ff, hs_g1, hs_dd, hs_d1, hs_r1, hs_rv, hs_rv0, hs_n1, hs_n0, hs_v1i, hs_v1r, hs_a1, hs_d2l, hs_d2i, hs_ri, hs_rl, hs_rg, hs_rd8, hs_rr, hs_rn, hs_ov, hs_gf, hs_po, hs_pfi, hs_pfr, hs_ia, hs_la, hs_da, hs_qa, hs_al, hs_is, hs_ls, hs_ds, hs_iso, hs_lso, hs_dso, hs_rd, hs_f1, hs_f10, hs_f2, hs_f20, hs_in0, hs_in1, hs_lt, hs_le, hs_ge, hs_gt, hs_eq, hs_10, hs_00, hs_01, true_and, and_true, true_imp_iff, false_imp_iff, not_true_eq_false, not_false_eq_true, hs_av, hs_ai, hs_ar, hs_an, hs_aj, hs_ci, hs_cr, hs_cn, hs_cj, hs_cd, hs_cf, hs_q0, hs_q1, reduceIte, Nat.reduceEqDiff, Nat.reduceAdd, Nat.reduceLT, eq_self, List.getElem?_cons_zero, List.getElem?_cons_succ, List.set_cons_zero, List.set_cons_succ, List.length_cons, List.length_nil, Option.toList_some, Option.toList_none, List.cons_append, List.nil_append, Nat.zero_add, Nat.add_zero, List.map_nil, List.sum_nil, List.map_cons, List.sum_cons, Nat.zero_le, hs_set1, q.f0, q.f1]
  exact hl_lret B rfl (hl_dec okX7_spendable 16 rfl) (by decide) (by decide) ⟨rfl, rfl⟩
def er_spe (σ : LSt) (x v : Int32) : Option String := if v.toInt64 ≤ ls_av σ x then none else some xUOE
set_option maxRecDepth 20000 in
set_option maxHeartbeats 2000000 in
theorem ct_X7_requireSpendable {G : hl_G} {l : Launch} {a ca : Nat → Nat} {σ : LSt} {h : hl_H} {x v : Int32} (hst : l.stackTraces = false) (q : LSr a ca σ h) (hz : ∀ j : Nat, σ.2.1 j < 2 ^ 30) :
    hl_Ct G l mX7_requireSpendable 4 1 6 [.ref (a 0), .int x, .int v] (fun g => g = h) (fun r g => r = none ∧ g = h ∧ er_spe σ x v = none) (fun E g => g = h ∧ er_spe σ x v = some E) := by
  refine hl_body (by decide +kernel) (Nat.le_of_ble_eq_true rfl) ?_
  intro p e s m args below meth c B g hg
  rw [hg]
  refine hl_seg B okX7_requireSpendable (fun q => nomatch q) 0 1000 rfl ?_
  simp only [pX7_requireSpendable, List.drop_zero, List.drop_succ_cons, hl_wp, hs_ii, hs_i1, hs_ll, hs_l1, hs_ff, hs_g1, hs_dd, hs_d1, hs_r1, hs_rv, hs_rv0, hs_n1, hs_n0, hs_v1i, hs_v1r, hs_a1, hs_d2l, hs_d2i, hs_ri, hs_rl, hs_rg, hs_rd8, hs_rr, hs_rn, hs_ov, hs_gf, hs_po, hs_pfi, hs_pfr, hs_ia, hs_la, hs_da, hs_qa, hs_al, hs_is, hs_ls, hs_ds, hs_iso, hs_lso, hs_dso, hs_rd, hs_f1, hs_f10, hs_f2, hs_f20, hs_in0, hs_in1, hs_lt, hs_le, hs_ge, hs_gt, hs_eq, hs_10, hs_00, hs_01, true_and, and_true, true_imp_iff, false_imp_iff, not_true_eq_false, not_false_eq_true, hs_av, hs_ai, hs_ar, hs_an, hs_aj, hs_ci, hs_cr, hs_cn, hs_cj, hs_cd, hs_cf, hs_q0, hs_q1, reduceIte, Nat.reduceEqDiff, Nat.reduceAdd, Nat.reduceLT, eq_self, List.getElem?_cons_zero, List.getElem?_cons_succ, List.set_cons_zero, List.set_cons_succ, List.length_cons, List.length_nil, Option.toList_some, Option.toList_none, List.cons_append, List.nil_append, Nat.zero_add, Nat.add_zero, List.map_nil, List.sum_nil, List.map_cons, List.sum_cons, Nat.zero_le, hs_set1, q.f0]
  refine hl_callR B (As := [.int _]) (ct_X7_spendable q hz) mtX7_spendable (hl_dec okX7_requireSpendable 4 rfl) (kk := 297) (by decide +kernel) rfl (q.f0) rfl (Nat.le_of_ble_eq_true rfl) (by decide) (by decide) (by decide) (by decide) ?_
  refine hl_seg B okX7_requireSpendable (fun q => nomatch q) 5 1000 rfl ?_
  simp only [pX7_requireSpendable, List.drop_zero, List.drop_succ_cons, hl_wp, hs_ii, hs_i1, hs_ll, hs_l1, hs_ff, hs_g1, hs_dd, hs_d1, hs_r1, hs_rv, hs_rv0, hs_n1, hs_n0, hs_v1i, hs_v1r, hs_a1, hs_d2l, hs_d2i, hs_ri, hs_rl, hs_rg, hs_rd8, hs_rr, hs_rn, hs_ov, hs_gf, hs_po, hs_pfi, hs_pfr, hs_ia, hs_la, hs_da, hs_qa, hs_al, hs_is, hs_ls, hs_ds, hs_iso, hs_lso, hs_dso, hs_rd, hs_f1, hs_f10, hs_f2, hs_f20, hs_in0, hs_in1, hs_lt, hs_le, hs_ge, hs_gt, hs_eq, hs_10, hs_00, hs_01, true_and, and_true, true_imp_iff, false_imp_iff, not_true_eq_false, not_false_eq_true, hs_av, hs_ai, hs_ar, hs_an, hs_aj, hs_ci, hs_cr, hs_cn, hs_cj, hs_cd, hs_cf, hs_q0, hs_q1, reduceIte, Nat.reduceEqDiff, Nat.reduceAdd, Nat.reduceLT, eq_self, List.getElem?_cons_zero, List.getElem?_cons_succ, List.set_cons_zero, List.set_cons_succ, List.length_cons, List.length_nil, Option.toList_some, Option.toList_none, List.cons_append, List.nil_append, Nat.zero_add, Nat.add_zero, List.map_nil, List.sum_nil, List.map_cons, List.sum_cons, Nat.zero_le, hs_set1, q.f0]
  refine ⟨fun c1 => ?_, fun c1 => ?_⟩
  · skip
    exact hl_vret B rfl (hl_dec okX7_requireSpendable 12 rfl) (by decide) (by decide) ⟨rfl, rfl, by simp only [er_spe, ls_or_n, ls_or_s, if_pos c1]⟩
  · skip
    exact hl_throwW B rfl hst th_UOE (text := "the amount is greater than the available amount") (kk := 532) (ks := 667) (by decide +kernel) (by decide +kernel) (hl_dec okX7_requireSpendable 7 rfl) (hl_dec okX7_requireSpendable 8 rfl) (hl_dec okX7_requireSpendable 9 rfl) (hl_dec okX7_requireSpendable 10 rfl) (hl_dec okX7_requireSpendable 11 rfl) (by decide) (by decide) ⟨rfl, by simp only [er_spe, ls_or_n, ls_or_s, if_neg c1]⟩
def ls_rcv (σ : LSt) (i : Int32) : Int32 := ls_recv σ (row_intAt (ls_len 18) (σ.1 18) i) (row_intAt (ls_len 19) (σ.1 19) i) (row_intAt (ls_len 20) (σ.1 20) i)
set_option maxRecDepth 20000 in
set_option maxHeartbeats 2000000 in
theorem ct_X7_receivedByPayment {G : hl_G} {l : Launch} {a ca : Nat → Nat} {σ : LSt} {h : hl_H} {x : Int32} (q : LSr a ca σ h) :
    hl_Ct G l mX7_receivedByPayment 2 0 0 [.ref (a 0), .int x] (fun g => g = h) (fun r g => r = some (.int (ls_rcv σ x)) ∧ g = h) (fun _ _ => False) := by
  refine hl_body (by decide +kernel) (Nat.le_of_ble_eq_true rfl) ?_
  intro p e s m args below meth c B g hg
  rw [hg]
  refine hl_seg B okX7_receivedByPayment (fun q => nomatch q) 0 1000 rfl ?_
  simp only [pX7_receivedByPayment, List.drop_zero, List.drop_succ_cons, hl_wp, hs_ii, hs_i1, hs_ll, hs_l1, hs_ff, hs_g1, hs_dd, hs_d1, hs_r1, hs_rv, hs_rv0, hs_n1, hs_n0, hs_v1i, hs_v1r, hs_a1, hs_d2l, hs_d2i, hs_ri, hs_rl, hs_rg, hs_rd8, hs_rr, hs_rn, hs_ov, hs_gf, hs_po, hs_pfi, hs_pfr, hs_ia, hs_la, hs_da, hs_qa, hs_al, hs_is, hs_ls, hs_ds, hs_iso, hs_lso, hs_dso, hs_rd, hs_f1, hs_f10, hs_f2, hs_f20, hs_in0, hs_in1, hs_lt, hs_le, hs_ge, hs_gt, hs_eq, hs_10, hs_00, hs_01, true_and, and_true, true_imp_iff, false_imp_iff, not_true_eq_false, not_false_eq_true, hs_av, hs_ai, hs_ar, hs_an, hs_aj, hs_ci, hs_cr, hs_cn, hs_cj, hs_cd, hs_cf, hs_q0, hs_q1, reduceIte, Nat.reduceEqDiff, Nat.reduceAdd, Nat.reduceLT, eq_self, List.getElem?_cons_zero, List.getElem?_cons_succ, List.set_cons_zero, List.set_cons_succ, List.length_cons, List.length_nil, Option.toList_some, Option.toList_none, List.cons_append, List.nil_append, Nat.zero_add, Nat.add_zero, List.map_nil, List.sum_nil, List.map_cons, List.sum_cons, Nat.zero_le, hs_set1, q.f0, q.f4]
  refine hl_callR B (As := [.int _]) (ls_intAt q 18 (by decide) _) mtX6_intAt (hl_dec okX7_receivedByPayment 6 rfl) (kk := 314) (by decide +kernel) rfl (q.fr 18 (by decide)) rfl (Nat.le_of_ble_eq_true rfl) (by decide) (by decide) (by decide) (by decide) ?_
  refine hl_seg B okX7_receivedByPayment (fun q => nomatch q) 7 1000 rfl ?_
  simp only [pX7_receivedByPayment, List.drop_zero, List.drop_succ_cons, hl_wp, hs_ii, hs_i1, hs_ll, hs_l1, hs_ff, hs_g1, hs_dd, hs_d1, hs_r1, hs_rv, hs_rv0, hs_n1, hs_n0, hs_v1i, hs_v1r, hs_a1, hs_d2l, hs_d2i, hs_ri, hs_rl, hs_rg, hs_rd8, hs_rr, hs_rn, hs_ov, hs_gf, hs_po, hs_pfi, hs_pfr, hs_ia, hs_la, hs_da, hs_qa, hs_al, hs_is, hs_ls, hs_ds, hs_iso, hs_lso, hs_dso, hs_rd, hs_f1, hs_f10, hs_f2, hs_f20, hs_in0, hs_in1, hs_lt, hs_le, hs_ge, hs_gt, hs_eq, hs_10, hs_00, hs_01, true_and, and_true, true_imp_iff, false_imp_iff, not_true_eq_false, not_false_eq_true, hs_av, hs_ai, hs_ar, hs_an, hs_aj, hs_ci, hs_cr, hs_cn, hs_cj, hs_cd, hs_cf, hs_q0, hs_q1, reduceIte, Nat.reduceEqDiff, Nat.reduceAdd, Nat.reduceLT, eq_self, List.getElem?_cons_zero, List.getElem?_cons_succ, List.set_cons_zero, List.set_cons_succ, List.length_cons, List.length_nil, Option.toList_some, Option.toList_none, List.cons_append, List.nil_append, Nat.zero_add, Nat.add_zero, List.map_nil, List.sum_nil, List.map_cons, List.sum_cons, Nat.zero_le, hs_set1, q.f0, q.f4]
  refine hl_callR B (As := [.int _]) (ls_intAt q 19 (by decide) _) mtX6_intAt (hl_dec okX7_receivedByPayment 11 rfl) (kk := 314) (by decide +kernel) rfl (q.fr 19 (by decide)) rfl (Nat.le_of_ble_eq_true rfl) (by decide) (by decide) (by decide) (by decide) ?_
  refine hl_seg B okX7_receivedByPayment (fun q => nomatch q) 12 1000 rfl ?_
  simp only [pX7_receivedByPayment, List.drop_zero, List.drop_succ_cons, hl_wp, hs_ii, hs_i1, hs_ll, hs_l1, hs_ff, hs_g1, hs_dd, hs_d1, hs_r1, hs_rv, hs_rv0, hs_n1, hs_n0, hs_v1i, hs_v1r, hs_a1, hs_d2l, hs_d2i, hs_ri, hs_rl, hs_rg, hs_rd8, hs_rr, hs_rn, hs_ov, hs_gf, hs_po, hs_pfi, hs_pfr, hs_ia, hs_la, hs_da, hs_qa, hs_al, hs_is, hs_ls, hs_ds, hs_iso, hs_lso, hs_dso, hs_rd, hs_f1, hs_f10, hs_f2, hs_f20, hs_in0, hs_in1, hs_lt, hs_le, hs_ge, hs_gt, hs_eq, hs_10, hs_00, hs_01, true_and, and_true, true_imp_iff, false_imp_iff, not_true_eq_false, not_false_eq_true, hs_av, hs_ai, hs_ar, hs_an, hs_aj, hs_ci, hs_cr, hs_cn, hs_cj, hs_cd, hs_cf, hs_q0, hs_q1, reduceIte, Nat.reduceEqDiff, Nat.reduceAdd, Nat.reduceLT, eq_self, List.getElem?_cons_zero, List.getElem?_cons_succ, List.set_cons_zero, List.set_cons_succ, List.length_cons, List.length_nil, Option.toList_some, Option.toList_none, List.cons_append, List.nil_append, Nat.zero_add, Nat.add_zero, List.map_nil, List.sum_nil, List.map_cons, List.sum_cons, Nat.zero_le, hs_set1, q.f0, q.f4]
  refine hl_callR B (As := [.int _]) (ls_intAt q 20 (by decide) _) mtX6_intAt (hl_dec okX7_receivedByPayment 16 rfl) (kk := 314) (by decide +kernel) rfl (q.fr 20 (by decide)) rfl (Nat.le_of_ble_eq_true rfl) (by decide) (by decide) (by decide) (by decide) ?_
  refine hl_seg B okX7_receivedByPayment (fun q => nomatch q) 17 1000 rfl ?_
  simp only [pX7_receivedByPayment, List.drop_zero, List.drop_succ_cons, hl_wp, hs_ii, hs_i1, hs_ll, hs_l1, hs_ff, hs_g1, hs_dd, hs_d1, hs_r1, hs_rv, hs_rv0, hs_n1, hs_n0, hs_v1i, hs_v1r, hs_a1, hs_d2l, hs_d2i, hs_ri, hs_rl, hs_rg, hs_rd8, hs_rr, hs_rn, hs_ov, hs_gf, hs_po, hs_pfi, hs_pfr, hs_ia, hs_la, hs_da, hs_qa, hs_al, hs_is, hs_ls, hs_ds, hs_iso, hs_lso, hs_dso, hs_rd, hs_f1, hs_f10, hs_f2, hs_f20, hs_in0, hs_in1, hs_lt, hs_le, hs_ge, hs_gt, hs_eq, hs_10, hs_00, hs_01, true_and, and_true, true_imp_iff, false_imp_iff, not_true_eq_false, not_false_eq_true, hs_av, hs_ai, hs_ar, hs_an, hs_aj, hs_ci, hs_cr, hs_cn, hs_cj, hs_cd, hs_cf, hs_q0, hs_q1, reduceIte, Nat.reduceEqDiff, Nat.reduceAdd, Nat.reduceLT, eq_self, List.getElem?_cons_zero, List.getElem?_cons_succ, List.set_cons_zero, List.set_cons_succ, List.length_cons, List.length_nil, Option.toList_some, Option.toList_none, List.cons_append, List.nil_append, Nat.zero_add, Nat.add_zero, List.map_nil, List.sum_nil, List.map_cons, List.sum_cons, Nat.zero_le, hs_set1, q.f0, q.f4]
  refine hl_callR B (As := [.int _, .int _, .int _]) (ct_X1_receivedFor q) mtX1_receivedFor (hl_dec okX7_receivedByPayment 17 rfl) (kk := 318) (by decide +kernel) rfl (q.f1) rfl (Nat.le_of_ble_eq_true rfl) (by decide) (by decide) (by decide) (by decide) ?_
  exact hl_iret B rfl rfl (hl_dec okX7_receivedByPayment 18 rfl) (by decide) (by decide) ⟨rfl, rfl⟩
def ls_post (σ : LSt) (kd x y p r : Int32) : LSt := ls_app (ls_move σ x y p r) kd x y p r (nI (σ.2.1 5))
theorem ls_chg_z (σ : LSt) (x c v : Int32) : (ls_chg σ x c v).2 = σ.2 := by
  unfold ls_chg
  split <;> rfl
theorem ls_move_z (σ : LSt) (x y p r : Int32) : (ls_move σ x y p r).2 = σ.2 := by
  unfold ls_move ls_mv1
  split
  · rw [ls_chg_z, ls_chg_z]
  · show (ls_chg (ls_chg σ x (ls_from σ x y) (-p)) y (ls_from σ y x) r).2 = σ.2
    rw [ls_chg_z, ls_chg_z]
set_option maxRecDepth 20000 in
set_option maxHeartbeats 2000000 in
theorem ct_X7_post {G : hl_G} {l : Launch} {a ca : Nat → Nat} {σ : LSt} {h0 : hl_H} {kd x y p1 r1 : Int32}  :
    hl_Ct G l mX7_post 3 0 0 [.ref (a 0), .int kd, .int x, .int y, .int p1, .int r1] (LSw a ca σ h0) (fun r g => r = some (.int (nI (σ.2.1 1))) ∧ LSw a ca (ls_post σ kd x y p1 r1) h0 g) (fun _ _ => False) := by
  refine hl_body (by decide +kernel) (Nat.le_of_ble_eq_true rfl) ?_
  intro p e s m args below meth c B g hg
  have q := hg.1
  have w := hg
  refine hl_seg B okX7_post (fun q => nomatch q) 0 1000 rfl ?_
  simp only [pX7_post, List.drop_zero, List.drop_succ_cons, hl_wp, hs_ii, hs_i1, hs_ll, hs_l1, hs_ff, hs_g1, hs_dd, hs_d1, hs_r1, hs_rv, hs_rv0, hs_n1, hs_n0, hs_v1i, hs_v1r, hs_a1, hs_d2l, hs_d2i, hs_ri, hs_rl, hs_rg, hs_rd8, hs_rr, hs_rn, hs_ov, hs_gf, hs_po, hs_pfi, hs_pfr, hs_ia, hs_la, hs_da, hs_qa, hs_al, hs_is, hs_ls, hs_ds, hs_iso, hs_lso, hs_dso, hs_rd, hs_f1, hs_f10, hs_f2, hs_f20, hs_in0, hs_in1, hs_lt, hs_le, hs_ge, hs_gt, hs_eq, hs_10, hs_00, hs_01, true_and, and_true, true_imp_iff, false_imp_iff, not_true_eq_false, not_false_eq_true, hs_av, hs_ai, hs_ar, hs_an, hs_aj, hs_ci, hs_cr, hs_cn, hs_cj, hs_cd, hs_cf, hs_q0, hs_q1, reduceIte, Nat.reduceEqDiff, Nat.reduceAdd, Nat.reduceLT, eq_self, List.getElem?_cons_zero, List.getElem?_cons_succ, List.set_cons_zero, List.set_cons_succ, List.length_cons, List.length_nil, Option.toList_some, Option.toList_none, List.cons_append, List.nil_append, Nat.zero_add, Nat.add_zero, List.map_nil, List.sum_nil, List.map_cons, List.sum_cons, Nat.zero_le, hs_set1, ls_move_z, q.f0]
  refine hl_callV B (As := [.int _, .int _, .int _, .int _]) (ct_X1_move) mtX1_move (hl_dec okX7_post 6 rfl) (kk := 637) (by decide +kernel) rfl rfl (q.f1) rfl (Nat.le_of_ble_eq_true rfl) (by decide) (by decide) (by decide) (by decide) w (fun r9 h9 hq => ?_) (fun _ _ hx => hx.elim)
  obtain ⟨rfl, w1⟩ := hq
  have qw1 := w1.1
  refine hl_seg B okX7_post (fun q => nomatch q) 7 1000 rfl ?_
  simp only [pX7_post, List.drop_zero, List.drop_succ_cons, hl_wp, hs_ii, hs_i1, hs_ll, hs_l1, hs_ff, hs_g1, hs_dd, hs_d1, hs_r1, hs_rv, hs_rv0, hs_n1, hs_n0, hs_v1i, hs_v1r, hs_a1, hs_d2l, hs_d2i, hs_ri, hs_rl, hs_rg, hs_rd8, hs_rr, hs_rn, hs_ov, hs_gf, hs_po, hs_pfi, hs_pfr, hs_ia, hs_la, hs_da, hs_qa, hs_al, hs_is, hs_ls, hs_ds, hs_iso, hs_lso, hs_dso, hs_rd, hs_f1, hs_f10, hs_f2, hs_f20, hs_in0, hs_in1, hs_lt, hs_le, hs_ge, hs_gt, hs_eq, hs_10, hs_00, hs_01, true_and, and_true, true_imp_iff, false_imp_iff, not_true_eq_false, not_false_eq_true, hs_av, hs_ai, hs_ar, hs_an, hs_aj, hs_ci, hs_cr, hs_cn, hs_cj, hs_cd, hs_cf, hs_q0, hs_q1, reduceIte, Nat.reduceEqDiff, Nat.reduceAdd, Nat.reduceLT, eq_self, List.getElem?_cons_zero, List.getElem?_cons_succ, List.set_cons_zero, List.set_cons_succ, List.length_cons, List.length_nil, Option.toList_some, Option.toList_none, List.cons_append, List.nil_append, Nat.zero_add, Nat.add_zero, List.map_nil, List.sum_nil, List.map_cons, List.sum_cons, Nat.zero_le, hs_set1, ls_move_z, qw1.f0]
  refine hl_callV B (As := [.int _, .int _, .int _, .int _, .int _, .int _]) (ct_X4_append) mtX4_append (hl_dec okX7_post 16 rfl) (kk := 646) (by decide +kernel) rfl rfl (qw1.f2) rfl (Nat.le_of_ble_eq_true rfl) (by decide) (by decide) (by decide) (by decide) w1 (fun r9 h9 hq => ?_) (fun _ _ hx => hx.elim)
  obtain ⟨rfl, w2⟩ := hq
  have qw2 := w2.1
  exact hl_iret B rfl rfl (hl_dec okX7_post 17 rfl) (by decide) (by decide) ⟨by rw [ls_move_z], w2⟩
end
