section
-- ===== PART A: goes FIRST, ahead of the names: the tables' words, and 'selects' of the private methods out of them =====
/-- a private method of a class that the tables say can be made, by its rows of tables_1 -/
def lw_okq (q : MethodName × Nat) : Prop := (q.1.cls ≠ "java/lang/invoke/MethodHandle" ∧ q.1.cls ≠ "java/lang/invoke/VarHandle") ∧ Cond.instantiable q.1.cls q.2 ∈ tables_1 ∧ Cond.privateMethod q.1 ∈ tables_1 ∧ Cond.instanceMethod q.1 ∈ tables_1
theorem lw_p0 : lw_okq (⟨"DictionaryTerms$Types", "addRow", "(IIII)I"⟩, 9) := ⟨⟨by decide +kernel, by decide +kernel⟩, List.mem_of_getElem? (i := 22) (by decide +kernel), List.mem_of_getElem? (i := 28) (by decide +kernel), List.mem_of_getElem? (i := 29) (by decide +kernel)⟩
theorem lw_p1 : lw_okq (⟨"DictionaryTerms$Types", "findOrAdd", "(III)I"⟩, 9) := ⟨⟨by decide +kernel, by decide +kernel⟩, List.mem_of_getElem? (i := 22) (by decide +kernel), List.mem_of_getElem? (i := 360) (by decide +kernel), List.mem_of_getElem? (i := 361) (by decide +kernel)⟩
theorem lw_p2 : lw_okq (⟨"DictionaryTerms", "afterChange", "(I)I"⟩, 8) := ⟨⟨by decide +kernel, by decide +kernel⟩, List.mem_of_getElem? (i := 14) (by decide +kernel), List.mem_of_getElem? (i := 375) (by decide +kernel), List.mem_of_getElem? (i := 376) (by decide +kernel)⟩
theorem lw_p3 : lw_okq (⟨"DictionaryTerms$Classes", "hasAsSuper", "(II)Z"⟩, 5) := ⟨⟨by decide +kernel, by decide +kernel⟩, List.mem_of_getElem? (i := 61) (by decide +kernel), List.mem_of_getElem? (i := 395) (by decide +kernel), List.mem_of_getElem? (i := 396) (by decide +kernel)⟩
theorem lw_p4 : lw_okq (⟨"DictionaryTerms$Nodes", "isAsTold", "(IIII)Z"⟩, 10) := ⟨⟨by decide +kernel, by decide +kernel⟩, List.mem_of_getElem? (i := 121) (by decide +kernel), List.mem_of_getElem? (i := 445) (by decide +kernel), List.mem_of_getElem? (i := 446) (by decide +kernel)⟩
theorem lw_p5 : lw_okq (⟨"DictionaryTerms$Nodes", "isIndex", "(I)Z"⟩, 10) := ⟨⟨by decide +kernel, by decide +kernel⟩, List.mem_of_getElem? (i := 121) (by decide +kernel), List.mem_of_getElem? (i := 449) (by decide +kernel), List.mem_of_getElem? (i := 450) (by decide +kernel)⟩
theorem lw_p6 : lw_okq (⟨"DictionaryTerms$Nodes", "has", "(I)Z"⟩, 10) := ⟨⟨by decide +kernel, by decide +kernel⟩, List.mem_of_getElem? (i := 121) (by decide +kernel), List.mem_of_getElem? (i := 458) (by decide +kernel), List.mem_of_getElem? (i := 459) (by decide +kernel)⟩
theorem lw_p7 : lw_okq (⟨"DictionaryTerms$Nodes", "heightOver", "(IIII)I"⟩, 10) := ⟨⟨by decide +kernel, by decide +kernel⟩, List.mem_of_getElem? (i := 121) (by decide +kernel), List.mem_of_getElem? (i := 462) (by decide +kernel), List.mem_of_getElem? (i := 463) (by decide +kernel)⟩
theorem lw_p8 : lw_okq (⟨"DictionaryTerms$Nodes", "fits", "(IIII)Z"⟩, 10) := ⟨⟨by decide +kernel, by decide +kernel⟩, List.mem_of_getElem? (i := 121) (by decide +kernel), List.mem_of_getElem? (i := 483) (by decide +kernel), List.mem_of_getElem? (i := 484) (by decide +kernel)⟩
theorem lw_p9 : lw_okq (⟨"DictionaryTerms$Nodes", "namesWhatIsThere", "(IIII)Z"⟩, 10) := ⟨⟨by decide +kernel, by decide +kernel⟩, List.mem_of_getElem? (i := 121) (by decide +kernel), List.mem_of_getElem? (i := 487) (by decide +kernel), List.mem_of_getElem? (i := 488) (by decide +kernel)⟩
theorem lw_p10 : lw_okq (⟨"DictionaryTerms$Nodes", "markInside", "(I)V"⟩, 10) := ⟨⟨by decide +kernel, by decide +kernel⟩, List.mem_of_getElem? (i := 121) (by decide +kernel), List.mem_of_getElem? (i := 508) (by decide +kernel), List.mem_of_getElem? (i := 509) (by decide +kernel)⟩
theorem lw_p11 : lw_okq (⟨"DictionaryTerms$Dictionaries", "find", "(II)I"⟩, 14) := ⟨⟨by decide +kernel, by decide +kernel⟩, List.mem_of_getElem? (i := 176) (by decide +kernel), List.mem_of_getElem? (i := 542) (by decide +kernel), List.mem_of_getElem? (i := 543) (by decide +kernel)⟩
theorem lw_p12 : lw_okq (⟨"DictionaryTerms$Dictionaries", "begin", "(II)I"⟩, 14) := ⟨⟨by decide +kernel, by decide +kernel⟩, List.mem_of_getElem? (i := 176) (by decide +kernel), List.mem_of_getElem? (i := 546) (by decide +kernel), List.mem_of_getElem? (i := 547) (by decide +kernel)⟩
theorem lw_p13 : lw_okq (⟨"DictionaryTerms$Values", "cell", "(II)I"⟩, 3) := ⟨⟨by decide +kernel, by decide +kernel⟩, List.mem_of_getElem? (i := 159) (by decide +kernel), List.mem_of_getElem? (i := 559) (by decide +kernel), List.mem_of_getElem? (i := 560) (by decide +kernel)⟩
theorem lw_p14 : lw_okq (⟨"DictionaryTerms$Dictionaries", "partClass", "(II)I"⟩, 14) := ⟨⟨by decide +kernel, by decide +kernel⟩, List.mem_of_getElem? (i := 176) (by decide +kernel), List.mem_of_getElem? (i := 569) (by decide +kernel), List.mem_of_getElem? (i := 570) (by decide +kernel)⟩
theorem lw_p15 : lw_okq (⟨"DictionaryTerms$Dictionaries", "partType", "(II)I"⟩, 14) := ⟨⟨by decide +kernel, by decide +kernel⟩, List.mem_of_getElem? (i := 176) (by decide +kernel), List.mem_of_getElem? (i := 575) (by decide +kernel), List.mem_of_getElem? (i := 576) (by decide +kernel)⟩
def lw_privs_1 : List (MethodName × Nat) := [(⟨"DictionaryTerms$Types", "addRow", "(IIII)I"⟩, 9), (⟨"DictionaryTerms$Types", "findOrAdd", "(III)I"⟩, 9), (⟨"DictionaryTerms", "afterChange", "(I)I"⟩, 8), (⟨"DictionaryTerms$Classes", "hasAsSuper", "(II)Z"⟩, 5), (⟨"DictionaryTerms$Nodes", "isAsTold", "(IIII)Z"⟩, 10), (⟨"DictionaryTerms$Nodes", "isIndex", "(I)Z"⟩, 10), (⟨"DictionaryTerms$Nodes", "has", "(I)Z"⟩, 10), (⟨"DictionaryTerms$Nodes", "heightOver", "(IIII)I"⟩, 10), (⟨"DictionaryTerms$Nodes", "fits", "(IIII)Z"⟩, 10), (⟨"DictionaryTerms$Nodes", "namesWhatIsThere", "(IIII)Z"⟩, 10), (⟨"DictionaryTerms$Nodes", "markInside", "(I)V"⟩, 10), (⟨"DictionaryTerms$Dictionaries", "find", "(II)I"⟩, 14), (⟨"DictionaryTerms$Dictionaries", "begin", "(II)I"⟩, 14), (⟨"DictionaryTerms$Values", "cell", "(II)I"⟩, 3), (⟨"DictionaryTerms$Dictionaries", "partClass", "(II)I"⟩, 14), (⟨"DictionaryTerms$Dictionaries", "partType", "(II)I"⟩, 14)]
theorem lw_r1 : ∀ q ∈ lw_privs_1, lw_okq q := List.forall_mem_cons.mpr ⟨lw_p0, List.forall_mem_cons.mpr ⟨lw_p1, List.forall_mem_cons.mpr ⟨lw_p2, List.forall_mem_cons.mpr ⟨lw_p3, List.forall_mem_cons.mpr ⟨lw_p4, List.forall_mem_cons.mpr ⟨lw_p5, List.forall_mem_cons.mpr ⟨lw_p6, List.forall_mem_cons.mpr ⟨lw_p7, List.forall_mem_cons.mpr ⟨lw_p8, List.forall_mem_cons.mpr ⟨lw_p9, List.forall_mem_cons.mpr ⟨lw_p10, List.forall_mem_cons.mpr ⟨lw_p11, List.forall_mem_cons.mpr ⟨lw_p12, List.forall_mem_cons.mpr ⟨lw_p13, List.forall_mem_cons.mpr ⟨lw_p14, List.forall_mem_cons.mpr ⟨lw_p15, fun _ h => absurd h List.not_mem_nil⟩⟩⟩⟩⟩⟩⟩⟩⟩⟩⟩⟩⟩⟩⟩⟩
theorem lw_p16 : lw_okq (⟨"DictionaryTerms", "hasMember", "(II)Z"⟩, 8) := ⟨⟨by decide +kernel, by decide +kernel⟩, List.mem_of_getElem? (i := 14) (by decide +kernel), List.mem_of_getElem? (i := 637) (by decide +kernel), List.mem_of_getElem? (i := 638) (by decide +kernel)⟩
theorem lw_p17 : lw_okq (⟨"DictionaryTerms$Worker", "need", "(II)V"⟩, 18) := ⟨⟨by decide +kernel, by decide +kernel⟩, List.mem_of_getElem? (i := 250) (by decide +kernel), List.mem_of_getElem? (i := 654) (by decide +kernel), List.mem_of_getElem? (i := 655) (by decide +kernel)⟩
theorem lw_p18 : lw_okq (⟨"DictionaryTerms$Worker", "fail", "(III)V"⟩, 18) := ⟨⟨by decide +kernel, by decide +kernel⟩, List.mem_of_getElem? (i := 250) (by decide +kernel), List.mem_of_getElem? (i := 670) (by decide +kernel), List.mem_of_getElem? (i := 671) (by decide +kernel)⟩
theorem lw_p19 : lw_okq (⟨"DictionaryTerms$Worker", "beginMember", "(II)V"⟩, 18) := ⟨⟨by decide +kernel, by decide +kernel⟩, List.mem_of_getElem? (i := 250) (by decide +kernel), List.mem_of_getElem? (i := 682) (by decide +kernel), List.mem_of_getElem? (i := 683) (by decide +kernel)⟩
theorem lw_p20 : lw_okq (⟨"DictionaryTerms$Worker", "openUp", "(I)V"⟩, 18) := ⟨⟨by decide +kernel, by decide +kernel⟩, List.mem_of_getElem? (i := 250) (by decide +kernel), List.mem_of_getElem? (i := 702) (by decide +kernel), List.mem_of_getElem? (i := 703) (by decide +kernel)⟩
theorem lw_p21 : lw_okq (⟨"DictionaryTerms$Worker", "advance", "()V"⟩, 18) := ⟨⟨by decide +kernel, by decide +kernel⟩, List.mem_of_getElem? (i := 250) (by decide +kernel), List.mem_of_getElem? (i := 707) (by decide +kernel), List.mem_of_getElem? (i := 708) (by decide +kernel)⟩
theorem lw_p22 : lw_okq (⟨"DictionaryTerms$Worker", "endNode", "(J)V"⟩, 18) := ⟨⟨by decide +kernel, by decide +kernel⟩, List.mem_of_getElem? (i := 250) (by decide +kernel), List.mem_of_getElem? (i := 719) (by decide +kernel), List.mem_of_getElem? (i := 720) (by decide +kernel)⟩
theorem lw_p23 : lw_okq (⟨"DictionaryTerms$Worker", "advanceIf", "(II)V"⟩, 18) := ⟨⟨by decide +kernel, by decide +kernel⟩, List.mem_of_getElem? (i := 250) (by decide +kernel), List.mem_of_getElem? (i := 731) (by decide +kernel), List.mem_of_getElem? (i := 732) (by decide +kernel)⟩
theorem lw_p24 : lw_okq (⟨"DictionaryTerms$Worker", "advanceSum", "(II)V"⟩, 18) := ⟨⟨by decide +kernel, by decide +kernel⟩, List.mem_of_getElem? (i := 250) (by decide +kernel), List.mem_of_getElem? (i := 743) (by decide +kernel), List.mem_of_getElem? (i := 744) (by decide +kernel)⟩
theorem lw_p25 : lw_okq (⟨"DictionaryTerms$Worker", "endSum", "(IJJ)V"⟩, 18) := ⟨⟨by decide +kernel, by decide +kernel⟩, List.mem_of_getElem? (i := 250) (by decide +kernel), List.mem_of_getElem? (i := 747) (by decide +kernel), List.mem_of_getElem? (i := 748) (by decide +kernel)⟩
theorem lw_p26 : lw_okq (⟨"DictionaryTerms$Worker", "failHere", "(I)V"⟩, 18) := ⟨⟨by decide +kernel, by decide +kernel⟩, List.mem_of_getElem? (i := 250) (by decide +kernel), List.mem_of_getElem? (i := 751) (by decide +kernel), List.mem_of_getElem? (i := 752) (by decide +kernel)⟩
theorem lw_p27 : lw_okq (⟨"DictionaryTerms$Worker", "dictionaryNamed", "(I)I"⟩, 18) := ⟨⟨by decide +kernel, by decide +kernel⟩, List.mem_of_getElem? (i := 250) (by decide +kernel), List.mem_of_getElem? (i := 755) (by decide +kernel), List.mem_of_getElem? (i := 756) (by decide +kernel)⟩
theorem lw_p28 : lw_okq (⟨"DictionaryTerms$Types", "argumentToRebuild", "(I)I"⟩, 9) := ⟨⟨by decide +kernel, by decide +kernel⟩, List.mem_of_getElem? (i := 22) (by decide +kernel), List.mem_of_getElem? (i := 768) (by decide +kernel), List.mem_of_getElem? (i := 769) (by decide +kernel)⟩
theorem lw_p29 : lw_okq (⟨"DictionaryTerms$Types", "imageOf", "(I)I"⟩, 9) := ⟨⟨by decide +kernel, by decide +kernel⟩, List.mem_of_getElem? (i := 22) (by decide +kernel), List.mem_of_getElem? (i := 772) (by decide +kernel), List.mem_of_getElem? (i := 773) (by decide +kernel)⟩
theorem lw_p30 : lw_okq (⟨"DictionaryTerms$Worker", "memberNamed", "(I)I"⟩, 18) := ⟨⟨by decide +kernel, by decide +kernel⟩, List.mem_of_getElem? (i := 250) (by decide +kernel), List.mem_of_getElem? (i := 777) (by decide +kernel), List.mem_of_getElem? (i := 778) (by decide +kernel)⟩
theorem lw_p31 : lw_okq (⟨"DictionaryTerms$Worker", "needNamed", "(II)V"⟩, 18) := ⟨⟨by decide +kernel, by decide +kernel⟩, List.mem_of_getElem? (i := 250) (by decide +kernel), List.mem_of_getElem? (i := 781) (by decide +kernel), List.mem_of_getElem? (i := 782) (by decide +kernel)⟩
def lw_privs_2 : List (MethodName × Nat) := [(⟨"DictionaryTerms", "hasMember", "(II)Z"⟩, 8), (⟨"DictionaryTerms$Worker", "need", "(II)V"⟩, 18), (⟨"DictionaryTerms$Worker", "fail", "(III)V"⟩, 18), (⟨"DictionaryTerms$Worker", "beginMember", "(II)V"⟩, 18), (⟨"DictionaryTerms$Worker", "openUp", "(I)V"⟩, 18), (⟨"DictionaryTerms$Worker", "advance", "()V"⟩, 18), (⟨"DictionaryTerms$Worker", "endNode", "(J)V"⟩, 18), (⟨"DictionaryTerms$Worker", "advanceIf", "(II)V"⟩, 18), (⟨"DictionaryTerms$Worker", "advanceSum", "(II)V"⟩, 18), (⟨"DictionaryTerms$Worker", "endSum", "(IJJ)V"⟩, 18), (⟨"DictionaryTerms$Worker", "failHere", "(I)V"⟩, 18), (⟨"DictionaryTerms$Worker", "dictionaryNamed", "(I)I"⟩, 18), (⟨"DictionaryTerms$Types", "argumentToRebuild", "(I)I"⟩, 9), (⟨"DictionaryTerms$Types", "imageOf", "(I)I"⟩, 9), (⟨"DictionaryTerms$Worker", "memberNamed", "(I)I"⟩, 18), (⟨"DictionaryTerms$Worker", "needNamed", "(II)V"⟩, 18)]
theorem lw_r2 : ∀ q ∈ lw_privs_2, lw_okq q := List.forall_mem_cons.mpr ⟨lw_p16, List.forall_mem_cons.mpr ⟨lw_p17, List.forall_mem_cons.mpr ⟨lw_p18, List.forall_mem_cons.mpr ⟨lw_p19, List.forall_mem_cons.mpr ⟨lw_p20, List.forall_mem_cons.mpr ⟨lw_p21, List.forall_mem_cons.mpr ⟨lw_p22, List.forall_mem_cons.mpr ⟨lw_p23, List.forall_mem_cons.mpr ⟨lw_p24, List.forall_mem_cons.mpr ⟨lw_p25, List.forall_mem_cons.mpr ⟨lw_p26, List.forall_mem_cons.mpr ⟨lw_p27, List.forall_mem_cons.mpr ⟨lw_p28, List.forall_mem_cons.mpr ⟨lw_p29, List.forall_mem_cons.mpr ⟨lw_p30, List.forall_mem_cons.mpr ⟨lw_p31, fun _ h => absurd h List.not_mem_nil⟩⟩⟩⟩⟩⟩⟩⟩⟩⟩⟩⟩⟩⟩⟩⟩
theorem lw_p32 : lw_okq (⟨"DictionaryTermsModel", "isType", "(I)Z"⟩, 56) := ⟨⟨by decide +kernel, by decide +kernel⟩, List.mem_of_getElem? (i := 860) (by decide +kernel), List.mem_of_getElem? (i := 1046) (by decide +kernel), List.mem_of_getElem? (i := 1047) (by decide +kernel)⟩
theorem lw_p33 : lw_okq (⟨"DictionaryTermsModel", "made", "(III)I"⟩, 56) := ⟨⟨by decide +kernel, by decide +kernel⟩, List.mem_of_getElem? (i := 860) (by decide +kernel), List.mem_of_getElem? (i := 1050) (by decide +kernel), List.mem_of_getElem? (i := 1051) (by decide +kernel)⟩
theorem lw_p34 : lw_okq (⟨"DictionaryTermsModel", "away", "(I)I"⟩, 56) := ⟨⟨by decide +kernel, by decide +kernel⟩, List.mem_of_getElem? (i := 860) (by decide +kernel), List.mem_of_getElem? (i := 1062) (by decide +kernel), List.mem_of_getElem? (i := 1063) (by decide +kernel)⟩
theorem lw_p35 : lw_okq (⟨"DictionaryTermsModel", "isClass", "(I)Z"⟩, 56) := ⟨⟨by decide +kernel, by decide +kernel⟩, List.mem_of_getElem? (i := 860) (by decide +kernel), List.mem_of_getElem? (i := 1070) (by decide +kernel), List.mem_of_getElem? (i := 1071) (by decide +kernel)⟩
theorem lw_p36 : lw_okq (⟨"DictionaryTermsModel", "instanceOf", "(II)I"⟩, 56) := ⟨⟨by decide +kernel, by decide +kernel⟩, List.mem_of_getElem? (i := 860) (by decide +kernel), List.mem_of_getElem? (i := 1078) (by decide +kernel), List.mem_of_getElem? (i := 1079) (by decide +kernel)⟩
theorem lw_p37 : lw_okq (⟨"DictionaryTermsModel", "isInstance", "(I)Z"⟩, 56) := ⟨⟨by decide +kernel, by decide +kernel⟩, List.mem_of_getElem? (i := 860) (by decide +kernel), List.mem_of_getElem? (i := 1086) (by decide +kernel), List.mem_of_getElem? (i := 1087) (by decide +kernel)⟩
theorem lw_p38 : lw_okq (⟨"DictionaryTermsModel", "isRight", "(IIII)Z"⟩, 56) := ⟨⟨by decide +kernel, by decide +kernel⟩, List.mem_of_getElem? (i := 860) (by decide +kernel), List.mem_of_getElem? (i := 1094) (by decide +kernel), List.mem_of_getElem? (i := 1095) (by decide +kernel)⟩
theorem lw_p39 : lw_okq (⟨"DictionaryTermsModel", "isNode", "(I)Z"⟩, 56) := ⟨⟨by decide +kernel, by decide +kernel⟩, List.mem_of_getElem? (i := 860) (by decide +kernel), List.mem_of_getElem? (i := 1098) (by decide +kernel), List.mem_of_getElem? (i := 1099) (by decide +kernel)⟩
theorem lw_p40 : lw_okq (⟨"DictionaryTermsModel", "fits", "(III)Z"⟩, 56) := ⟨⟨by decide +kernel, by decide +kernel⟩, List.mem_of_getElem? (i := 860) (by decide +kernel), List.mem_of_getElem? (i := 1109) (by decide +kernel), List.mem_of_getElem? (i := 1110) (by decide +kernel)⟩
theorem lw_p41 : lw_okq (⟨"DictionaryTermsModel", "isThere", "(III)Z"⟩, 56) := ⟨⟨by decide +kernel, by decide +kernel⟩, List.mem_of_getElem? (i := 860) (by decide +kernel), List.mem_of_getElem? (i := 1113) (by decide +kernel), List.mem_of_getElem? (i := 1114) (by decide +kernel)⟩
theorem lw_p42 : lw_okq (⟨"DictionaryTermsModel", "make", "(II)I"⟩, 56) := ⟨⟨by decide +kernel, by decide +kernel⟩, List.mem_of_getElem? (i := 860) (by decide +kernel), List.mem_of_getElem? (i := 1125) (by decide +kernel), List.mem_of_getElem? (i := 1126) (by decide +kernel)⟩
theorem lw_p43 : lw_okq (⟨"DictionaryTermsModel", "find", "(II)I"⟩, 56) := ⟨⟨by decide +kernel, by decide +kernel⟩, List.mem_of_getElem? (i := 860) (by decide +kernel), List.mem_of_getElem? (i := 1129) (by decide +kernel), List.mem_of_getElem? (i := 1130) (by decide +kernel)⟩
theorem lw_p44 : lw_okq (⟨"DictionaryTermsModel", "begin", "(II)I"⟩, 56) := ⟨⟨by decide +kernel, by decide +kernel⟩, List.mem_of_getElem? (i := 860) (by decide +kernel), List.mem_of_getElem? (i := 1133) (by decide +kernel), List.mem_of_getElem? (i := 1134) (by decide +kernel)⟩
theorem lw_p45 : lw_okq (⟨"DictionaryTermsModel", "partMany", "(I)I"⟩, 56) := ⟨⟨by decide +kernel, by decide +kernel⟩, List.mem_of_getElem? (i := 860) (by decide +kernel), List.mem_of_getElem? (i := 1137) (by decide +kernel), List.mem_of_getElem? (i := 1138) (by decide +kernel)⟩
theorem lw_p46 : lw_okq (⟨"DictionaryTermsModel", "argument", "(II)I"⟩, 56) := ⟨⟨by decide +kernel, by decide +kernel⟩, List.mem_of_getElem? (i := 860) (by decide +kernel), List.mem_of_getElem? (i := 1141) (by decide +kernel), List.mem_of_getElem? (i := 1142) (by decide +kernel)⟩
theorem lw_p47 : lw_okq (⟨"DictionaryTermsModel", "isDictionary", "(I)Z"⟩, 56) := ⟨⟨by decide +kernel, by decide +kernel⟩, List.mem_of_getElem? (i := 860) (by decide +kernel), List.mem_of_getElem? (i := 1153) (by decide +kernel), List.mem_of_getElem? (i := 1154) (by decide +kernel)⟩
def lw_privs_3 : List (MethodName × Nat) := [(⟨"DictionaryTermsModel", "isType", "(I)Z"⟩, 56), (⟨"DictionaryTermsModel", "made", "(III)I"⟩, 56), (⟨"DictionaryTermsModel", "away", "(I)I"⟩, 56), (⟨"DictionaryTermsModel", "isClass", "(I)Z"⟩, 56), (⟨"DictionaryTermsModel", "instanceOf", "(II)I"⟩, 56), (⟨"DictionaryTermsModel", "isInstance", "(I)Z"⟩, 56), (⟨"DictionaryTermsModel", "isRight", "(IIII)Z"⟩, 56), (⟨"DictionaryTermsModel", "isNode", "(I)Z"⟩, 56), (⟨"DictionaryTermsModel", "fits", "(III)Z"⟩, 56), (⟨"DictionaryTermsModel", "isThere", "(III)Z"⟩, 56), (⟨"DictionaryTermsModel", "make", "(II)I"⟩, 56), (⟨"DictionaryTermsModel", "find", "(II)I"⟩, 56), (⟨"DictionaryTermsModel", "begin", "(II)I"⟩, 56), (⟨"DictionaryTermsModel", "partMany", "(I)I"⟩, 56), (⟨"DictionaryTermsModel", "argument", "(II)I"⟩, 56), (⟨"DictionaryTermsModel", "isDictionary", "(I)Z"⟩, 56)]
theorem lw_r3 : ∀ q ∈ lw_privs_3, lw_okq q := List.forall_mem_cons.mpr ⟨lw_p32, List.forall_mem_cons.mpr ⟨lw_p33, List.forall_mem_cons.mpr ⟨lw_p34, List.forall_mem_cons.mpr ⟨lw_p35, List.forall_mem_cons.mpr ⟨lw_p36, List.forall_mem_cons.mpr ⟨lw_p37, List.forall_mem_cons.mpr ⟨lw_p38, List.forall_mem_cons.mpr ⟨lw_p39, List.forall_mem_cons.mpr ⟨lw_p40, List.forall_mem_cons.mpr ⟨lw_p41, List.forall_mem_cons.mpr ⟨lw_p42, List.forall_mem_cons.mpr ⟨lw_p43, List.forall_mem_cons.mpr ⟨lw_p44, List.forall_mem_cons.mpr ⟨lw_p45, List.forall_mem_cons.mpr ⟨lw_p46, List.forall_mem_cons.mpr ⟨lw_p47, fun _ h => absurd h List.not_mem_nil⟩⟩⟩⟩⟩⟩⟩⟩⟩⟩⟩⟩⟩⟩⟩⟩
theorem lw_p48 : lw_okq (⟨"DictionaryTermsModel", "hanging", "(I)I"⟩, 56) := ⟨⟨by decide +kernel, by decide +kernel⟩, List.mem_of_getElem? (i := 860) (by decide +kernel), List.mem_of_getElem? (i := 1161) (by decide +kernel), List.mem_of_getElem? (i := 1162) (by decide +kernel)⟩
theorem lw_p49 : lw_okq (⟨"DictionaryTermsModel", "need", "(II)V"⟩, 56) := ⟨⟨by decide +kernel, by decide +kernel⟩, List.mem_of_getElem? (i := 860) (by decide +kernel), List.mem_of_getElem? (i := 1169) (by decide +kernel), List.mem_of_getElem? (i := 1170) (by decide +kernel)⟩
theorem lw_p50 : lw_okq (⟨"DictionaryTermsModel", "come", "(J)V"⟩, 56) := ⟨⟨by decide +kernel, by decide +kernel⟩, List.mem_of_getElem? (i := 860) (by decide +kernel), List.mem_of_getElem? (i := 1173) (by decide +kernel), List.mem_of_getElem? (i := 1174) (by decide +kernel)⟩
theorem lw_p51 : lw_okq (⟨"DictionaryTermsModel", "fails", "(III)V"⟩, 56) := ⟨⟨by decide +kernel, by decide +kernel⟩, List.mem_of_getElem? (i := 860) (by decide +kernel), List.mem_of_getElem? (i := 1177) (by decide +kernel), List.mem_of_getElem? (i := 1178) (by decide +kernel)⟩
theorem lw_p52 : lw_okq (⟨"DictionaryTermsModel", "task", "(I)V"⟩, 56) := ⟨⟨by decide +kernel, by decide +kernel⟩, List.mem_of_getElem? (i := 860) (by decide +kernel), List.mem_of_getElem? (i := 1181) (by decide +kernel), List.mem_of_getElem? (i := 1182) (by decide +kernel)⟩
theorem lw_p53 : lw_okq (⟨"DictionaryTermsModel", "end", "()V"⟩, 56) := ⟨⟨by decide +kernel, by decide +kernel⟩, List.mem_of_getElem? (i := 860) (by decide +kernel), List.mem_of_getElem? (i := 1185) (by decide +kernel), List.mem_of_getElem? (i := 1186) (by decide +kernel)⟩
theorem lw_p54 : lw_okq (⟨"DictionaryTermsModel", "together", "(I)V"⟩, 56) := ⟨⟨by decide +kernel, by decide +kernel⟩, List.mem_of_getElem? (i := 860) (by decide +kernel), List.mem_of_getElem? (i := 1189) (by decide +kernel), List.mem_of_getElem? (i := 1190) (by decide +kernel)⟩
theorem lw_p55 : lw_okq (⟨"DictionaryTermsModel", "failsHere", "(I)V"⟩, 56) := ⟨⟨by decide +kernel, by decide +kernel⟩, List.mem_of_getElem? (i := 860) (by decide +kernel), List.mem_of_getElem? (i := 1193) (by decide +kernel), List.mem_of_getElem? (i := 1194) (by decide +kernel)⟩
theorem lw_p56 : lw_okq (⟨"DictionaryTermsModel", "work", "(I)V"⟩, 56) := ⟨⟨by decide +kernel, by decide +kernel⟩, List.mem_of_getElem? (i := 860) (by decide +kernel), List.mem_of_getElem? (i := 1197) (by decide +kernel), List.mem_of_getElem? (i := 1198) (by decide +kernel)⟩
theorem lw_p57 : lw_okq (⟨"DictionaryTermsModel", "workAt", "(I)V"⟩, 56) := ⟨⟨by decide +kernel, by decide +kernel⟩, List.mem_of_getElem? (i := 860) (by decide +kernel), List.mem_of_getElem? (i := 1201) (by decide +kernel), List.mem_of_getElem? (i := 1202) (by decide +kernel)⟩
theorem lw_p58 : lw_okq (⟨"DictionaryTermsModel", "put", "(III)I"⟩, 56) := ⟨⟨by decide +kernel, by decide +kernel⟩, List.mem_of_getElem? (i := 860) (by decide +kernel), List.mem_of_getElem? (i := 1205) (by decide +kernel), List.mem_of_getElem? (i := 1206) (by decide +kernel)⟩
def lw_privs_4 : List (MethodName × Nat) := [(⟨"DictionaryTermsModel", "hanging", "(I)I"⟩, 56), (⟨"DictionaryTermsModel", "need", "(II)V"⟩, 56), (⟨"DictionaryTermsModel", "come", "(J)V"⟩, 56), (⟨"DictionaryTermsModel", "fails", "(III)V"⟩, 56), (⟨"DictionaryTermsModel", "task", "(I)V"⟩, 56), (⟨"DictionaryTermsModel", "end", "()V"⟩, 56), (⟨"DictionaryTermsModel", "together", "(I)V"⟩, 56), (⟨"DictionaryTermsModel", "failsHere", "(I)V"⟩, 56), (⟨"DictionaryTermsModel", "work", "(I)V"⟩, 56), (⟨"DictionaryTermsModel", "workAt", "(I)V"⟩, 56), (⟨"DictionaryTermsModel", "put", "(III)I"⟩, 56)]
theorem lw_r4 : ∀ q ∈ lw_privs_4, lw_okq q := List.forall_mem_cons.mpr ⟨lw_p48, List.forall_mem_cons.mpr ⟨lw_p49, List.forall_mem_cons.mpr ⟨lw_p50, List.forall_mem_cons.mpr ⟨lw_p51, List.forall_mem_cons.mpr ⟨lw_p52, List.forall_mem_cons.mpr ⟨lw_p53, List.forall_mem_cons.mpr ⟨lw_p54, List.forall_mem_cons.mpr ⟨lw_p55, List.forall_mem_cons.mpr ⟨lw_p56, List.forall_mem_cons.mpr ⟨lw_p57, List.forall_mem_cons.mpr ⟨lw_p58, fun _ h => absurd h List.not_mem_nil⟩⟩⟩⟩⟩⟩⟩⟩⟩⟩⟩
def lw_privs : List (MethodName × Nat) := lw_privs_1 ++ (lw_privs_2 ++ (lw_privs_3 ++ (lw_privs_4)))
def lw_tbl : List Cond := k2_sels lw_privs ++ tables_1
theorem lw_privs_ok : ∀ q ∈ lw_privs, lw_okq q := by
  show ∀ q ∈ lw_privs_1 ++ (lw_privs_2 ++ (lw_privs_3 ++ (lw_privs_4))), lw_okq q
  exact List.forall_mem_append.mpr ⟨lw_r1, List.forall_mem_append.mpr ⟨lw_r2, List.forall_mem_append.mpr ⟨lw_r3, lw_r4⟩⟩⟩
end
section
def am_R0 : String := "DictionaryTerms$Classes"
def am_T0 : u_T := fun k => match k with
  | 0 => ("DictionaryTerms$Classes", "members", "[I", true)
  | 1 => ("DictionaryTerms$Classes", "supers", "[I", true)
  | 2 => ("DictionaryTerms$Classes", "superRow", "[I", true)
  | 3 => ("DictionaryTerms$Classes", "standards", "[I", true)
  | _ => ("DictionaryTerms$Classes", "classes", "I", false)
def am_y0 : Nat → FieldType := fun k => match k with
  | 0 => .array .int
  | 1 => .array .int
  | 2 => .array .int
  | 3 => .array .int
  | _ => .int
def am_R1 : String := "DictionaryTerms$Dictionaries"
def am_T1 : u_T := fun k => match k with
  | 0 => ("DictionaryTerms$Dictionaries", "types", "LDictionaryTerms$Types;", true)
  | 1 => ("DictionaryTerms$Dictionaries", "classes", "LDictionaryTerms$Classes;", true)
  | 2 => ("DictionaryTerms$Dictionaries", "instances", "LDictionaryTerms$Instances;", true)
  | 3 => ("DictionaryTerms$Dictionaries", "values", "LDictionaryTerms$Values;", true)
  | 4 => ("DictionaryTerms$Dictionaries", "cls", "[I", true)
  | 5 => ("DictionaryTerms$Dictionaries", "type", "[I", true)
  | 6 => ("DictionaryTerms$Dictionaries", "instance", "[I", true)
  | 7 => ("DictionaryTerms$Dictionaries", "partsMade", "[I", true)
  | 8 => ("DictionaryTerms$Dictionaries", "parts", "[I", true)
  | 9 => ("DictionaryTerms$Dictionaries", "dictionaries", "I", false)
  | 10 => ("DictionaryTerms$Dictionaries", "lackedClass", "I", false)
  | 11 => ("DictionaryTerms$Dictionaries", "lackedType", "I", false)
  | 12 => ("DictionaryTerms$Dictionaries", "row", "[I", true)
  | _ => ("DictionaryTerms$Dictionaries", "seen", "[Z", true)
def am_y1 : Nat → FieldType := fun k => match k with
  | 0 => .object "DictionaryTerms$Types"
  | 1 => .object "DictionaryTerms$Classes"
  | 2 => .object "DictionaryTerms$Instances"
  | 3 => .object "DictionaryTerms$Values"
  | 4 => .array .int
  | 5 => .array .int
  | 6 => .array .int
  | 7 => .array .int
  | 8 => .array .int
  | 9 => .int
  | 10 => .int
  | 11 => .int
  | 12 => .array .int
  | _ => .array .boolean
def am_R2 : String := "DictionaryTerms$Instances"
def am_T2 : u_T := fun k => match k with
  | 0 => ("DictionaryTerms$Instances", "types", "LDictionaryTerms$Types;", true)
  | 1 => ("DictionaryTerms$Instances", "classes", "LDictionaryTerms$Classes;", true)
  | 2 => ("DictionaryTerms$Instances", "cls", "[I", true)
  | 3 => ("DictionaryTerms$Instances", "head", "[I", true)
  | 4 => ("DictionaryTerms$Instances", "contexts", "[I", true)
  | 5 => ("DictionaryTerms$Instances", "contextClass", "[I", true)
  | 6 => ("DictionaryTerms$Instances", "contextVariable", "[I", true)
  | 7 => ("DictionaryTerms$Instances", "bodies", "[I", true)
  | _ => ("DictionaryTerms$Instances", "instances", "I", false)
def am_y2 : Nat → FieldType := fun k => match k with
  | 0 => .object "DictionaryTerms$Types"
  | 1 => .object "DictionaryTerms$Classes"
  | 2 => .array .int
  | 3 => .array .int
  | 4 => .array .int
  | 5 => .array .int
  | 6 => .array .int
  | 7 => .array .int
  | _ => .int
def am_R3 : String := "DictionaryTerms$Nodes"
def am_T3 : u_T := fun k => match k with
  | 0 => ("DictionaryTerms$Nodes", "types", "LDictionaryTerms$Types;", true)
  | 1 => ("DictionaryTerms$Nodes", "classes", "LDictionaryTerms$Classes;", true)
  | 2 => ("DictionaryTerms$Nodes", "instances", "LDictionaryTerms$Instances;", true)
  | 3 => ("DictionaryTerms$Nodes", "kind", "[I", true)
  | 4 => ("DictionaryTerms$Nodes", "first", "[I", true)
  | 5 => ("DictionaryTerms$Nodes", "second", "[I", true)
  | 6 => ("DictionaryTerms$Nodes", "third", "[I", true)
  | 7 => ("DictionaryTerms$Nodes", "height", "[I", true)
  | 8 => ("DictionaryTerms$Nodes", "nodes", "I", false)
  | _ => ("DictionaryTerms$Nodes", "standsIn", "[Z", true)
def am_y3 : Nat → FieldType := fun k => match k with
  | 0 => .object "DictionaryTerms$Types"
  | 1 => .object "DictionaryTerms$Classes"
  | 2 => .object "DictionaryTerms$Instances"
  | 3 => .array .int
  | 4 => .array .int
  | 5 => .array .int
  | 6 => .array .int
  | 7 => .array .int
  | 8 => .int
  | _ => .array .boolean
def am_R4 : String := "DictionaryTerms$Report"
def am_T4 : u_T := fun k => match k with
  | 0 => ("DictionaryTerms$Report", "fault", "I", false)
  | 1 => ("DictionaryTerms$Report", "faultDictionary", "I", false)
  | 2 => ("DictionaryTerms$Report", "faultMember", "I", false)
  | 3 => ("DictionaryTerms$Report", "stepDictionary", "[I", true)
  | 4 => ("DictionaryTerms$Report", "stepMember", "[I", true)
  | _ => ("DictionaryTerms$Report", "steps", "I", false)
def am_y4 : Nat → FieldType := fun k => match k with
  | 0 => .int
  | 1 => .int
  | 2 => .int
  | 3 => .array .int
  | 4 => .array .int
  | _ => .int
def am_R5 : String := "DictionaryTerms$Types"
def am_T5 : u_T := fun k => match k with
  | 0 => ("DictionaryTerms$Types", "places", "[I", true)
  | 1 => ("DictionaryTerms$Types", "constructors", "I", false)
  | 2 => ("DictionaryTerms$Types", "head", "[I", true)
  | 3 => ("DictionaryTerms$Types", "left", "[I", true)
  | 4 => ("DictionaryTerms$Types", "right", "[I", true)
  | 5 => ("DictionaryTerms$Types", "open", "[I", true)
  | 6 => ("DictionaryTerms$Types", "types", "I", false)
  | 7 => ("DictionaryTerms$Types", "image", "[I", true)
  | _ => ("DictionaryTerms$Types", "waiting", "[I", true)
def am_y5 : Nat → FieldType := fun k => match k with
  | 0 => .array .int
  | 1 => .int
  | 2 => .array .int
  | 3 => .array .int
  | 4 => .array .int
  | 5 => .array .int
  | 6 => .int
  | 7 => .array .int
  | _ => .array .int
def am_R6 : String := "DictionaryTerms$Values"
def am_T6 : u_T := fun k => match k with
  | 0 => ("DictionaryTerms$Values", "state", "[I", true)
  | 1 => ("DictionaryTerms$Values", "worked", "[J", true)
  | _ => ("DictionaryTerms$Values", "begins", "[I", true)
def am_y6 : Nat → FieldType := fun k => match k with
  | 0 => .array .int
  | 1 => .array .long
  | _ => .array .int
def am_R7 : String := "DictionaryTerms$Worker"
def am_T7 : u_T := fun k => match k with
  | 0 => ("DictionaryTerms$Worker", "types", "LDictionaryTerms$Types;", true)
  | 1 => ("DictionaryTerms$Worker", "nodes", "LDictionaryTerms$Nodes;", true)
  | 2 => ("DictionaryTerms$Worker", "instances", "LDictionaryTerms$Instances;", true)
  | 3 => ("DictionaryTerms$Worker", "classes", "LDictionaryTerms$Classes;", true)
  | 4 => ("DictionaryTerms$Worker", "values", "LDictionaryTerms$Values;", true)
  | 5 => ("DictionaryTerms$Worker", "dictionaries", "LDictionaryTerms$Dictionaries;", true)
  | 6 => ("DictionaryTerms$Worker", "report", "LDictionaryTerms$Report;", true)
  | 7 => ("DictionaryTerms$Worker", "workDictionary", "[I", true)
  | 8 => ("DictionaryTerms$Worker", "workMember", "[I", true)
  | 9 => ("DictionaryTerms$Worker", "workZero", "[I", true)
  | 10 => ("DictionaryTerms$Worker", "workOne", "[I", true)
  | 11 => ("DictionaryTerms$Worker", "workFloor", "[I", true)
  | 12 => ("DictionaryTerms$Worker", "atWork", "I", false)
  | 13 => ("DictionaryTerms$Worker", "openNode", "[I", true)
  | 14 => ("DictionaryTerms$Worker", "turnsHad", "[I", true)
  | 15 => ("DictionaryTerms$Worker", "leftValue", "[J", true)
  | 16 => ("DictionaryTerms$Worker", "open", "I", false)
  | _ => ("DictionaryTerms$Worker", "latest", "J", false)
def am_y7 : Nat → FieldType := fun k => match k with
  | 0 => .object "DictionaryTerms$Types"
  | 1 => .object "DictionaryTerms$Nodes"
  | 2 => .object "DictionaryTerms$Instances"
  | 3 => .object "DictionaryTerms$Classes"
  | 4 => .object "DictionaryTerms$Values"
  | 5 => .object "DictionaryTerms$Dictionaries"
  | 6 => .object "DictionaryTerms$Report"
  | 7 => .array .int
  | 8 => .array .int
  | 9 => .array .int
  | 10 => .array .int
  | 11 => .array .int
  | 12 => .int
  | 13 => .array .int
  | 14 => .array .int
  | 15 => .array .long
  | 16 => .int
  | _ => .long
def am_R8 : String := "DictionaryTerms"
def am_T8 : u_T := fun k => match k with
  | 0 => ("DictionaryTerms", "types", "LDictionaryTerms$Types;", true)
  | 1 => ("DictionaryTerms", "classes", "LDictionaryTerms$Classes;", true)
  | 2 => ("DictionaryTerms", "instances", "LDictionaryTerms$Instances;", true)
  | 3 => ("DictionaryTerms", "nodes", "LDictionaryTerms$Nodes;", true)
  | 4 => ("DictionaryTerms", "values", "LDictionaryTerms$Values;", true)
  | 5 => ("DictionaryTerms", "dictionaries", "LDictionaryTerms$Dictionaries;", true)
  | 6 => ("DictionaryTerms", "report", "LDictionaryTerms$Report;", true)
  | _ => ("DictionaryTerms", "worker", "LDictionaryTerms$Worker;", true)
def am_y8 : Nat → FieldType := fun k => match k with
  | 0 => .object "DictionaryTerms$Types"
  | 1 => .object "DictionaryTerms$Classes"
  | 2 => .object "DictionaryTerms$Instances"
  | 3 => .object "DictionaryTerms$Nodes"
  | 4 => .object "DictionaryTerms$Values"
  | 5 => .object "DictionaryTerms$Dictionaries"
  | 6 => .object "DictionaryTerms$Report"
  | _ => .object "DictionaryTerms$Worker"
def am_R9 : String := "DictionaryTermsModel"
def am_T9 : u_T := fun k => match k with
  | 0 => ("DictionaryTermsModel", "constructors", "I", false)
  | 1 => ("DictionaryTermsModel", "places", "[I", true)
  | 2 => ("DictionaryTermsModel", "types", "I", false)
  | 3 => ("DictionaryTermsModel", "head", "[I", true)
  | 4 => ("DictionaryTermsModel", "first", "[I", true)
  | 5 => ("DictionaryTermsModel", "second", "[I", true)
  | 6 => ("DictionaryTermsModel", "free", "[I", true)
  | 7 => ("DictionaryTermsModel", "came", "[I", true)
  | 8 => ("DictionaryTermsModel", "open", "[I", true)
  | 9 => ("DictionaryTermsModel", "classes", "I", false)
  | 10 => ("DictionaryTermsModel", "members", "[I", true)
  | 11 => ("DictionaryTermsModel", "supers", "[I", true)
  | 12 => ("DictionaryTermsModel", "superRow", "[I", true)
  | 13 => ("DictionaryTermsModel", "standards", "[I", true)
  | 14 => ("DictionaryTermsModel", "instances", "I", false)
  | 15 => ("DictionaryTermsModel", "ofClass", "[I", true)
  | 16 => ("DictionaryTermsModel", "ofHead", "[I", true)
  | 17 => ("DictionaryTermsModel", "contexts", "[I", true)
  | 18 => ("DictionaryTermsModel", "contextClass", "[I", true)
  | 19 => ("DictionaryTermsModel", "contextVariable", "[I", true)
  | 20 => ("DictionaryTermsModel", "bodies", "[I", true)
  | 21 => ("DictionaryTermsModel", "nodes", "I", false)
  | 22 => ("DictionaryTermsModel", "kind", "[I", true)
  | 23 => ("DictionaryTermsModel", "na", "[I", true)
  | 24 => ("DictionaryTermsModel", "nb", "[I", true)
  | 25 => ("DictionaryTermsModel", "nc", "[I", true)
  | 26 => ("DictionaryTermsModel", "height", "[I", true)
  | 27 => ("DictionaryTermsModel", "stands", "[Z", true)
  | 28 => ("DictionaryTermsModel", "dictionaries", "I", false)
  | 29 => ("DictionaryTermsModel", "dClass", "[I", true)
  | 30 => ("DictionaryTermsModel", "dType", "[I", true)
  | 31 => ("DictionaryTermsModel", "dInstance", "[I", true)
  | 32 => ("DictionaryTermsModel", "parts", "[I", true)
  | 33 => ("DictionaryTermsModel", "worked", "[Z", true)
  | 34 => ("DictionaryTermsModel", "being", "[Z", true)
  | 35 => ("DictionaryTermsModel", "values", "[J", true)
  | 36 => ("DictionaryTermsModel", "begun", "[I", true)
  | 37 => ("DictionaryTermsModel", "lackClass", "I", false)
  | 38 => ("DictionaryTermsModel", "lackType", "I", false)
  | 39 => ("DictionaryTermsModel", "making", "[I", true)
  | 40 => ("DictionaryTermsModel", "next", "[I", true)
  | 41 => ("DictionaryTermsModel", "hangs", "[Z", true)
  | 42 => ("DictionaryTermsModel", "tasks", "[I", true)
  | 43 => ("DictionaryTermsModel", "taskMany", "I", false)
  | 44 => ("DictionaryTermsModel", "stack", "[J", true)
  | 45 => ("DictionaryTermsModel", "high", "I", false)
  | 46 => ("DictionaryTermsModel", "frameD", "[I", true)
  | 47 => ("DictionaryTermsModel", "frameM", "[I", true)
  | 48 => ("DictionaryTermsModel", "isStandard", "[Z", true)
  | 49 => ("DictionaryTermsModel", "depth", "I", false)
  | 50 => ("DictionaryTermsModel", "fault", "I", false)
  | 51 => ("DictionaryTermsModel", "faultD", "I", false)
  | 52 => ("DictionaryTermsModel", "faultM", "I", false)
  | 53 => ("DictionaryTermsModel", "steps", "I", false)
  | 54 => ("DictionaryTermsModel", "stepD", "[I", true)
  | _ => ("DictionaryTermsModel", "stepM", "[I", true)
def am_y9 : Nat → FieldType := fun k => match k with
  | 0 => .int
  | 1 => .array .int
  | 2 => .int
  | 3 => .array .int
  | 4 => .array .int
  | 5 => .array .int
  | 6 => .array .int
  | 7 => .array .int
  | 8 => .array .int
  | 9 => .int
  | 10 => .array .int
  | 11 => .array .int
  | 12 => .array .int
  | 13 => .array .int
  | 14 => .int
  | 15 => .array .int
  | 16 => .array .int
  | 17 => .array .int
  | 18 => .array .int
  | 19 => .array .int
  | 20 => .array .int
  | 21 => .int
  | 22 => .array .int
  | 23 => .array .int
  | 24 => .array .int
  | 25 => .array .int
  | 26 => .array .int
  | 27 => .array .boolean
  | 28 => .int
  | 29 => .array .int
  | 30 => .array .int
  | 31 => .array .int
  | 32 => .array .int
  | 33 => .array .boolean
  | 34 => .array .boolean
  | 35 => .array .long
  | 36 => .array .int
  | 37 => .int
  | 38 => .int
  | 39 => .array .int
  | 40 => .array .int
  | 41 => .array .boolean
  | 42 => .array .int
  | 43 => .int
  | 44 => .array .long
  | 45 => .int
  | 46 => .array .int
  | 47 => .array .int
  | 48 => .array .boolean
  | 49 => .int
  | 50 => .int
  | 51 => .int
  | 52 => .int
  | 53 => .int
  | 54 => .array .int
  | _ => .array .int
abbrev am_cl : List vw_C := [(am_R0, am_T0, 5), (am_R1, am_T1, 14), (am_R2, am_T2, 9), (am_R3, am_T3, 10), (am_R4, am_T4, 6), (am_R5, am_T5, 9), (am_R6, am_T6, 3), (am_R7, am_T7, 18), (am_R8, am_T8, 8), (am_R9, am_T9, 56)]
def am_yl : List (Nat → FieldType) := [am_y0, am_y1, am_y2, am_y3, am_y4, am_y5, am_y6, am_y7, am_y8, am_y9]
def am_cn : List String := [am_R0, am_R1, am_R2, am_R3, am_R4, am_R5, am_R6, am_R7, am_R8, am_R9, "DictionaryTermsLaw", "java/util/Arrays"]
/-- a class's fields: 0 an int, 1 a long, 2 a reference -/
def am_fts : List (List Nat) := [[2, 2, 2, 2, 0], [2, 2, 2, 2, 2, 2, 2, 2, 2, 0, 0, 0, 2, 2], [2, 2, 2, 2, 2, 2, 2, 2, 0], [2, 2, 2, 2, 2, 2, 2, 2, 0, 2], [0, 0, 0, 2, 2, 0], [2, 0, 2, 2, 2, 2, 0, 2, 2], [2, 2, 2], [2, 2, 2, 2, 2, 2, 2, 2, 2, 2, 2, 2, 0, 2, 2, 2, 0, 1], [2, 2, 2, 2, 2, 2, 2, 2], [0, 2, 0, 2, 2, 2, 2, 2, 2, 0, 2, 2, 2, 2, 0, 2, 2, 2, 2, 2, 2, 0, 2, 2, 2, 2, 2, 2, 0, 2, 2, 2, 2, 2, 2, 2, 2, 0, 0, 2, 2, 2, 2, 0, 2, 0, 2, 2, 2, 0, 0, 0, 0, 0, 2, 2]]
/-- the methods: name, bytes, locals, answer, class -/
def am_ml : List (MethodName × ByteArray × Nat × Option FieldType × Nat) := [
  (⟨"DictionaryTerms$Classes", "<init>", "()V"⟩, prog_2_method_1_code, 1, none, 0),
  (⟨"DictionaryTerms$Classes", "add", "(I)I"⟩, prog_2_method_9_code, 2, (some .int), 0),
  (⟨"DictionaryTerms$Classes", "addSuper", "(II)I"⟩, prog_2_method_10_code, 3, (some .int), 0),
  (⟨"DictionaryTerms$Classes", "has", "(I)Z"⟩, prog_2_method_3_code, 2, (some .boolean), 0),
  (⟨"DictionaryTerms$Classes", "hasAsSuper", "(II)Z"⟩, prog_2_method_11_code, 4, (some .boolean), 0),
  (⟨"DictionaryTerms$Classes", "superAt", "(II)I"⟩, prog_2_method_6_code, 3, (some .int), 0),
  (⟨"DictionaryTerms$Classes", "hasMember", "(II)Z"⟩, prog_2_method_4_code, 3, (some .boolean), 0),
  (⟨"DictionaryTerms$Classes", "supersOf", "(I)I"⟩, prog_2_method_5_code, 2, (some .int), 0),
  (⟨"DictionaryTerms$Classes", "setStandard", "(III)V"⟩, prog_2_method_8_code, 4, none, 0),
  (⟨"DictionaryTerms$Classes", "standardOf", "(II)I"⟩, prog_2_method_7_code, 3, (some .int), 0),
  (⟨"DictionaryTerms$Classes", "made", "()I"⟩, prog_2_method_2_code, 1, (some .int), 0),
  (⟨"DictionaryTerms$Dictionaries", "<init>", "(LDictionaryTerms$Types;LDictionaryTerms$Classes;LDictionaryTerms$Instances;LDictionaryTerms$Values;)V"⟩, prog_3_method_1_code, 5, none, 1),
  (⟨"DictionaryTerms$Dictionaries", "takeAway", "()V"⟩, prog_3_method_12_code, 1, none, 1),
  (⟨"DictionaryTerms$Dictionaries", "make", "(II)I"⟩, prog_3_method_13_code, 11, (some .int), 1),
  (⟨"DictionaryTerms$Dictionaries", "find", "(II)I"⟩, prog_3_method_14_code, 4, (some .int), 1),
  (⟨"DictionaryTerms$Dictionaries", "begin", "(II)I"⟩, prog_3_method_15_code, 4, (some .int), 1),
  (⟨"DictionaryTerms$Dictionaries", "partsOf", "(I)I"⟩, prog_3_method_7_code, 2, (some .int), 1),
  (⟨"DictionaryTerms$Dictionaries", "partClass", "(II)I"⟩, prog_3_method_16_code, 4, (some .int), 1),
  (⟨"DictionaryTerms$Dictionaries", "partType", "(II)I"⟩, prog_3_method_17_code, 4, (some .int), 1),
  (⟨"DictionaryTerms$Dictionaries", "lackingClass", "()I"⟩, prog_3_method_10_code, 1, (some .int), 1),
  (⟨"DictionaryTerms$Dictionaries", "lackingType", "()I"⟩, prog_3_method_11_code, 1, (some .int), 1),
  (⟨"DictionaryTerms$Dictionaries", "has", "(I)Z"⟩, prog_3_method_3_code, 2, (some .boolean), 1),
  (⟨"DictionaryTerms$Dictionaries", "partAt", "(II)I"⟩, prog_3_method_8_code, 3, (some .int), 1),
  (⟨"DictionaryTerms$Dictionaries", "classOf", "(I)I"⟩, prog_3_method_4_code, 2, (some .int), 1),
  (⟨"DictionaryTerms$Dictionaries", "typeAt", "(I)I"⟩, prog_3_method_5_code, 2, (some .int), 1),
  (⟨"DictionaryTerms$Dictionaries", "instanceOf", "(I)I"⟩, prog_3_method_6_code, 2, (some .int), 1),
  (⟨"DictionaryTerms$Dictionaries", "hangingOn", "(I)I"⟩, prog_3_method_18_code, 6, (some .int), 1),
  (⟨"DictionaryTerms$Dictionaries", "superPartAt", "(II)I"⟩, prog_3_method_9_code, 3, (some .int), 1),
  (⟨"DictionaryTerms$Dictionaries", "made", "()I"⟩, prog_3_method_2_code, 1, (some .int), 1),
  (⟨"DictionaryTerms$Instances", "<init>", "(LDictionaryTerms$Types;LDictionaryTerms$Classes;)V"⟩, prog_4_method_1_code, 3, none, 2),
  (⟨"DictionaryTerms$Instances", "add", "(II)I"⟩, prog_4_method_12_code, 3, (some .int), 2),
  (⟨"DictionaryTerms$Instances", "find", "(II)I"⟩, prog_4_method_11_code, 4, (some .int), 2),
  (⟨"DictionaryTerms$Instances", "addContext", "(III)I"⟩, prog_4_method_13_code, 5, (some .int), 2),
  (⟨"DictionaryTerms$Instances", "has", "(I)Z"⟩, prog_4_method_3_code, 2, (some .boolean), 2),
  (⟨"DictionaryTerms$Instances", "placesOf", "(I)I"⟩, prog_4_method_5_code, 2, (some .int), 2),
  (⟨"DictionaryTerms$Instances", "classOf", "(I)I"⟩, prog_4_method_4_code, 2, (some .int), 2),
  (⟨"DictionaryTerms$Instances", "contextsOf", "(I)I"⟩, prog_4_method_6_code, 2, (some .int), 2),
  (⟨"DictionaryTerms$Instances", "contextClassAt", "(II)I"⟩, prog_4_method_7_code, 3, (some .int), 2),
  (⟨"DictionaryTerms$Instances", "setBody", "(III)V"⟩, prog_4_method_10_code, 4, none, 2),
  (⟨"DictionaryTerms$Instances", "contextVariableAt", "(II)I"⟩, prog_4_method_8_code, 3, (some .int), 2),
  (⟨"DictionaryTerms$Instances", "bodyOf", "(II)I"⟩, prog_4_method_9_code, 3, (some .int), 2),
  (⟨"DictionaryTerms$Instances", "made", "()I"⟩, prog_4_method_2_code, 1, (some .int), 2),
  (⟨"DictionaryTerms$Nodes", "<init>", "(LDictionaryTerms$Types;LDictionaryTerms$Classes;LDictionaryTerms$Instances;)V"⟩, prog_5_method_1_code, 4, none, 3),
  (⟨"DictionaryTerms$Nodes", "add", "(IIII)I"⟩, prog_5_method_7_code, 6, (some .int), 3),
  (⟨"DictionaryTerms$Nodes", "isAsTold", "(IIII)Z"⟩, prog_5_method_8_code, 5, (some .boolean), 3),
  (⟨"DictionaryTerms$Nodes", "isIndex", "(I)Z"⟩, prog_5_method_10_code, 2, (some .boolean), 3),
  (⟨"DictionaryTerms$Nodes", "has", "(I)Z"⟩, prog_5_method_9_code, 2, (some .boolean), 3),
  (⟨"DictionaryTerms$Nodes", "heightOver", "(IIII)I"⟩, prog_5_method_11_code, 6, (some .int), 3),
  (⟨"DictionaryTerms$Nodes", "fitsInstance", "(II)Z"⟩, prog_5_method_12_code, 3, (some .boolean), 3),
  (⟨"DictionaryTerms$Nodes", "fits", "(IIII)Z"⟩, prog_5_method_14_code, 6, (some .boolean), 3),
  (⟨"DictionaryTerms$Nodes", "namesWhatIsThere", "(IIII)Z"⟩, prog_5_method_15_code, 7, (some .boolean), 3),
  (⟨"DictionaryTerms$Nodes", "markInside", "(I)V"⟩, prog_5_method_16_code, 2, none, 3),
  (⟨"DictionaryTerms$Nodes", "fitsClass", "(II)Z"⟩, prog_5_method_13_code, 3, (some .boolean), 3),
  (⟨"DictionaryTerms$Nodes", "kindOf", "(I)I"⟩, prog_5_method_3_code, 2, (some .int), 3),
  (⟨"DictionaryTerms$Nodes", "firstOf", "(I)I"⟩, prog_5_method_4_code, 2, (some .int), 3),
  (⟨"DictionaryTerms$Nodes", "secondOf", "(I)I"⟩, prog_5_method_5_code, 2, (some .int), 3),
  (⟨"DictionaryTerms$Nodes", "thirdOf", "(I)I"⟩, prog_5_method_6_code, 2, (some .int), 3),
  (⟨"DictionaryTerms$Nodes", "made", "()I"⟩, prog_5_method_2_code, 1, (some .int), 3),
  (⟨"DictionaryTerms$Report", "<init>", "()V"⟩, prog_6_method_1_code, 1, none, 4),
  (⟨"DictionaryTerms$Report", "refuse", "()V"⟩, prog_6_method_3_code, 1, none, 4),
  (⟨"DictionaryTerms$Report", "start", "()V"⟩, prog_6_method_2_code, 1, none, 4),
  (⟨"DictionaryTerms$Report", "tellFault", "(III)V"⟩, prog_6_method_4_code, 4, none, 4),
  (⟨"DictionaryTerms$Report", "tellStep", "(II)V"⟩, prog_6_method_5_code, 3, none, 4),
  (⟨"DictionaryTerms$Report", "fault", "()I"⟩, prog_6_method_6_code, 1, (some .int), 4),
  (⟨"DictionaryTerms$Report", "faultDictionary", "()I"⟩, prog_6_method_7_code, 1, (some .int), 4),
  (⟨"DictionaryTerms$Report", "faultMember", "()I"⟩, prog_6_method_8_code, 1, (some .int), 4),
  (⟨"DictionaryTerms$Report", "stepDictionary", "(I)I"⟩, prog_6_method_10_code, 2, (some .int), 4),
  (⟨"DictionaryTerms$Report", "stepMember", "(I)I"⟩, prog_6_method_11_code, 2, (some .int), 4),
  (⟨"DictionaryTerms$Report", "stepsTold", "()I"⟩, prog_6_method_9_code, 1, (some .int), 4),
  (⟨"DictionaryTerms$Types", "<init>", "()V"⟩, prog_7_method_1_code, 2, none, 5),
  (⟨"DictionaryTerms$Types", "addRow", "(IIII)I"⟩, prog_7_method_14_code, 5, (some .int), 5),
  (⟨"DictionaryTerms$Types", "addConstructor", "(I)I"⟩, prog_7_method_11_code, 2, (some .int), 5),
  (⟨"DictionaryTerms$Types", "addType", "(III)I"⟩, prog_7_method_12_code, 5, (some .int), 5),
  (⟨"DictionaryTerms$Types", "hasConstructor", "(I)Z"⟩, prog_7_method_4_code, 2, (some .boolean), 5),
  (⟨"DictionaryTerms$Types", "has", "(I)Z"⟩, prog_7_method_5_code, 2, (some .boolean), 5),
  (⟨"DictionaryTerms$Types", "findOrAdd", "(III)I"⟩, prog_7_method_13_code, 6, (some .int), 5),
  (⟨"DictionaryTerms$Types", "placesOf", "(I)I"⟩, prog_7_method_6_code, 2, (some .int), 5),
  (⟨"DictionaryTerms$Types", "needsOnlyBelow", "(II)Z"⟩, prog_7_method_10_code, 3, (some .boolean), 5),
  (⟨"DictionaryTerms$Types", "isClosed", "(I)Z"⟩, prog_7_method_9_code, 2, (some .boolean), 5),
  (⟨"DictionaryTerms$Types", "constructorOf", "(I)I"⟩, prog_7_method_7_code, 2, (some .int), 5),
  (⟨"DictionaryTerms$Types", "argument", "(II)I"⟩, prog_7_method_8_code, 3, (some .int), 5),
  (⟨"DictionaryTerms$Types", "putIn", "(III)I"⟩, prog_7_method_15_code, 9, (some .int), 5),
  (⟨"DictionaryTerms$Types", "argumentToRebuild", "(I)I"⟩, prog_7_method_16_code, 4, (some .int), 5),
  (⟨"DictionaryTerms$Types", "imageOf", "(I)I"⟩, prog_7_method_17_code, 2, (some .int), 5),
  (⟨"DictionaryTerms$Types", "constructorsMade", "()I"⟩, prog_7_method_2_code, 1, (some .int), 5),
  (⟨"DictionaryTerms$Types", "typesMade", "()I"⟩, prog_7_method_3_code, 1, (some .int), 5),
  (⟨"DictionaryTerms$Values", "<init>", "()V"⟩, prog_8_method_1_code, 1, none, 6),
  (⟨"DictionaryTerms$Values", "clear", "(I)V"⟩, prog_8_method_3_code, 3, none, 6),
  (⟨"DictionaryTerms$Values", "cell", "(II)I"⟩, prog_8_method_2_code, 3, (some .int), 6),
  (⟨"DictionaryTerms$Values", "isWorked", "(II)Z"⟩, prog_8_method_4_code, 3, (some .boolean), 6),
  (⟨"DictionaryTerms$Values", "workedTo", "(II)J"⟩, prog_8_method_6_code, 3, (some .long), 6),
  (⟨"DictionaryTerms$Values", "isBeingWorked", "(II)Z"⟩, prog_8_method_5_code, 3, (some .boolean), 6),
  (⟨"DictionaryTerms$Values", "giveUp", "(II)V"⟩, prog_8_method_10_code, 3, none, 6),
  (⟨"DictionaryTerms$Values", "begin", "(II)V"⟩, prog_8_method_8_code, 3, none, 6),
  (⟨"DictionaryTerms$Values", "end", "(IIJ)V"⟩, prog_8_method_9_code, 5, none, 6),
  (⟨"DictionaryTerms$Values", "begunOf", "(II)I"⟩, prog_8_method_7_code, 3, (some .int), 6),
  (⟨"DictionaryTerms$Worker", "<init>", "(LDictionaryTerms$Types;LDictionaryTerms$Nodes;LDictionaryTerms$Instances;LDictionaryTerms$Classes;LDictionaryTerms$Values;LDictionaryTerms$Dictionaries;LDictionaryTerms$Report;)V"⟩, prog_9_method_1_code, 8, none, 7),
  (⟨"DictionaryTerms$Worker", "work", "(II)J"⟩, prog_9_method_2_code, 4, (some .long), 7),
  (⟨"DictionaryTerms$Worker", "need", "(II)V"⟩, prog_9_method_3_code, 3, none, 7),
  (⟨"DictionaryTerms$Worker", "fail", "(III)V"⟩, prog_9_method_15_code, 5, none, 7),
  (⟨"DictionaryTerms$Worker", "beginMember", "(II)V"⟩, prog_9_method_4_code, 6, none, 7),
  (⟨"DictionaryTerms$Worker", "openUp", "(I)V"⟩, prog_9_method_5_code, 2, none, 7),
  (⟨"DictionaryTerms$Worker", "advance", "()V"⟩, prog_9_method_6_code, 4, none, 7),
  (⟨"DictionaryTerms$Worker", "endNode", "(J)V"⟩, prog_9_method_10_code, 3, none, 7),
  (⟨"DictionaryTerms$Worker", "advanceIf", "(II)V"⟩, prog_9_method_7_code, 3, none, 7),
  (⟨"DictionaryTerms$Worker", "advanceSum", "(II)V"⟩, prog_9_method_8_code, 3, none, 7),
  (⟨"DictionaryTerms$Worker", "endSum", "(IJJ)V"⟩, prog_9_method_9_code, 6, none, 7),
  (⟨"DictionaryTerms$Worker", "failHere", "(I)V"⟩, prog_9_method_14_code, 2, none, 7),
  (⟨"DictionaryTerms$Worker", "dictionaryNamed", "(I)I"⟩, prog_9_method_11_code, 6, (some .int), 7),
  (⟨"DictionaryTerms$Worker", "memberNamed", "(I)I"⟩, prog_9_method_12_code, 2, (some .int), 7),
  (⟨"DictionaryTerms$Worker", "needNamed", "(II)V"⟩, prog_9_method_13_code, 3, none, 7),
  (⟨"DictionaryTerms", "<init>", "()V"⟩, prog_1_method_1_code, 1, none, 8),
  (⟨"DictionaryTerms", "constructor", "(I)I"⟩, prog_1_method_2_code, 2, (some .int), 8),
  (⟨"DictionaryTerms", "type", "(III)I"⟩, prog_1_method_3_code, 4, (some .int), 8),
  (⟨"DictionaryTerms", "cls", "(I)I"⟩, prog_1_method_4_code, 2, (some .int), 8),
  (⟨"DictionaryTerms", "afterChange", "(I)I"⟩, prog_1_method_21_code, 2, (some .int), 8),
  (⟨"DictionaryTerms", "superOf", "(II)I"⟩, prog_1_method_5_code, 3, (some .int), 8),
  (⟨"DictionaryTerms", "instance", "(II)I"⟩, prog_1_method_6_code, 3, (some .int), 8),
  (⟨"DictionaryTerms", "context", "(III)I"⟩, prog_1_method_7_code, 4, (some .int), 8),
  (⟨"DictionaryTerms", "node", "(IIII)I"⟩, prog_1_method_8_code, 5, (some .int), 8),
  (⟨"DictionaryTerms", "body", "(III)I"⟩, prog_1_method_9_code, 4, (some .int), 8),
  (⟨"DictionaryTerms", "standard", "(III)I"⟩, prog_1_method_10_code, 4, (some .int), 8),
  (⟨"DictionaryTerms", "dictionary", "(II)I"⟩, prog_1_method_11_code, 3, (some .int), 8),
  (⟨"DictionaryTerms", "lack", "(I)I"⟩, prog_1_method_12_code, 2, (some .int), 8),
  (⟨"DictionaryTerms", "part", "(II)I"⟩, prog_1_method_13_code, 3, (some .int), 8),
  (⟨"DictionaryTerms", "about", "(II)I"⟩, prog_1_method_14_code, 3, (some .int), 8),
  (⟨"DictionaryTerms", "value", "(II)J"⟩, prog_1_method_15_code, 3, (some .long), 8),
  (⟨"DictionaryTerms", "hasMember", "(II)Z"⟩, prog_1_method_22_code, 3, (some .boolean), 8),
  (⟨"DictionaryTerms", "failed", "(I)I"⟩, prog_1_method_16_code, 2, (some .int), 8),
  (⟨"DictionaryTerms", "step", "(II)I"⟩, prog_1_method_17_code, 3, (some .int), 8),
  (⟨"DictionaryTerms", "begun", "(II)I"⟩, prog_1_method_18_code, 3, (some .int), 8),
  (⟨"DictionaryTerms", "typeOf", "(II)I"⟩, prog_1_method_19_code, 3, (some .int), 8),
  (⟨"DictionaryTerms", "count", "(I)I"⟩, prog_1_method_20_code, 2, (some .int), 8),
  (⟨"DictionaryTermsModel", "<init>", "()V"⟩, prog_11_method_2_code, 2, none, 9),
  (⟨"DictionaryTermsModel", "constructor", "(I)I"⟩, prog_11_method_3_code, 2, (some .int), 9),
  (⟨"DictionaryTermsModel", "isIn", "(III)Z"⟩, prog_11_method_1_code, 3, (some .boolean), 9),
  (⟨"DictionaryTermsModel", "type", "(III)I"⟩, prog_11_method_6_code, 4, (some .int), 9),
  (⟨"DictionaryTermsModel", "isType", "(I)Z"⟩, prog_11_method_4_code, 2, (some .boolean), 9),
  (⟨"DictionaryTermsModel", "made", "(III)I"⟩, prog_11_method_5_code, 5, (some .int), 9),
  (⟨"DictionaryTermsModel", "typeOf", "(II)I"⟩, prog_11_method_7_code, 3, (some .int), 9),
  (⟨"DictionaryTermsModel", "cls", "(I)I"⟩, prog_11_method_12_code, 3, (some .int), 9),
  (⟨"DictionaryTermsModel", "away", "(I)I"⟩, prog_11_method_11_code, 2, (some .int), 9),
  (⟨"DictionaryTermsModel", "superOf", "(II)I"⟩, prog_11_method_13_code, 4, (some .int), 9),
  (⟨"DictionaryTermsModel", "isClass", "(I)Z"⟩, prog_11_method_9_code, 2, (some .boolean), 9),
  (⟨"DictionaryTermsModel", "instance", "(II)I"⟩, prog_11_method_15_code, 4, (some .int), 9),
  (⟨"DictionaryTermsModel", "instanceOf", "(II)I"⟩, prog_11_method_14_code, 4, (some .int), 9),
  (⟨"DictionaryTermsModel", "context", "(III)I"⟩, prog_11_method_16_code, 4, (some .int), 9),
  (⟨"DictionaryTermsModel", "isInstance", "(I)Z"⟩, prog_11_method_10_code, 2, (some .boolean), 9),
  (⟨"DictionaryTermsModel", "node", "(IIII)I"⟩, prog_11_method_20_code, 6, (some .int), 9),
  (⟨"DictionaryTermsModel", "isRight", "(IIII)Z"⟩, prog_11_method_19_code, 5, (some .boolean), 9),
  (⟨"DictionaryTermsModel", "isNode", "(I)Z"⟩, prog_11_method_18_code, 2, (some .boolean), 9),
  (⟨"DictionaryTermsModel", "greater", "(II)I"⟩, prog_11_method_17_code, 2, (some .int), 9),
  (⟨"DictionaryTermsModel", "body", "(III)I"⟩, prog_11_method_23_code, 4, (some .int), 9),
  (⟨"DictionaryTermsModel", "fits", "(III)Z"⟩, prog_11_method_21_code, 6, (some .boolean), 9),
  (⟨"DictionaryTermsModel", "isThere", "(III)Z"⟩, prog_11_method_22_code, 4, (some .boolean), 9),
  (⟨"DictionaryTermsModel", "standard", "(III)I"⟩, prog_11_method_24_code, 4, (some .int), 9),
  (⟨"DictionaryTermsModel", "dictionary", "(II)I"⟩, prog_11_method_31_code, 3, (some .int), 9),
  (⟨"DictionaryTermsModel", "make", "(II)I"⟩, prog_11_method_30_code, 14, (some .int), 9),
  (⟨"DictionaryTermsModel", "find", "(II)I"⟩, prog_11_method_27_code, 4, (some .int), 9),
  (⟨"DictionaryTermsModel", "begin", "(II)I"⟩, prog_11_method_28_code, 6, (some .int), 9),
  (⟨"DictionaryTermsModel", "partMany", "(I)I"⟩, prog_11_method_26_code, 2, (some .int), 9),
  (⟨"DictionaryTermsModel", "argument", "(II)I"⟩, prog_11_method_29_code, 3, (some .int), 9),
  (⟨"DictionaryTermsModel", "lack", "(I)I"⟩, prog_11_method_32_code, 2, (some .int), 9),
  (⟨"DictionaryTermsModel", "part", "(II)I"⟩, prog_11_method_33_code, 3, (some .int), 9),
  (⟨"DictionaryTermsModel", "isDictionary", "(I)Z"⟩, prog_11_method_25_code, 2, (some .boolean), 9),
  (⟨"DictionaryTermsModel", "about", "(II)I"⟩, prog_11_method_35_code, 3, (some .int), 9),
  (⟨"DictionaryTermsModel", "hanging", "(I)I"⟩, prog_11_method_34_code, 5, (some .int), 9),
  (⟨"DictionaryTermsModel", "value", "(II)J"⟩, prog_11_method_45_code, 4, (some .long), 9),
  (⟨"DictionaryTermsModel", "need", "(II)V"⟩, prog_11_method_39_code, 6, none, 9),
  (⟨"DictionaryTermsModel", "come", "(J)V"⟩, prog_11_method_37_code, 3, none, 9),
  (⟨"DictionaryTermsModel", "fails", "(III)V"⟩, prog_11_method_38_code, 4, none, 9),
  (⟨"DictionaryTermsModel", "task", "(I)V"⟩, prog_11_method_36_code, 2, none, 9),
  (⟨"DictionaryTermsModel", "end", "()V"⟩, prog_11_method_44_code, 3, none, 9),
  (⟨"DictionaryTermsModel", "together", "(I)V"⟩, prog_11_method_43_code, 6, none, 9),
  (⟨"DictionaryTermsModel", "failsHere", "(I)V"⟩, prog_11_method_40_code, 2, none, 9),
  (⟨"DictionaryTermsModel", "work", "(I)V"⟩, prog_11_method_42_code, 3, none, 9),
  (⟨"DictionaryTermsModel", "workAt", "(I)V"⟩, prog_11_method_41_code, 6, none, 9),
  (⟨"DictionaryTermsModel", "put", "(III)I"⟩, prog_11_method_8_code, 6, (some .int), 9),
  (⟨"DictionaryTermsModel", "failed", "(I)I"⟩, prog_11_method_46_code, 2, (some .int), 9),
  (⟨"DictionaryTermsModel", "step", "(II)I"⟩, prog_11_method_47_code, 3, (some .int), 9),
  (⟨"DictionaryTermsModel", "begun", "(II)I"⟩, prog_11_method_48_code, 3, (some .int), 9),
  (⟨"DictionaryTermsModel", "count", "(I)I"⟩, prog_11_method_49_code, 2, (some .int), 9),
  (⟨"java/util/Arrays", "fill", "([II)V"⟩, prog_13_method_103_code, 4, none, 11),
  (⟨"DictionaryTermsLaw", "law", "([I)Z"⟩, code, 4, (some .boolean), 10)]
/-- (class * 1000 + entry) to a field: class, number -/
def am_fl : List (Nat × Nat × Nat) := [(11, 0, 0), (15, 0, 1), (18, 0, 2), (21, 0, 3), (24, 0, 4), (1015, 1, 4), (1019, 1, 5), (1022, 1, 6), (1025, 1, 7), (1028, 1, 8), (1031, 1, 9), (1035, 1, 10), (1038, 1, 11), (1041, 1, 12), (1044, 1, 13), (1048, 1, 0), (1052, 1, 1), (1056, 1, 2), (1060, 1, 3), (2011, 2, 2), (2015, 2, 3), (2018, 2, 4), (2021, 2, 5), (2024, 2, 6), (2029, 2, 7), (2032, 2, 8), (2036, 2, 0), (2040, 2, 1), (3011, 3, 3), (3015, 3, 4), (3018, 3, 5), (3021, 3, 6), (3024, 3, 7), (3027, 3, 8), (3031, 3, 9), (3035, 3, 0), (3039, 3, 1), (3043, 3, 2), (4009, 4, 0), (4015, 4, 1), (4018, 4, 2), (4023, 4, 3), (4027, 4, 4), (4030, 4, 5), (5011, 5, 0), (5015, 5, 1), (5019, 5, 2), (5022, 5, 3), (5025, 5, 4), (5028, 5, 5), (5031, 5, 6), (5034, 5, 7), (5037, 5, 8), (6013, 6, 0), (6017, 6, 1), (6021, 6, 2), (7013, 7, 7), (7017, 7, 8), (7020, 7, 9), (7023, 7, 10), (7026, 7, 11), (7029, 7, 12), (7033, 7, 13), (7036, 7, 14), (7039, 7, 15), (7043, 7, 16), (7046, 7, 17), (7050, 7, 0), (7054, 7, 1), (7058, 7, 2), (7062, 7, 3), (7066, 7, 4), (7070, 7, 5), (7074, 7, 6), (8010, 8, 0), (8019, 8, 1), (8028, 8, 2), (8037, 8, 3), (8044, 8, 4), (8053, 8, 5), (8060, 8, 6), (8069, 8, 7), (9007, 9, 1), (9013, 9, 2), (9017, 9, 3), (9020, 9, 4), (9023, 9, 5), (9026, 9, 6), (9029, 9, 7), (9032, 9, 8), (9035, 9, 10), (9038, 9, 11), (9041, 9, 12), (9044, 9, 13), (9047, 9, 15), (9050, 9, 16), (9053, 9, 17), (9056, 9, 18), (9059, 9, 19), (9062, 9, 20), (9065, 9, 22), (9068, 9, 23), (9071, 9, 24), (9074, 9, 25), (9077, 9, 26), (9080, 9, 27), (9084, 9, 29), (9087, 9, 30), (9090, 9, 31), (9093, 9, 32), (9096, 9, 33), (9099, 9, 34), (9102, 9, 35), (9106, 9, 36), (9109, 9, 37), (9112, 9, 38), (9115, 9, 39), (9118, 9, 40), (9121, 9, 41), (9124, 9, 42), (9127, 9, 44), (9130, 9, 46), (9133, 9, 47), (9136, 9, 48), (9139, 9, 51), (9142, 9, 52), (9145, 9, 54), (9148, 9, 55), (9155, 9, 0), (9166, 9, 9), (9169, 9, 14), (9172, 9, 28), (9189, 9, 21), (9229, 9, 43), (9232, 9, 45), (9235, 9, 50), (9242, 9, 49), (9266, 9, 53)]
/-- (class * 1000 + entry) to a method: 0 virtual, 1 static, 2 a constructor, 3 a nest mate's constructor, 4 Object's; its number; its arguments -/
def am_mk : List (Nat × Nat × Nat × Nat) := [(3, 4, 0, 0), (28, 1, 182, 2), (34, 0, 3, 1), (38, 0, 4, 2), (42, 0, 5, 2), (1009, 4, 0, 0), (1064, 0, 36, 1), (1068, 0, 7, 1), (1071, 0, 22, 2), (1075, 0, 14, 2), (1078, 0, 15, 2), (1081, 0, 16, 1), (1084, 0, 17, 2), (1087, 0, 18, 2), (1090, 0, 79, 1), (1095, 0, 31, 2), (1096, 0, 87, 1), (1102, 0, 37, 2), (1105, 0, 5, 2), (1108, 0, 39, 2), (1111, 0, 80, 2), (2003, 4, 0, 0), (2044, 1, 182, 2), (2050, 0, 76, 1), (2056, 0, 3, 1), (2060, 0, 73, 1), (2063, 0, 31, 2), (2067, 0, 33, 1), (2068, 0, 34, 1), (3003, 4, 0, 0), (3047, 0, 44, 4), (3051, 0, 47, 4), (3055, 0, 45, 1), (3059, 0, 74, 1), (3064, 0, 6, 2), (3070, 0, 46, 1), (3071, 5, 0, 2), (3077, 0, 35, 1), (3083, 0, 34, 1), (3086, 0, 49, 4), (3089, 0, 50, 4), (3092, 0, 51, 1), (3096, 0, 36, 1), (3099, 0, 37, 2), (3102, 0, 7, 1), (3105, 0, 5, 2), (3108, 0, 77, 2), (4003, 4, 0, 0), (4033, 0, 60, 0), (5003, 4, 0, 0), (5040, 0, 70, 4), (5044, 0, 73, 1), (5048, 0, 74, 1), (5051, 0, 75, 3), (5055, 5, 0, 2), (5061, 0, 82, 1), (5065, 0, 83, 1), (6005, 4, 0, 0), (6024, 0, 88, 2), (7007, 4, 0, 0), (7078, 0, 60, 0), (7083, 0, 98, 2), (7088, 0, 102, 0), (7091, 0, 63, 0), (7095, 0, 89, 2), (7101, 0, 90, 2), (7105, 0, 91, 2), (7108, 0, 99, 3), (7112, 0, 100, 2), (7115, 0, 25, 1), (7121, 0, 40, 2), (7127, 0, 23, 1), (7130, 0, 9, 2), (7135, 0, 24, 1), (7138, 0, 93, 2), (7141, 0, 80, 2), (7146, 0, 101, 1), (7150, 0, 53, 1), (7153, 0, 54, 1), (7156, 0, 103, 1), (7160, 0, 104, 2), (7163, 0, 105, 2), (7166, 0, 108, 1), (7169, 0, 109, 1), (7172, 0, 110, 2), (7175, 0, 55, 1), (7178, 0, 56, 1), (7181, 0, 106, 3), (7185, 0, 107, 1), (7188, 0, 94, 3), (7192, 0, 62, 2), (7195, 0, 22, 2), (7198, 0, 27, 2), (7201, 0, 81, 3), (7205, 0, 13, 2), (7208, 0, 61, 3), (7211, 0, 92, 2), (8001, 4, 0, 0), (8009, 2, 69, 0), (8018, 2, 0, 0), (8025, 2, 29, 2), (8034, 2, 42, 3), (8043, 3, 86, 0), (8050, 2, 11, 4), (8059, 3, 58, 0), (8066, 2, 96, 7), (8073, 0, 71, 1), (8077, 0, 72, 3), (8081, 0, 1, 1), (8084, 0, 115, 1), (8087, 0, 2, 2), (8091, 0, 30, 2), (8093, 0, 32, 3), (8096, 0, 43, 4), (8099, 0, 33, 1), (8103, 0, 35, 1), (8106, 0, 6, 2), (8110, 0, 48, 2), (8113, 0, 38, 3), (8117, 0, 52, 2), (8120, 0, 8, 3), (8123, 0, 3, 1), (8124, 0, 74, 1), (8125, 0, 78, 1), (8128, 0, 13, 2), (8131, 0, 19, 0), (8135, 0, 20, 0), (8138, 0, 21, 1), (8139, 0, 16, 1), (8142, 0, 22, 2), (8145, 0, 23, 1), (8146, 0, 24, 1), (8149, 0, 25, 1), (8152, 0, 26, 1), (8155, 0, 127, 2), (8156, 0, 59, 0), (8159, 0, 97, 2), (8163, 0, 63, 0), (8166, 0, 64, 0), (8169, 0, 65, 0), (8172, 0, 66, 1), (8175, 0, 67, 1), (8178, 0, 95, 2), (8181, 0, 79, 1), (8184, 0, 80, 2), (8187, 0, 84, 0), (8190, 0, 85, 0), (8193, 0, 10, 0), (8196, 0, 41, 0), (8197, 0, 57, 0), (8198, 0, 28, 0), (8199, 0, 68, 0), (8202, 0, 12, 0), (9001, 4, 0, 0), (9151, 1, 135, 3), (9158, 0, 137, 1), (9162, 0, 138, 3), (9175, 0, 141, 1), (9179, 0, 143, 1), (9182, 0, 145, 2), (9186, 0, 147, 1), (9192, 0, 150, 1), (9195, 0, 149, 4), (9199, 1, 151, 2), (9202, 0, 154, 3), (9205, 0, 153, 3), (9208, 0, 158, 2), (9211, 0, 159, 2), (9214, 0, 160, 1), (9217, 0, 161, 2), (9220, 0, 157, 2), (9223, 0, 164, 1), (9226, 0, 166, 1), (9238, 0, 169, 1), (9245, 0, 170, 3), (9249, 0, 171, 1), (9253, 0, 177, 3), (9256, 0, 174, 1), (9259, 0, 168, 2), (9263, 0, 176, 1), (9269, 0, 172, 0), (9272, 0, 173, 1), (9275, 0, 175, 1), (10009, 2, 111, 0), (10012, 2, 133, 0), (10013, 0, 112, 1), (10017, 0, 134, 1), (10018, 0, 113, 3), (10022, 0, 136, 3), (10023, 0, 114, 1), (10026, 0, 140, 1), (10027, 0, 116, 2), (10031, 0, 142, 2), (10032, 0, 117, 2), (10035, 0, 144, 2), (10036, 0, 118, 3), (10039, 0, 146, 3), (10040, 0, 119, 4), (10044, 0, 148, 4), (10045, 0, 120, 3), (10048, 0, 152, 3), (10049, 0, 121, 3), (10052, 0, 155, 3), (10053, 0, 122, 2), (10056, 0, 156, 2), (10057, 0, 123, 1), (10060, 0, 162, 1), (10061, 0, 124, 2), (10064, 0, 163, 2), (10065, 0, 125, 2), (10068, 0, 165, 2), (10069, 0, 126, 2), (10073, 0, 167, 2), (10074, 0, 128, 1), (10077, 0, 178, 1), (10078, 0, 129, 2), (10081, 0, 179, 2), (10082, 0, 130, 2), (10085, 0, 180, 2), (10086, 0, 131, 2), (10089, 0, 139, 2), (10090, 0, 132, 1), (10093, 0, 181, 1)]
/-- (class * 1000 + entry) to a class -/
def am_ck : List (Nat × Nat) := [(8007, 5), (8016, 0), (8023, 2), (8032, 3), (8041, 6), (8048, 1), (8057, 4), (8064, 7), (10007, 8), (10010, 9)]
/-- (class * 1000 + entry) to a constant -/
def am_kk : List (Nat × Int) := [(7087, 1000000)]
/-- where the words of a field's entry stand -/
def am_fp : List Nat := [128, 129, 130, 131, 132, 244, 245, 246, 247, 248, 249, 250, 251, 252, 253, 240, 241, 242, 243, 153, 154, 155, 156, 157, 158, 159, 151, 152, 188, 189, 190, 191, 192, 193, 194, 185, 186, 187, 289, 290, 291, 292, 293, 294, 90, 91, 92, 93, 94, 95, 96, 97, 98, 223, 224, 225, 321, 322, 323, 324, 325, 326, 327, 328, 329, 330, 331, 314, 315, 316, 317, 318, 319, 320, 369, 370, 371, 372, 373, 374, 375, 376, 925, 926, 927, 928, 929, 930, 931, 932, 934, 935, 936, 937, 939, 940, 941, 942, 943, 944, 946, 947, 948, 949, 950, 951, 953, 954, 955, 956, 957, 958, 959, 960, 961, 962, 963, 964, 965, 966, 968, 970, 971, 972, 975, 976, 978, 979, 924, 933, 938, 952, 945, 967, 969, 974, 973, 977]
/-- where the words of a method's entry stand -/
def am_kp : List (Nat × Nat × Nat) := [(124, 78, 79), (125, 126, 0), (449, 450, 451), (453, 455, 3), (457, 458, 459), (239, 78, 79), (625, 550, 551), (626, 558, 559), (690, 667, 668), (600, 602, 11), (604, 606, 12), (621, 622, 623), (627, 629, 14), (633, 635, 15), (608, 609, 610), (612, 472, 473), (613, 614, 615), (631, 554, 555), (632, 458, 459), (637, 638, 639), (641, 642, 643), (149, 78, 79), (150, 126, 0), (491, 492, 493), (469, 450, 451), (470, 411, 412), (471, 472, 473), (483, 484, 485), (487, 488, 489), (184, 78, 79), (503, 505, 4), (520, 522, 7), (507, 509, 5), (511, 415, 416), (512, 513, 514), (516, 518, 6), (524, 423, 0), (539, 531, 532), (540, 488, 489), (541, 543, 8), (545, 547, 9), (566, 568, 10), (549, 550, 551), (553, 554, 555), (557, 558, 559), (561, 458, 459), (562, 563, 564), (288, 78, 79), (703, 704, 705), (85, 78, 79), (86, 88, 0), (410, 411, 412), (414, 415, 416), (418, 420, 1), (422, 423, 0), (826, 828, 28), (830, 832, 29), (222, 78, 79), (617, 619, 13), (313, 78, 79), (711, 704, 705), (712, 714, 17), (765, 767, 21), (843, 844, 845), (716, 717, 718), (720, 721, 722), (724, 725, 726), (728, 730, 18), (740, 742, 19), (744, 683, 684), (745, 746, 747), (749, 675, 676), (750, 751, 752), (754, 679, 680), (755, 756, 757), (759, 642, 643), (760, 762, 20), (769, 770, 771), (773, 774, 775), (777, 779, 22), (789, 791, 23), (801, 803, 24), (813, 815, 27), (835, 837, 30), (839, 841, 31), (793, 794, 795), (797, 798, 799), (805, 807, 25), (809, 811, 26), (781, 782, 783), (785, 786, 787), (817, 667, 668), (818, 819, 820), (822, 823, 824), (834, 597, 598), (732, 733, 734), (736, 737, 738), (77, 78, 79), (82, 83, 0), (121, 122, 0), (146, 147, 0), (181, 182, 0), (219, 220, 0), (236, 237, 0), (285, 286, 0), (310, 311, 0), (398, 399, 400), (406, 407, 408), (429, 430, 431), (433, 435, 2), (445, 446, 447), (465, 466, 467), (479, 480, 481), (499, 500, 501), (529, 484, 485), (530, 531, 532), (534, 513, 514), (535, 536, 537), (570, 571, 572), (578, 579, 580), (582, 583, 584), (590, 450, 451), (591, 415, 416), (592, 593, 594), (596, 597, 598), (649, 650, 651), (653, 654, 655), (661, 662, 663), (665, 622, 623), (666, 667, 668), (674, 675, 676), (678, 679, 680), (682, 683, 684), (686, 687, 688), (695, 697, 16), (699, 700, 701), (707, 708, 709), (851, 844, 845), (852, 853, 854), (856, 857, 858), (864, 865, 866), (868, 869, 870), (876, 877, 878), (884, 609, 610), (885, 642, 643), (890, 891, 892), (894, 895, 896), (898, 899, 900), (902, 903, 904), (906, 907, 908), (910, 911, 912), (914, 915, 916), (437, 438, 439), (923, 78, 79), (1097, 1098, 0), (1104, 1106, 32), (1108, 1110, 33), (1120, 1122, 34), (1128, 1130, 35), (1136, 1138, 36), (1144, 1146, 37), (1156, 1158, 39), (1152, 1154, 38), (1160, 1161, 0), (1171, 1173, 41), (1167, 1169, 40), (1187, 1189, 43), (1191, 1193, 44), (1195, 1197, 45), (1199, 1201, 46), (1183, 1185, 42), (1211, 1213, 47), (1219, 1221, 48), (1231, 1233, 50), (1235, 1237, 51), (1239, 1241, 52), (1263, 1265, 58), (1251, 1253, 55), (1227, 1229, 49), (1259, 1261, 57), (1243, 1245, 53), (1247, 1249, 54), (1255, 1257, 56), (74, 75, 0), (920, 921, 0), (394, 395, 396), (1093, 1094, 1095), (402, 403, 404), (1100, 1101, 1102), (425, 426, 427), (1116, 1117, 1118), (441, 442, 443), (1124, 1125, 1126), (461, 462, 463), (1132, 1133, 1134), (475, 476, 477), (1140, 1141, 1142), (495, 496, 497), (1148, 1149, 1150), (525, 526, 527), (1163, 1164, 1165), (574, 575, 576), (1175, 1176, 1177), (586, 587, 588), (1179, 1180, 1181), (645, 646, 647), (1203, 1204, 1205), (657, 658, 659), (1207, 1208, 1209), (670, 671, 672), (1215, 1216, 1217), (691, 692, 693), (1223, 1224, 1225), (847, 848, 849), (1267, 1268, 1269), (860, 861, 862), (1271, 1272, 1273), (872, 873, 874), (1275, 1276, 1277), (880, 881, 882), (1112, 1113, 1114), (886, 887, 888), (1279, 1280, 1281)]
/-- where the words of a method's code stand -/
def am_cp : List Nat := [123, 432, 448, 452, 456, 460, 515, 560, 585, 753, 901, 238, 440, 599, 603, 607, 624, 630, 636, 652, 656, 664, 669, 677, 681, 685, 689, 821, 913, 148, 468, 474, 482, 486, 490, 533, 552, 556, 573, 640, 748, 905, 183, 502, 506, 510, 519, 523, 538, 544, 548, 569, 581, 772, 776, 796, 800, 909, 287, 702, 706, 735, 788, 846, 855, 859, 867, 871, 917, 84, 89, 401, 409, 413, 417, 421, 494, 565, 595, 611, 644, 825, 829, 833, 893, 897, 221, 616, 620, 719, 723, 727, 739, 758, 784, 879, 312, 710, 715, 731, 743, 763, 768, 780, 792, 804, 808, 812, 816, 838, 842, 76, 397, 405, 428, 436, 444, 464, 478, 498, 528, 577, 589, 648, 660, 673, 694, 698, 850, 863, 875, 883, 889, 922, 1096, 1099, 1103, 1107, 1111, 1115, 1119, 1123, 1127, 1131, 1135, 1139, 1143, 1147, 1151, 1155, 1159, 1162, 1166, 1170, 1174, 1178, 1182, 1186, 1190, 1194, 1198, 1202, 1206, 1210, 1214, 1218, 1222, 1226, 1230, 1234, 1238, 1242, 1246, 1250, 1254, 1258, 1262, 1266, 1270, 1274, 1278, 1282, 127]
def am_xp : Nat × Nat × Nat := (423, 424, 79)
end
section
/-! An abstract machine over the claim's own bytecode: ints are whole numbers, references are the numbers of the cells in the order in which they were made (0: the script). -/
abbrev am_V : Type := Int ⊕ Int64 ⊕ Option Nat
abbrev am_Ls : Type := List (Option am_V)
abbrev am_H : Type := List (Nat × Nat) × (Nat → Int → Option Nat) × (Nat → Int → Int) × (Nat → Int → Int64)
abbrev am_Re : Type := Option am_V × am_H
abbrev am_C : Type := Nat → List am_V → am_H → Option am_Re
abbrev am_Nx : Type := (Nat × am_Ls × List am_V × am_H) ⊕ am_Re ⊕ (Nat × List am_V × Nat × am_Ls × List am_V × am_H)
abbrev am_M : Type := MethodName × ByteArray × Nat × Option FieldType × Nat
def am_wr (x : Int) : Int := x.bmod 4294967296
def am_uI (I : Nat → Int → Int) (k : Nat) (j v : Int) : Nat → Int → Int := fun k' j' => if k' = k ∧ j' = j then v else I k' j'
def am_uL (L : Nat → Int → Int64) (k : Nat) (j : Int) (v : Int64) : Nat → Int → Int64 := fun k' j' => if k' = k ∧ j' = j then v else L k' j'
def am_uR (R : Nat → Int → Option Nat) (k : Nat) (j : Int) (v : Option Nat) : Nat → Int → Option Nat := fun k' j' => if k' = k ∧ j' = j then v else R k' j'
def am_zI (I : Nat → Int → Int) (k : Nat) : Nat → Int → Int := fun k' j' => if k' = k then 0 else I k' j'
def am_zL (L : Nat → Int → Int64) (k : Nat) : Nat → Int → Int64 := fun k' j' => if k' = k then 0 else L k' j'
def am_zR (R : Nat → Int → Option Nat) (k : Nat) : Nat → Int → Option Nat := fun k' j' => if k' = k then none else R k' j'
def am_c2 (v : am_V) : Bool := match v with
  | .inr (.inl _) => true
  | _ => false
def am_c1 (a : Option am_V) : Option am_V := match a with
  | some (.inr (.inl _)) => none
  | y => y
def am_get : am_Ls → Nat → Option am_V
  | [], _ => none
  | a :: _, 0 => a
  | _ :: r, n + 1 => am_get r n
def am_st1 : am_Ls → Nat → am_V → am_Ls
  | [], _, _ => []
  | _ :: r, 0, v => some v :: r
  | a :: r, 1, v => am_c1 a :: am_st1 r 0 v
  | a :: r, n + 2, v => a :: am_st1 r (n + 1) v
def am_st2 : am_Ls → Nat → am_V → am_Ls
  | [], _, _ => []
  | [_], 0, _ => []
  | _ :: _ :: r, 0, v => some v :: none :: r
  | a :: r, 1, v => am_c1 a :: am_st2 r 0 v
  | a :: r, n + 2, v => a :: am_st2 r (n + 1) v
/-- the locals with which a method begins -/
def am_ent : List am_V → am_Ls
  | [] => []
  | v :: r => if am_c2 v then some v :: none :: am_ent r else some v :: am_ent r
def am_split : Nat → List am_V → List am_V → Option (List am_V × List am_V)
  | 0, acc, st => some (acc, st)
  | n + 1, acc, v :: st => am_split n (v :: acc) st
  | _ + 1, _, [] => none
def am_cmp (k : Jvm.ClassFile.Cond) (a b : Int) : Bool := match k with
  | .eq => decide (a = b)
  | .ne => decide (a ≠ b)
  | .lt => decide (a < b)
  | .ge => decide (b ≤ a)
  | .gt => decide (b < a)
  | .le => decide (a ≤ b)
def am_lk {α : Type} : List (Nat × α) → Nat → Option α
  | [], _ => none
  | (a, b) :: r, k => if a = k then some b else am_lk r k
def am_key (o i : Nat) : Nat := if i < 1000 then o * 1000 + i else 99999999
def am_go (pc : Nat) (ls : am_Ls) (st : List am_V) (h : am_H) : Option am_Nx := some (.inl (pc, ls, st, h))
def am_jmp (pc : Nat) (off : Int) (c : Bool) (nx : Nat) (ls : am_Ls) (st : List am_V) (h : am_H) : Option am_Nx :=
  if 0 ≤ (pc : Int) + off then am_go (if c = true then ((pc : Int) + off).toNat else nx) ls st h else none
def am_load (k : Nat) (i : Nat) (nx : Nat) (ls : am_Ls) (st : List am_V) (h : am_H) : Option am_Nx := match k, am_get ls i with
  | 0, some (.inl a) => am_go nx ls (.inl a :: st) h
  | 1, some (.inr (.inl a)) => am_go nx ls (.inr (.inl a) :: st) h
  | 2, some (.inr (.inr (some a))) => am_go nx ls (.inr (.inr (some a)) :: st) h
  | _, _ => none
def am_store (k : Nat) (i : Nat) (nx : Nat) (ls : am_Ls) (st : List am_V) (h : am_H) : Option am_Nx := match k, st with
  | 0, .inl a :: r => if i < ls.length then am_go nx (am_st1 ls i (.inl a)) r h else none
  | 1, .inr (.inl a) :: r => if i + 1 < ls.length then am_go nx (am_st2 ls i (.inr (.inl a))) r h else none
  | 2, .inr (.inr (some a)) :: r => if i < ls.length then am_go nx (am_st1 ls i (.inr (.inr (some a)))) r h else none
  | _, _ => none
def am_bin (f : Int → Int → Int) (nx : Nat) (ls : am_Ls) (st : List am_V) (h : am_H) : Option am_Nx := match st with
  | .inl b :: .inl a :: r => am_go nx ls (.inl (f a b) :: r) h
  | _ => none
def am_binL (f : Int64 → Int64 → Int64) (nx : Nat) (ls : am_Ls) (st : List am_V) (h : am_H) : Option am_Nx := match st with
  | .inr (.inl b) :: .inr (.inl a) :: r => am_go nx ls (.inr (.inl (f a b)) :: r) h
  | _ => none
def am_in (S : List (Nat × Nat)) (k tag : Nat) (j : Int) : Prop := ∃ n : Nat, S[k]? = some (tag, n) ∧ 0 ≤ j ∧ j < n
def am_inb (S : List (Nat × Nat)) (k tag : Nat) (j : Int) : Bool := match S[k]? with
  | some (t, n) => t == tag && decide (0 ≤ j) && decide (j < n)
  | none => false
def am_ial (o : Nat) (nx : Nat) (ls : am_Ls) (st : List am_V) (h : am_H) : Option am_Nx := match st with
  | .inl j :: .inr (.inr (some k)) :: r => if am_inb h.1 k 0 j = true ∨ (k = 0 ∧ o = 10 ∧ am_inb h.1 0 9 j = true) then am_go nx ls (.inl (h.2.2.1 k j) :: r) h else none
  | _ => none
def am_bal (nx : Nat) (ls : am_Ls) (st : List am_V) (h : am_H) : Option am_Nx := match st with
  | .inl j :: .inr (.inr (some k)) :: r => if am_inb h.1 k 2 j = true then am_go nx ls (.inl (h.2.2.1 k j) :: r) h else none
  | _ => none
def am_lal (nx : Nat) (ls : am_Ls) (st : List am_V) (h : am_H) : Option am_Nx := match st with
  | .inl j :: .inr (.inr (some k)) :: r => if am_inb h.1 k 1 j = true then am_go nx ls (.inr (.inl (h.2.2.2 k j)) :: r) h else none
  | _ => none
def am_ias (nx : Nat) (ls : am_Ls) (st : List am_V) (h : am_H) : Option am_Nx := match st with
  | .inl v :: .inl j :: .inr (.inr (some k)) :: r => if am_inb h.1 k 0 j = true then am_go nx ls r (h.1, h.2.1, am_uI h.2.2.1 k j v, h.2.2.2) else none
  | _ => none
def am_bas (nx : Nat) (ls : am_Ls) (st : List am_V) (h : am_H) : Option am_Nx := match st with
  | .inl v :: .inl j :: .inr (.inr (some k)) :: r => if am_inb h.1 k 2 j = true ∧ (v = 0 ∨ v = 1) then am_go nx ls r (h.1, h.2.1, am_uI h.2.2.1 k j v, h.2.2.2) else none
  | _ => none
def am_las (nx : Nat) (ls : am_Ls) (st : List am_V) (h : am_H) : Option am_Nx := match st with
  | .inr (.inl v) :: .inl j :: .inr (.inr (some k)) :: r => if am_inb h.1 k 1 j = true then am_go nx ls r (h.1, h.2.1, h.2.2.1, am_uL h.2.2.2 k j v) else none
  | _ => none
def am_len (o : Nat) (nx : Nat) (ls : am_Ls) (st : List am_V) (h : am_H) : Option am_Nx := match st with
  | .inr (.inr (some k)) :: r => match h.1[k]? with
    | some (t, n) => if (t < 3 ∧ k ≠ 0 ∨ (t = 9 ∧ k = 0 ∧ o = 10)) ∧ n < 2147483648 then am_go nx ls (.inl (n : Int) :: r) h else none
    | none => none
  | _ => none
def am_ft (c k : Nat) : Nat := ((am_fts[c]?).getD [])[k]?.getD 9
def am_gf (o i : Nat) (nx : Nat) (ls : am_Ls) (st : List am_V) (h : am_H) : Option am_Nx := match am_lk am_fl (am_key o i), st with
  | some (c, f), .inr (.inr (some k)) :: r => if h.1[k]? = some (c + 3, 0) ∧ k ≠ 0 then (match am_ft c f with
    | 0 => am_go nx ls (.inl (h.2.2.1 k f) :: r) h
    | 1 => am_go nx ls (.inr (.inl (h.2.2.2 k f)) :: r) h
    | 2 => am_go nx ls (.inr (.inr (h.2.1 k f)) :: r) h
    | _ => none) else none
  | _, _ => none
def am_pf (init : Bool) (o i : Nat) (nx : Nat) (ls : am_Ls) (st : List am_V) (h : am_H) : Option am_Nx := match am_lk am_fl (am_key o i), st with
  | some (c, f), v :: .inr (.inr (some k)) :: r => if h.1[k]? = some (c + 3, 0) ∧ k ≠ 0 then (match am_ft c f, v with
    | 0, .inl a => am_go nx ls r (h.1, h.2.1, am_uI h.2.2.1 k f a, h.2.2.2)
    | 1, .inr (.inl a) => am_go nx ls r (h.1, h.2.1, h.2.2.1, am_uL h.2.2.2 k f a)
    | 2, .inr (.inr (some a)) => if init = true ∧ c = o ∧ a ≠ 0 then am_go nx ls r (h.1, am_uR h.2.1 k f (some a), h.2.2.1, h.2.2.2) else none
    | _, _ => none) else none
  | _, _ => none
def am_new (o i : Nat) (nx : Nat) (ls : am_Ls) (st : List am_V) (h : am_H) : Option am_Nx := match am_lk am_ck (am_key o i) with
  | some c => am_go nx ls (.inr (.inr (some h.1.length)) :: st) (h.1 ++ [(c + 3, 0)], am_zR h.2.1 h.1.length, am_zI h.2.2.1 h.1.length, am_zL h.2.2.2 h.1.length)
  | none => none
def am_newa (a : ArrayType) (nx : Nat) (ls : am_Ls) (st : List am_V) (h : am_H) : Option am_Nx := match a, st with
  | .int, .inl n :: r => if 0 ≤ n ∧ n ≤ 10000 then am_go nx ls (.inr (.inr (some h.1.length)) :: r) (h.1 ++ [(0, n.toNat)], am_zR h.2.1 h.1.length, am_zI h.2.2.1 h.1.length, am_zL h.2.2.2 h.1.length) else none
  | .long, .inl n :: r => if 0 ≤ n ∧ n ≤ 10000 then am_go nx ls (.inr (.inr (some h.1.length)) :: r) (h.1 ++ [(1, n.toNat)], am_zR h.2.1 h.1.length, am_zI h.2.2.1 h.1.length, am_zL h.2.2.2 h.1.length) else none
  | .boolean, .inl n :: r => if 0 ≤ n ∧ n ≤ 10000 then am_go nx ls (.inr (.inr (some h.1.length)) :: r) (h.1 ++ [(2, n.toNat)], am_zR h.2.1 h.1.length, am_zI h.2.2.1 h.1.length, am_zL h.2.2.2 h.1.length) else none
  | _, _ => none
def am_words (st : List am_V) : Nat := (st.map (fun v => if am_c2 v = true then 2 else 1)).sum
def am_inv (kd o i : Nat) (nx : Nat) (ls : am_Ls) (st : List am_V) (h : am_H) : Option am_Nx := match am_lk am_mk (am_key o i) with
  | some (k, j, n) => match kd, k, am_split n [] st with
    | 0, 0, some (as, .inr (.inr (some a)) :: r) => (match am_ml[j]? with
      | some m => if h.1[a]? = some (m.2.2.2.2 + 3, 0) ∧ a ≠ 0 ∧ am_words r ≤ 8 then some (.inr (.inr (j, .inr (.inr (some a)) :: as, nx, ls, r, h))) else none
      | none => none)
    | 1, 1, some (as, r) => if am_words r ≤ 8 then some (.inr (.inr (j, as, nx, ls, r, h))) else none
    | 1, 5, some ([.inl a, .inl b], r) => if am_words r ≤ 8 then am_go nx ls (.inl (if a < b then b else a) :: r) h else none
    | 2, 2, some (as, .inr (.inr (some a)) :: r) => if am_words r ≤ 8 then some (.inr (.inr (j, .inr (.inr (some a)) :: as, nx, ls, r, h))) else none
    | 2, 3, some (as, .inr (.inr (some a)) :: r) => if am_words r ≤ 8 then some (.inr (.inr (j, .inr (.inr (some a)) :: as, nx, ls, r, h))) else none
    | 2, 4, some (_, .inr (.inr (some _)) :: r) => if am_words r ≤ 8 then am_go nx ls r h else none
    | _, _, _ => none
  | none => none
def am_sw (lo hi dflt : Int) (offs : Array Int) (a : Int) : Option Int := if a < lo ∨ hi < a then some dflt else offs[(a - lo).toNat]?
def am_ret (rt : Option FieldType) (st : List am_V) (h : am_H) : Option am_Nx := match rt, st with
  | some .int, [.inl a] => some (.inr (.inl (some (.inl a), h)))
  | some .boolean, [.inl a] => if a = 0 ∨ a = 1 then some (.inr (.inl (some (.inl a), h))) else none
  | _, _ => none
def am_next (m : am_M) (i : Instr) (n pc : Nat) (ls : am_Ls) (st : List am_V) (h : am_H) : Option am_Nx := match i with
  | .iconst a => am_go (pc + n) ls (.inl (am_wr a) :: st) h
  | .bipush a => am_go (pc + n) ls (.inl (Int8.ofInt a).toInt :: st) h
  | .sipush a => am_go (pc + n) ls (.inl (Int16.ofInt a).toInt :: st) h
  | .lconst a => am_go (pc + n) ls (.inr (.inl (Int64.ofNat a)) :: st) h
  | .ldc a => match am_lk am_kk (am_key m.2.2.2.2 a) with
    | some v => am_go (pc + n) ls (.inl v :: st) h
    | none => none
  | .iload_n a => am_load 0 a (pc + n) ls st h
  | .iload a => am_load 0 a (pc + n) ls st h
  | .lload_n a => am_load 1 a (pc + n) ls st h
  | .lload a => am_load 1 a (pc + n) ls st h
  | .aload_n a => am_load 2 a (pc + n) ls st h
  | .aload a => am_load 2 a (pc + n) ls st h
  | .istore_n a => am_store 0 a (pc + n) ls st h
  | .istore a => am_store 0 a (pc + n) ls st h
  | .lstore_n a => am_store 1 a (pc + n) ls st h
  | .lstore a => am_store 1 a (pc + n) ls st h
  | .astore_n a => am_store 2 a (pc + n) ls st h
  | .astore a => am_store 2 a (pc + n) ls st h
  | .iinc a v => match am_get ls a with
    | some (.inl x) => if a < ls.length then am_go (pc + n) (am_st1 ls a (.inl (am_wr (x + v)))) st h else none
    | _ => none
  | .iadd => am_bin (fun a b => am_wr (a + b)) (pc + n) ls st h
  | .isub => am_bin (fun a b => am_wr (a - b)) (pc + n) ls st h
  | .imul => am_bin (fun a b => am_wr (a * b)) (pc + n) ls st h
  | .iand => am_bin (fun a b => (Int32.ofInt a &&& Int32.ofInt b).toInt) (pc + n) ls st h
  | .ior => am_bin (fun a b => (Int32.ofInt a ||| Int32.ofInt b).toInt) (pc + n) ls st h
  | .ishl => am_bin (fun a b => (Int32.ofInt a <<< (Int32.ofInt b &&& 31)).toInt) (pc + n) ls st h
  | .ishr => am_bin (fun a b => (Int32.ofInt a >>> (Int32.ofInt b &&& 31)).toInt) (pc + n) ls st h
  | .ladd => am_binL (fun a b => a + b) (pc + n) ls st h
  | .lsub => am_binL (fun a b => a - b) (pc + n) ls st h
  | .lmul => am_binL (fun a b => a * b) (pc + n) ls st h
  | .ldiv => match st with
    | .inr (.inl b) :: .inr (.inl a) :: r => if b = 0 then none else am_go (pc + n) ls (.inr (.inl (a / b)) :: r) h
    | _ => none
  | .lcmp => match st with
    | .inr (.inl b) :: .inr (.inl a) :: r => am_go (pc + n) ls (.inl (lg_cmp a b).toInt :: r) h
    | _ => none
  | .i2l => match st with
    | .inl a :: r => am_go (pc + n) ls (.inr (.inl (Int32.ofInt a).toInt64) :: r) h
    | _ => none
  | .dup => match st with
    | a :: r => if am_c2 a = true then none else am_go (pc + n) ls (a :: a :: r) h
    | _ => none
  | .pop => match st with
    | a :: r => if am_c2 a = true then none else am_go (pc + n) ls r h
    | _ => none
  | .dup_x1 => match st with
    | a :: b :: r => if am_c2 a = true ∨ am_c2 b = true then none else am_go (pc + n) ls (a :: b :: a :: r) h
    | _ => none
  | .dup2 => match st with
    | a :: b :: r => if am_c2 a = true ∨ am_c2 b = true then none else am_go (pc + n) ls (a :: b :: a :: b :: r) h
    | _ => none
  | .ifCond k off => match st with
    | .inl a :: r => am_jmp pc off (am_cmp k a 0) (pc + n) ls r h
    | _ => none
  | .if_icmp k off => match st with
    | .inl b :: .inl a :: r => am_jmp pc off (am_cmp k a b) (pc + n) ls r h
    | _ => none
  | .goto off => am_jmp pc off true (pc + n) ls st h
  | .tableswitch d lo hi offs => match st with
    | .inl a :: r => match am_sw lo hi d offs a with
      | some off => am_jmp pc off true (pc + n) ls r h
      | none => none
    | _ => none
  | .lookupswitch d ps => match st with
    | .inl a :: r => if (ps.toList.zip (ps.toList.drop 1)).all (fun (a, next) => a.1 < next.1) = true then am_jmp pc (Op.lookupswitch.offset ps.toList d a) true (pc + n) ls r h else none
    | _ => none
  | .arraylength => am_len m.2.2.2.2 (pc + n) ls st h
  | .iaload => am_ial m.2.2.2.2 (pc + n) ls st h
  | .baload => am_bal (pc + n) ls st h
  | .laload => am_lal (pc + n) ls st h
  | .iastore => am_ias (pc + n) ls st h
  | .bastore => am_bas (pc + n) ls st h
  | .lastore => am_las (pc + n) ls st h
  | .getfield a => am_gf m.2.2.2.2 a (pc + n) ls st h
  | .putfield a => am_pf (m.1.name == "<init>") m.2.2.2.2 a (pc + n) ls st h
  | .new a => am_new m.2.2.2.2 a (pc + n) ls st h
  | .newarray a => am_newa a (pc + n) ls st h
  | .invokevirtual a => am_inv 0 m.2.2.2.2 a (pc + n) ls st h
  | .invokestatic a => am_inv 1 m.2.2.2.2 a (pc + n) ls st h
  | .invokespecial a => am_inv 2 m.2.2.2.2 a (pc + n) ls st h
  | .ireturn => am_ret m.2.2.2.1 st h
  | .lreturn => match m.2.2.2.1, st with
    | some .long, [.inr (.inl a)] => some (.inr (.inl (some (.inr (.inl a)), h)))
    | _, _ => none
  | .return_ => match m.2.2.2.1, st with
    | none, [] => some (.inr (.inl (none, h)))
    | _, _ => none
  | _ => none
/-- the lengths that the rows of the kit speak of -/
def am_lok (i : Instr) (n : Nat) : Bool := match i with
  | .iload _ | .lload _ | .aload _ | .istore _ | .lstore _ | .astore _ | .bipush _ | .ldc _ | .newarray _ => n == 2
  | .sipush _ | .getfield _ | .putfield _ | .new _ | .invokevirtual _ | .invokestatic _ | .invokespecial _ | .ifCond _ _ | .if_icmp _ _ | .goto _ | .iinc _ _ => n == 3
  | .tableswitch _ _ _ _ | .lookupswitch _ _ => true
  | _ => n == 1
def am_code (j pc : Nat) : Option (Instr × Nat) := match am_ml[j]? with
  | some m => (match decode m.2.1 pc with
    | .ok (i, n) => if am_lok i n = true then some (i, n) else none
    | .error _ => none)
  | none => none
def am_one (j pc : Nat) (ls : am_Ls) (st : List am_V) (h : am_H) : Option am_Nx := match am_ml[j]?, am_code j pc with
  | some m, some (i, n) => am_next m i n pc ls st h
  | _, _ => none
/-- behind one instruction: how it goes on, with a way to go on -/
def am_cont (cl : am_C) (go : Nat → am_Ls → List am_V → am_H → Option am_Re) (x : Option am_Nx) : Option am_Re := match x with
  | none => none
  | some (.inl (pc, ls, st, h)) => go pc ls st h
  | some (.inr (.inl r)) => some r
  | some (.inr (.inr (j, as, pc, ls, r, h))) => match cl j as h with
    | none => none
    | some (v, h') => go pc ls (v.toList ++ r) h'
def am_run (cl : am_C) (j : Nat) : Nat → Nat → am_Ls → List am_V → am_H → Option am_Re
  | 0, _, _, _, _ => none
  | n + 1, pc, ls, st, h => am_cont cl (am_run cl j n) (am_one j pc ls st h)
theorem am_cont_mono {cl : am_C} {g1 g2 : Nat → am_Ls → List am_V → am_H → Option am_Re} (hg : ∀ pc ls st h r, g1 pc ls st h = some r → g2 pc ls st h = some r) {x : Option am_Nx} {r : am_Re} (h : am_cont cl g1 x = some r) : am_cont cl g2 x = some r := by
  unfold am_cont at h ⊢
  split at h
  · cases h
  · exact hg _ _ _ _ _ h
  · exact h
  · split at h
    · cases h
    · exact hg _ _ _ _ _ h
theorem am_run_succ {cl : am_C} {j : Nat} : ∀ (n pc : Nat) (ls : am_Ls) (st : List am_V) (h : am_H) (r : am_Re), am_run cl j n pc ls st h = some r → am_run cl j (n + 1) pc ls st h = some r := by
  intro n
  induction n with
  | zero => intro pc ls st h r q; cases q
  | succ n ih => intro pc ls st h r q; exact am_cont_mono ih q
theorem am_run_le {cl : am_C} {j n k : Nat} (hk : n ≤ k) {pc : Nat} {ls : am_Ls} {st : List am_V} {h : am_H} {r : am_Re} (q : am_run cl j n pc ls st h = some r) : am_run cl j k pc ls st h = some r := by
  induction hk with
  | refl => exact q
  | step _ ih => exact am_run_succ _ _ _ _ _ _ ih
/-- the run of a method from a place on, without a count of its steps -/
noncomputable def am_go0 (cl : am_C) (j pc : Nat) (ls : am_Ls) (st : List am_V) (h : am_H) : Option am_Re :=
  @dite _ (∃ (n : Nat) (r : am_Re), am_run cl j n pc ls st h = some r) (Classical.propDecidable _) (fun q => some (Classical.choose (Classical.choose_spec q))) (fun _ => none)
theorem am_go0_iff {cl : am_C} {j pc : Nat} {ls : am_Ls} {st : List am_V} {h : am_H} {r : am_Re} : am_go0 cl j pc ls st h = some r ↔ ∃ n, am_run cl j n pc ls st h = some r := by
  unfold am_go0
  constructor
  · intro q
    split at q
    · next w =>
      have w2 := Classical.choose_spec (Classical.choose_spec w)
      cases q
      exact ⟨_, w2⟩
    · cases q
  · intro ⟨n, q⟩
    have w : ∃ (n : Nat) (r : am_Re), am_run cl j n pc ls st h = some r := ⟨n, r, q⟩
    rw [dif_pos w]
    have w2 := Classical.choose_spec (Classical.choose_spec w)
    have a := am_run_le (Nat.le_max_left n (Classical.choose w)) q
    have b := am_run_le (Nat.le_max_right n (Classical.choose w)) w2
    exact b.symm.trans a
theorem am_go0_eq (cl : am_C) (j pc : Nat) (ls : am_Ls) (st : List am_V) (h : am_H) : am_go0 cl j pc ls st h = am_cont cl (am_go0 cl j) (am_one j pc ls st h) := by
  have key : ∀ r, am_go0 cl j pc ls st h = some r ↔ am_cont cl (am_go0 cl j) (am_one j pc ls st h) = some r := by
    intro r
    rw [am_go0_iff]
    constructor
    · intro ⟨n, q⟩
      cases n with
      | zero => cases q
      | succ n => exact am_cont_mono (fun pc ls st h r w => am_go0_iff.mpr ⟨n, w⟩) q
    · intro q
      have hx : ∃ n, am_cont cl (am_run cl j n) (am_one j pc ls st h) = some r := by
        generalize am_one j pc ls st h = z at q
        unfold am_cont at q ⊢
        split at q
        · cases q
        · exact am_go0_iff.mp q
        · exact ⟨0, q⟩
        · split at q
          · cases q
          · exact am_go0_iff.mp q
      obtain ⟨n, q⟩ := hx
      exact ⟨n + 1, q⟩
  cases hL : am_go0 cl j pc ls st h with
  | some r => exact ((key r).mp hL).symm
  | none =>
    cases hR : am_cont cl (am_go0 cl j) (am_one j pc ls st h) with
    | none => rfl
    | some r => rw [(key r).mpr hR] at hL; cases hL
def am_pad (n : Nat) (l : am_Ls) : am_Ls := l ++ List.replicate (n - l.length) none
noncomputable def am_call : Nat → am_C
  | 0 => fun _ _ _ => none
  | d + 1 => fun j as h => match am_ml[j]? with
    | some m => if (am_ent as).length ≤ m.2.2.1 then am_go0 (am_call d) j 0 (am_pad m.2.2.1 (am_ent as)) [] h else none
    | none => none
end
section
/-! How a run goes on at one instruction: equations, for rows that a program writes. -/
theorem am_r {cl : am_C} {j pc : Nat} {m : am_M} {i : Instr} {n : Nat} {ls ls' : am_Ls} {st st' : List am_V} {h h' : am_H} {pc' : Nat} (hm : am_ml[j]? = some m) (hd : am_code j pc = some (i, n)) (hx : am_next m i n pc ls st h = some (.inl (pc', ls', st', h'))) : am_go0 cl j pc ls st h = am_go0 cl j pc' ls' st' h' := by
  rw [am_go0_eq, am_one, hm, hd]
  simp only [hx, am_cont]
theorem am_rE {cl : am_C} {j pc : Nat} {m : am_M} {i : Instr} {n : Nat} {ls : am_Ls} {st : List am_V} {h : am_H} {r : am_Re} (hm : am_ml[j]? = some m) (hd : am_code j pc = some (i, n)) (hx : am_next m i n pc ls st h = some (.inr (.inl r))) : am_go0 cl j pc ls st h = some r := by
  rw [am_go0_eq, am_one, hm, hd]
  simp only [hx, am_cont]
def am_bd (x : Option am_Re) (f : Option am_V → am_H → Option am_Re) : Option am_Re := match x with
  | none => none
  | some (v, h) => f v h
theorem am_bd_s (v : Option am_V) (h : am_H) (f : Option am_V → am_H → Option am_Re) : am_bd (some (v, h)) f = f v h := rfl
theorem am_rC {cl : am_C} {j pc : Nat} {m : am_M} {i : Instr} {n : Nat} {ls : am_Ls} {st : List am_V} {h : am_H} {j2 pc2 : Nat} {as r : List am_V} {ls2 : am_Ls} {h2 : am_H} (hm : am_ml[j]? = some m) (hd : am_code j pc = some (i, n)) (hx : am_next m i n pc ls st h = some (.inr (.inr (j2, as, pc2, ls2, r, h2)))) : am_go0 cl j pc ls st h = am_bd (cl j2 as h2) (fun v h' => am_go0 cl j pc2 ls2 (v.toList ++ r) h') := by
  rw [am_go0_eq, am_one, hm, hd]
  simp only [hx, am_cont]
  unfold am_bd
  split <;> simp_all
theorem am_rJ {cl : am_C} {j pc : Nat} {m : am_M} {i : Instr} {n : Nat} {ls ls' : am_Ls} {st st' : List am_V} {h h' : am_H} {P : Prop} [Decidable P] {t1 t2 : Nat} (hm : am_ml[j]? = some m) (hd : am_code j pc = some (i, n)) (hx : am_next m i n pc ls st h = some (.inl (if decide P = true then t1 else t2, ls', st', h'))) : am_go0 cl j pc ls st h = if P then am_go0 cl j t1 ls' st' h' else am_go0 cl j t2 ls' st' h' := by
  rw [am_r hm hd hx]
  by_cases q : P <;> simp [q]
/-- a step that asks for a condition -/
theorem am_rI {cl : am_C} {j pc : Nat} {m : am_M} {i : Instr} {n : Nat} {ls ls' : am_Ls} {st st' : List am_V} {h h' : am_H} {P : Prop} [Decidable P] {t1 : Nat} (hm : am_ml[j]? = some m) (hd : am_code j pc = some (i, n)) (hx : am_next m i n pc ls st h = if P then some (.inl (t1, ls', st', h')) else none) : am_go0 cl j pc ls st h = if P then am_go0 cl j t1 ls' st' h' else none := by
  rw [am_go0_eq, am_one, hm, hd]
  simp only [hx]
  by_cases q : P <;> simp [q, am_cont]
theorem am_inb_iff {S : List (Nat × Nat)} {k tag n : Nat} (h : S[k]? = some (tag, n)) (j : Int) : am_inb S k tag j = true ↔ 0 ≤ j ∧ j < n := by
  simp [am_inb, h]
theorem am_rA {cl : am_C} {j pc nx : Nat} {m : am_M} (hm : am_ml[j]? = some m) (hd : am_code j pc = some (.iaload, 1)) (ho : m.2.2.2.2 ≠ 10) (hn : pc + 1 = nx) (k : Nat) (ls : am_Ls) (r : List am_V) (i : Int) (S : List (Nat × Nat)) (R : Nat → Int → Option Nat) (I : Nat → Int → Int) (L : Nat → Int → Int64) : am_go0 cl j pc ls (.inl i :: .inr (.inr (some k)) :: r) (S, R, I, L) = if am_inb S k 0 i = true then am_go0 cl j nx ls (.inl (I k i) :: r) (S, R, I, L) else none := by
  subst hn
  refine am_rI hm hd ?_
  simp [am_next, am_ial, ho, am_go]
theorem am_rAb {cl : am_C} {j pc nx : Nat} {m : am_M} (hm : am_ml[j]? = some m) (hd : am_code j pc = some (.baload, 1)) (hn : pc + 1 = nx) (k : Nat) (ls : am_Ls) (r : List am_V) (i : Int) (S : List (Nat × Nat)) (R : Nat → Int → Option Nat) (I : Nat → Int → Int) (L : Nat → Int → Int64) : am_go0 cl j pc ls (.inl i :: .inr (.inr (some k)) :: r) (S, R, I, L) = if am_inb S k 2 i = true then am_go0 cl j nx ls (.inl (I k i) :: r) (S, R, I, L) else none := by
  subst hn
  exact am_rI hm hd rfl
theorem am_rAl {cl : am_C} {j pc nx : Nat} {m : am_M} (hm : am_ml[j]? = some m) (hd : am_code j pc = some (.laload, 1)) (hn : pc + 1 = nx) (k : Nat) (ls : am_Ls) (r : List am_V) (i : Int) (S : List (Nat × Nat)) (R : Nat → Int → Option Nat) (I : Nat → Int → Int) (L : Nat → Int → Int64) : am_go0 cl j pc ls (.inl i :: .inr (.inr (some k)) :: r) (S, R, I, L) = if am_inb S k 1 i = true then am_go0 cl j nx ls (.inr (.inl (L k i)) :: r) (S, R, I, L) else none := by
  subst hn
  exact am_rI hm hd rfl
theorem am_rS {cl : am_C} {j pc nx : Nat} {m : am_M} (hm : am_ml[j]? = some m) (hd : am_code j pc = some (.iastore, 1)) (hn : pc + 1 = nx) (k : Nat) (ls : am_Ls) (r : List am_V) (i v : Int) (S : List (Nat × Nat)) (R : Nat → Int → Option Nat) (I : Nat → Int → Int) (L : Nat → Int → Int64) : am_go0 cl j pc ls (.inl v :: .inl i :: .inr (.inr (some k)) :: r) (S, R, I, L) = if am_inb S k 0 i = true then am_go0 cl j nx ls r (S, R, am_uI I k i v, L) else none := by
  subst hn
  exact am_rI hm hd rfl
theorem am_rSb {cl : am_C} {j pc nx : Nat} {m : am_M} (hm : am_ml[j]? = some m) (hd : am_code j pc = some (.bastore, 1)) (hn : pc + 1 = nx) (k : Nat) (ls : am_Ls) (r : List am_V) (i v : Int) (S : List (Nat × Nat)) (R : Nat → Int → Option Nat) (I : Nat → Int → Int) (L : Nat → Int → Int64) : am_go0 cl j pc ls (.inl v :: .inl i :: .inr (.inr (some k)) :: r) (S, R, I, L) = if am_inb S k 2 i = true ∧ (v = 0 ∨ v = 1) then am_go0 cl j nx ls r (S, R, am_uI I k i v, L) else none := by
  subst hn
  exact am_rI hm hd rfl
theorem am_rSl {cl : am_C} {j pc nx : Nat} {m : am_M} (hm : am_ml[j]? = some m) (hd : am_code j pc = some (.lastore, 1)) (hn : pc + 1 = nx) (k : Nat) (ls : am_Ls) (r : List am_V) (i : Int) (v : Int64) (S : List (Nat × Nat)) (R : Nat → Int → Option Nat) (I : Nat → Int → Int) (L : Nat → Int → Int64) : am_go0 cl j pc ls (.inr (.inl v) :: .inl i :: .inr (.inr (some k)) :: r) (S, R, I, L) = if am_inb S k 1 i = true then am_go0 cl j nx ls r (S, R, I, am_uL L k i v) else none := by
  subst hn
  exact am_rI hm hd rfl
theorem am_rJ0 {cl : am_C} {j pc t n nx : Nat} {m : am_M} {k : Jvm.ClassFile.Cond} {off : Int} (hm : am_ml[j]? = some m) (hd : am_code j pc = some (.if_icmp k off, n)) (ht : (pc : Int) + off = (t : Int)) (hn : pc + n = nx) (a b : Int) (ls : am_Ls) (r : List am_V) (h : am_H) : am_go0 cl j pc ls (.inl b :: .inl a :: r) h = if am_cmp k a b = true then am_go0 cl j t ls r h else am_go0 cl j nx ls r h := by
  subst hn
  have hx : am_next m (.if_icmp k off) n pc ls (.inl b :: .inl a :: r) h = some (.inl (if am_cmp k a b = true then t else pc + n, ls, r, h)) := by
    simp only [am_next, am_jmp, ht, am_go]
    simp
  rw [am_r hm hd hx]
  by_cases q : am_cmp k a b = true <;> simp [q]
theorem am_rJ1 {cl : am_C} {j pc t n nx : Nat} {m : am_M} {k : Jvm.ClassFile.Cond} {off : Int} (hm : am_ml[j]? = some m) (hd : am_code j pc = some (.ifCond k off, n)) (ht : (pc : Int) + off = (t : Int)) (hn : pc + n = nx) (a : Int) (ls : am_Ls) (r : List am_V) (h : am_H) : am_go0 cl j pc ls (.inl a :: r) h = if am_cmp k a 0 = true then am_go0 cl j t ls r h else am_go0 cl j nx ls r h := by
  subst hn
  have hx : am_next m (.ifCond k off) n pc ls (.inl a :: r) h = some (.inl (if am_cmp k a 0 = true then t else pc + n, ls, r, h)) := by
    simp only [am_next, am_jmp, ht, am_go]
    simp
  rw [am_r hm hd hx]
  by_cases q : am_cmp k a 0 = true <;> simp [q]
theorem am_cmp_eq (a b : Int) : (am_cmp .eq a b = true) ↔ a = b := by simp [am_cmp]
theorem am_cmp_ne (a b : Int) : (am_cmp .ne a b = true) ↔ a ≠ b := by simp [am_cmp]
theorem am_cmp_lt (a b : Int) : (am_cmp .lt a b = true) ↔ a < b := by simp [am_cmp]
theorem am_cmp_ge (a b : Int) : (am_cmp .ge a b = true) ↔ b ≤ a := by simp [am_cmp]
theorem am_cmp_gt (a b : Int) : (am_cmp .gt a b = true) ↔ b < a := by simp [am_cmp]
theorem am_cmp_le (a b : Int) : (am_cmp .le a b = true) ↔ a ≤ b := by simp [am_cmp]
theorem am_ifT {α : Type} {P Q : Prop} [Decidable P] [Decidable Q] (h : P ↔ Q) (a b : α) : (if P then a else b) = if Q then a else b := by
  by_cases q : Q
  · rw [if_pos q, if_pos (h.mpr q)]
  · rw [if_neg q, if_neg (fun w => q (h.mp w))]
theorem am_ifF {α : Type} {P Q : Prop} [Decidable P] [Decidable Q] (h : P ↔ ¬ Q) (a b : α) : (if P then a else b) = if Q then b else a := by
  by_cases q : Q
  · rw [if_pos q, if_neg (fun w => h.mp w q)]
  · rw [if_neg q, if_pos (h.mpr q)]
theorem am_rGo {cl : am_C} {j pc t n : Nat} {m : am_M} {off : Int} (hm : am_ml[j]? = some m) (hd : am_code j pc = some (.goto off, n)) (ht : (pc : Int) + off = (t : Int)) (ls : am_Ls) (r : List am_V) (h : am_H) : am_go0 cl j pc ls r h = am_go0 cl j t ls r h := by
  refine am_r hm hd ?_
  simp only [am_next, am_jmp, ht, am_go]
  simp
theorem am_rTs {cl : am_C} {j pc t n : Nat} {m : am_M} {d lo hi : Int} {offs : Array Int} (off : Int) {a : Int} (hm : am_ml[j]? = some m) (hd : am_code j pc = some (.tableswitch d lo hi offs, n)) (hs : am_sw lo hi d offs a = some off) (ht : (pc : Int) + off = (t : Int)) (ls : am_Ls) (r : List am_V) (h : am_H) : am_go0 cl j pc ls (.inl a :: r) h = am_go0 cl j t ls r h := by
  refine am_r hm hd ?_
  simp only [am_next, hs, am_jmp, ht, am_go]
  simp
theorem am_sw_out {lo hi d : Int} {offs : Array Int} {a : Int} (h : a < lo ∨ hi < a) : am_sw lo hi d offs a = some d := by simp [am_sw, h]
theorem am_rLs {cl : am_C} {j pc t n : Nat} {m : am_M} {d : Int} {ps : Array (Int × Int)} {a : Int} (hm : am_ml[j]? = some m) (hd : am_code j pc = some (.lookupswitch d ps, n)) (hs : (ps.toList.zip (ps.toList.drop 1)).all (fun (a, next) => a.1 < next.1) = true) (ht : (pc : Int) + Op.lookupswitch.offset ps.toList d a = (t : Int)) (ls : am_Ls) (r : List am_V) (h : am_H) : am_go0 cl j pc ls (.inl a :: r) h = am_go0 cl j t ls r h := by
  refine am_r hm hd ?_
  simp only [am_next, hs, am_jmp, ht, am_go]
  simp
theorem am_rB {cl : am_C} {j pc n nx : Nat} {m : am_M} {a v : Int} (hm : am_ml[j]? = some m) (hd : am_code j pc = some (.bipush a, n)) (hv : (Int8.ofInt a).toInt = v) (hn : pc + n = nx) (ls : am_Ls) (r : List am_V) (h : am_H) : am_go0 cl j pc ls r h = am_go0 cl j nx ls (.inl v :: r) h := by
  subst hn; subst hv
  exact am_r hm hd rfl
theorem am_rBs {cl : am_C} {j pc n nx : Nat} {m : am_M} {a v : Int} (hm : am_ml[j]? = some m) (hd : am_code j pc = some (.sipush a, n)) (hv : (Int16.ofInt a).toInt = v) (hn : pc + n = nx) (ls : am_Ls) (r : List am_V) (h : am_H) : am_go0 cl j pc ls r h = am_go0 cl j nx ls (.inl v :: r) h := by
  subst hn; subst hv
  exact am_r hm hd rfl
theorem am_rK {cl : am_C} {j pc n nx : Nat} {m : am_M} {a v : Int} (hm : am_ml[j]? = some m) (hd : am_code j pc = some (.iconst a, n)) (hv : am_wr a = v) (hn : pc + n = nx) (ls : am_Ls) (r : List am_V) (h : am_H) : am_go0 cl j pc ls r h = am_go0 cl j nx ls (.inl v :: r) h := by
  subst hn; subst hv
  exact am_r hm hd rfl
theorem am_rKc {cl : am_C} {j pc n nx a : Nat} {m : am_M} {v : Int} (hm : am_ml[j]? = some m) (hd : am_code j pc = some (.ldc a, n)) (hv : am_lk am_kk (am_key m.2.2.2.2 a) = some v) (hn : pc + n = nx) (ls : am_Ls) (r : List am_V) (h : am_H) : am_go0 cl j pc ls r h = am_go0 cl j nx ls (.inl v :: r) h := by
  subst hn
  refine am_r hm hd ?_
  simp only [am_next, hv, am_go]
theorem am_rRz {cl : am_C} {j pc n : Nat} {y : MethodName} {c : ByteArray} {ml o : Nat} (hm : am_ml[j]? = some (y, c, ml, some .boolean, o)) (hd : am_code j pc = some (.ireturn, n)) (a : Int) (ls : am_Ls) (h : am_H) : am_go0 cl j pc ls [.inl a] h = if a = 0 ∨ a = 1 then some (some (.inl a), h) else none := by
  rw [am_go0_eq, am_one, hm, hd]
  simp only [am_next, am_ret]
  by_cases q : a = 0 ∨ a = 1
  · rw [if_pos q, if_pos q]; rfl
  · rw [if_neg q, if_neg q]; rfl
theorem am_rV {cl : am_C} {j pc n i j2 na nx a : Nat} {m m2 : am_M} {as r : List am_V} {S : List (Nat × Nat)} {R : Nat → Int → Option Nat} {I : Nat → Int → Int} {L : Nat → Int → Int64} {st : List am_V} (hm : am_ml[j]? = some m) (hd : am_code j pc = some (.invokevirtual i, n)) (hk : am_lk am_mk (am_key m.2.2.2.2 i) = some (0, j2, na)) (hs : am_split na [] st = some (as, .inr (.inr (some a)) :: r)) (hm2 : am_ml[j2]? = some m2) (hS : S[a]? = some (m2.2.2.2.2 + 3, 0)) (ha : a ≠ 0) (hw : am_words r ≤ 8) (hn : pc + n = nx) (ls : am_Ls) : am_go0 cl j pc ls st (S, R, I, L) = am_bd (cl j2 (.inr (.inr (some a)) :: as) (S, R, I, L)) (fun v h' => am_go0 cl j nx ls (v.toList ++ r) h') := by
  subst hn
  refine am_rC hm hd ?_
  simp only [am_next, am_inv, hk, hs, hm2, hS]
  simp [ha, hw]
theorem am_rVs {cl : am_C} {j pc n i j2 na nx : Nat} {m : am_M} {as r : List am_V} {h : am_H} {st : List am_V} (hm : am_ml[j]? = some m) (hd : am_code j pc = some (.invokestatic i, n)) (hk : am_lk am_mk (am_key m.2.2.2.2 i) = some (1, j2, na)) (hs : am_split na [] st = some (as, r)) (hw : am_words r ≤ 8) (hn : pc + n = nx) (ls : am_Ls) : am_go0 cl j pc ls st h = am_bd (cl j2 as h) (fun v h' => am_go0 cl j nx ls (v.toList ++ r) h') := by
  subst hn
  refine am_rC hm hd ?_
  simp only [am_next, am_inv, hk, hs]
  simp [hw]
theorem am_rG0 {cl : am_C} {j pc nx k i c f : Nat} {m : am_M} {ls : am_Ls} {r : List am_V} {S : List (Nat × Nat)} {R : Nat → Int → Option Nat} {I : Nat → Int → Int} {L : Nat → Int → Int64} (hm : am_ml[j]? = some m) (hd : am_code j pc = some (.getfield i, 3)) (hf : am_lk am_fl (am_key m.2.2.2.2 i) = some (c, f)) (ht : am_ft c f = 0) (hS : S[k]? = some (c + 3, 0)) (hk : k ≠ 0) (hn : pc + 3 = nx) : am_go0 cl j pc ls (.inr (.inr (some k)) :: r) (S, R, I, L) = am_go0 cl j nx ls (.inl (I k f) :: r) (S, R, I, L) := by
  subst hn
  refine am_r hm hd ?_
  simp only [am_next, am_gf, hf, hS, hk, ht, am_go]
  simp [hk]
theorem am_rG1 {cl : am_C} {j pc nx k i c f : Nat} {m : am_M} {ls : am_Ls} {r : List am_V} {S : List (Nat × Nat)} {R : Nat → Int → Option Nat} {I : Nat → Int → Int} {L : Nat → Int → Int64} (hm : am_ml[j]? = some m) (hd : am_code j pc = some (.getfield i, 3)) (hf : am_lk am_fl (am_key m.2.2.2.2 i) = some (c, f)) (ht : am_ft c f = 1) (hS : S[k]? = some (c + 3, 0)) (hk : k ≠ 0) (hn : pc + 3 = nx) : am_go0 cl j pc ls (.inr (.inr (some k)) :: r) (S, R, I, L) = am_go0 cl j nx ls (.inr (.inl (L k f)) :: r) (S, R, I, L) := by
  subst hn
  refine am_r hm hd ?_
  simp only [am_next, am_gf, hf, hS, hk, ht, am_go]
  simp [hk]
theorem am_rG2 {cl : am_C} {j pc nx k i c f : Nat} {m : am_M} {ls : am_Ls} {r : List am_V} {S : List (Nat × Nat)} {R : Nat → Int → Option Nat} {I : Nat → Int → Int} {L : Nat → Int → Int64} {a : Option Nat} (hm : am_ml[j]? = some m) (hd : am_code j pc = some (.getfield i, 3)) (hf : am_lk am_fl (am_key m.2.2.2.2 i) = some (c, f)) (ht : am_ft c f = 2) (hS : S[k]? = some (c + 3, 0)) (hk : k ≠ 0) (hR : R k f = a) (hn : pc + 3 = nx) : am_go0 cl j pc ls (.inr (.inr (some k)) :: r) (S, R, I, L) = am_go0 cl j nx ls (.inr (.inr a) :: r) (S, R, I, L) := by
  subst hn
  subst hR
  refine am_r hm hd ?_
  simp only [am_next, am_gf, hf, hS, hk, ht, am_go]
  simp [hk]
theorem am_rP0 {cl : am_C} {j pc nx k i c f : Nat} {m : am_M} {ls : am_Ls} {r : List am_V} {v : Int} {S : List (Nat × Nat)} {R : Nat → Int → Option Nat} {I : Nat → Int → Int} {L : Nat → Int → Int64} (hm : am_ml[j]? = some m) (hd : am_code j pc = some (.putfield i, 3)) (hf : am_lk am_fl (am_key m.2.2.2.2 i) = some (c, f)) (ht : am_ft c f = 0) (hS : S[k]? = some (c + 3, 0)) (hk : k ≠ 0) (hn : pc + 3 = nx) : am_go0 cl j pc ls (.inl v :: .inr (.inr (some k)) :: r) (S, R, I, L) = am_go0 cl j nx ls r (S, R, am_uI I k f v, L) := by
  subst hn
  refine am_r hm hd ?_
  simp only [am_next, am_pf, hf, hS, hk, ht, am_go]
  simp [hk]
theorem am_rP1 {cl : am_C} {j pc nx k i c f : Nat} {m : am_M} {ls : am_Ls} {r : List am_V} {v : Int64} {S : List (Nat × Nat)} {R : Nat → Int → Option Nat} {I : Nat → Int → Int} {L : Nat → Int → Int64} (hm : am_ml[j]? = some m) (hd : am_code j pc = some (.putfield i, 3)) (hf : am_lk am_fl (am_key m.2.2.2.2 i) = some (c, f)) (ht : am_ft c f = 1) (hS : S[k]? = some (c + 3, 0)) (hk : k ≠ 0) (hn : pc + 3 = nx) : am_go0 cl j pc ls (.inr (.inl v) :: .inr (.inr (some k)) :: r) (S, R, I, L) = am_go0 cl j nx ls r (S, R, I, am_uL L k f v) := by
  subst hn
  refine am_r hm hd ?_
  simp only [am_next, am_pf, hf, hS, hk, ht, am_go]
  simp [hk]
theorem am_callE {d j : Nat} {m : am_M} {as : List am_V} {ls : am_Ls} {h : am_H} (hm : am_ml[j]? = some m) (hl : (am_ent as).length ≤ m.2.2.1) (he : am_pad m.2.2.1 (am_ent as) = ls) : am_call (d + 1) j as h = am_go0 (am_call d) j 0 ls [] h := by
  subst he
  simp only [am_call, hm, hl]
  simp
end
section
/-! What the tables owe the words of the Statement, decided. -/
def am_at (p : Nat) (w : Cond) : Bool := decide (lw_tbl[p]? = some w)
def am_okc (c : Nat) : Bool := match am_cl[c]?, am_yl[c]?, am_fts[c]? with
  | some (C, T, N), some ty, some ft => decide (ft.length = N) && decide (Cond.instantiable C N ∈ lw_tbl) && decide (Cond.initialized C ∈ lw_tbl)
    && (List.range N).all (fun f => decide (parseFieldDescriptor (T f).2.2.1 = some (ty f)) && decide ((T f).1 = C) && (match ft[f]?, ty f, (T f).2.2.2 with
      | some 0, .int, false => true
      | some 1, .long, false => true
      | some 2, .object _, true => true
      | some 2, .array _, true => true
      | _, _, _ => false))
    && (List.range N).all (fun a => (List.range N).all (fun b => decide (a = b) || decide ((T a).2.1 ≠ (T b).2.1)))
  | _, _, _ => false
def am_okf (q : Nat × Nat × Nat) (p : Nat) : Bool := match am_cn[q.1 / 1000]?, am_cl[q.2.1]? with
  | some own, some (C, T, N) => decide (q.2.2 < N) && am_at p (Cond.fieldLink own (q.1 % 1000) C (T q.2.2).2.1 (T q.2.2).2.2.1)
  | _, _ => false
def am_okk (q : Nat × Nat × Nat × Nat) (p : Nat × Nat × Nat) : Bool := match am_cn[q.1 / 1000]? with
  | some own => if q.2.1 = 4 then am_at p.1 (Cond.methodLink own (q.1 % 1000) objectInit) && decide (q.2.2.2 = 0) else if q.2.1 = 5 then am_at p.1 (Cond.methodLink own (q.1 % 1000) Lib.Math.max.name) && decide (q.2.2.2 = 2) else decide (q.2.2.1 ≠ 183) && (match am_ml[q.2.2.1]? with
    | some m => decide ((parseMethodDescriptor m.1.desc).map (fun d => d.parameters.length) = some q.2.2.2) && decide (m.2.2.2.2 ≠ 10) && (match q.2.1 with
      | 0 => am_at p.1 (Cond.methodLink own (q.1 % 1000) m.1) && am_at p.2.1 (Cond.instanceMethod m.1) && am_at p.2.2 (Cond.selects m.1.cls m.1 m.1) && decide ((am_cl[m.2.2.2.2]?).map (fun q => q.1) = some m.1.cls)
      | 1 => am_at p.1 (Cond.methodLink own (q.1 % 1000) m.1) && am_at p.2.1 (Cond.static m.1)
      | 2 => am_at p.1 (Cond.methodLink own (q.1 % 1000) m.1) && am_at p.2.1 (Cond.instanceMethod m.1) && decide (m.1.name = "<init>") && decide (m.2.2.2.1 = none)
      | 3 => decide (own = "DictionaryTerms") && (decide (q.1 % 1000 = 43 ∧ m.1 = ⟨"DictionaryTerms$Values", "<init>", "()V"⟩) || decide (q.1 % 1000 = 59 ∧ m.1 = ⟨"DictionaryTerms$Report", "<init>", "()V"⟩)) && am_at p.1 (Cond.methodLinkNest own (q.1 % 1000) m.1 "DictionaryTerms") && am_at p.2.1 (Cond.instanceMethod m.1) && decide (m.1.name = "<init>") && decide (m.2.2.2.1 = none)
      | _ => false)
    | none => false)
  | none => false
def am_okm (m : am_M) : Bool := plainName m.1.cls && decide (m.1.cls ≠ "java/lang/invoke/MethodHandle") && decide (m.1.cls ≠ "java/lang/invoke/VarHandle") && decide (am_cn[m.2.2.2.2]? = some m.1.cls) && decide (m.2.2.1 ≤ 18)
def am_okn (q : Nat × Nat) : Bool := match am_cn[q.1 / 1000]?, am_cl[q.2]? with
  | some own, some (C, _, _) => decide (Cond.classLink own (q.1 % 1000) C ∈ lw_tbl)
  | _, _ => false
def am_ok1 (q : Nat × Int) : Bool := match am_cn[q.1 / 1000]? with
  | some own => decide (Cond.constant own (q.1 % 1000) (Int32.ofInt q.2) ∈ lw_tbl) && decide (-2147483648 ≤ q.2) && decide (q.2 ≤ 2147483647)
  | _ => false
theorem am_all_c : (List.range 10).all am_okc = true := by decide +kernel
theorem am_all_u : (List.range 10).all (fun c => match am_cl[c]? with
  | some (C, T, N) => (u_ws C T N).all (fun w => decide (w ∈ lw_tbl))
  | _ => false) = true := by decide +kernel
theorem am_all_f : (am_fl.zip am_fp).all (fun q => am_okf q.1 q.2) = true := by decide +kernel
theorem am_all_k1 : ((am_mk.zip am_kp).take 110).all (fun q => am_okk q.1 q.2) = true := by decide +kernel
theorem am_all_k2 : ((am_mk.zip am_kp).drop 110).all (fun q => am_okk q.1 q.2) = true := by decide +kernel
theorem am_all_l : am_mk.length = am_kp.length ∧ am_fl.length = am_fp.length ∧ am_cp.length = 183 ∧ am_ml.length = 184 := by decide +kernel
theorem am_all_m : am_ml.all am_okm = true := by decide +kernel
theorem am_all_i : am_cn.all (fun C => decide (Cond.initialized C ∈ lw_tbl)) = true := by decide +kernel
theorem am_all_n : am_ck.all am_okn = true := by decide +kernel
theorem am_all_1 : am_kk.all am_ok1 = true := by decide +kernel
theorem am_all_x1 : lw_tbl[am_xp.1]? = some (Cond.static Lib.Math.max.name) := by decide +kernel
theorem am_all_x2 : lw_tbl[am_xp.2.1]? = some (Cond.code Lib.Math.max.name Lib.Math.max.code 2 (some .int)) := by decide +kernel
theorem am_all_x3 : lw_tbl[am_xp.2.2]? = some (Cond.code objectInit ⟨#[0xb1]⟩ 1 none) := by decide +kernel
theorem am_all_t : Cond.arrayClass .int ∈ lw_tbl ∧ Cond.arrayClass .long ∈ lw_tbl ∧ Cond.arrayClass .boolean ∈ lw_tbl ∧ Cond.instanceMethod objectInit ∈ lw_tbl ∧ Cond.initialized "java/lang/Math" ∈ lw_tbl := by decide +kernel
end
section
/-! Where the code of each method stands among the words. -/
set_option maxRecDepth 100000 in
theorem am_w0 : lw_tbl[123]? = some (Cond.code ⟨"DictionaryTerms$Classes", "<init>", "()V"⟩ prog_2_method_1_code 1 none) := rfl
set_option maxRecDepth 100000 in
theorem am_w1 : lw_tbl[432]? = some (Cond.code ⟨"DictionaryTerms$Classes", "add", "(I)I"⟩ prog_2_method_9_code 2 (some .int)) := rfl
set_option maxRecDepth 100000 in
theorem am_w2 : lw_tbl[448]? = some (Cond.code ⟨"DictionaryTerms$Classes", "addSuper", "(II)I"⟩ prog_2_method_10_code 3 (some .int)) := rfl
set_option maxRecDepth 100000 in
theorem am_w3 : lw_tbl[452]? = some (Cond.code ⟨"DictionaryTerms$Classes", "has", "(I)Z"⟩ prog_2_method_3_code 2 (some .boolean)) := rfl
set_option maxRecDepth 100000 in
theorem am_w4 : lw_tbl[456]? = some (Cond.code ⟨"DictionaryTerms$Classes", "hasAsSuper", "(II)Z"⟩ prog_2_method_11_code 4 (some .boolean)) := rfl
set_option maxRecDepth 100000 in
theorem am_w5 : lw_tbl[460]? = some (Cond.code ⟨"DictionaryTerms$Classes", "superAt", "(II)I"⟩ prog_2_method_6_code 3 (some .int)) := rfl
set_option maxRecDepth 100000 in
theorem am_w6 : lw_tbl[515]? = some (Cond.code ⟨"DictionaryTerms$Classes", "hasMember", "(II)Z"⟩ prog_2_method_4_code 3 (some .boolean)) := rfl
set_option maxRecDepth 100000 in
theorem am_w7 : lw_tbl[560]? = some (Cond.code ⟨"DictionaryTerms$Classes", "supersOf", "(I)I"⟩ prog_2_method_5_code 2 (some .int)) := rfl
set_option maxRecDepth 100000 in
theorem am_w8 : lw_tbl[585]? = some (Cond.code ⟨"DictionaryTerms$Classes", "setStandard", "(III)V"⟩ prog_2_method_8_code 4 none) := rfl
set_option maxRecDepth 100000 in
theorem am_w9 : lw_tbl[753]? = some (Cond.code ⟨"DictionaryTerms$Classes", "standardOf", "(II)I"⟩ prog_2_method_7_code 3 (some .int)) := rfl
set_option maxRecDepth 100000 in
theorem am_w10 : lw_tbl[901]? = some (Cond.code ⟨"DictionaryTerms$Classes", "made", "()I"⟩ prog_2_method_2_code 1 (some .int)) := rfl
set_option maxRecDepth 100000 in
theorem am_w11 : lw_tbl[238]? = some (Cond.code ⟨"DictionaryTerms$Dictionaries", "<init>", "(LDictionaryTerms$Types;LDictionaryTerms$Classes;LDictionaryTerms$Instances;LDictionaryTerms$Values;)V"⟩ prog_3_method_1_code 5 none) := rfl
set_option maxRecDepth 100000 in
theorem am_w12 : lw_tbl[440]? = some (Cond.code ⟨"DictionaryTerms$Dictionaries", "takeAway", "()V"⟩ prog_3_method_12_code 1 none) := rfl
set_option maxRecDepth 100000 in
theorem am_w13 : lw_tbl[599]? = some (Cond.code ⟨"DictionaryTerms$Dictionaries", "make", "(II)I"⟩ prog_3_method_13_code 11 (some .int)) := rfl
set_option maxRecDepth 100000 in
theorem am_w14 : lw_tbl[603]? = some (Cond.code ⟨"DictionaryTerms$Dictionaries", "find", "(II)I"⟩ prog_3_method_14_code 4 (some .int)) := rfl
set_option maxRecDepth 100000 in
theorem am_w15 : lw_tbl[607]? = some (Cond.code ⟨"DictionaryTerms$Dictionaries", "begin", "(II)I"⟩ prog_3_method_15_code 4 (some .int)) := rfl
set_option maxRecDepth 100000 in
theorem am_w16 : lw_tbl[624]? = some (Cond.code ⟨"DictionaryTerms$Dictionaries", "partsOf", "(I)I"⟩ prog_3_method_7_code 2 (some .int)) := rfl
set_option maxRecDepth 100000 in
theorem am_w17 : lw_tbl[630]? = some (Cond.code ⟨"DictionaryTerms$Dictionaries", "partClass", "(II)I"⟩ prog_3_method_16_code 4 (some .int)) := rfl
set_option maxRecDepth 100000 in
theorem am_w18 : lw_tbl[636]? = some (Cond.code ⟨"DictionaryTerms$Dictionaries", "partType", "(II)I"⟩ prog_3_method_17_code 4 (some .int)) := rfl
set_option maxRecDepth 100000 in
theorem am_w19 : lw_tbl[652]? = some (Cond.code ⟨"DictionaryTerms$Dictionaries", "lackingClass", "()I"⟩ prog_3_method_10_code 1 (some .int)) := rfl
set_option maxRecDepth 100000 in
theorem am_w20 : lw_tbl[656]? = some (Cond.code ⟨"DictionaryTerms$Dictionaries", "lackingType", "()I"⟩ prog_3_method_11_code 1 (some .int)) := rfl
set_option maxRecDepth 100000 in
theorem am_w21 : lw_tbl[664]? = some (Cond.code ⟨"DictionaryTerms$Dictionaries", "has", "(I)Z"⟩ prog_3_method_3_code 2 (some .boolean)) := rfl
set_option maxRecDepth 100000 in
theorem am_w22 : lw_tbl[669]? = some (Cond.code ⟨"DictionaryTerms$Dictionaries", "partAt", "(II)I"⟩ prog_3_method_8_code 3 (some .int)) := rfl
set_option maxRecDepth 100000 in
theorem am_w23 : lw_tbl[677]? = some (Cond.code ⟨"DictionaryTerms$Dictionaries", "classOf", "(I)I"⟩ prog_3_method_4_code 2 (some .int)) := rfl
set_option maxRecDepth 100000 in
theorem am_w24 : lw_tbl[681]? = some (Cond.code ⟨"DictionaryTerms$Dictionaries", "typeAt", "(I)I"⟩ prog_3_method_5_code 2 (some .int)) := rfl
set_option maxRecDepth 100000 in
theorem am_w25 : lw_tbl[685]? = some (Cond.code ⟨"DictionaryTerms$Dictionaries", "instanceOf", "(I)I"⟩ prog_3_method_6_code 2 (some .int)) := rfl
set_option maxRecDepth 100000 in
theorem am_w26 : lw_tbl[689]? = some (Cond.code ⟨"DictionaryTerms$Dictionaries", "hangingOn", "(I)I"⟩ prog_3_method_18_code 6 (some .int)) := rfl
set_option maxRecDepth 100000 in
theorem am_w27 : lw_tbl[821]? = some (Cond.code ⟨"DictionaryTerms$Dictionaries", "superPartAt", "(II)I"⟩ prog_3_method_9_code 3 (some .int)) := rfl
set_option maxRecDepth 100000 in
theorem am_w28 : lw_tbl[913]? = some (Cond.code ⟨"DictionaryTerms$Dictionaries", "made", "()I"⟩ prog_3_method_2_code 1 (some .int)) := rfl
set_option maxRecDepth 100000 in
theorem am_w29 : lw_tbl[148]? = some (Cond.code ⟨"DictionaryTerms$Instances", "<init>", "(LDictionaryTerms$Types;LDictionaryTerms$Classes;)V"⟩ prog_4_method_1_code 3 none) := rfl
set_option maxRecDepth 100000 in
theorem am_w30 : lw_tbl[468]? = some (Cond.code ⟨"DictionaryTerms$Instances", "add", "(II)I"⟩ prog_4_method_12_code 3 (some .int)) := rfl
set_option maxRecDepth 100000 in
theorem am_w31 : lw_tbl[474]? = some (Cond.code ⟨"DictionaryTerms$Instances", "find", "(II)I"⟩ prog_4_method_11_code 4 (some .int)) := rfl
set_option maxRecDepth 100000 in
theorem am_w32 : lw_tbl[482]? = some (Cond.code ⟨"DictionaryTerms$Instances", "addContext", "(III)I"⟩ prog_4_method_13_code 5 (some .int)) := rfl
set_option maxRecDepth 100000 in
theorem am_w33 : lw_tbl[486]? = some (Cond.code ⟨"DictionaryTerms$Instances", "has", "(I)Z"⟩ prog_4_method_3_code 2 (some .boolean)) := rfl
set_option maxRecDepth 100000 in
theorem am_w34 : lw_tbl[490]? = some (Cond.code ⟨"DictionaryTerms$Instances", "placesOf", "(I)I"⟩ prog_4_method_5_code 2 (some .int)) := rfl
set_option maxRecDepth 100000 in
theorem am_w35 : lw_tbl[533]? = some (Cond.code ⟨"DictionaryTerms$Instances", "classOf", "(I)I"⟩ prog_4_method_4_code 2 (some .int)) := rfl
set_option maxRecDepth 100000 in
theorem am_w36 : lw_tbl[552]? = some (Cond.code ⟨"DictionaryTerms$Instances", "contextsOf", "(I)I"⟩ prog_4_method_6_code 2 (some .int)) := rfl
set_option maxRecDepth 100000 in
theorem am_w37 : lw_tbl[556]? = some (Cond.code ⟨"DictionaryTerms$Instances", "contextClassAt", "(II)I"⟩ prog_4_method_7_code 3 (some .int)) := rfl
set_option maxRecDepth 100000 in
theorem am_w38 : lw_tbl[573]? = some (Cond.code ⟨"DictionaryTerms$Instances", "setBody", "(III)V"⟩ prog_4_method_10_code 4 none) := rfl
set_option maxRecDepth 100000 in
theorem am_w39 : lw_tbl[640]? = some (Cond.code ⟨"DictionaryTerms$Instances", "contextVariableAt", "(II)I"⟩ prog_4_method_8_code 3 (some .int)) := rfl
set_option maxRecDepth 100000 in
theorem am_w40 : lw_tbl[748]? = some (Cond.code ⟨"DictionaryTerms$Instances", "bodyOf", "(II)I"⟩ prog_4_method_9_code 3 (some .int)) := rfl
set_option maxRecDepth 100000 in
theorem am_w41 : lw_tbl[905]? = some (Cond.code ⟨"DictionaryTerms$Instances", "made", "()I"⟩ prog_4_method_2_code 1 (some .int)) := rfl
set_option maxRecDepth 100000 in
theorem am_w42 : lw_tbl[183]? = some (Cond.code ⟨"DictionaryTerms$Nodes", "<init>", "(LDictionaryTerms$Types;LDictionaryTerms$Classes;LDictionaryTerms$Instances;)V"⟩ prog_5_method_1_code 4 none) := rfl
set_option maxRecDepth 100000 in
theorem am_w43 : lw_tbl[502]? = some (Cond.code ⟨"DictionaryTerms$Nodes", "add", "(IIII)I"⟩ prog_5_method_7_code 6 (some .int)) := rfl
set_option maxRecDepth 100000 in
theorem am_w44 : lw_tbl[506]? = some (Cond.code ⟨"DictionaryTerms$Nodes", "isAsTold", "(IIII)Z"⟩ prog_5_method_8_code 5 (some .boolean)) := rfl
set_option maxRecDepth 100000 in
theorem am_w45 : lw_tbl[510]? = some (Cond.code ⟨"DictionaryTerms$Nodes", "isIndex", "(I)Z"⟩ prog_5_method_10_code 2 (some .boolean)) := rfl
set_option maxRecDepth 100000 in
theorem am_w46 : lw_tbl[519]? = some (Cond.code ⟨"DictionaryTerms$Nodes", "has", "(I)Z"⟩ prog_5_method_9_code 2 (some .boolean)) := rfl
set_option maxRecDepth 100000 in
theorem am_w47 : lw_tbl[523]? = some (Cond.code ⟨"DictionaryTerms$Nodes", "heightOver", "(IIII)I"⟩ prog_5_method_11_code 6 (some .int)) := rfl
set_option maxRecDepth 100000 in
theorem am_w48 : lw_tbl[538]? = some (Cond.code ⟨"DictionaryTerms$Nodes", "fitsInstance", "(II)Z"⟩ prog_5_method_12_code 3 (some .boolean)) := rfl
set_option maxRecDepth 100000 in
theorem am_w49 : lw_tbl[544]? = some (Cond.code ⟨"DictionaryTerms$Nodes", "fits", "(IIII)Z"⟩ prog_5_method_14_code 6 (some .boolean)) := rfl
set_option maxRecDepth 100000 in
theorem am_w50 : lw_tbl[548]? = some (Cond.code ⟨"DictionaryTerms$Nodes", "namesWhatIsThere", "(IIII)Z"⟩ prog_5_method_15_code 7 (some .boolean)) := rfl
set_option maxRecDepth 100000 in
theorem am_w51 : lw_tbl[569]? = some (Cond.code ⟨"DictionaryTerms$Nodes", "markInside", "(I)V"⟩ prog_5_method_16_code 2 none) := rfl
set_option maxRecDepth 100000 in
theorem am_w52 : lw_tbl[581]? = some (Cond.code ⟨"DictionaryTerms$Nodes", "fitsClass", "(II)Z"⟩ prog_5_method_13_code 3 (some .boolean)) := rfl
set_option maxRecDepth 100000 in
theorem am_w53 : lw_tbl[772]? = some (Cond.code ⟨"DictionaryTerms$Nodes", "kindOf", "(I)I"⟩ prog_5_method_3_code 2 (some .int)) := rfl
set_option maxRecDepth 100000 in
theorem am_w54 : lw_tbl[776]? = some (Cond.code ⟨"DictionaryTerms$Nodes", "firstOf", "(I)I"⟩ prog_5_method_4_code 2 (some .int)) := rfl
set_option maxRecDepth 100000 in
theorem am_w55 : lw_tbl[796]? = some (Cond.code ⟨"DictionaryTerms$Nodes", "secondOf", "(I)I"⟩ prog_5_method_5_code 2 (some .int)) := rfl
set_option maxRecDepth 100000 in
theorem am_w56 : lw_tbl[800]? = some (Cond.code ⟨"DictionaryTerms$Nodes", "thirdOf", "(I)I"⟩ prog_5_method_6_code 2 (some .int)) := rfl
set_option maxRecDepth 100000 in
theorem am_w57 : lw_tbl[909]? = some (Cond.code ⟨"DictionaryTerms$Nodes", "made", "()I"⟩ prog_5_method_2_code 1 (some .int)) := rfl
set_option maxRecDepth 100000 in
theorem am_w58 : lw_tbl[287]? = some (Cond.code ⟨"DictionaryTerms$Report", "<init>", "()V"⟩ prog_6_method_1_code 1 none) := rfl
set_option maxRecDepth 100000 in
theorem am_w59 : lw_tbl[702]? = some (Cond.code ⟨"DictionaryTerms$Report", "refuse", "()V"⟩ prog_6_method_3_code 1 none) := rfl
set_option maxRecDepth 100000 in
theorem am_w60 : lw_tbl[706]? = some (Cond.code ⟨"DictionaryTerms$Report", "start", "()V"⟩ prog_6_method_2_code 1 none) := rfl
set_option maxRecDepth 100000 in
theorem am_w61 : lw_tbl[735]? = some (Cond.code ⟨"DictionaryTerms$Report", "tellFault", "(III)V"⟩ prog_6_method_4_code 4 none) := rfl
set_option maxRecDepth 100000 in
theorem am_w62 : lw_tbl[788]? = some (Cond.code ⟨"DictionaryTerms$Report", "tellStep", "(II)V"⟩ prog_6_method_5_code 3 none) := rfl
set_option maxRecDepth 100000 in
theorem am_w63 : lw_tbl[846]? = some (Cond.code ⟨"DictionaryTerms$Report", "fault", "()I"⟩ prog_6_method_6_code 1 (some .int)) := rfl
set_option maxRecDepth 100000 in
theorem am_w64 : lw_tbl[855]? = some (Cond.code ⟨"DictionaryTerms$Report", "faultDictionary", "()I"⟩ prog_6_method_7_code 1 (some .int)) := rfl
set_option maxRecDepth 100000 in
theorem am_w65 : lw_tbl[859]? = some (Cond.code ⟨"DictionaryTerms$Report", "faultMember", "()I"⟩ prog_6_method_8_code 1 (some .int)) := rfl
set_option maxRecDepth 100000 in
theorem am_w66 : lw_tbl[867]? = some (Cond.code ⟨"DictionaryTerms$Report", "stepDictionary", "(I)I"⟩ prog_6_method_10_code 2 (some .int)) := rfl
set_option maxRecDepth 100000 in
theorem am_w67 : lw_tbl[871]? = some (Cond.code ⟨"DictionaryTerms$Report", "stepMember", "(I)I"⟩ prog_6_method_11_code 2 (some .int)) := rfl
set_option maxRecDepth 100000 in
theorem am_w68 : lw_tbl[917]? = some (Cond.code ⟨"DictionaryTerms$Report", "stepsTold", "()I"⟩ prog_6_method_9_code 1 (some .int)) := rfl
set_option maxRecDepth 100000 in
theorem am_w69 : lw_tbl[84]? = some (Cond.code ⟨"DictionaryTerms$Types", "<init>", "()V"⟩ prog_7_method_1_code 2 none) := rfl
set_option maxRecDepth 100000 in
theorem am_w70 : lw_tbl[89]? = some (Cond.code ⟨"DictionaryTerms$Types", "addRow", "(IIII)I"⟩ prog_7_method_14_code 5 (some .int)) := rfl
set_option maxRecDepth 100000 in
theorem am_w71 : lw_tbl[401]? = some (Cond.code ⟨"DictionaryTerms$Types", "addConstructor", "(I)I"⟩ prog_7_method_11_code 2 (some .int)) := rfl
set_option maxRecDepth 100000 in
theorem am_w72 : lw_tbl[409]? = some (Cond.code ⟨"DictionaryTerms$Types", "addType", "(III)I"⟩ prog_7_method_12_code 5 (some .int)) := rfl
set_option maxRecDepth 100000 in
theorem am_w73 : lw_tbl[413]? = some (Cond.code ⟨"DictionaryTerms$Types", "hasConstructor", "(I)Z"⟩ prog_7_method_4_code 2 (some .boolean)) := rfl
set_option maxRecDepth 100000 in
theorem am_w74 : lw_tbl[417]? = some (Cond.code ⟨"DictionaryTerms$Types", "has", "(I)Z"⟩ prog_7_method_5_code 2 (some .boolean)) := rfl
set_option maxRecDepth 100000 in
theorem am_w75 : lw_tbl[421]? = some (Cond.code ⟨"DictionaryTerms$Types", "findOrAdd", "(III)I"⟩ prog_7_method_13_code 6 (some .int)) := rfl
set_option maxRecDepth 100000 in
theorem am_w76 : lw_tbl[494]? = some (Cond.code ⟨"DictionaryTerms$Types", "placesOf", "(I)I"⟩ prog_7_method_6_code 2 (some .int)) := rfl
set_option maxRecDepth 100000 in
theorem am_w77 : lw_tbl[565]? = some (Cond.code ⟨"DictionaryTerms$Types", "needsOnlyBelow", "(II)Z"⟩ prog_7_method_10_code 3 (some .boolean)) := rfl
set_option maxRecDepth 100000 in
theorem am_w78 : lw_tbl[595]? = some (Cond.code ⟨"DictionaryTerms$Types", "isClosed", "(I)Z"⟩ prog_7_method_9_code 2 (some .boolean)) := rfl
set_option maxRecDepth 100000 in
theorem am_w79 : lw_tbl[611]? = some (Cond.code ⟨"DictionaryTerms$Types", "constructorOf", "(I)I"⟩ prog_7_method_7_code 2 (some .int)) := rfl
set_option maxRecDepth 100000 in
theorem am_w80 : lw_tbl[644]? = some (Cond.code ⟨"DictionaryTerms$Types", "argument", "(II)I"⟩ prog_7_method_8_code 3 (some .int)) := rfl
set_option maxRecDepth 100000 in
theorem am_w81 : lw_tbl[825]? = some (Cond.code ⟨"DictionaryTerms$Types", "putIn", "(III)I"⟩ prog_7_method_15_code 9 (some .int)) := rfl
set_option maxRecDepth 100000 in
theorem am_w82 : lw_tbl[829]? = some (Cond.code ⟨"DictionaryTerms$Types", "argumentToRebuild", "(I)I"⟩ prog_7_method_16_code 4 (some .int)) := rfl
set_option maxRecDepth 100000 in
theorem am_w83 : lw_tbl[833]? = some (Cond.code ⟨"DictionaryTerms$Types", "imageOf", "(I)I"⟩ prog_7_method_17_code 2 (some .int)) := rfl
set_option maxRecDepth 100000 in
theorem am_w84 : lw_tbl[893]? = some (Cond.code ⟨"DictionaryTerms$Types", "constructorsMade", "()I"⟩ prog_7_method_2_code 1 (some .int)) := rfl
set_option maxRecDepth 100000 in
theorem am_w85 : lw_tbl[897]? = some (Cond.code ⟨"DictionaryTerms$Types", "typesMade", "()I"⟩ prog_7_method_3_code 1 (some .int)) := rfl
set_option maxRecDepth 100000 in
theorem am_w86 : lw_tbl[221]? = some (Cond.code ⟨"DictionaryTerms$Values", "<init>", "()V"⟩ prog_8_method_1_code 1 none) := rfl
set_option maxRecDepth 100000 in
theorem am_w87 : lw_tbl[616]? = some (Cond.code ⟨"DictionaryTerms$Values", "clear", "(I)V"⟩ prog_8_method_3_code 3 none) := rfl
set_option maxRecDepth 100000 in
theorem am_w88 : lw_tbl[620]? = some (Cond.code ⟨"DictionaryTerms$Values", "cell", "(II)I"⟩ prog_8_method_2_code 3 (some .int)) := rfl
set_option maxRecDepth 100000 in
theorem am_w89 : lw_tbl[719]? = some (Cond.code ⟨"DictionaryTerms$Values", "isWorked", "(II)Z"⟩ prog_8_method_4_code 3 (some .boolean)) := rfl
set_option maxRecDepth 100000 in
theorem am_w90 : lw_tbl[723]? = some (Cond.code ⟨"DictionaryTerms$Values", "workedTo", "(II)J"⟩ prog_8_method_6_code 3 (some .long)) := rfl
set_option maxRecDepth 100000 in
theorem am_w91 : lw_tbl[727]? = some (Cond.code ⟨"DictionaryTerms$Values", "isBeingWorked", "(II)Z"⟩ prog_8_method_5_code 3 (some .boolean)) := rfl
set_option maxRecDepth 100000 in
theorem am_w92 : lw_tbl[739]? = some (Cond.code ⟨"DictionaryTerms$Values", "giveUp", "(II)V"⟩ prog_8_method_10_code 3 none) := rfl
set_option maxRecDepth 100000 in
theorem am_w93 : lw_tbl[758]? = some (Cond.code ⟨"DictionaryTerms$Values", "begin", "(II)V"⟩ prog_8_method_8_code 3 none) := rfl
set_option maxRecDepth 100000 in
theorem am_w94 : lw_tbl[784]? = some (Cond.code ⟨"DictionaryTerms$Values", "end", "(IIJ)V"⟩ prog_8_method_9_code 5 none) := rfl
set_option maxRecDepth 100000 in
theorem am_w95 : lw_tbl[879]? = some (Cond.code ⟨"DictionaryTerms$Values", "begunOf", "(II)I"⟩ prog_8_method_7_code 3 (some .int)) := rfl
set_option maxRecDepth 100000 in
theorem am_w96 : lw_tbl[312]? = some (Cond.code ⟨"DictionaryTerms$Worker", "<init>", "(LDictionaryTerms$Types;LDictionaryTerms$Nodes;LDictionaryTerms$Instances;LDictionaryTerms$Classes;LDictionaryTerms$Values;LDictionaryTerms$Dictionaries;LDictionaryTerms$Report;)V"⟩ prog_9_method_1_code 8 none) := rfl
set_option maxRecDepth 100000 in
theorem am_w97 : lw_tbl[710]? = some (Cond.code ⟨"DictionaryTerms$Worker", "work", "(II)J"⟩ prog_9_method_2_code 4 (some .long)) := rfl
set_option maxRecDepth 100000 in
theorem am_w98 : lw_tbl[715]? = some (Cond.code ⟨"DictionaryTerms$Worker", "need", "(II)V"⟩ prog_9_method_3_code 3 none) := rfl
set_option maxRecDepth 100000 in
theorem am_w99 : lw_tbl[731]? = some (Cond.code ⟨"DictionaryTerms$Worker", "fail", "(III)V"⟩ prog_9_method_15_code 5 none) := rfl
set_option maxRecDepth 100000 in
theorem am_w100 : lw_tbl[743]? = some (Cond.code ⟨"DictionaryTerms$Worker", "beginMember", "(II)V"⟩ prog_9_method_4_code 6 none) := rfl
set_option maxRecDepth 100000 in
theorem am_w101 : lw_tbl[763]? = some (Cond.code ⟨"DictionaryTerms$Worker", "openUp", "(I)V"⟩ prog_9_method_5_code 2 none) := rfl
set_option maxRecDepth 100000 in
theorem am_w102 : lw_tbl[768]? = some (Cond.code ⟨"DictionaryTerms$Worker", "advance", "()V"⟩ prog_9_method_6_code 4 none) := rfl
set_option maxRecDepth 100000 in
theorem am_w103 : lw_tbl[780]? = some (Cond.code ⟨"DictionaryTerms$Worker", "endNode", "(J)V"⟩ prog_9_method_10_code 3 none) := rfl
set_option maxRecDepth 100000 in
theorem am_w104 : lw_tbl[792]? = some (Cond.code ⟨"DictionaryTerms$Worker", "advanceIf", "(II)V"⟩ prog_9_method_7_code 3 none) := rfl
set_option maxRecDepth 100000 in
theorem am_w105 : lw_tbl[804]? = some (Cond.code ⟨"DictionaryTerms$Worker", "advanceSum", "(II)V"⟩ prog_9_method_8_code 3 none) := rfl
set_option maxRecDepth 100000 in
theorem am_w106 : lw_tbl[808]? = some (Cond.code ⟨"DictionaryTerms$Worker", "endSum", "(IJJ)V"⟩ prog_9_method_9_code 6 none) := rfl
set_option maxRecDepth 100000 in
theorem am_w107 : lw_tbl[812]? = some (Cond.code ⟨"DictionaryTerms$Worker", "failHere", "(I)V"⟩ prog_9_method_14_code 2 none) := rfl
set_option maxRecDepth 100000 in
theorem am_w108 : lw_tbl[816]? = some (Cond.code ⟨"DictionaryTerms$Worker", "dictionaryNamed", "(I)I"⟩ prog_9_method_11_code 6 (some .int)) := rfl
set_option maxRecDepth 100000 in
theorem am_w109 : lw_tbl[838]? = some (Cond.code ⟨"DictionaryTerms$Worker", "memberNamed", "(I)I"⟩ prog_9_method_12_code 2 (some .int)) := rfl
set_option maxRecDepth 100000 in
theorem am_w110 : lw_tbl[842]? = some (Cond.code ⟨"DictionaryTerms$Worker", "needNamed", "(II)V"⟩ prog_9_method_13_code 3 none) := rfl
set_option maxRecDepth 100000 in
theorem am_w111 : lw_tbl[76]? = some (Cond.code ⟨"DictionaryTerms", "<init>", "()V"⟩ prog_1_method_1_code 1 none) := rfl
set_option maxRecDepth 100000 in
theorem am_w112 : lw_tbl[397]? = some (Cond.code ⟨"DictionaryTerms", "constructor", "(I)I"⟩ prog_1_method_2_code 2 (some .int)) := rfl
set_option maxRecDepth 100000 in
theorem am_w113 : lw_tbl[405]? = some (Cond.code ⟨"DictionaryTerms", "type", "(III)I"⟩ prog_1_method_3_code 4 (some .int)) := rfl
set_option maxRecDepth 100000 in
theorem am_w114 : lw_tbl[428]? = some (Cond.code ⟨"DictionaryTerms", "cls", "(I)I"⟩ prog_1_method_4_code 2 (some .int)) := rfl
set_option maxRecDepth 100000 in
theorem am_w115 : lw_tbl[436]? = some (Cond.code ⟨"DictionaryTerms", "afterChange", "(I)I"⟩ prog_1_method_21_code 2 (some .int)) := rfl
set_option maxRecDepth 100000 in
theorem am_w116 : lw_tbl[444]? = some (Cond.code ⟨"DictionaryTerms", "superOf", "(II)I"⟩ prog_1_method_5_code 3 (some .int)) := rfl
set_option maxRecDepth 100000 in
theorem am_w117 : lw_tbl[464]? = some (Cond.code ⟨"DictionaryTerms", "instance", "(II)I"⟩ prog_1_method_6_code 3 (some .int)) := rfl
set_option maxRecDepth 100000 in
theorem am_w118 : lw_tbl[478]? = some (Cond.code ⟨"DictionaryTerms", "context", "(III)I"⟩ prog_1_method_7_code 4 (some .int)) := rfl
set_option maxRecDepth 100000 in
theorem am_w119 : lw_tbl[498]? = some (Cond.code ⟨"DictionaryTerms", "node", "(IIII)I"⟩ prog_1_method_8_code 5 (some .int)) := rfl
set_option maxRecDepth 100000 in
theorem am_w120 : lw_tbl[528]? = some (Cond.code ⟨"DictionaryTerms", "body", "(III)I"⟩ prog_1_method_9_code 4 (some .int)) := rfl
set_option maxRecDepth 100000 in
theorem am_w121 : lw_tbl[577]? = some (Cond.code ⟨"DictionaryTerms", "standard", "(III)I"⟩ prog_1_method_10_code 4 (some .int)) := rfl
set_option maxRecDepth 100000 in
theorem am_w122 : lw_tbl[589]? = some (Cond.code ⟨"DictionaryTerms", "dictionary", "(II)I"⟩ prog_1_method_11_code 3 (some .int)) := rfl
set_option maxRecDepth 100000 in
theorem am_w123 : lw_tbl[648]? = some (Cond.code ⟨"DictionaryTerms", "lack", "(I)I"⟩ prog_1_method_12_code 2 (some .int)) := rfl
set_option maxRecDepth 100000 in
theorem am_w124 : lw_tbl[660]? = some (Cond.code ⟨"DictionaryTerms", "part", "(II)I"⟩ prog_1_method_13_code 3 (some .int)) := rfl
set_option maxRecDepth 100000 in
theorem am_w125 : lw_tbl[673]? = some (Cond.code ⟨"DictionaryTerms", "about", "(II)I"⟩ prog_1_method_14_code 3 (some .int)) := rfl
set_option maxRecDepth 100000 in
theorem am_w126 : lw_tbl[694]? = some (Cond.code ⟨"DictionaryTerms", "value", "(II)J"⟩ prog_1_method_15_code 3 (some .long)) := rfl
set_option maxRecDepth 100000 in
theorem am_w127 : lw_tbl[698]? = some (Cond.code ⟨"DictionaryTerms", "hasMember", "(II)Z"⟩ prog_1_method_22_code 3 (some .boolean)) := rfl
set_option maxRecDepth 100000 in
theorem am_w128 : lw_tbl[850]? = some (Cond.code ⟨"DictionaryTerms", "failed", "(I)I"⟩ prog_1_method_16_code 2 (some .int)) := rfl
set_option maxRecDepth 100000 in
theorem am_w129 : lw_tbl[863]? = some (Cond.code ⟨"DictionaryTerms", "step", "(II)I"⟩ prog_1_method_17_code 3 (some .int)) := rfl
set_option maxRecDepth 100000 in
theorem am_w130 : lw_tbl[875]? = some (Cond.code ⟨"DictionaryTerms", "begun", "(II)I"⟩ prog_1_method_18_code 3 (some .int)) := rfl
set_option maxRecDepth 100000 in
theorem am_w131 : lw_tbl[883]? = some (Cond.code ⟨"DictionaryTerms", "typeOf", "(II)I"⟩ prog_1_method_19_code 3 (some .int)) := rfl
set_option maxRecDepth 100000 in
theorem am_w132 : lw_tbl[889]? = some (Cond.code ⟨"DictionaryTerms", "count", "(I)I"⟩ prog_1_method_20_code 2 (some .int)) := rfl
set_option maxRecDepth 100000 in
theorem am_w133 : lw_tbl[922]? = some (Cond.code ⟨"DictionaryTermsModel", "<init>", "()V"⟩ prog_11_method_2_code 2 none) := rfl
set_option maxRecDepth 100000 in
theorem am_w134 : lw_tbl[1096]? = some (Cond.code ⟨"DictionaryTermsModel", "constructor", "(I)I"⟩ prog_11_method_3_code 2 (some .int)) := rfl
set_option maxRecDepth 100000 in
theorem am_w135 : lw_tbl[1099]? = some (Cond.code ⟨"DictionaryTermsModel", "isIn", "(III)Z"⟩ prog_11_method_1_code 3 (some .boolean)) := rfl
set_option maxRecDepth 100000 in
theorem am_w136 : lw_tbl[1103]? = some (Cond.code ⟨"DictionaryTermsModel", "type", "(III)I"⟩ prog_11_method_6_code 4 (some .int)) := rfl
set_option maxRecDepth 100000 in
theorem am_w137 : lw_tbl[1107]? = some (Cond.code ⟨"DictionaryTermsModel", "isType", "(I)Z"⟩ prog_11_method_4_code 2 (some .boolean)) := rfl
set_option maxRecDepth 100000 in
theorem am_w138 : lw_tbl[1111]? = some (Cond.code ⟨"DictionaryTermsModel", "made", "(III)I"⟩ prog_11_method_5_code 5 (some .int)) := rfl
set_option maxRecDepth 100000 in
theorem am_w139 : lw_tbl[1115]? = some (Cond.code ⟨"DictionaryTermsModel", "typeOf", "(II)I"⟩ prog_11_method_7_code 3 (some .int)) := rfl
set_option maxRecDepth 100000 in
theorem am_w140 : lw_tbl[1119]? = some (Cond.code ⟨"DictionaryTermsModel", "cls", "(I)I"⟩ prog_11_method_12_code 3 (some .int)) := rfl
set_option maxRecDepth 100000 in
theorem am_w141 : lw_tbl[1123]? = some (Cond.code ⟨"DictionaryTermsModel", "away", "(I)I"⟩ prog_11_method_11_code 2 (some .int)) := rfl
set_option maxRecDepth 100000 in
theorem am_w142 : lw_tbl[1127]? = some (Cond.code ⟨"DictionaryTermsModel", "superOf", "(II)I"⟩ prog_11_method_13_code 4 (some .int)) := rfl
set_option maxRecDepth 100000 in
theorem am_w143 : lw_tbl[1131]? = some (Cond.code ⟨"DictionaryTermsModel", "isClass", "(I)Z"⟩ prog_11_method_9_code 2 (some .boolean)) := rfl
set_option maxRecDepth 100000 in
theorem am_w144 : lw_tbl[1135]? = some (Cond.code ⟨"DictionaryTermsModel", "instance", "(II)I"⟩ prog_11_method_15_code 4 (some .int)) := rfl
set_option maxRecDepth 100000 in
theorem am_w145 : lw_tbl[1139]? = some (Cond.code ⟨"DictionaryTermsModel", "instanceOf", "(II)I"⟩ prog_11_method_14_code 4 (some .int)) := rfl
set_option maxRecDepth 100000 in
theorem am_w146 : lw_tbl[1143]? = some (Cond.code ⟨"DictionaryTermsModel", "context", "(III)I"⟩ prog_11_method_16_code 4 (some .int)) := rfl
set_option maxRecDepth 100000 in
theorem am_w147 : lw_tbl[1147]? = some (Cond.code ⟨"DictionaryTermsModel", "isInstance", "(I)Z"⟩ prog_11_method_10_code 2 (some .boolean)) := rfl
set_option maxRecDepth 100000 in
theorem am_w148 : lw_tbl[1151]? = some (Cond.code ⟨"DictionaryTermsModel", "node", "(IIII)I"⟩ prog_11_method_20_code 6 (some .int)) := rfl
set_option maxRecDepth 100000 in
theorem am_w149 : lw_tbl[1155]? = some (Cond.code ⟨"DictionaryTermsModel", "isRight", "(IIII)Z"⟩ prog_11_method_19_code 5 (some .boolean)) := rfl
set_option maxRecDepth 100000 in
theorem am_w150 : lw_tbl[1159]? = some (Cond.code ⟨"DictionaryTermsModel", "isNode", "(I)Z"⟩ prog_11_method_18_code 2 (some .boolean)) := rfl
set_option maxRecDepth 100000 in
theorem am_w151 : lw_tbl[1162]? = some (Cond.code ⟨"DictionaryTermsModel", "greater", "(II)I"⟩ prog_11_method_17_code 2 (some .int)) := rfl
set_option maxRecDepth 100000 in
theorem am_w152 : lw_tbl[1166]? = some (Cond.code ⟨"DictionaryTermsModel", "body", "(III)I"⟩ prog_11_method_23_code 4 (some .int)) := rfl
set_option maxRecDepth 100000 in
theorem am_w153 : lw_tbl[1170]? = some (Cond.code ⟨"DictionaryTermsModel", "fits", "(III)Z"⟩ prog_11_method_21_code 6 (some .boolean)) := rfl
set_option maxRecDepth 100000 in
theorem am_w154 : lw_tbl[1174]? = some (Cond.code ⟨"DictionaryTermsModel", "isThere", "(III)Z"⟩ prog_11_method_22_code 4 (some .boolean)) := rfl
set_option maxRecDepth 100000 in
theorem am_w155 : lw_tbl[1178]? = some (Cond.code ⟨"DictionaryTermsModel", "standard", "(III)I"⟩ prog_11_method_24_code 4 (some .int)) := rfl
set_option maxRecDepth 100000 in
theorem am_w156 : lw_tbl[1182]? = some (Cond.code ⟨"DictionaryTermsModel", "dictionary", "(II)I"⟩ prog_11_method_31_code 3 (some .int)) := rfl
set_option maxRecDepth 100000 in
theorem am_w157 : lw_tbl[1186]? = some (Cond.code ⟨"DictionaryTermsModel", "make", "(II)I"⟩ prog_11_method_30_code 14 (some .int)) := rfl
set_option maxRecDepth 100000 in
theorem am_w158 : lw_tbl[1190]? = some (Cond.code ⟨"DictionaryTermsModel", "find", "(II)I"⟩ prog_11_method_27_code 4 (some .int)) := rfl
set_option maxRecDepth 100000 in
theorem am_w159 : lw_tbl[1194]? = some (Cond.code ⟨"DictionaryTermsModel", "begin", "(II)I"⟩ prog_11_method_28_code 6 (some .int)) := rfl
set_option maxRecDepth 100000 in
theorem am_w160 : lw_tbl[1198]? = some (Cond.code ⟨"DictionaryTermsModel", "partMany", "(I)I"⟩ prog_11_method_26_code 2 (some .int)) := rfl
set_option maxRecDepth 100000 in
theorem am_w161 : lw_tbl[1202]? = some (Cond.code ⟨"DictionaryTermsModel", "argument", "(II)I"⟩ prog_11_method_29_code 3 (some .int)) := rfl
set_option maxRecDepth 100000 in
theorem am_w162 : lw_tbl[1206]? = some (Cond.code ⟨"DictionaryTermsModel", "lack", "(I)I"⟩ prog_11_method_32_code 2 (some .int)) := rfl
set_option maxRecDepth 100000 in
theorem am_w163 : lw_tbl[1210]? = some (Cond.code ⟨"DictionaryTermsModel", "part", "(II)I"⟩ prog_11_method_33_code 3 (some .int)) := rfl
set_option maxRecDepth 100000 in
theorem am_w164 : lw_tbl[1214]? = some (Cond.code ⟨"DictionaryTermsModel", "isDictionary", "(I)Z"⟩ prog_11_method_25_code 2 (some .boolean)) := rfl
set_option maxRecDepth 100000 in
theorem am_w165 : lw_tbl[1218]? = some (Cond.code ⟨"DictionaryTermsModel", "about", "(II)I"⟩ prog_11_method_35_code 3 (some .int)) := rfl
set_option maxRecDepth 100000 in
theorem am_w166 : lw_tbl[1222]? = some (Cond.code ⟨"DictionaryTermsModel", "hanging", "(I)I"⟩ prog_11_method_34_code 5 (some .int)) := rfl
set_option maxRecDepth 100000 in
theorem am_w167 : lw_tbl[1226]? = some (Cond.code ⟨"DictionaryTermsModel", "value", "(II)J"⟩ prog_11_method_45_code 4 (some .long)) := rfl
set_option maxRecDepth 100000 in
theorem am_w168 : lw_tbl[1230]? = some (Cond.code ⟨"DictionaryTermsModel", "need", "(II)V"⟩ prog_11_method_39_code 6 none) := rfl
set_option maxRecDepth 100000 in
theorem am_w169 : lw_tbl[1234]? = some (Cond.code ⟨"DictionaryTermsModel", "come", "(J)V"⟩ prog_11_method_37_code 3 none) := rfl
set_option maxRecDepth 100000 in
theorem am_w170 : lw_tbl[1238]? = some (Cond.code ⟨"DictionaryTermsModel", "fails", "(III)V"⟩ prog_11_method_38_code 4 none) := rfl
set_option maxRecDepth 100000 in
theorem am_w171 : lw_tbl[1242]? = some (Cond.code ⟨"DictionaryTermsModel", "task", "(I)V"⟩ prog_11_method_36_code 2 none) := rfl
set_option maxRecDepth 100000 in
theorem am_w172 : lw_tbl[1246]? = some (Cond.code ⟨"DictionaryTermsModel", "end", "()V"⟩ prog_11_method_44_code 3 none) := rfl
set_option maxRecDepth 100000 in
theorem am_w173 : lw_tbl[1250]? = some (Cond.code ⟨"DictionaryTermsModel", "together", "(I)V"⟩ prog_11_method_43_code 6 none) := rfl
set_option maxRecDepth 100000 in
theorem am_w174 : lw_tbl[1254]? = some (Cond.code ⟨"DictionaryTermsModel", "failsHere", "(I)V"⟩ prog_11_method_40_code 2 none) := rfl
set_option maxRecDepth 100000 in
theorem am_w175 : lw_tbl[1258]? = some (Cond.code ⟨"DictionaryTermsModel", "work", "(I)V"⟩ prog_11_method_42_code 3 none) := rfl
set_option maxRecDepth 100000 in
theorem am_w176 : lw_tbl[1262]? = some (Cond.code ⟨"DictionaryTermsModel", "workAt", "(I)V"⟩ prog_11_method_41_code 6 none) := rfl
set_option maxRecDepth 100000 in
theorem am_w177 : lw_tbl[1266]? = some (Cond.code ⟨"DictionaryTermsModel", "put", "(III)I"⟩ prog_11_method_8_code 6 (some .int)) := rfl
set_option maxRecDepth 100000 in
theorem am_w178 : lw_tbl[1270]? = some (Cond.code ⟨"DictionaryTermsModel", "failed", "(I)I"⟩ prog_11_method_46_code 2 (some .int)) := rfl
set_option maxRecDepth 100000 in
theorem am_w179 : lw_tbl[1274]? = some (Cond.code ⟨"DictionaryTermsModel", "step", "(II)I"⟩ prog_11_method_47_code 3 (some .int)) := rfl
set_option maxRecDepth 100000 in
theorem am_w180 : lw_tbl[1278]? = some (Cond.code ⟨"DictionaryTermsModel", "begun", "(II)I"⟩ prog_11_method_48_code 3 (some .int)) := rfl
set_option maxRecDepth 100000 in
theorem am_w181 : lw_tbl[1282]? = some (Cond.code ⟨"DictionaryTermsModel", "count", "(I)I"⟩ prog_11_method_49_code 2 (some .int)) := rfl
set_option maxRecDepth 100000 in
theorem am_w182 : lw_tbl[127]? = some (Cond.code ⟨"java/util/Arrays", "fill", "([II)V"⟩ prog_13_method_103_code 4 none) := rfl
end
section
/-! How a state of the abstract machine stands in the machine's own. -/
def am_rg (x : Int) : Prop := -2147483648 ≤ x ∧ x ≤ 2147483647
theorem am_to {x : Int} (h : am_rg x) : (Int32.ofInt x).toInt = x := Int32.toInt_ofInt_of_le (by unfold am_rg at h; omega) (by unfold am_rg at h; omega)
theorem am_rg_to (x : Int32) : am_rg x.toInt := by
  have a := x.toInt_lt
  have b := x.le_toInt
  unfold am_rg; omega
theorem am_wr_to (x : Int) : am_wr x = (Int32.ofInt x).toInt := by
  rw [Int32.toInt_ofInt]; rfl
theorem am_wr_rg (x : Int) : am_rg (am_wr x) := by rw [am_wr_to]; exact am_rg_to _
theorem am_wr_of (x : Int) : Int32.ofInt (am_wr x) = Int32.ofInt x := by rw [am_wr_to, Int32.ofInt_toInt]
theorem am_wr_id {x : Int} (h : am_rg x) : am_wr x = x := by rw [am_wr_to, am_to h]
theorem am_eqI {a b : Int} (ha : am_rg a) (hb : am_rg b) : Int32.ofInt a = Int32.ofInt b ↔ a = b := by
  rw [← Int32.toInt_inj, am_to ha, am_to hb]
theorem am_ltI {a b : Int} (ha : am_rg a) (hb : am_rg b) : Int32.ofInt a < Int32.ofInt b ↔ a < b := by
  rw [Int32.lt_iff_toInt_lt, am_to ha, am_to hb]
theorem am_leI {a b : Int} (ha : am_rg a) (hb : am_rg b) : Int32.ofInt a ≤ Int32.ofInt b ↔ a ≤ b := by
  rw [Int32.le_iff_toInt_le, am_to ha, am_to hb]
theorem am_clamp {a : Int} (ha : am_rg a) : (Int32.ofInt a).toNatClampNeg = a.toNat := by
  unfold Int32.toNatClampNeg
  rw [am_to ha]
theorem am_vin {a : Int} {n : Nat} (ha : am_rg a) (h0 : 0 ≤ a) (h1 : a < n) : vp_in (Int32.ofInt a) n := by
  unfold vp_in
  rw [am_clamp ha]
  intro h
  rcases h with h | h
  · have z : (0 : Int32) = Int32.ofInt 0 := rfl
    rw [z, am_ltI ha (by unfold am_rg; omega)] at h
    omega
  · omega
def am_ad (base b k : Nat) : Nat := if k = 0 then b else base + k
def am_re (base b : Nat) (v : am_V) : Value := match v with
  | .inl i => .int (Int32.ofInt i)
  | .inr (.inl l) => .long l
  | .inr (.inr none) => .null
  | .inr (.inr (some k)) => .ref (am_ad base b k)
theorem am_re_cat (base b : Nat) (v : am_V) : (am_re base b v).category = if am_c2 v = true then 2 else 1 := by
  rcases v with i | l | r
  · rfl
  · rfl
  · cases r <;> rfl
def am_nf (c : Nat) : Nat := ((am_fts[c]?).getD []).length
def am_fv (base b c k : Nat) (h : am_H) (f : Nat) : Value := match am_ft c f with
  | 0 => .int (Int32.ofInt (h.2.2.1 k f))
  | 1 => .long (h.2.2.2 k f)
  | _ => am_re base b (.inr (.inr (h.2.1 k f)))
def am_E (dA : Nat → ClassId) (base b k : Nat) (h : am_H) (q : Nat × Nat) : va_E := match q.1 with
  | 0 => .inl (dA 0, q.2, .inl (fun i => Int32.ofInt (h.2.2.1 k i)))
  | 1 => .inl (dA 1, q.2, .inr (.inl (fun i => h.2.2.2 k i)))
  | 2 => .inl (dA 2, q.2, .inl (fun i => Int32.ofInt (h.2.2.1 k i)))
  | c + 3 => .inr (c, (List.range (am_nf c)).map (am_fv base b c k h))
def am_P (base b : Nat) (D : va_G) (dA : Nat → ClassId) (h : am_H) (H : Heap) : Prop :=
  H.size = base + h.1.length ∧ ∀ (k : Nat) (q : Nat × Nat), k ≠ 0 → h.1[k]? = some q → va_at D am_cl (base + k, am_E dA base b k h q) H
def am_rgH (h : am_H) : Prop := ∀ (k : Nat) (j : Int), am_rg (h.2.2.1 k j)
def am_rgS (st : List am_V) : Prop := ∀ x : Int, .inl x ∈ st → am_rg x
def am_size (q : Nat × Nat) : Nat := match q.1 with
  | c + 3 => am_nf c
  | _ => q.2
def am_sz (S : List (Nat × Nat)) : Nat := (S.map am_size).sum
theorem am_sz_app (S : List (Nat × Nat)) (q : Nat × Nat) : am_sz (S ++ [q]) = am_sz S + am_size q := by simp [am_sz]
def am_as (base b : Nat) : Nat → am_Ls → List (Nat × Value)
  | _, [] => []
  | i, none :: r => am_as base b (i + 1) r
  | i, some v :: r => (i, am_re base b v) :: am_as base b (i + 1) r
def am_Lo (base b nL : Nat) (ls : am_Ls) (sl : Array Slot) : Prop := lv_has sl nL (am_as base b 0 ls) ∧ ls.length = nL ∧ ∀ x : Int, some (.inl x) ∈ ls → am_rg x
theorem am_as_get {base b : Nat} : ∀ (ls : am_Ls) (i0 i : Nat) (v : am_V), am_get ls i = some v → (i0 + i, am_re base b v) ∈ am_as base b i0 ls := by
  intro ls
  induction ls with
  | nil => intro i0 i v h; cases i <;> cases h
  | cons a r ih =>
    intro i0 i v h
    cases i with
    | zero =>
      cases (show a = some v from h)
      exact List.mem_cons_self
    | succ n =>
      have h2 : am_get r n = some v := h
      have h3 := ih (i0 + 1) n v h2
      rw [show i0 + (n + 1) = i0 + 1 + n by omega]
      cases a with
      | none => exact h3
      | some w => exact List.mem_cons_of_mem _ h3
theorem am_get_mem : ∀ (ls : am_Ls) (i : Nat) (v : am_V), am_get ls i = some v → some v ∈ ls := by
  intro ls
  induction ls with
  | nil => intro i v h; cases i <;> cases h
  | cons a r ih =>
    intro i v h
    cases i with
    | zero =>
      cases (show a = some v from h)
      exact List.mem_cons_self
    | succ n => exact List.mem_cons_of_mem _ (ih n v h)
theorem am_as_ge {base b : Nat} : ∀ (ls : am_Ls) (i0 : Nat) (q : Nat × Value), q ∈ am_as base b i0 ls → i0 ≤ q.1 := by
  intro ls
  induction ls with
  | nil => intro i0 q h; cases h
  | cons a r ih =>
    intro i0 q h
    cases a with
    | none =>
      have := ih (i0 + 1) q h
      omega
    | some w =>
      rcases List.mem_cons.mp h with rfl | h
      · exact Nat.le_refl _
      · have := ih (i0 + 1) q h
        omega
theorem am_st1_as {base b : Nat} (v : am_V) : ∀ (ls : am_Ls) (i0 i : Nat) (q : Nat × Value), q ∈ am_as base b i0 (am_st1 ls i v) → q = (i0 + i, am_re base b v) ∨ (q ∈ am_as base b i0 ls ∧ q.1 ≠ i0 + i ∧ ¬ (q.1 + 1 = i0 + i ∧ q.2.category = 2)) := by
  intro ls
  induction ls with
  | nil => intro i0 i q h; cases i <;> cases h
  | cons a r ih =>
    intro i0 i q h
    match i, h with
    | 0, h =>
      rcases List.mem_cons.mp (show q ∈ (i0, am_re base b v) :: am_as base b (i0 + 1) r from h) with rfl | h9
      · exact Or.inl rfl
      · have g := am_as_ge r (i0 + 1) q h9
        refine Or.inr ⟨?_, by omega, by omega⟩
        cases a with
        | none => exact h9
        | some w => exact List.mem_cons_of_mem _ h9
    | 1, h =>
      have key : q ∈ am_as base b (i0 + 1) (am_st1 r 0 v) ∨ (∃ w, a = some w ∧ am_c1 a = some w ∧ q = (i0, am_re base b w)) := by
        have h : q ∈ am_as base b i0 (am_c1 a :: am_st1 r 0 v) := h
        cases hc : am_c1 a with
        | none => rw [hc] at h; exact Or.inl h
        | some w =>
          rw [hc] at h
          rcases List.mem_cons.mp h with h | h
          · refine Or.inr ⟨w, ?_, rfl, h⟩
            unfold am_c1 at hc
            split at hc
            · cases hc
            · exact hc
          · exact Or.inl h
      rcases key with h | ⟨w, ha, hc, rfl⟩
      · rcases ih (i0 + 1) 0 q h with rfl | ⟨h1, h2, h3⟩
        · exact Or.inl rfl
        · refine Or.inr ⟨?_, by omega, fun z => h3 ⟨by omega, z.2⟩⟩
          cases a with
          | none => exact h1
          | some w => exact List.mem_cons_of_mem _ h1
      · refine Or.inr ⟨by rw [ha]; exact List.mem_cons_self, by show i0 ≠ i0 + 1; omega, fun z => ?_⟩
        have z2 : (am_re base b w).category = 2 := z.2
        rw [am_re_cat] at z2
        rw [ha] at hc
        rcases w with x | x | x
        · simp [am_c2] at z2
        · cases hc
        · simp [am_c2] at z2
    | n + 2, h =>
      have h : q ∈ am_as base b i0 (a :: am_st1 r (n + 1) v) := h
      cases a with
      | none =>
        rcases ih (i0 + 1) (n + 1) q h with rfl | ⟨h1, h2, h3⟩
        · exact Or.inl (by congr 1; omega)
        · exact Or.inr ⟨h1, by omega, fun z => h3 ⟨by omega, z.2⟩⟩
      | some w =>
        rcases List.mem_cons.mp h with rfl | h
        · exact Or.inr ⟨List.mem_cons_self, by show i0 ≠ _; omega, fun z => by have : i0 + 1 = i0 + (n + 2) := z.1; omega⟩
        · rcases ih (i0 + 1) (n + 1) q h with rfl | ⟨h1, h2, h3⟩
          · exact Or.inl (by congr 1; omega)
          · exact Or.inr ⟨List.mem_cons_of_mem _ h1, by omega, fun z => h3 ⟨by omega, z.2⟩⟩
theorem am_st2_as {base b : Nat} (v : am_V) : ∀ (ls : am_Ls) (i0 i : Nat) (q : Nat × Value), q ∈ am_as base b i0 (am_st2 ls i v) → q = (i0 + i, am_re base b v) ∨ (q ∈ am_as base b i0 ls ∧ q.1 ≠ i0 + i ∧ q.1 ≠ i0 + i + 1 ∧ ¬ (q.1 + 1 = i0 + i ∧ q.2.category = 2)) := by
  intro ls
  induction ls with
  | nil => intro i0 i q h; cases i <;> cases h
  | cons a r ih =>
    intro i0 i q h
    match i, h with
    | 0, h =>
      cases r with
      | nil => cases h
      | cons a2 r =>
        rcases List.mem_cons.mp (show q ∈ (i0, am_re base b v) :: am_as base b (i0 + 1 + 1) r from h) with rfl | h9
        · exact Or.inl rfl
        · have g := am_as_ge r (i0 + 1 + 1) q h9
          refine Or.inr ⟨?_, by omega, by omega, by omega⟩
          cases a <;> cases a2 <;> simp [am_as, h9]
    | 1, h =>
      have key : q ∈ am_as base b (i0 + 1) (am_st2 r 0 v) ∨ (∃ w, a = some w ∧ am_c1 a = some w ∧ q = (i0, am_re base b w)) := by
        have h : q ∈ am_as base b i0 (am_c1 a :: am_st2 r 0 v) := by
          cases r with
          | nil => exact h
          | cons a2 r => exact h
        cases hc : am_c1 a with
        | none => rw [hc] at h; exact Or.inl h
        | some w =>
          rw [hc] at h
          rcases List.mem_cons.mp h with h | h
          · refine Or.inr ⟨w, ?_, rfl, h⟩
            unfold am_c1 at hc
            split at hc
            · cases hc
            · exact hc
          · exact Or.inl h
      rcases key with h | ⟨w, ha, hc, rfl⟩
      · rcases ih (i0 + 1) 0 q h with rfl | ⟨h1, h2, h4, h3⟩
        · exact Or.inl rfl
        · refine Or.inr ⟨?_, by omega, by omega, fun z => h3 ⟨by omega, z.2⟩⟩
          cases a with
          | none => exact h1
          | some w => exact List.mem_cons_of_mem _ h1
      · refine Or.inr ⟨by rw [ha]; exact List.mem_cons_self, by show i0 ≠ i0 + 1; omega, by show i0 ≠ i0 + 1 + 1; omega, fun z => ?_⟩
        have z2 : (am_re base b w).category = 2 := z.2
        rw [am_re_cat] at z2
        rw [ha] at hc
        rcases w with x | x | x
        · simp [am_c2] at z2
        · cases hc
        · simp [am_c2] at z2
    | n + 2, h =>
      have h : q ∈ am_as base b i0 (a :: am_st2 r (n + 1) v) := by
        cases r with
        | nil => exact h
        | cons a2 r => exact h
      cases a with
      | none =>
        rcases ih (i0 + 1) (n + 1) q h with rfl | ⟨h1, h2, h4, h3⟩
        · exact Or.inl (by congr 1; omega)
        · exact Or.inr ⟨h1, by omega, by omega, fun z => h3 ⟨by omega, z.2⟩⟩
      | some w =>
        rcases List.mem_cons.mp h with rfl | h
        · exact Or.inr ⟨List.mem_cons_self, by show i0 ≠ _; omega, by show i0 ≠ _; omega, fun z => by have : i0 + 1 = i0 + (n + 2) := z.1; omega⟩
        · rcases ih (i0 + 1) (n + 1) q h with rfl | ⟨h1, h2, h4, h3⟩
          · exact Or.inl (by congr 1; omega)
          · exact Or.inr ⟨List.mem_cons_of_mem _ h1, by omega, by omega, fun z => h3 ⟨by omega, z.2⟩⟩
end
section
/-! Locals: what a store keeps. -/
theorem am_st1_len (v : am_V) : ∀ (ls : am_Ls) (i : Nat), (am_st1 ls i v).length = ls.length := by
  intro ls
  induction ls with
  | nil => intro i; cases i <;> rfl
  | cons a r ih =>
    intro i
    match i with
    | 0 => rfl
    | 1 => exact congrArg (· + 1) (ih 0)
    | n + 2 => exact congrArg (· + 1) (ih (n + 1))
theorem am_st2_len (v : am_V) : ∀ (ls : am_Ls) (i : Nat), i + 1 < ls.length → (am_st2 ls i v).length = ls.length := by
  intro ls
  induction ls with
  | nil => intro i h; simp at h
  | cons a r ih =>
    intro i h
    match i, h with
    | 0, h =>
      cases r with
      | nil => simp at h
      | cons a2 r => rfl
    | 1, h =>
      cases r with
      | nil => simp at h
      | cons a2 r => exact congrArg (· + 1) (ih 0 (by simpa using h))
    | n + 2, h =>
      cases r with
      | nil => simp at h
      | cons a2 r => exact congrArg (· + 1) (ih (n + 1) (by simp at h ⊢; omega))
theorem am_c1_sub {a : Option am_V} {w : am_V} (h : am_c1 a = some w) : a = some w := by
  unfold am_c1 at h
  split at h
  · cases h
  · exact h
theorem am_st1_mem (v : am_V) : ∀ (ls : am_Ls) (i : Nat) (w : am_V), some w ∈ am_st1 ls i v → w = v ∨ some w ∈ ls := by
  intro ls
  induction ls with
  | nil => intro i w h; cases i <;> cases h
  | cons a r ih =>
    intro i w h
    match i, h with
    | 0, h =>
      rcases List.mem_cons.mp (show some w ∈ some v :: r from h) with h9 | h9
      · exact Or.inl (Option.some.inj h9)
      · exact Or.inr (List.mem_cons_of_mem _ h9)
    | 1, h =>
      rcases List.mem_cons.mp (show some w ∈ am_c1 a :: am_st1 r 0 v from h) with h9 | h9
      · exact Or.inr (by rw [am_c1_sub h9.symm]; exact List.mem_cons_self)
      · rcases ih 0 w h9 with h8 | h8
        · exact Or.inl h8
        · exact Or.inr (List.mem_cons_of_mem _ h8)
    | n + 2, h =>
      rcases List.mem_cons.mp (show some w ∈ a :: am_st1 r (n + 1) v from h) with h9 | h9
      · exact Or.inr (by rw [h9]; exact List.mem_cons_self)
      · rcases ih (n + 1) w h9 with h8 | h8
        · exact Or.inl h8
        · exact Or.inr (List.mem_cons_of_mem _ h8)
theorem am_st2_mem (v : am_V) : ∀ (ls : am_Ls) (i : Nat) (w : am_V), some w ∈ am_st2 ls i v → w = v ∨ some w ∈ ls := by
  intro ls
  induction ls with
  | nil => intro i w h; cases i <;> cases h
  | cons a r ih =>
    intro i w h
    match i, h with
    | 0, h =>
      cases r with
      | nil => cases h
      | cons a2 r =>
        have h : some w ∈ some v :: none :: r := h
        simp at h
        rcases h with h9 | h9
        · exact Or.inl h9
        · exact Or.inr (List.mem_cons_of_mem _ (List.mem_cons_of_mem _ h9))
    | 1, h =>
      have h : some w ∈ am_c1 a :: am_st2 r 0 v := by
        cases r with
        | nil => exact h
        | cons a2 r => exact h
      rcases List.mem_cons.mp h with h9 | h9
      · exact Or.inr (by rw [am_c1_sub h9.symm]; exact List.mem_cons_self)
      · rcases ih 0 w h9 with h8 | h8
        · exact Or.inl h8
        · exact Or.inr (List.mem_cons_of_mem _ h8)
    | n + 2, h =>
      have h : some w ∈ a :: am_st2 r (n + 1) v := by
        cases r with
        | nil => exact h
        | cons a2 r => exact h
      rcases List.mem_cons.mp h with h9 | h9
      · exact Or.inr (by rw [h9]; exact List.mem_cons_self)
      · rcases ih (n + 1) w h9 with h8 | h8
        · exact Or.inl h8
        · exact Or.inr (List.mem_cons_of_mem _ h8)
theorem am_Lo.at {base b nL i : Nat} {ls : am_Ls} {sl : Array Slot} {v : am_V} (h : am_Lo base b nL ls sl) (hg : am_get ls i = some v) : sl[i]? = some (.val (am_re base b v)) := by
  have := h.1.2.2 _ (am_as_get ls 0 i v hg)
  simpa using this
theorem am_Lo.rg {base b nL i : Nat} {ls : am_Ls} {sl : Array Slot} {x : Int} (h : am_Lo base b nL ls sl) (hg : am_get ls i = some (.inl x)) : am_rg x := h.2.2 x (am_get_mem ls i _ hg)
theorem am_Lo.st1 {base b nL i : Nat} {ls : am_Ls} {sl sl' : Array Slot} {v : am_V} (h : am_Lo base b nL ls sl) (hv : ∀ x, v = .inl x → am_rg x) (h' : lv_has sl' nL ((i, am_re base b v) :: (am_as base b 0 ls).filter (fun q => !(q.1 == i) && !(q.1 + 1 == i && q.2.category == 2)))) : am_Lo base b nL (am_st1 ls i v) sl' := by
  refine ⟨⟨h'.1, h'.2.1, fun q hq => h'.2.2 q ?_⟩, by rw [am_st1_len]; exact h.2.1, fun x hx => ?_⟩
  · rcases am_st1_as v ls 0 i q hq with rfl | ⟨h1, h2, h3⟩
    · simp
    · refine List.mem_cons_of_mem _ (List.mem_filter.mpr ⟨h1, ?_⟩)
      simp only [Nat.zero_add] at h2 h3
      simp only [Bool.and_eq_true, Bool.not_eq_true', beq_eq_false_iff_ne, Bool.and_eq_false_iff]
      refine ⟨h2, ?_⟩
      by_cases z : q.1 + 1 = i
      · exact Or.inr (fun w => h3 ⟨z, w⟩)
      · exact Or.inl z
  · rcases am_st1_mem v ls i _ hx with h9 | h9
    · exact hv x h9.symm
    · exact h.2.2 x h9
theorem am_Lo.st2 {base b nL i : Nat} {ls : am_Ls} {sl sl' : Array Slot} {v : am_V} (h : am_Lo base b nL ls sl) (hi : i + 1 < ls.length) (hv : ∀ x, v = .inl x → am_rg x) (h' : lv_has sl' nL ((i, am_re base b v) :: (am_as base b 0 ls).filter (fun q => !(q.1 == i) && (!(q.1 == i + 1) && !(q.1 + 1 == i && q.2.category == 2))))) : am_Lo base b nL (am_st2 ls i v) sl' := by
  refine ⟨⟨h'.1, h'.2.1, fun q hq => h'.2.2 q ?_⟩, by rw [am_st2_len v ls i hi]; exact h.2.1, fun x hx => ?_⟩
  · rcases am_st2_as v ls 0 i q hq with rfl | ⟨h1, h2, h4, h3⟩
    · simp
    · refine List.mem_cons_of_mem _ (List.mem_filter.mpr ⟨h1, ?_⟩)
      simp only [Nat.zero_add] at h2 h3 h4
      simp only [Bool.and_eq_true, Bool.not_eq_true', beq_eq_false_iff_ne, Bool.and_eq_false_iff]
      refine ⟨h2, h4, ?_⟩
      by_cases z : q.1 + 1 = i
      · exact Or.inr (fun w => h3 ⟨z, w⟩)
      · exact Or.inl z
  · rcases am_st2_mem v ls i _ hx with h9 | h9
    · exact hv x h9.symm
    · exact h.2.2 x h9
end
section
/-! The heap: reads, stores, new cells, over the cells' numbers. -/
def am_same (k : Nat) (h h' : am_H) : Prop := (∀ j, h'.2.1 k j = h.2.1 k j) ∧ (∀ j, h'.2.2.1 k j = h.2.2.1 k j) ∧ ∀ j, h'.2.2.2 k j = h.2.2.2 k j
theorem am_E_congr {dA : Nat → ClassId} {base b k : Nat} {h h' : am_H} (e : am_same k h h') (q : Nat × Nat) : am_E dA base b k h' q = am_E dA base b k h q := by
  obtain ⟨e1, e2, e3⟩ := e
  have hf : ∀ c f, am_fv base b c k h' f = am_fv base b c k h f := by
    intro c f
    unfold am_fv
    rw [e1, e2, e3]
  unfold am_E
  split
  · congr 3; congr 1; funext i; rw [e2]
  · congr 3; congr 1; congr 1; funext i; rw [e3]
  · congr 3; congr 1; funext i; rw [e2]
  · next c _ =>
    congr 2
    exact List.map_congr_left (fun f _ => hf c f)
theorem am_P.upd {base b k : Nat} {D : va_G} {dA : Nat → ClassId} {h h' : am_H} {H H' : Heap} (hP : am_P base b D dA h H) (hS : h'.1 = h.1) (hz : H'.size = H.size) (ho : ∀ q, q ≠ base + k → H'[q]? = H[q]?) (hE : ∀ k', k' ≠ k → am_same k' h h') (hk : ∀ q, h.1[k]? = some q → va_at D am_cl (base + k, am_E dA base b k h' q) H') : am_P base b D dA h' H' := by
  refine ⟨by rw [hz, hS]; exact hP.1, fun k' q h0 hq => ?_⟩
  rw [hS] at hq
  by_cases e : k' = k
  · subst e
    exact hk q hq
  · rw [am_E_congr (hE k' e)]
    exact (hP.2 k' q h0 hq).kept (ho _ (by show base + k' ≠ base + k; omega))
theorem am_P.push {base b : Nat} {D : va_G} {dA : Nat → ClassId} {h h' : am_H} {H H' : Heap} {q0 : Nat × Nat} (hP : am_P base b D dA h H) (hS : h'.1 = h.1 ++ [q0]) (hz : H'.size = H.size + 1) (ho : ∀ q, q < H.size → H'[q]? = H[q]?) (hE : ∀ k', k' < h.1.length → am_same k' h h') (hk : va_at D am_cl (H.size, am_E dA base b h.1.length h' q0) H') : am_P base b D dA h' H' := by
  refine ⟨by rw [hz, hS, hP.1]; simp; omega, fun k' q h0 hq => ?_⟩
  rw [hS] at hq
  by_cases e : k' < h.1.length
  · rw [List.getElem?_append_left e] at hq
    rw [am_E_congr (hE k' e)]
    have hv := hP.2 k' q h0 hq
    exact hv.kept (ho _ hv.lt)
  · have e2 : k' - h.1.length = 0 := by
      have := (List.getElem?_eq_some_iff.mp hq).1
      simp at this
      omega
    rw [List.getElem?_append_right (by omega), e2] at hq
    cases hq
    have e3 : k' = h.1.length := by omega
    subst e3
    rw [← hP.1]
    exact hk
def am_K (D : va_G) (dA : Nat → ClassId) (U : State) : Prop := va_K D am_cl [(dA 0, .int), (dA 1, .long), (dA 2, .boolean)] U
theorem am_K.moved {D : va_G} {dA : Nat → ClassId} {u U : State} (hvm : u.vm.Alike U.vm) (h : am_K D dA u) : am_K D dA U := va_K.moved hvm h
def am_tb : List Cond := lw_tbl.filter goodWord
theorem am_in_tb {w : Cond} (h : w ∈ lw_tbl) (hg : goodWord w = true) : w ∈ am_tb := List.mem_filter.mpr ⟨h, hg⟩
theorem am_at_mem {p : Nat} {w : Cond} (h : am_at p w = true) : w ∈ lw_tbl := by
  unfold am_at at h
  exact List.mem_of_getElem? (of_decide_eq_true h)
/-- the two links between nest mates -/
def am_Nst (U : State) : Prop := va_Nw (.methodLinkNest "DictionaryTerms" 43 ⟨"DictionaryTerms$Values", "<init>", "()V"⟩ "DictionaryTerms") U ∧ va_Nw (.methodLinkNest "DictionaryTerms" 59 ⟨"DictionaryTerms$Report", "<init>", "()V"⟩ "DictionaryTerms") U
def am_Cx (p : Program) (s : State) (m : MethodId) (args : Array Value) (meth : Method) (c : Code) (mt : am_M) : Prop :=
  p.tables.exec = Jvm.exec ∧ c.code = mt.2.1 ∧ c.maxLocals = mt.2.2.1 ∧ s.vm.findClass mt.1.cls = some m.cls ∧ (∀ w ∈ am_tb, w.before args s = true) ∧ (mt.1.name = "<init>" → meth.name = "<init>") ∧ am_Nst s ∧ mt ∈ am_ml
def am_Rp (base b : Nat) (D : va_G) (dA : Nat → ClassId) (s : State) (n0 z0 : Nat) (h : am_H) (H : Heap) (locs : List Loc) (cells slots : Nat) : Prop :=
  am_P base b D dA h H ∧ va_S (fun q => base < q) s.heap H locs ∧ cells + n0 = h.1.length ∧ slots + z0 = am_sz h.1 ∧ am_rgH h ∧ (∃ n, h.1[0]? = some (9, n)) ∧ base < s.heap.size
/-- what the tables say of a class -/
theorem am_cls {c : Nat} (hc : c < 10) : ∃ (C : String) (T : u_T) (N : Nat) (ty : Nat → FieldType), am_cl[c]? = some (C, T, N) ∧ am_nf c = N ∧ (∀ w ∈ u_ws C T N, w ∈ am_tb) ∧ Cond.instantiable C N ∈ am_tb ∧ Cond.initialized C ∈ am_tb ∧ (∀ f, f < N → parseFieldDescriptor (T f).2.2.1 = some (ty f) ∧ (T f).1 = C ∧ ((am_ft c f = 0 ∧ ty f = .int ∧ (T f).2.2.2 = false) ∨ (am_ft c f = 1 ∧ ty f = .long ∧ (T f).2.2.2 = false) ∨ (am_ft c f = 2 ∧ ((∃ n, ty f = .object n) ∨ ∃ t, ty f = .array t) ∧ (T f).2.2.2 = true))) ∧ (∀ a, a < N → ∀ b, b < N → a ≠ b → (T a).2.1 ≠ (T b).2.1) := by
  have h1 := List.all_eq_true.mp am_all_c c (List.mem_range.mpr hc)
  have h2 := List.all_eq_true.mp am_all_u c (List.mem_range.mpr hc)
  unfold am_okc at h1
  split at h1
  · next C T N ty ft e1 e2 e3 =>
    rw [e1] at h2
    simp only [Bool.and_eq_true, decide_eq_true_eq, List.all_eq_true, List.mem_range, Bool.or_eq_true] at h1 h2
    obtain ⟨⟨⟨⟨h3, h4⟩, h5⟩, h6⟩, h7⟩ := h1
    refine ⟨C, T, N, ty, e1, by rw [am_nf, e3]; exact h3, fun w hw => am_in_tb (h2 w hw) ?_, am_in_tb h4 rfl, am_in_tb h5 rfl, fun f hf => ?_, fun a ha b hb hne => (h7 a ha b hb).resolve_left hne⟩
    · obtain ⟨f, -, rfl⟩ := List.mem_map.mp hw
      unfold u_lay
      split <;> rfl
    · obtain ⟨⟨g1, g2⟩, g3⟩ := h6 f hf
      refine ⟨g1, g2, ?_⟩
      have hft : am_ft c f = (ft[f]?).getD 9 := by rw [am_ft, e3]; rfl
      rw [hft]
      split at g3
      · next q1 q2 q3 => rw [q1, q2, q3]; exact Or.inl ⟨rfl, rfl, rfl⟩
      · next q1 q2 q3 => rw [q1, q2, q3]; exact Or.inr (Or.inl ⟨rfl, rfl, rfl⟩)
      · next q1 q2 q3 => rw [q1, q2, q3]; exact Or.inr (Or.inr ⟨rfl, Or.inl ⟨_, rfl⟩, rfl⟩)
      · next q1 q2 q3 => rw [q1, q2, q3]; exact Or.inr (Or.inr ⟨rfl, Or.inr ⟨_, rfl⟩, rfl⟩)
      · cases g3
  · cases h1
theorem am_lk_mem {α : Type} : ∀ (l : List (Nat × α)) (k : Nat) (v : α), am_lk l k = some v → (k, v) ∈ l := by
  intro l
  induction l with
  | nil => intro k v h; cases h
  | cons a r ih =>
    intro k v h
    obtain ⟨a1, a2⟩ := a
    unfold am_lk at h
    split at h
    · next e => cases h; rw [e]; exact List.mem_cons_self
    · exact List.mem_cons_of_mem _ (ih k v h)
theorem am_zip_mem {α β : Type} : ∀ (l : List α) (r : List β) (a : α), a ∈ l → l.length = r.length → ∃ c, (a, c) ∈ l.zip r := by
  intro l
  induction l with
  | nil => intro r a h; cases h
  | cons z l ih =>
    intro r a h hl
    cases r with
    | nil => simp at hl
    | cons y r =>
      rcases List.mem_cons.mp h with rfl | h
      · exact ⟨y, by simp⟩
      · obtain ⟨c, hc⟩ := ih r a h (by simpa using hl)
        exact ⟨c, by simp [hc]⟩
theorem am_key_of {o i k : Nat} (h : am_key o i = k) (hk : k < 99999999) : i < 1000 ∧ k / 1000 = o ∧ k % 1000 = i := by
  unfold am_key at h
  split at h
  · omega
  · omega
theorem am_meth {mt : am_M} (h : mt ∈ am_ml) : plainName mt.1.cls = true ∧ mt.1.cls ≠ "java/lang/invoke/MethodHandle" ∧ mt.1.cls ≠ "java/lang/invoke/VarHandle" ∧ am_cn[mt.2.2.2.2]? = some mt.1.cls ∧ mt.2.2.1 ≤ 18 ∧ Cond.initialized mt.1.cls ∈ am_tb := by
  have h1 := List.all_eq_true.mp am_all_m mt h
  unfold am_okm at h1
  simp only [Bool.and_eq_true, decide_eq_true_eq] at h1
  obtain ⟨⟨⟨⟨h2, h3⟩, h4⟩, h5⟩, h6⟩ := h1
  have h7 := List.all_eq_true.mp am_all_i _ (List.mem_of_getElem? h5)
  exact ⟨h2, h3, h4, h5, h6, am_in_tb (of_decide_eq_true h7) rfl⟩
theorem am_fl_lt : am_fl.all (fun q => decide (q.1 < 99999999) && decide (q.2.1 < 10)) = true ∧ am_mk.all (fun q => decide (q.1 < 99999999)) = true ∧ am_ck.all (fun q => decide (q.1 < 99999999) && decide (q.2 < 10)) = true ∧ am_kk.all (fun q => decide (q.1 < 99999999)) = true := by decide +kernel
/-- a field's entry -/
theorem am_fld {mt : am_M} (hm : mt ∈ am_ml) {i c f : Nat} (h : am_lk am_fl (am_key mt.2.2.2.2 i) = some (c, f)) : c < 10 ∧ ∃ (C : String) (T : u_T) (N : Nat), am_cl[c]? = some (C, T, N) ∧ f < N ∧ Cond.fieldLink mt.1.cls i C (T f).2.1 (T f).2.2.1 ∈ am_tb := by
  have hmem := am_lk_mem _ _ _ h
  have hlt := List.all_eq_true.mp am_fl_lt.1 _ hmem
  simp only [Bool.and_eq_true, decide_eq_true_eq] at hlt
  obtain ⟨e1, e2, e3⟩ := am_key_of rfl hlt.1
  obtain ⟨p, hp⟩ := am_zip_mem _ am_fp _ hmem am_all_l.2.1
  have h1 := List.all_eq_true.mp am_all_f _ hp
  unfold am_okf at h1
  simp only [e2, e3] at h1
  rw [(am_meth hm).2.2.2.1] at h1
  split at h1
  · next own C T N q1 q2 =>
    cases q1
    simp only [Bool.and_eq_true, decide_eq_true_eq] at h1
    exact ⟨hlt.2, C, T, N, q2, h1.1, am_in_tb (am_at_mem h1.2) rfl⟩
  · cases h1
end
section
/-! The machine at one instruction that the abstract machine takes: what leaves the heap alone. -/
def am_KK (p : Program) (l : Launch) (e : Env) (R : Room) (s : State) (m : MethodId) (args : Array Value) (below : List Frame) (meth : Method) (c : Code) (Q : State → Prop) (mt : am_M) (base b n0 z0 : Nat) (D : va_G) (dA : Nat → ClassId) (pc : Nat) (ls : am_Ls) (st : List am_V) (h : am_H) : Prop :=
  ∀ (sl : Array Slot) (H : Heap) (locs : List Loc) (cells slots : Nat), am_Lo base b mt.2.2.1 ls sl → am_rgS st → am_Rp base b D dA s n0 z0 h H locs cells slots → W p l e R s m args below meth c H locs cells slots Q (F0 m pc sl (st.map (am_re base b)))
theorem am_rgS_c {x : Int} {st : List am_V} (hx : am_rg x) (h : am_rgS st) : am_rgS (.inl x :: st) := by
  intro y hy
  rcases List.mem_cons.mp hy with e | e
  · cases e; exact hx
  · exact h y e
theorem am_rgS_o {v : am_V} {st : List am_V} (hv : ∀ x, v ≠ .inl x) (h : am_rgS st) : am_rgS (v :: st) := by
  intro y hy
  rcases List.mem_cons.mp hy with e | e
  · exact absurd e.symm (hv y)
  · exact h y e
theorem am_rgS_l {x : Int64} {st : List am_V} (h : am_rgS st) : am_rgS (.inr (.inl x) :: st) := am_rgS_o (fun _ q => by cases q) h
theorem am_rgS_r {x : Option Nat} {st : List am_V} (h : am_rgS st) : am_rgS (.inr (.inr x) :: st) := am_rgS_o (fun _ q => by cases q) h
theorem am_rgS_t {v : am_V} {st : List am_V} (h : am_rgS (v :: st)) : am_rgS st := fun x hx => h x (List.mem_cons_of_mem _ hx)
theorem am_rgS_h {x : Int} {st : List am_V} (h : am_rgS (.inl x :: st)) : am_rg x := h x List.mem_cons_self
theorem am_load_i {i nx : Nat} {ls : am_Ls} {st : List am_V} {h : am_H} {r : am_Nx} (q : am_load 0 i nx ls st h = some r) : ∃ a, am_get ls i = some (.inl a) ∧ r = .inl (nx, ls, .inl a :: st, h) := by
  unfold am_load at q
  cases hg : am_get ls i with
  | none => rw [hg] at q; cases q
  | some v =>
    rw [hg] at q
    rcases v with x | x | (_ | x)
    · cases q; exact ⟨x, rfl, rfl⟩
    all_goals cases q
theorem am_load_l {i nx : Nat} {ls : am_Ls} {st : List am_V} {h : am_H} {r : am_Nx} (q : am_load 1 i nx ls st h = some r) : ∃ a, am_get ls i = some (.inr (.inl a)) ∧ r = .inl (nx, ls, .inr (.inl a) :: st, h) := by
  unfold am_load at q
  cases hg : am_get ls i with
  | none => rw [hg] at q; cases q
  | some v =>
    rw [hg] at q
    rcases v with x | x | (_ | x)
    · cases q
    · cases q; exact ⟨x, rfl, rfl⟩
    all_goals cases q
theorem am_load_a {i nx : Nat} {ls : am_Ls} {st : List am_V} {h : am_H} {r : am_Nx} (q : am_load 2 i nx ls st h = some r) : ∃ a, am_get ls i = some (.inr (.inr (some a))) ∧ r = .inl (nx, ls, .inr (.inr (some a)) :: st, h) := by
  unfold am_load at q
  cases hg : am_get ls i with
  | none => rw [hg] at q; cases q
  | some v =>
    rw [hg] at q
    rcases v with x | x | (_ | x)
    · cases q
    · cases q
    · cases q
    · cases q; exact ⟨x, rfl, rfl⟩
theorem am_store_i {i nx : Nat} {ls : am_Ls} {st : List am_V} {h : am_H} {r : am_Nx} (q : am_store 0 i nx ls st h = some r) : ∃ a st', st = .inl a :: st' ∧ i < ls.length ∧ r = .inl (nx, am_st1 ls i (.inl a), st', h) := by
  unfold am_store at q
  cases st with
  | nil => cases q
  | cons v st' =>
    rcases v with x | x | (_ | x)
    · simp only [am_go] at q
      split at q
      · next g => cases q; exact ⟨x, st', rfl, g, rfl⟩
      · cases q
    all_goals cases q
theorem am_store_l {i nx : Nat} {ls : am_Ls} {st : List am_V} {h : am_H} {r : am_Nx} (q : am_store 1 i nx ls st h = some r) : ∃ a st', st = .inr (.inl a) :: st' ∧ i + 1 < ls.length ∧ r = .inl (nx, am_st2 ls i (.inr (.inl a)), st', h) := by
  unfold am_store at q
  cases st with
  | nil => cases q
  | cons v st' =>
    rcases v with x | x | (_ | x)
    · cases q
    · simp only [am_go] at q
      split at q
      · next g => cases q; exact ⟨x, st', rfl, g, rfl⟩
      · cases q
    all_goals cases q
theorem am_store_a {i nx : Nat} {ls : am_Ls} {st : List am_V} {h : am_H} {r : am_Nx} (q : am_store 2 i nx ls st h = some r) : ∃ a st', st = .inr (.inr (some a)) :: st' ∧ i < ls.length ∧ r = .inl (nx, am_st1 ls i (.inr (.inr (some a))), st', h) := by
  unfold am_store at q
  cases st with
  | nil => cases q
  | cons v st' =>
    rcases v with x | x | (_ | x)
    · cases q
    · cases q
    · cases q
    · simp only [am_go] at q
      split at q
      · next g => cases q; exact ⟨x, st', rfl, g, rfl⟩
      · cases q
section AMW
variable {p : Program} {l : Launch} {e : Env} {R : Room} {s : State} {m : MethodId} {args : Array Value} {below : List Frame} {meth : Method} {c : Code} {Q : State → Prop} {mt : am_M} {base b n0 z0 : Nat} {D : va_G} {dA : Nat → ClassId} {H : Heap} {locs : List Loc} {cells slots : Nat} {pc pc2 : Nat} {ls ls2 : am_Ls} {st st2 : List am_V} {h h2 : am_H} {sl : Array Slot}
theorem am_w_iconst {a : Int} (C : am_Cx p s m args meth c mt) (hd : decode mt.2.1 pc = .ok (.iconst a, 1)) (hx : am_next mt (.iconst a) 1 pc ls st h = some (.inl (pc2, ls2, st2, h2))) (hlo : am_Lo base b mt.2.2.1 ls sl) (hst : am_rgS st) (hr : am_Rp base b D dA s n0 z0 h H locs cells slots) (kk : am_KK p l e R s m args below meth c Q mt base b n0 z0 D dA pc2 ls2 st2 h2) : W p l e R s m args below meth c H locs cells slots Q (F0 m pc sl (st.map (am_re base b))) := by
  cases hx
  refine lv_iconst C.1 C.2.1 hd rfl ?_
  have q := kk sl H locs cells slots hlo (am_rgS_c (am_wr_rg a) hst) hr
  have q2 : (am_re base b (.inl (am_wr a))) = .int (Int32.ofInt a) := by simp only [am_re, am_wr_of]
  rw [List.map_cons, q2] at q
  exact q
theorem am_w_bipush {a : Int} (C : am_Cx p s m args meth c mt) (hd : decode mt.2.1 pc = .ok (.bipush a, 2)) (hx : am_next mt (.bipush a) 2 pc ls st h = some (.inl (pc2, ls2, st2, h2))) (hlo : am_Lo base b mt.2.2.1 ls sl) (hst : am_rgS st) (hr : am_Rp base b D dA s n0 z0 h H locs cells slots) (kk : am_KK p l e R s m args below meth c Q mt base b n0 z0 D dA pc2 ls2 st2 h2) : W p l e R s m args below meth c H locs cells slots Q (F0 m pc sl (st.map (am_re base b))) := by
  cases hx
  refine lv_bipush C.1 C.2.1 hd rfl ?_
  have a1 := (Int8.ofInt a).toInt_lt
  have a2 := (Int8.ofInt a).le_toInt
  exact kk sl H locs cells slots hlo (am_rgS_c (by unfold am_rg; omega) hst) hr
theorem am_w_sipush {a : Int} (C : am_Cx p s m args meth c mt) (hd : decode mt.2.1 pc = .ok (.sipush a, 3)) (hx : am_next mt (.sipush a) 3 pc ls st h = some (.inl (pc2, ls2, st2, h2))) (hlo : am_Lo base b mt.2.2.1 ls sl) (hst : am_rgS st) (hr : am_Rp base b D dA s n0 z0 h H locs cells slots) (kk : am_KK p l e R s m args below meth c Q mt base b n0 z0 D dA pc2 ls2 st2 h2) : W p l e R s m args below meth c H locs cells slots Q (F0 m pc sl (st.map (am_re base b))) := by
  cases hx
  refine lv_sipush C.1 C.2.1 hd rfl ?_
  have a1 := (Int16.ofInt a).toInt_lt
  have a2 := (Int16.ofInt a).le_toInt
  exact kk sl H locs cells slots hlo (am_rgS_c (by unfold am_rg; omega) hst) hr
theorem am_w_lconst {a : Fin 2} (C : am_Cx p s m args meth c mt) (hd : decode mt.2.1 pc = .ok (.lconst a, 1)) (hx : am_next mt (.lconst a) 1 pc ls st h = some (.inl (pc2, ls2, st2, h2))) (hlo : am_Lo base b mt.2.2.1 ls sl) (hst : am_rgS st) (hr : am_Rp base b D dA s n0 z0 h H locs cells slots) (kk : am_KK p l e R s m args below meth c Q mt base b n0 z0 D dA pc2 ls2 st2 h2) : W p l e R s m args below meth c H locs cells slots Q (F0 m pc sl (st.map (am_re base b))) := by
  cases hx
  refine lv_lconst C.1 C.2.1 hd rfl ?_
  exact kk sl H locs cells slots hlo (am_rgS_l hst) hr
theorem am_w_ldc {a : Nat} (C : am_Cx p s m args meth c mt) (hd : decode mt.2.1 pc = .ok (.ldc a, 2)) (hx : am_next mt (.ldc a) 2 pc ls st h = some (.inl (pc2, ls2, st2, h2))) (hlo : am_Lo base b mt.2.2.1 ls sl) (hst : am_rgS st) (hr : am_Rp base b D dA s n0 z0 h H locs cells slots) (kk : am_KK p l e R s m args below meth c Q mt base b n0 z0 D dA pc2 ls2 st2 h2) : W p l e R s m args below meth c H locs cells slots Q (F0 m pc sl (st.map (am_re base b))) := by
  simp only [am_next, am_go] at hx
  split at hx
  · next v hv =>
    cases hx
    have hmem := am_lk_mem _ _ _ hv
    have hlt := List.all_eq_true.mp am_fl_lt.2.2.2 _ hmem
    simp only [decide_eq_true_eq] at hlt
    obtain ⟨e1, e2, e3⟩ := am_key_of rfl hlt
    have h1 := List.all_eq_true.mp am_all_1 _ hmem
    unfold am_ok1 at h1
    simp only [e2, e3] at h1
    rw [(am_meth C.2.2.2.2.2.2.2).2.2.2.1] at h1
    simp only [Bool.and_eq_true, decide_eq_true_eq] at h1
    refine W.ldc C.1 C.2.1 C.2.2.2.1 (C.2.2.2.2.1 _ (am_in_tb h1.1.1 rfl)) rfl hd ?_
    exact kk sl H locs cells slots hlo (am_rgS_c ⟨h1.1.2, h1.2⟩ hst) hr
  · cases hx
theorem am_w_iload_n {a : Fin 4} (C : am_Cx p s m args meth c mt) (hd : decode mt.2.1 pc = .ok (.iload_n a, 1)) (hx : am_next mt (.iload_n a) 1 pc ls st h = some (.inl (pc2, ls2, st2, h2))) (hlo : am_Lo base b mt.2.2.1 ls sl) (hst : am_rgS st) (hr : am_Rp base b D dA s n0 z0 h H locs cells slots) (kk : am_KK p l e R s m args below meth c Q mt base b n0 z0 D dA pc2 ls2 st2 h2) : W p l e R s m args below meth c H locs cells slots Q (F0 m pc sl (st.map (am_re base b))) := by
  obtain ⟨v, g, e⟩ := am_load_i hx
  cases e
  refine lv_iload_n C.1 C.2.1 hd rfl (hlo.at g) ?_
  exact kk sl H locs cells slots hlo (am_rgS_c (hlo.rg g) hst) hr
theorem am_w_iload {a : Nat} (C : am_Cx p s m args meth c mt) (hd : decode mt.2.1 pc = .ok (.iload a, 2)) (hx : am_next mt (.iload a) 2 pc ls st h = some (.inl (pc2, ls2, st2, h2))) (hlo : am_Lo base b mt.2.2.1 ls sl) (hst : am_rgS st) (hr : am_Rp base b D dA s n0 z0 h H locs cells slots) (kk : am_KK p l e R s m args below meth c Q mt base b n0 z0 D dA pc2 ls2 st2 h2) : W p l e R s m args below meth c H locs cells slots Q (F0 m pc sl (st.map (am_re base b))) := by
  obtain ⟨v, g, e⟩ := am_load_i hx
  cases e
  refine lv_iload C.1 C.2.1 hd (hlo.at g) ?_
  exact kk sl H locs cells slots hlo (am_rgS_c (hlo.rg g) hst) hr
theorem am_w_lload_n {a : Fin 4} (C : am_Cx p s m args meth c mt) (hd : decode mt.2.1 pc = .ok (.lload_n a, 1)) (hx : am_next mt (.lload_n a) 1 pc ls st h = some (.inl (pc2, ls2, st2, h2))) (hlo : am_Lo base b mt.2.2.1 ls sl) (hst : am_rgS st) (hr : am_Rp base b D dA s n0 z0 h H locs cells slots) (kk : am_KK p l e R s m args below meth c Q mt base b n0 z0 D dA pc2 ls2 st2 h2) : W p l e R s m args below meth c H locs cells slots Q (F0 m pc sl (st.map (am_re base b))) := by
  obtain ⟨v, g, e⟩ := am_load_l hx
  cases e
  refine lv_lload_n C.1 C.2.1 hd rfl (hlo.at g) ?_
  exact kk sl H locs cells slots hlo (am_rgS_l hst) hr
theorem am_w_lload {a : Nat} (C : am_Cx p s m args meth c mt) (hd : decode mt.2.1 pc = .ok (.lload a, 2)) (hx : am_next mt (.lload a) 2 pc ls st h = some (.inl (pc2, ls2, st2, h2))) (hlo : am_Lo base b mt.2.2.1 ls sl) (hst : am_rgS st) (hr : am_Rp base b D dA s n0 z0 h H locs cells slots) (kk : am_KK p l e R s m args below meth c Q mt base b n0 z0 D dA pc2 ls2 st2 h2) : W p l e R s m args below meth c H locs cells slots Q (F0 m pc sl (st.map (am_re base b))) := by
  obtain ⟨v, g, e⟩ := am_load_l hx
  cases e
  refine lv_lload C.1 C.2.1 hd (hlo.at g) ?_
  exact kk sl H locs cells slots hlo (am_rgS_l hst) hr
theorem am_w_aload_n {a : Fin 4} (C : am_Cx p s m args meth c mt) (hd : decode mt.2.1 pc = .ok (.aload_n a, 1)) (hx : am_next mt (.aload_n a) 1 pc ls st h = some (.inl (pc2, ls2, st2, h2))) (hlo : am_Lo base b mt.2.2.1 ls sl) (hst : am_rgS st) (hr : am_Rp base b D dA s n0 z0 h H locs cells slots) (kk : am_KK p l e R s m args below meth c Q mt base b n0 z0 D dA pc2 ls2 st2 h2) : W p l e R s m args below meth c H locs cells slots Q (F0 m pc sl (st.map (am_re base b))) := by
  obtain ⟨v, g, e⟩ := am_load_a hx
  cases e
  refine lv_aload_n C.1 C.2.1 hd rfl (hlo.at g) ?_
  exact kk sl H locs cells slots hlo (am_rgS_r hst) hr
theorem am_w_aload {a : Nat} (C : am_Cx p s m args meth c mt) (hd : decode mt.2.1 pc = .ok (.aload a, 2)) (hx : am_next mt (.aload a) 2 pc ls st h = some (.inl (pc2, ls2, st2, h2))) (hlo : am_Lo base b mt.2.2.1 ls sl) (hst : am_rgS st) (hr : am_Rp base b D dA s n0 z0 h H locs cells slots) (kk : am_KK p l e R s m args below meth c Q mt base b n0 z0 D dA pc2 ls2 st2 h2) : W p l e R s m args below meth c H locs cells slots Q (F0 m pc sl (st.map (am_re base b))) := by
  obtain ⟨v, g, e⟩ := am_load_a hx
  cases e
  refine lv_aload C.1 C.2.1 hd (hlo.at g) ?_
  exact kk sl H locs cells slots hlo (am_rgS_r hst) hr
theorem am_w_istore_n {a : Fin 4} (C : am_Cx p s m args meth c mt) (hd : decode mt.2.1 pc = .ok (.istore_n a, 1)) (hx : am_next mt (.istore_n a) 1 pc ls st h = some (.inl (pc2, ls2, st2, h2))) (hlo : am_Lo base b mt.2.2.1 ls sl) (hst : am_rgS st) (hr : am_Rp base b D dA s n0 z0 h H locs cells slots) (kk : am_KK p l e R s m args below meth c Q mt base b n0 z0 D dA pc2 ls2 st2 h2) : W p l e R s m args below meth c H locs cells slots Q (F0 m pc sl (st.map (am_re base b))) := by
  obtain ⟨v, r, e1, g, e⟩ := am_store_i hx
  cases e
  subst e1
  refine lv_istore_n (lv := am_as base b 0 ls) (nL := mt.2.2.1) C.1 C.2.1 hd rfl hlo.1 (by rw [← hlo.2.1]; exact g) rfl (fun sl2 hl2 => ?_)
  exact kk sl2 H locs cells slots (hlo.st1 (v := .inl v) (fun x q => by cases q; exact am_rgS_h hst) hl2) (am_rgS_t hst) hr
theorem am_w_istore {a : Nat} (C : am_Cx p s m args meth c mt) (hd : decode mt.2.1 pc = .ok (.istore a, 2)) (hx : am_next mt (.istore a) 2 pc ls st h = some (.inl (pc2, ls2, st2, h2))) (hlo : am_Lo base b mt.2.2.1 ls sl) (hst : am_rgS st) (hr : am_Rp base b D dA s n0 z0 h H locs cells slots) (kk : am_KK p l e R s m args below meth c Q mt base b n0 z0 D dA pc2 ls2 st2 h2) : W p l e R s m args below meth c H locs cells slots Q (F0 m pc sl (st.map (am_re base b))) := by
  obtain ⟨v, r, e1, g, e⟩ := am_store_i hx
  cases e
  subst e1
  refine lv_istore (lv := am_as base b 0 ls) (nL := mt.2.2.1) C.1 C.2.1 hd hlo.1 (by rw [← hlo.2.1]; exact g) rfl (fun sl2 hl2 => ?_)
  exact kk sl2 H locs cells slots (hlo.st1 (v := .inl v) (fun x q => by cases q; exact am_rgS_h hst) hl2) (am_rgS_t hst) hr
theorem am_w_lstore_n {a : Fin 4} (C : am_Cx p s m args meth c mt) (hd : decode mt.2.1 pc = .ok (.lstore_n a, 1)) (hx : am_next mt (.lstore_n a) 1 pc ls st h = some (.inl (pc2, ls2, st2, h2))) (hlo : am_Lo base b mt.2.2.1 ls sl) (hst : am_rgS st) (hr : am_Rp base b D dA s n0 z0 h H locs cells slots) (kk : am_KK p l e R s m args below meth c Q mt base b n0 z0 D dA pc2 ls2 st2 h2) : W p l e R s m args below meth c H locs cells slots Q (F0 m pc sl (st.map (am_re base b))) := by
  obtain ⟨v, r, e1, g, e⟩ := am_store_l hx
  cases e
  subst e1
  refine lv_lstore_n (lv := am_as base b 0 ls) (nL := mt.2.2.1) C.1 C.2.1 hd rfl hlo.1 (by rw [← hlo.2.1]; exact g) rfl (fun sl2 hl2 => ?_)
  exact kk sl2 H locs cells slots (hlo.st2 (v := .inr (.inl v)) g (fun x q => by cases q) hl2) (am_rgS_t hst) hr
theorem am_w_lstore {a : Nat} (C : am_Cx p s m args meth c mt) (hd : decode mt.2.1 pc = .ok (.lstore a, 2)) (hx : am_next mt (.lstore a) 2 pc ls st h = some (.inl (pc2, ls2, st2, h2))) (hlo : am_Lo base b mt.2.2.1 ls sl) (hst : am_rgS st) (hr : am_Rp base b D dA s n0 z0 h H locs cells slots) (kk : am_KK p l e R s m args below meth c Q mt base b n0 z0 D dA pc2 ls2 st2 h2) : W p l e R s m args below meth c H locs cells slots Q (F0 m pc sl (st.map (am_re base b))) := by
  obtain ⟨v, r, e1, g, e⟩ := am_store_l hx
  cases e
  subst e1
  refine lv_lstore (lv := am_as base b 0 ls) (nL := mt.2.2.1) C.1 C.2.1 hd hlo.1 (by rw [← hlo.2.1]; exact g) rfl (fun sl2 hl2 => ?_)
  exact kk sl2 H locs cells slots (hlo.st2 (v := .inr (.inl v)) g (fun x q => by cases q) hl2) (am_rgS_t hst) hr
theorem am_w_astore_n {a : Fin 4} (C : am_Cx p s m args meth c mt) (hd : decode mt.2.1 pc = .ok (.astore_n a, 1)) (hx : am_next mt (.astore_n a) 1 pc ls st h = some (.inl (pc2, ls2, st2, h2))) (hlo : am_Lo base b mt.2.2.1 ls sl) (hst : am_rgS st) (hr : am_Rp base b D dA s n0 z0 h H locs cells slots) (kk : am_KK p l e R s m args below meth c Q mt base b n0 z0 D dA pc2 ls2 st2 h2) : W p l e R s m args below meth c H locs cells slots Q (F0 m pc sl (st.map (am_re base b))) := by
  obtain ⟨v, r, e1, g, e⟩ := am_store_a hx
  cases e
  subst e1
  refine lv_astore_n (lv := am_as base b 0 ls) (nL := mt.2.2.1) C.1 C.2.1 hd rfl hlo.1 (by rw [← hlo.2.1]; exact g) rfl (fun sl2 hl2 => ?_)
  exact kk sl2 H locs cells slots (hlo.st1 (v := .inr (.inr (some v))) (fun x q => by cases q) hl2) (am_rgS_t hst) hr
theorem am_w_astore {a : Nat} (C : am_Cx p s m args meth c mt) (hd : decode mt.2.1 pc = .ok (.astore a, 2)) (hx : am_next mt (.astore a) 2 pc ls st h = some (.inl (pc2, ls2, st2, h2))) (hlo : am_Lo base b mt.2.2.1 ls sl) (hst : am_rgS st) (hr : am_Rp base b D dA s n0 z0 h H locs cells slots) (kk : am_KK p l e R s m args below meth c Q mt base b n0 z0 D dA pc2 ls2 st2 h2) : W p l e R s m args below meth c H locs cells slots Q (F0 m pc sl (st.map (am_re base b))) := by
  obtain ⟨v, r, e1, g, e⟩ := am_store_a hx
  cases e
  subst e1
  refine lv_astore (lv := am_as base b 0 ls) (nL := mt.2.2.1) C.1 C.2.1 hd hlo.1 (by rw [← hlo.2.1]; exact g) rfl (fun sl2 hl2 => ?_)
  exact kk sl2 H locs cells slots (hlo.st1 (v := .inr (.inr (some v))) (fun x q => by cases q) hl2) (am_rgS_t hst) hr
theorem am_w_iinc {a : Nat} {v : Int} (C : am_Cx p s m args meth c mt) (hd : decode mt.2.1 pc = .ok (.iinc a v, 3)) (hx : am_next mt (.iinc a v) 3 pc ls st h = some (.inl (pc2, ls2, st2, h2))) (hlo : am_Lo base b mt.2.2.1 ls sl) (hst : am_rgS st) (hr : am_Rp base b D dA s n0 z0 h H locs cells slots) (kk : am_KK p l e R s m args below meth c Q mt base b n0 z0 D dA pc2 ls2 st2 h2) : W p l e R s m args below meth c H locs cells slots Q (F0 m pc sl (st.map (am_re base b))) := by
  simp only [am_next, am_go] at hx
  split at hx
  · next x g =>
    split at hx
    · next g2 =>
      cases hx
      obtain ⟨k, hk⟩ := List.getElem?_of_mem (am_as_get (base := base) (b := b) ls 0 a _ g)
      rw [Nat.zero_add] at hk
      refine lv_iinc (lv := am_as base b 0 ls) (nL := mt.2.2.1) (v := Int32.ofInt (am_wr (x + v))) C.1 C.2.1 hd hlo.1 hk (by rw [am_wr_of, Int32.ofInt_add]) (by rw [← hlo.2.1]; exact g2) rfl (fun sl2 hl2 => ?_)
      exact kk sl2 H locs cells slots (hlo.st1 (v := .inl (am_wr (x + v))) (fun y q => by cases q; exact am_wr_rg _) hl2) hst hr
    · cases hx
  · cases hx
theorem am_w_iadd  (C : am_Cx p s m args meth c mt) (hd : decode mt.2.1 pc = .ok (.iadd, 1)) (hx : am_next mt (.iadd) 1 pc ls st h = some (.inl (pc2, ls2, st2, h2))) (hlo : am_Lo base b mt.2.2.1 ls sl) (hst : am_rgS st) (hr : am_Rp base b D dA s n0 z0 h H locs cells slots) (kk : am_KK p l e R s m args below meth c Q mt base b n0 z0 D dA pc2 ls2 st2 h2) : W p l e R s m args below meth c H locs cells slots Q (F0 m pc sl (st.map (am_re base b))) := by
  simp only [am_next, am_bin, am_go] at hx
  split at hx
  · next y x r =>
    cases hx
    refine lv_iadd C.1 C.2.1 hd ?_
    have q := kk sl H locs cells slots hlo (am_rgS_c (am_wr_rg (x + y)) (am_rgS_t (am_rgS_t hst))) hr
    have q2 : (am_re base b (.inl (am_wr (x + y)))) = .int (Int32.ofInt x + Int32.ofInt y) := by simp only [am_re, am_wr_of, Int32.ofInt_add]
    rw [List.map_cons, q2] at q
    exact q
  · cases hx
theorem am_w_isub  (C : am_Cx p s m args meth c mt) (hd : decode mt.2.1 pc = .ok (.isub, 1)) (hx : am_next mt (.isub) 1 pc ls st h = some (.inl (pc2, ls2, st2, h2))) (hlo : am_Lo base b mt.2.2.1 ls sl) (hst : am_rgS st) (hr : am_Rp base b D dA s n0 z0 h H locs cells slots) (kk : am_KK p l e R s m args below meth c Q mt base b n0 z0 D dA pc2 ls2 st2 h2) : W p l e R s m args below meth c H locs cells slots Q (F0 m pc sl (st.map (am_re base b))) := by
  simp only [am_next, am_bin, am_go] at hx
  split at hx
  · next y x r =>
    cases hx
    refine lv_isub C.1 C.2.1 hd ?_
    have q := kk sl H locs cells slots hlo (am_rgS_c (am_wr_rg (x - y)) (am_rgS_t (am_rgS_t hst))) hr
    have q2 : (am_re base b (.inl (am_wr (x - y)))) = .int (Int32.ofInt x - Int32.ofInt y) := by simp only [am_re, am_wr_of, Int32.ofInt_sub]
    rw [List.map_cons, q2] at q
    exact q
  · cases hx
theorem am_w_imul  (C : am_Cx p s m args meth c mt) (hd : decode mt.2.1 pc = .ok (.imul, 1)) (hx : am_next mt (.imul) 1 pc ls st h = some (.inl (pc2, ls2, st2, h2))) (hlo : am_Lo base b mt.2.2.1 ls sl) (hst : am_rgS st) (hr : am_Rp base b D dA s n0 z0 h H locs cells slots) (kk : am_KK p l e R s m args below meth c Q mt base b n0 z0 D dA pc2 ls2 st2 h2) : W p l e R s m args below meth c H locs cells slots Q (F0 m pc sl (st.map (am_re base b))) := by
  simp only [am_next, am_bin, am_go] at hx
  split at hx
  · next y x r =>
    cases hx
    refine lv_imul C.1 C.2.1 hd ?_
    have q := kk sl H locs cells slots hlo (am_rgS_c (am_wr_rg (x * y)) (am_rgS_t (am_rgS_t hst))) hr
    have q2 : (am_re base b (.inl (am_wr (x * y)))) = .int (Int32.ofInt x * Int32.ofInt y) := by simp only [am_re, am_wr_of, Int32.ofInt_mul]
    rw [List.map_cons, q2] at q
    exact q
  · cases hx
theorem am_w_iand  (C : am_Cx p s m args meth c mt) (hd : decode mt.2.1 pc = .ok (.iand, 1)) (hx : am_next mt (.iand) 1 pc ls st h = some (.inl (pc2, ls2, st2, h2))) (hlo : am_Lo base b mt.2.2.1 ls sl) (hst : am_rgS st) (hr : am_Rp base b D dA s n0 z0 h H locs cells slots) (kk : am_KK p l e R s m args below meth c Q mt base b n0 z0 D dA pc2 ls2 st2 h2) : W p l e R s m args below meth c H locs cells slots Q (F0 m pc sl (st.map (am_re base b))) := by
  simp only [am_next, am_bin, am_go] at hx
  split at hx
  · next y x r =>
    cases hx
    refine lv_iand C.1 C.2.1 hd ?_
    have q := kk sl H locs cells slots hlo (am_rgS_c (am_rg_to (Int32.ofInt x &&& Int32.ofInt y)) (am_rgS_t (am_rgS_t hst))) hr
    have q2 : (am_re base b (.inl (Int32.ofInt x &&& Int32.ofInt y).toInt)) = .int (Int32.ofInt x &&& Int32.ofInt y) := by simp only [am_re, Int32.ofInt_toInt]
    rw [List.map_cons, q2] at q
    exact q
  · cases hx
theorem am_w_ior  (C : am_Cx p s m args meth c mt) (hd : decode mt.2.1 pc = .ok (.ior, 1)) (hx : am_next mt (.ior) 1 pc ls st h = some (.inl (pc2, ls2, st2, h2))) (hlo : am_Lo base b mt.2.2.1 ls sl) (hst : am_rgS st) (hr : am_Rp base b D dA s n0 z0 h H locs cells slots) (kk : am_KK p l e R s m args below meth c Q mt base b n0 z0 D dA pc2 ls2 st2 h2) : W p l e R s m args below meth c H locs cells slots Q (F0 m pc sl (st.map (am_re base b))) := by
  simp only [am_next, am_bin, am_go] at hx
  split at hx
  · next y x r =>
    cases hx
    refine lv_ior C.1 C.2.1 hd ?_
    have q := kk sl H locs cells slots hlo (am_rgS_c (am_rg_to (Int32.ofInt x ||| Int32.ofInt y)) (am_rgS_t (am_rgS_t hst))) hr
    have q2 : (am_re base b (.inl (Int32.ofInt x ||| Int32.ofInt y).toInt)) = .int (Int32.ofInt x ||| Int32.ofInt y) := by simp only [am_re, Int32.ofInt_toInt]
    rw [List.map_cons, q2] at q
    exact q
  · cases hx
theorem am_w_ishl  (C : am_Cx p s m args meth c mt) (hd : decode mt.2.1 pc = .ok (.ishl, 1)) (hx : am_next mt (.ishl) 1 pc ls st h = some (.inl (pc2, ls2, st2, h2))) (hlo : am_Lo base b mt.2.2.1 ls sl) (hst : am_rgS st) (hr : am_Rp base b D dA s n0 z0 h H locs cells slots) (kk : am_KK p l e R s m args below meth c Q mt base b n0 z0 D dA pc2 ls2 st2 h2) : W p l e R s m args below meth c H locs cells slots Q (F0 m pc sl (st.map (am_re base b))) := by
  simp only [am_next, am_bin, am_go] at hx
  split at hx
  · next y x r =>
    cases hx
    refine lv_ishl C.1 C.2.1 hd ?_
    have q := kk sl H locs cells slots hlo (am_rgS_c (am_rg_to (Int32.ofInt x <<< (Int32.ofInt y &&& 31))) (am_rgS_t (am_rgS_t hst))) hr
    have q2 : (am_re base b (.inl (Int32.ofInt x <<< (Int32.ofInt y &&& 31)).toInt)) = .int (Int32.ofInt x <<< (Int32.ofInt y &&& 31)) := by simp only [am_re, Int32.ofInt_toInt]
    rw [List.map_cons, q2] at q
    exact q
  · cases hx
theorem am_w_ishr  (C : am_Cx p s m args meth c mt) (hd : decode mt.2.1 pc = .ok (.ishr, 1)) (hx : am_next mt (.ishr) 1 pc ls st h = some (.inl (pc2, ls2, st2, h2))) (hlo : am_Lo base b mt.2.2.1 ls sl) (hst : am_rgS st) (hr : am_Rp base b D dA s n0 z0 h H locs cells slots) (kk : am_KK p l e R s m args below meth c Q mt base b n0 z0 D dA pc2 ls2 st2 h2) : W p l e R s m args below meth c H locs cells slots Q (F0 m pc sl (st.map (am_re base b))) := by
  simp only [am_next, am_bin, am_go] at hx
  split at hx
  · next y x r =>
    cases hx
    refine lv_ishr C.1 C.2.1 hd ?_
    have q := kk sl H locs cells slots hlo (am_rgS_c (am_rg_to (Int32.ofInt x >>> (Int32.ofInt y &&& 31))) (am_rgS_t (am_rgS_t hst))) hr
    have q2 : (am_re base b (.inl (Int32.ofInt x >>> (Int32.ofInt y &&& 31)).toInt)) = .int (Int32.ofInt x >>> (Int32.ofInt y &&& 31)) := by simp only [am_re, Int32.ofInt_toInt]
    rw [List.map_cons, q2] at q
    exact q
  · cases hx
theorem am_w_ladd  (C : am_Cx p s m args meth c mt) (hd : decode mt.2.1 pc = .ok (.ladd, 1)) (hx : am_next mt (.ladd) 1 pc ls st h = some (.inl (pc2, ls2, st2, h2))) (hlo : am_Lo base b mt.2.2.1 ls sl) (hst : am_rgS st) (hr : am_Rp base b D dA s n0 z0 h H locs cells slots) (kk : am_KK p l e R s m args below meth c Q mt base b n0 z0 D dA pc2 ls2 st2 h2) : W p l e R s m args below meth c H locs cells slots Q (F0 m pc sl (st.map (am_re base b))) := by
  simp only [am_next, am_binL, am_go] at hx
  split at hx
  · next y x r =>
    cases hx
    refine lv_ladd C.1 C.2.1 hd ?_
    exact kk sl H locs cells slots hlo (am_rgS_l (am_rgS_t (am_rgS_t hst))) hr
  · cases hx
theorem am_w_lsub  (C : am_Cx p s m args meth c mt) (hd : decode mt.2.1 pc = .ok (.lsub, 1)) (hx : am_next mt (.lsub) 1 pc ls st h = some (.inl (pc2, ls2, st2, h2))) (hlo : am_Lo base b mt.2.2.1 ls sl) (hst : am_rgS st) (hr : am_Rp base b D dA s n0 z0 h H locs cells slots) (kk : am_KK p l e R s m args below meth c Q mt base b n0 z0 D dA pc2 ls2 st2 h2) : W p l e R s m args below meth c H locs cells slots Q (F0 m pc sl (st.map (am_re base b))) := by
  simp only [am_next, am_binL, am_go] at hx
  split at hx
  · next y x r =>
    cases hx
    refine lv_lsub C.1 C.2.1 hd ?_
    exact kk sl H locs cells slots hlo (am_rgS_l (am_rgS_t (am_rgS_t hst))) hr
  · cases hx
theorem am_w_lmul  (C : am_Cx p s m args meth c mt) (hd : decode mt.2.1 pc = .ok (.lmul, 1)) (hx : am_next mt (.lmul) 1 pc ls st h = some (.inl (pc2, ls2, st2, h2))) (hlo : am_Lo base b mt.2.2.1 ls sl) (hst : am_rgS st) (hr : am_Rp base b D dA s n0 z0 h H locs cells slots) (kk : am_KK p l e R s m args below meth c Q mt base b n0 z0 D dA pc2 ls2 st2 h2) : W p l e R s m args below meth c H locs cells slots Q (F0 m pc sl (st.map (am_re base b))) := by
  simp only [am_next, am_binL, am_go] at hx
  split at hx
  · next y x r =>
    cases hx
    refine lv_lmul C.1 C.2.1 hd ?_
    exact kk sl H locs cells slots hlo (am_rgS_l (am_rgS_t (am_rgS_t hst))) hr
  · cases hx
theorem am_w_ldiv  (C : am_Cx p s m args meth c mt) (hd : decode mt.2.1 pc = .ok (.ldiv, 1)) (hx : am_next mt (.ldiv) 1 pc ls st h = some (.inl (pc2, ls2, st2, h2))) (hlo : am_Lo base b mt.2.2.1 ls sl) (hst : am_rgS st) (hr : am_Rp base b D dA s n0 z0 h H locs cells slots) (kk : am_KK p l e R s m args below meth c Q mt base b n0 z0 D dA pc2 ls2 st2 h2) : W p l e R s m args below meth c H locs cells slots Q (F0 m pc sl (st.map (am_re base b))) := by
  simp only [am_next, am_go] at hx
  split at hx
  · next y x r =>
    split at hx
    · cases hx
    · next g =>
      cases hx
      refine lv_ldiv C.1 C.2.1 hd g ?_
      exact kk sl H locs cells slots hlo (am_rgS_l (am_rgS_t (am_rgS_t hst))) hr
  · cases hx
theorem am_w_lcmp  (C : am_Cx p s m args meth c mt) (hd : decode mt.2.1 pc = .ok (.lcmp, 1)) (hx : am_next mt (.lcmp) 1 pc ls st h = some (.inl (pc2, ls2, st2, h2))) (hlo : am_Lo base b mt.2.2.1 ls sl) (hst : am_rgS st) (hr : am_Rp base b D dA s n0 z0 h H locs cells slots) (kk : am_KK p l e R s m args below meth c Q mt base b n0 z0 D dA pc2 ls2 st2 h2) : W p l e R s m args below meth c H locs cells slots Q (F0 m pc sl (st.map (am_re base b))) := by
  simp only [am_next, am_go] at hx
  split at hx
  · next y x r =>
    cases hx
    refine W.lcmp C.1 C.2.1 hd ?_
    have q := kk sl H locs cells slots hlo (am_rgS_c (am_rg_to (lg_cmp x y)) (am_rgS_t (am_rgS_t hst))) hr
    have q2 : (am_re base b (.inl (lg_cmp x y).toInt)) = .int (lg_cmp x y) := by simp only [am_re, Int32.ofInt_toInt]
    rw [List.map_cons, q2] at q
    exact q
  · cases hx
theorem am_w_i2l  (C : am_Cx p s m args meth c mt) (hd : decode mt.2.1 pc = .ok (.i2l, 1)) (hx : am_next mt (.i2l) 1 pc ls st h = some (.inl (pc2, ls2, st2, h2))) (hlo : am_Lo base b mt.2.2.1 ls sl) (hst : am_rgS st) (hr : am_Rp base b D dA s n0 z0 h H locs cells slots) (kk : am_KK p l e R s m args below meth c Q mt base b n0 z0 D dA pc2 ls2 st2 h2) : W p l e R s m args below meth c H locs cells slots Q (F0 m pc sl (st.map (am_re base b))) := by
  simp only [am_next, am_go] at hx
  split at hx
  · next x r =>
    cases hx
    refine lv_i2l C.1 C.2.1 hd rfl ?_
    exact kk sl H locs cells slots hlo (am_rgS_l (am_rgS_t hst)) hr
  · cases hx
theorem am_w_dup  (C : am_Cx p s m args meth c mt) (hd : decode mt.2.1 pc = .ok (.dup, 1)) (hx : am_next mt (.dup) 1 pc ls st h = some (.inl (pc2, ls2, st2, h2))) (hlo : am_Lo base b mt.2.2.1 ls sl) (hst : am_rgS st) (hr : am_Rp base b D dA s n0 z0 h H locs cells slots) (kk : am_KK p l e R s m args below meth c Q mt base b n0 z0 D dA pc2 ls2 st2 h2) : W p l e R s m args below meth c H locs cells slots Q (F0 m pc sl (st.map (am_re base b))) := by
  simp only [am_next, am_go] at hx
  split at hx
  · next x r =>
    split at hx
    · cases hx
    · next g =>
      cases hx
      refine lv_dup C.1 C.2.1 hd (by rw [am_re_cat]; simp [g]) ?_
      exact kk sl H locs cells slots hlo (fun y hy => hst y (by simp at hy ⊢; exact hy)) hr
  · cases hx
theorem am_w_pop  (C : am_Cx p s m args meth c mt) (hd : decode mt.2.1 pc = .ok (.pop, 1)) (hx : am_next mt (.pop) 1 pc ls st h = some (.inl (pc2, ls2, st2, h2))) (hlo : am_Lo base b mt.2.2.1 ls sl) (hst : am_rgS st) (hr : am_Rp base b D dA s n0 z0 h H locs cells slots) (kk : am_KK p l e R s m args below meth c Q mt base b n0 z0 D dA pc2 ls2 st2 h2) : W p l e R s m args below meth c H locs cells slots Q (F0 m pc sl (st.map (am_re base b))) := by
  simp only [am_next, am_go] at hx
  split at hx
  · next x r =>
    split at hx
    · cases hx
    · next g =>
      cases hx
      refine lv_pop C.1 C.2.1 hd (by rw [am_re_cat]; simp [g]) ?_
      exact kk sl H locs cells slots hlo (am_rgS_t hst) hr
  · cases hx
theorem am_w_dup_x1  (C : am_Cx p s m args meth c mt) (hd : decode mt.2.1 pc = .ok (.dup_x1, 1)) (hx : am_next mt (.dup_x1) 1 pc ls st h = some (.inl (pc2, ls2, st2, h2))) (hlo : am_Lo base b mt.2.2.1 ls sl) (hst : am_rgS st) (hr : am_Rp base b D dA s n0 z0 h H locs cells slots) (kk : am_KK p l e R s m args below meth c Q mt base b n0 z0 D dA pc2 ls2 st2 h2) : W p l e R s m args below meth c H locs cells slots Q (F0 m pc sl (st.map (am_re base b))) := by
  simp only [am_next, am_go] at hx
  split at hx
  · next x y r =>
    split at hx
    · cases hx
    · next g =>
      cases hx
      have g1 : ¬ am_c2 x = true := fun z => g (Or.inl z)
      have g2 : ¬ am_c2 y = true := fun z => g (Or.inr z)
      refine lv_dup_x1 C.1 C.2.1 hd (by rw [am_re_cat]; simp [g1]) (by rw [am_re_cat]; simp [g2]) ?_
      exact kk sl H locs cells slots hlo (fun z hz => hst z (by simp at hz ⊢; rcases hz with w | w | w | w <;> simp [w])) hr
  · cases hx
theorem am_w_dup2  (C : am_Cx p s m args meth c mt) (hd : decode mt.2.1 pc = .ok (.dup2, 1)) (hx : am_next mt (.dup2) 1 pc ls st h = some (.inl (pc2, ls2, st2, h2))) (hlo : am_Lo base b mt.2.2.1 ls sl) (hst : am_rgS st) (hr : am_Rp base b D dA s n0 z0 h H locs cells slots) (kk : am_KK p l e R s m args below meth c Q mt base b n0 z0 D dA pc2 ls2 st2 h2) : W p l e R s m args below meth c H locs cells slots Q (F0 m pc sl (st.map (am_re base b))) := by
  simp only [am_next, am_go] at hx
  split at hx
  · next x y r =>
    split at hx
    · cases hx
    · next g =>
      cases hx
      have g1 : ¬ am_c2 x = true := fun z => g (Or.inl z)
      have g2 : ¬ am_c2 y = true := fun z => g (Or.inr z)
      refine lv_dup2_11 C.1 C.2.1 hd (by rw [am_re_cat]; simp [g1]) (by rw [am_re_cat]; simp [g2]) ?_
      exact kk sl H locs cells slots hlo (fun z hz => hst z (by simp at hz ⊢; rcases hz with w | w | w | w | w <;> simp [w])) hr
  · cases hx
end AMW
end
section
/-! Jumps. -/
theorem am_jmp_inv {pc nx : Nat} {off : Int} {cc : Bool} {ls : am_Ls} {st : List am_V} {h : am_H} {r : am_Nx} (q : am_jmp pc off cc nx ls st h = some r) : 0 ≤ (pc : Int) + off ∧ r = .inl (if cc = true then ((pc : Int) + off).toNat else nx, ls, st, h) := by
  unfold am_jmp am_go at q
  split at q
  · next g => cases q; exact ⟨g, rfl⟩
  · cases q
theorem am_rg0 : am_rg 0 := by unfold am_rg; omega
section AMW
variable {p : Program} {l : Launch} {e : Env} {R : Room} {s : State} {m : MethodId} {args : Array Value} {below : List Frame} {meth : Method} {c : Code} {Q : State → Prop} {mt : am_M} {base b n0 z0 : Nat} {D : va_G} {dA : Nat → ClassId} {H : Heap} {locs : List Loc} {cells slots : Nat} {pc pc2 : Nat} {ls ls2 : am_Ls} {st st2 : List am_V} {h h2 : am_H} {sl : Array Slot}
theorem am_w_ifCond {k : Jvm.ClassFile.Cond} {off : Int} (C : am_Cx p s m args meth c mt) (hd : decode mt.2.1 pc = .ok (.ifCond k off, 3)) (hx : am_next mt (.ifCond k off) 3 pc ls st h = some (.inl (pc2, ls2, st2, h2))) (hlo : am_Lo base b mt.2.2.1 ls sl) (hst : am_rgS st) (hr : am_Rp base b D dA s n0 z0 h H locs cells slots) (kk : am_KK p l e R s m args below meth c Q mt base b n0 z0 D dA pc2 ls2 st2 h2) : W p l e R s m args below meth c H locs cells slots Q (F0 m pc sl (st.map (am_re base b))) := by
  simp only [am_next] at hx
  split at hx
  · next a r =>
    obtain ⟨h0, e9⟩ := am_jmp_inv hx
    cases e9
    have z : (0 : Int32) = Int32.ofInt 0 := rfl
    have ra := am_rgS_h hst
    have rb := am_rg0
    have ht : (pc : Int) + off = ((((pc : Int) + off).toNat : Nat) : Int) := by omega
    have w := kk sl H locs cells slots hlo (am_rgS_t hst) hr
    cases k
    · refine lv_if_eq C.1 C.2.1 hd ht (fun q => ?_) (fun q => ?_)
      · rw [z, am_eqI ra rb] at q
        rw [if_pos (by simpa [am_cmp] using q)] at w
        exact w
      · rw [z, am_eqI ra rb] at q
        rw [if_neg (by simpa [am_cmp] using q)] at w
        exact w
    · refine lv_if_ne C.1 C.2.1 hd ht (fun q => ?_) (fun q => ?_)
      · rw [z, am_eqI ra rb] at q
        rw [if_pos (by simpa [am_cmp] using q)] at w
        exact w
      · rw [z, am_eqI ra rb] at q
        rw [if_neg (by simpa [am_cmp] using q)] at w
        exact w
    · refine lv_if_lt C.1 C.2.1 hd ht (fun q => ?_) (fun q => ?_)
      · rw [z, am_ltI ra rb] at q
        rw [if_pos (by simpa [am_cmp] using q)] at w
        exact w
      · rw [z, am_ltI ra rb] at q
        rw [if_neg (by simpa [am_cmp] using q)] at w
        exact w
    · refine lv_if_ge C.1 C.2.1 hd ht (fun q => ?_) (fun q => ?_)
      · rw [z, am_leI rb ra] at q
        rw [if_pos (by simpa [am_cmp] using q)] at w
        exact w
      · rw [z, am_leI rb ra] at q
        rw [if_neg (by simpa [am_cmp] using q)] at w
        exact w
    · refine lv_if_gt C.1 C.2.1 hd ht (fun q => ?_) (fun q => ?_)
      · rw [z, am_ltI rb ra] at q
        rw [if_pos (by simpa [am_cmp] using q)] at w
        exact w
      · rw [z, am_ltI rb ra] at q
        rw [if_neg (by simpa [am_cmp] using q)] at w
        exact w
    · refine lv_if_le C.1 C.2.1 hd ht (fun q => ?_) (fun q => ?_)
      · rw [z, am_leI ra rb] at q
        rw [if_pos (by simpa [am_cmp] using q)] at w
        exact w
      · rw [z, am_leI ra rb] at q
        rw [if_neg (by simpa [am_cmp] using q)] at w
        exact w
  · cases hx
theorem am_w_if_icmp {k : Jvm.ClassFile.Cond} {off : Int} (C : am_Cx p s m args meth c mt) (hd : decode mt.2.1 pc = .ok (.if_icmp k off, 3)) (hx : am_next mt (.if_icmp k off) 3 pc ls st h = some (.inl (pc2, ls2, st2, h2))) (hlo : am_Lo base b mt.2.2.1 ls sl) (hst : am_rgS st) (hr : am_Rp base b D dA s n0 z0 h H locs cells slots) (kk : am_KK p l e R s m args below meth c Q mt base b n0 z0 D dA pc2 ls2 st2 h2) : W p l e R s m args below meth c H locs cells slots Q (F0 m pc sl (st.map (am_re base b))) := by
  simp only [am_next] at hx
  split at hx
  · next a2 a r =>
    obtain ⟨h0, e9⟩ := am_jmp_inv hx
    cases e9
    have rb := am_rgS_h hst
    have ra := am_rgS_h (am_rgS_t hst)
    have ht : (pc : Int) + off = ((((pc : Int) + off).toNat : Nat) : Int) := by omega
    have w := kk sl H locs cells slots hlo (am_rgS_t (am_rgS_t hst)) hr
    cases k
    · refine lv_icmp_eq C.1 C.2.1 hd ht (fun q => ?_) (fun q => ?_)
      · rw [am_eqI ra rb] at q
        rw [if_pos (by simpa [am_cmp] using q)] at w
        exact w
      · rw [am_eqI ra rb] at q
        rw [if_neg (by simpa [am_cmp] using q)] at w
        exact w
    · refine lv_icmp_ne C.1 C.2.1 hd ht (fun q => ?_) (fun q => ?_)
      · rw [am_eqI ra rb] at q
        rw [if_pos (by simpa [am_cmp] using q)] at w
        exact w
      · rw [am_eqI ra rb] at q
        rw [if_neg (by simpa [am_cmp] using q)] at w
        exact w
    · refine lv_icmp_lt C.1 C.2.1 hd ht (fun q => ?_) (fun q => ?_)
      · rw [am_ltI ra rb] at q
        rw [if_pos (by simpa [am_cmp] using q)] at w
        exact w
      · rw [am_ltI ra rb] at q
        rw [if_neg (by simpa [am_cmp] using q)] at w
        exact w
    · refine lv_icmp_ge C.1 C.2.1 hd ht (fun q => ?_) (fun q => ?_)
      · rw [am_leI rb ra] at q
        rw [if_pos (by simpa [am_cmp] using q)] at w
        exact w
      · rw [am_leI rb ra] at q
        rw [if_neg (by simpa [am_cmp] using q)] at w
        exact w
    · refine lv_icmp_gt C.1 C.2.1 hd ht (fun q => ?_) (fun q => ?_)
      · rw [am_ltI rb ra] at q
        rw [if_pos (by simpa [am_cmp] using q)] at w
        exact w
      · rw [am_ltI rb ra] at q
        rw [if_neg (by simpa [am_cmp] using q)] at w
        exact w
    · refine lv_icmp_le C.1 C.2.1 hd ht (fun q => ?_) (fun q => ?_)
      · rw [am_leI ra rb] at q
        rw [if_pos (by simpa [am_cmp] using q)] at w
        exact w
      · rw [am_leI ra rb] at q
        rw [if_neg (by simpa [am_cmp] using q)] at w
        exact w
  · cases hx
theorem am_w_goto {off : Int} (C : am_Cx p s m args meth c mt) (hd : decode mt.2.1 pc = .ok (.goto off, 3)) (hx : am_next mt (.goto off) 3 pc ls st h = some (.inl (pc2, ls2, st2, h2))) (hlo : am_Lo base b mt.2.2.1 ls sl) (hst : am_rgS st) (hr : am_Rp base b D dA s n0 z0 h H locs cells slots) (kk : am_KK p l e R s m args below meth c Q mt base b n0 z0 D dA pc2 ls2 st2 h2) : W p l e R s m args below meth c H locs cells slots Q (F0 m pc sl (st.map (am_re base b))) := by
  obtain ⟨h0, e9⟩ := am_jmp_inv hx
  cases e9
  have ht : (pc : Int) + off = ((((pc : Int) + off).toNat : Nat) : Int) := by omega
  refine lv_goto C.1 C.2.1 hd ht ?_
  exact kk sl H locs cells slots hlo hst hr
theorem am_w_tableswitch {d lo hi : Int} {offs : Array Int} {n : Nat} (C : am_Cx p s m args meth c mt) (hd : decode mt.2.1 pc = .ok (.tableswitch d lo hi offs, n)) (hx : am_next mt (.tableswitch d lo hi offs) n pc ls st h = some (.inl (pc2, ls2, st2, h2))) (hlo : am_Lo base b mt.2.2.1 ls sl) (hst : am_rgS st) (hr : am_Rp base b D dA s n0 z0 h H locs cells slots) (kk : am_KK p l e R s m args below meth c Q mt base b n0 z0 D dA pc2 ls2 st2 h2) : W p l e R s m args below meth c H locs cells slots Q (F0 m pc sl (st.map (am_re base b))) := by
  simp only [am_next] at hx
  split at hx
  · next a r =>
    split at hx
    · next off ho =>
      obtain ⟨h0, e9⟩ := am_jmp_inv hx
      cases e9
      have ra := am_rgS_h hst
      have ht : (pc : Int) + off = ((((pc : Int) + off).toNat : Nat) : Int) := by omega
      have w := kk sl H locs cells slots hlo (am_rgS_t hst) hr
      unfold am_sw at ho
      split at ho
      · next g =>
        cases ho
        exact lv_tableOut C.1 C.2.1 hd (by rw [am_to ra]; exact g) ht w
      · next g =>
        exact lv_tableIn C.1 C.2.1 hd (by rw [am_to ra]; omega) (by rw [am_to ra]; omega) (by rw [am_to ra]; exact ho) ht w
    · cases hx
  · cases hx
theorem am_w_lookupswitch {d : Int} {ps : Array (Int × Int)} {n : Nat} (C : am_Cx p s m args meth c mt) (hd : decode mt.2.1 pc = .ok (.lookupswitch d ps, n)) (hx : am_next mt (.lookupswitch d ps) n pc ls st h = some (.inl (pc2, ls2, st2, h2))) (hlo : am_Lo base b mt.2.2.1 ls sl) (hst : am_rgS st) (hr : am_Rp base b D dA s n0 z0 h H locs cells slots) (kk : am_KK p l e R s m args below meth c Q mt base b n0 z0 D dA pc2 ls2 st2 h2) : W p l e R s m args below meth c H locs cells slots Q (F0 m pc sl (st.map (am_re base b))) := by
  simp only [am_next] at hx
  split at hx
  · next a r =>
    split at hx
    · next g =>
      obtain ⟨h0, e9⟩ := am_jmp_inv hx
      cases e9
      have ra := am_rgS_h hst
      have w := kk sl H locs cells slots hlo (am_rgS_t hst) hr
      exact lv_lookup C.1 C.2.1 hd g (by rw [am_to ra]) (by rw [if_pos rfl]; omega) w
    · cases hx
  · cases hx
end AMW
end
section
/-! Arrays. -/
def am_Xs (mt : am_M) (b base : Nat) (s : State) (h : am_H) : Prop := mt.2.2.2.2 = 10 → ∀ n, h.1[0]? = some (9, n) → va_X b n (fun j => Int32.ofInt (h.2.2.1 0 j)) s s.heap ∧ b < s.heap.size ∧ b ≤ base
theorem am_inb_ex {S : List (Nat × Nat)} {k tag : Nat} {j : Int} (h : am_inb S k tag j = true) : ∃ n : Nat, S[k]? = some (tag, n) ∧ 0 ≤ j ∧ j < n := by
  unfold am_inb at h
  split at h
  · next t n e =>
    simp only [Bool.and_eq_true, beq_iff_eq, decide_eq_true_eq] at h
    obtain ⟨⟨h1, h2⟩, h3⟩ := h
    subst h1
    exact ⟨n, e, h2, h3⟩
  · cases h
theorem am_k0 {base b : Nat} {D : va_G} {dA : Nat → ClassId} {s : State} {n0 z0 : Nat} {h : am_H} {H : Heap} {locs : List Loc} {cells slots k tag n : Nat} (hr : am_Rp base b D dA s n0 z0 h H locs cells slots) (hk : h.1[k]? = some (tag, n)) (ht : tag < 9) : k ≠ 0 := by
  intro e
  subst e
  obtain ⟨n', h1⟩ := hr.2.2.2.2.2.1
  rw [h1] at hk
  cases hk
  omega
theorem am_ad_k {base b k : Nat} (h : k ≠ 0) : am_ad base b k = base + k := by simp [am_ad, h]
theorem am_re_k {base b k : Nat} (h : k ≠ 0) : am_re base b (.inr (.inr (some k))) = .ref (base + k) := by simp [am_re, am_ad, h]
theorem am_Pi {base b k n : Nat} {D : va_G} {dA : Nat → ClassId} {h : am_H} {H : Heap} (hP : am_P base b D dA h H) (h0 : k ≠ 0) (hk : h.1[k]? = some (0, n)) : H[base + k]? = some (vp_cell (dA 0) (n, .inl (fun i : Nat => Int32.ofInt (h.2.2.1 k i)))) := hP.2 k _ h0 hk
theorem am_Pl {base b k n : Nat} {D : va_G} {dA : Nat → ClassId} {h : am_H} {H : Heap} (hP : am_P base b D dA h H) (h0 : k ≠ 0) (hk : h.1[k]? = some (1, n)) : H[base + k]? = some (vp_cell (dA 1) (n, .inr (.inl (fun i : Nat => h.2.2.2 k i)))) := hP.2 k _ h0 hk
theorem am_Pz {base b k n : Nat} {D : va_G} {dA : Nat → ClassId} {h : am_H} {H : Heap} (hP : am_P base b D dA h H) (h0 : k ≠ 0) (hk : h.1[k]? = some (2, n)) : H[base + k]? = some (vp_cell (dA 2) (n, .inl (fun i : Nat => Int32.ofInt (h.2.2.1 k i)))) := hP.2 k _ h0 hk
theorem am_one_w {D : va_G} {a : Nat} {x : va_E} {H : Heap} (h : va_at D am_cl (a, x) H) : va_P D am_cl [(a, x)] H := by
  intro k q hq
  have hz : k < 1 := (List.getElem?_eq_some_iff.mp hq).1
  rw [show k = 0 by omega] at hq
  cases hq
  exact h
theorem am_idx {j : Int} (hj : am_rg j) (h0 : 0 ≤ j) : (((Int32.ofInt j).toNatClampNeg : Nat) : Int) = j := by
  rw [am_clamp hj]; omega
section AMW
variable {p : Program} {l : Launch} {e : Env} {R : Room} {s : State} {m : MethodId} {args : Array Value} {below : List Frame} {meth : Method} {c : Code} {Q : State → Prop} {mt : am_M} {base b n0 z0 : Nat} {D : va_G} {dA : Nat → ClassId} {H : Heap} {locs : List Loc} {cells slots : Nat} {pc pc2 : Nat} {ls ls2 : am_Ls} {st st2 : List am_V} {h h2 : am_H} {sl : Array Slot}
theorem am_w_iaload  (C : am_Cx p s m args meth c mt) (K : am_K D dA s) (X : am_Xs mt b base s h) (hd : decode mt.2.1 pc = .ok (.iaload, 1)) (hx : am_next mt (.iaload) 1 pc ls st h = some (.inl (pc2, ls2, st2, h2))) (hlo : am_Lo base b mt.2.2.1 ls sl) (hst : am_rgS st) (hr : am_Rp base b D dA s n0 z0 h H locs cells slots) (kk : am_KK p l e R s m args below meth c Q mt base b n0 z0 D dA pc2 ls2 st2 h2) : W p l e R s m args below meth c H locs cells slots Q (F0 m pc sl (st.map (am_re base b))) := by
  simp only [am_next, am_ial, am_go] at hx
  split at hx
  · next j k r =>
    split at hx
    · next g =>
      cases hx
      have rj := am_rgS_h hst
      rcases g with g | ⟨rfl, go, g⟩
      · obtain ⟨n, hk, j0, j1⟩ := am_inb_ex g
        have k0 := am_k0 hr hk (by omega)
        have hP := am_one_w (show va_at D am_cl (base + k, .inl (dA 0, n, .inl (fun i : Nat => Int32.ofInt (h.2.2.1 k i)))) H from hr.1.2 k _ k0 hk)
        have w := kk sl H locs cells slots hlo (am_rgS_c (hr.2.2.2.2.1 k j) (am_rgS_t (am_rgS_t hst))) hr
        rw [List.map_cons, List.map_cons, am_re_k k0]
        refine va_iald C.1 C.2.1 K hP 0 0 rfl rfl (am_vin rj j0 j1) hd ?_
        simp only [am_idx rj j0]
        exact w
      · obtain ⟨n, hk, j0, j1⟩ := am_inb_ex g
        obtain ⟨x1, x2, x3⟩ := X go n hk
        have w := kk sl H locs cells slots hlo (am_rgS_c (hr.2.2.2.2.1 0 j) (am_rgS_t (am_rgS_t hst))) hr
        refine va_sld (b := b) (A := fun q => base < q) C.1 C.2.1 x1 x2 (by omega) hr.2.1 (am_vin rj j0 j1) hd ?_
        simp only [am_idx rj j0]
        exact w
    · cases hx
  · cases hx
theorem am_w_baload  (C : am_Cx p s m args meth c mt) (K : am_K D dA s) (hd : decode mt.2.1 pc = .ok (.baload, 1)) (hx : am_next mt (.baload) 1 pc ls st h = some (.inl (pc2, ls2, st2, h2))) (hlo : am_Lo base b mt.2.2.1 ls sl) (hst : am_rgS st) (hr : am_Rp base b D dA s n0 z0 h H locs cells slots) (kk : am_KK p l e R s m args below meth c Q mt base b n0 z0 D dA pc2 ls2 st2 h2) : W p l e R s m args below meth c H locs cells slots Q (F0 m pc sl (st.map (am_re base b))) := by
  simp only [am_next, am_bal, am_go] at hx
  split at hx
  · next j k r =>
    split at hx
    · next g =>
      cases hx
      have rj := am_rgS_h hst
      obtain ⟨n, hk, j0, j1⟩ := am_inb_ex g
      have k0 := am_k0 hr hk (by omega)
      have hP := am_one_w (show va_at D am_cl (base + k, .inl (dA 2, n, .inl (fun i : Nat => Int32.ofInt (h.2.2.1 k i)))) H from hr.1.2 k _ k0 hk)
      have w := kk sl H locs cells slots hlo (am_rgS_c (hr.2.2.2.2.1 k j) (am_rgS_t (am_rgS_t hst))) hr
      rw [List.map_cons, List.map_cons, am_re_k k0]
      refine va_zald C.1 C.2.1 K hP 0 2 rfl rfl (am_vin rj j0 j1) hd ?_
      simp only [am_idx rj j0]
      exact w
    · cases hx
  · cases hx
theorem am_w_laload  (C : am_Cx p s m args meth c mt) (K : am_K D dA s) (hd : decode mt.2.1 pc = .ok (.laload, 1)) (hx : am_next mt (.laload) 1 pc ls st h = some (.inl (pc2, ls2, st2, h2))) (hlo : am_Lo base b mt.2.2.1 ls sl) (hst : am_rgS st) (hr : am_Rp base b D dA s n0 z0 h H locs cells slots) (kk : am_KK p l e R s m args below meth c Q mt base b n0 z0 D dA pc2 ls2 st2 h2) : W p l e R s m args below meth c H locs cells slots Q (F0 m pc sl (st.map (am_re base b))) := by
  simp only [am_next, am_lal, am_go] at hx
  split at hx
  · next j k r =>
    split at hx
    · next g =>
      cases hx
      have rj := am_rgS_h hst
      obtain ⟨n, hk, j0, j1⟩ := am_inb_ex g
      have k0 := am_k0 hr hk (by omega)
      have hP := am_one_w (show va_at D am_cl (base + k, .inl (dA 1, n, .inr (.inl (fun i : Nat => h.2.2.2 k i)))) H from hr.1.2 k _ k0 hk)
      have w := kk sl H locs cells slots hlo (am_rgS_l (am_rgS_t (am_rgS_t hst))) hr
      rw [List.map_cons, List.map_cons, am_re_k k0]
      refine va_lald C.1 C.2.1 K hP 0 1 rfl rfl (am_vin rj j0 j1) hd ?_
      simp only [am_idx rj j0]
      exact w
    · cases hx
  · cases hx
theorem am_w_arraylength  (C : am_Cx p s m args meth c mt) (K : am_K D dA s) (X : am_Xs mt b base s h) (hd : decode mt.2.1 pc = .ok (.arraylength, 1)) (hx : am_next mt (.arraylength) 1 pc ls st h = some (.inl (pc2, ls2, st2, h2))) (hlo : am_Lo base b mt.2.2.1 ls sl) (hst : am_rgS st) (hr : am_Rp base b D dA s n0 z0 h H locs cells slots) (kk : am_KK p l e R s m args below meth c Q mt base b n0 z0 D dA pc2 ls2 st2 h2) : W p l e R s m args below meth c H locs cells slots Q (F0 m pc sl (st.map (am_re base b))) := by
  simp only [am_next, am_len, am_go] at hx
  split at hx
  · next k r =>
    split at hx
    · next t n hk =>
      split at hx
      · next g =>
        cases hx
        obtain ⟨g1, g2⟩ := g
        have w := kk sl H locs cells slots hlo (am_rgS_c (by unfold am_rg; omega) (am_rgS_t hst)) hr
        have w2 : W p l e R s m args below meth c H locs cells slots Q (F0 m (pc + 1) sl (.int (Int32.ofNat n) :: r.map (am_re base b))) := by
          rw [← Int32.ofInt_eq_ofNat]; exact w
        rcases g1 with ⟨g3, g4⟩ | ⟨rfl, rfl, go⟩
        · rw [List.map_cons, am_re_k g4]
          have hv := hr.1.2 k _ g4 hk
          match t, g3, hv with
          | 0, _, hv => exact va_alen (x := (n, .inl (fun i : Nat => Int32.ofInt (h.2.2.1 k i)))) C.1 C.2.1 K (am_one_w hv) 0 0 rfl rfl rfl hd w2
          | 1, _, hv => exact va_alen (x := (n, .inr (.inl (fun i : Nat => h.2.2.2 k i)))) C.1 C.2.1 K (am_one_w hv) 0 1 rfl rfl rfl hd w2
          | 2, _, hv => exact va_alen (x := (n, .inl (fun i : Nat => Int32.ofInt (h.2.2.1 k i)))) C.1 C.2.1 K (am_one_w hv) 0 2 rfl rfl rfl hd w2
        · obtain ⟨x1, x2, x3⟩ := X go n hk
          exact va_slen (b := b) (A := fun q => base < q) C.1 C.2.1 x1 x2 (by omega) hr.2.1 hd w2
      · cases hx
    · cases hx
  · cases hx
theorem am_w_iastore  (C : am_Cx p s m args meth c mt) (K : am_K D dA s) (hd : decode mt.2.1 pc = .ok (.iastore, 1)) (hx : am_next mt (.iastore) 1 pc ls st h = some (.inl (pc2, ls2, st2, h2))) (hlo : am_Lo base b mt.2.2.1 ls sl) (hst : am_rgS st) (hr : am_Rp base b D dA s n0 z0 h H locs cells slots) (kk : am_KK p l e R s m args below meth c Q mt base b n0 z0 D dA pc2 ls2 st2 h2) : W p l e R s m args below meth c H locs cells slots Q (F0 m pc sl (st.map (am_re base b))) := by
  simp only [am_next, am_ias, am_go] at hx
  split at hx
  · next v j k r =>
    split at hx
    · next g =>
      cases hx
      have rj := am_rgS_h (am_rgS_t hst)
      have rv := am_rgS_h hst
      obtain ⟨n, hk, j0, j1⟩ := am_inb_ex g
      have k0 := am_k0 hr hk (by omega)
      have hcell := am_Pi hr.1 k0 hk
      rw [List.map_cons, List.map_cons, List.map_cons, am_re_k k0]
      refine W.iast C.1 C.2.1 hcell ((K.2 0 _ rfl).1 n (fun i => .int (Int32.ofInt (h.2.2.1 k i)))) (fun q => by cases q) (by show ¬ (Int32.ofInt j < 0 ∨ (arrV _ _ _).slots.size ≤ _); rw [arrV_size]; exact am_vin rj j0 j1) rfl rfl hd (fun H1 e1 z1 o1 => ?_)
      have hP2 : am_P base b D dA (h.1, h.2.1, am_uI h.2.2.1 k j v, h.2.2.2) H1 := by
        refine hr.1.upd (k := k) rfl z1 o1 (fun k2 hk2 => ?_) (fun q hq => ?_)
        · refine ⟨fun _ => rfl, fun i => ?_, fun i => ?_⟩
          · first | rfl | (show am_uI _ _ _ _ _ _ = _; simp [am_uI, hk2])
          · first | rfl | (show am_uL _ _ _ _ _ _ = _; simp [am_uL, hk2])
        · have hq := hk.symm.trans hq
          cases hq
          show H1[base + k]? = some (vp_cell _ _)
          rw [e1, vp_cell_i, vp_cell_i, arrV_store]
          congr 2
          funext i
          have ei : (i = (Int32.ofInt j).toNatClampNeg) ↔ (i : Int) = j := by rw [am_clamp rj]; omega
          by_cases hi : (i : Int) = j
          · simp [updV, am_uI, ei.mpr hi, hi, am_clamp rj, Int.toNat_of_nonneg j0]
          · simp [updV, am_uI, (not_congr ei).mpr hi, hi]
      have w := kk sl H1 (locs ++ [⟨base + k, (Int32.ofInt j).toNatClampNeg⟩]) cells slots hlo (am_rgS_t (am_rgS_t (am_rgS_t hst))) ⟨hP2, hr.2.1.put z1 o1 (by show base < base + k; omega), hr.2.2.1, hr.2.2.2.1, (fun k2 j2 => by show am_rg (am_uI h.2.2.1 k j v k2 j2); unfold am_uI; split; exact rv; exact hr.2.2.2.2.1 k2 j2), hr.2.2.2.2.2⟩
      exact w
    · cases hx
  · cases hx
theorem am_w_bastore  (C : am_Cx p s m args meth c mt) (K : am_K D dA s) (hd : decode mt.2.1 pc = .ok (.bastore, 1)) (hx : am_next mt (.bastore) 1 pc ls st h = some (.inl (pc2, ls2, st2, h2))) (hlo : am_Lo base b mt.2.2.1 ls sl) (hst : am_rgS st) (hr : am_Rp base b D dA s n0 z0 h H locs cells slots) (kk : am_KK p l e R s m args below meth c Q mt base b n0 z0 D dA pc2 ls2 st2 h2) : W p l e R s m args below meth c H locs cells slots Q (F0 m pc sl (st.map (am_re base b))) := by
  simp only [am_next, am_bas, am_go] at hx
  split at hx
  · next v j k r =>
    split at hx
    · next g =>
      cases hx
      have rj := am_rgS_h (am_rgS_t hst)
      have rv := am_rgS_h hst
      obtain ⟨n, hk, j0, j1⟩ := am_inb_ex g.1
      have k0 := am_k0 hr hk (by omega)
      have hcell := am_Pz hr.1 k0 hk
      have hn9 : narrow .boolean (.int (Int32.ofInt v)) = .int (Int32.ofInt v) := by
        rcases g.2 with w | w <;> subst w <;> rfl
      rw [List.map_cons, List.map_cons, List.map_cons, am_re_k k0]
      refine W.zast C.1 C.2.1 hcell ((K.2 2 _ rfl).1 n (fun i => .int (Int32.ofInt (h.2.2.1 k i)))) (fun q => by cases q) (by show ¬ (Int32.ofInt j < 0 ∨ (arrV _ _ _).slots.size ≤ _); rw [arrV_size]; exact am_vin rj j0 j1) rfl rfl hd (fun H1 e1 z1 o1 => ?_)
      have hP2 : am_P base b D dA (h.1, h.2.1, am_uI h.2.2.1 k j v, h.2.2.2) H1 := by
        rw [hn9] at e1
        refine hr.1.upd (k := k) rfl z1 o1 (fun k2 hk2 => ?_) (fun q hq => ?_)
        · refine ⟨fun _ => rfl, fun i => ?_, fun i => ?_⟩
          · first | rfl | (show am_uI _ _ _ _ _ _ = _; simp [am_uI, hk2])
          · first | rfl | (show am_uL _ _ _ _ _ _ = _; simp [am_uL, hk2])
        · have hq := hk.symm.trans hq
          cases hq
          show H1[base + k]? = some (vp_cell _ _)
          rw [e1, vp_cell_i, vp_cell_i, arrV_store]
          congr 2
          funext i
          have ei : (i = (Int32.ofInt j).toNatClampNeg) ↔ (i : Int) = j := by rw [am_clamp rj]; omega
          by_cases hi : (i : Int) = j
          · simp [updV, am_uI, ei.mpr hi, hi, am_clamp rj, Int.toNat_of_nonneg j0]
          · simp [updV, am_uI, (not_congr ei).mpr hi, hi]
      have w := kk sl H1 (locs ++ [⟨base + k, (Int32.ofInt j).toNatClampNeg⟩]) cells slots hlo (am_rgS_t (am_rgS_t (am_rgS_t hst))) ⟨hP2, hr.2.1.put z1 o1 (by show base < base + k; omega), hr.2.2.1, hr.2.2.2.1, (fun k2 j2 => by show am_rg (am_uI h.2.2.1 k j v k2 j2); unfold am_uI; split; exact rv; exact hr.2.2.2.2.1 k2 j2), hr.2.2.2.2.2⟩
      exact w
    · cases hx
  · cases hx
theorem am_w_lastore  (C : am_Cx p s m args meth c mt) (K : am_K D dA s) (hd : decode mt.2.1 pc = .ok (.lastore, 1)) (hx : am_next mt (.lastore) 1 pc ls st h = some (.inl (pc2, ls2, st2, h2))) (hlo : am_Lo base b mt.2.2.1 ls sl) (hst : am_rgS st) (hr : am_Rp base b D dA s n0 z0 h H locs cells slots) (kk : am_KK p l e R s m args below meth c Q mt base b n0 z0 D dA pc2 ls2 st2 h2) : W p l e R s m args below meth c H locs cells slots Q (F0 m pc sl (st.map (am_re base b))) := by
  simp only [am_next, am_las, am_go] at hx
  split at hx
  · next v j k r =>
    split at hx
    · next g =>
      cases hx
      have rj := am_rgS_h (am_rgS_t hst)
      obtain ⟨n, hk, j0, j1⟩ := am_inb_ex g
      have k0 := am_k0 hr hk (by omega)
      have hcell := am_Pl hr.1 k0 hk
      rw [List.map_cons, List.map_cons, List.map_cons, am_re_k k0]
      refine W.last C.1 C.2.1 hcell ((K.2 1 _ rfl).1 n (fun i => .long (h.2.2.2 k i))) (fun q => by cases q) (by show ¬ (Int32.ofInt j < 0 ∨ (arrV _ _ _).slots.size ≤ _); rw [arrV_size]; exact am_vin rj j0 j1) rfl rfl hd (fun H1 e1 z1 o1 => ?_)
      have hP2 : am_P base b D dA (h.1, h.2.1, h.2.2.1, am_uL h.2.2.2 k j v) H1 := by
        refine hr.1.upd (k := k) rfl z1 o1 (fun k2 hk2 => ?_) (fun q hq => ?_)
        · refine ⟨fun _ => rfl, fun i => ?_, fun i => ?_⟩
          · first | rfl | (show am_uI _ _ _ _ _ _ = _; simp [am_uI, hk2])
          · first | rfl | (show am_uL _ _ _ _ _ _ = _; simp [am_uL, hk2])
        · have hq := hk.symm.trans hq
          cases hq
          show H1[base + k]? = some (vp_cell _ _)
          rw [e1, vp_cell_l, vp_cell_l, arrV_store]
          congr 2
          funext i
          have ei : (i = (Int32.ofInt j).toNatClampNeg) ↔ (i : Int) = j := by rw [am_clamp rj]; omega
          by_cases hi : (i : Int) = j
          · simp [updV, am_uL, ei.mpr hi, hi, am_clamp rj, Int.toNat_of_nonneg j0]
          · simp [updV, am_uL, (not_congr ei).mpr hi, hi]
      have w := kk sl H1 (locs ++ [⟨base + k, (Int32.ofInt j).toNatClampNeg⟩]) cells slots hlo (am_rgS_t (am_rgS_t (am_rgS_t hst))) ⟨hP2, hr.2.1.put z1 o1 (by show base < base + k; omega), hr.2.2.1, hr.2.2.2.1, hr.2.2.2.2.1, hr.2.2.2.2.2⟩
      exact w
    · cases hx
  · cases hx
end AMW
end
section
/-! Fields and new cells. -/
theorem am_vpV {g : Nat → Value} {N j : Nat} (hj : j < N) : vp_V ((List.range N).map g) j = g j := by
  simp [vp_V, List.getD, hj]
theorem am_fits (base b : Nat) {ty : FieldType} (ht : (∃ n, ty = .object n) ∨ ∃ t, ty = .array t) (r : Option Nat) : narrow ty (am_re base b (.inr (.inr r))) = am_re base b (.inr (.inr r)) ∧ fits ty (am_re base b (.inr (.inr r))) = true := by
  rcases ht with ⟨n, rfl⟩ | ⟨t, rfl⟩ <;> cases r <;> exact ⟨rfl, rfl⟩
section AMW
variable {p : Program} {l : Launch} {e : Env} {R : Room} {s : State} {m : MethodId} {args : Array Value} {below : List Frame} {meth : Method} {c : Code} {Q : State → Prop} {mt : am_M} {base b n0 z0 : Nat} {D : va_G} {dA : Nat → ClassId} {H : Heap} {locs : List Loc} {cells slots : Nat} {pc pc2 : Nat} {ls ls2 : am_Ls} {st st2 : List am_V} {h h2 : am_H} {sl : Array Slot}
theorem am_w_getfield {i : Nat} (C : am_Cx p s m args meth c mt) (K : am_K D dA s) (hd : decode mt.2.1 pc = .ok (.getfield i, 3)) (hx : am_next mt (.getfield i) 3 pc ls st h = some (.inl (pc2, ls2, st2, h2))) (hlo : am_Lo base b mt.2.2.1 ls sl) (hst : am_rgS st) (hr : am_Rp base b D dA s n0 z0 h H locs cells slots) (kk : am_KK p l e R s m args below meth c Q mt base b n0 z0 D dA pc2 ls2 st2 h2) : W p l e R s m args below meth c H locs cells slots Q (F0 m pc sl (st.map (am_re base b))) := by
  simp only [am_next, am_gf, am_go] at hx
  split at hx
  · next cc f k r hl =>
    split at hx
    · next g =>
      obtain ⟨hk, k0⟩ := g
      obtain ⟨hc10, C1, T1, N1, e1, hf, hlink⟩ := am_fld C.2.2.2.2.2.2.2 hl
      obtain ⟨C2, T2, N2, ty, e2, en, hu, -, -, hft, -⟩ := am_cls hc10
      have e3 := e1.symm.trans e2
      cases e3
      obtain ⟨hp, hown, hty⟩ := hft f hf
      have hv := hr.1.2 k _ k0 hk
      have hP := am_one_w (show va_at D am_cl (base + k, .inr (cc, (List.range (am_nf cc)).map (am_fv base b cc k h))) H from hv)
      have key : ∀ v : Value, am_fv base b cc k h f = v → W p l e R s m args below meth c H locs cells slots Q (F0 m (pc + 3) sl (v :: r.map (am_re base b))) → W p l e R s m args below meth c H locs cells slots Q (F0 m pc sl (.ref (base + k) :: r.map (am_re base b))) := by
        intro v hv9 w
        refine va_get (D := D) (ci := cc) (v := v) (C := C1) (T := T1) (N := N1) C.1 C.2.1 C.2.2.2.2.1 hu C.2.2.2.1 K hP 0 rfl e1 f hf (C.2.2.2.2.1 _ hlink) (fun x h9 => by rw [hown] at h9; exact h9) ?_ hd w
        rw [List.getElem?_map, List.getElem?_range (by rw [en]; exact hf), Option.map_some, hv9]
      rw [List.map_cons, am_re_k k0]
      rcases hty with ⟨q, -, -⟩ | ⟨q, -, -⟩ | ⟨q, -, -⟩
      · rw [q] at hx
        cases hx
        exact key _ (by unfold am_fv; rw [q]; rfl) (kk sl H locs cells slots hlo (am_rgS_c (hr.2.2.2.2.1 k f) (am_rgS_t hst)) hr)
      · rw [q] at hx
        cases hx
        exact key _ (by unfold am_fv; rw [q]; rfl) (kk sl H locs cells slots hlo (am_rgS_l (am_rgS_t hst)) hr)
      · rw [q] at hx
        cases hx
        exact key _ (by unfold am_fv; rw [q]; rfl) (kk sl H locs cells slots hlo (am_rgS_r (am_rgS_t hst)) hr)
    · cases hx
  · cases hx
theorem am_w_putfield {i : Nat} (C : am_Cx p s m args meth c mt) (K : am_K D dA s) (hd : decode mt.2.1 pc = .ok (.putfield i, 3)) (hx : am_next mt (.putfield i) 3 pc ls st h = some (.inl (pc2, ls2, st2, h2))) (hlo : am_Lo base b mt.2.2.1 ls sl) (hst : am_rgS st) (hr : am_Rp base b D dA s n0 z0 h H locs cells slots) (kk : am_KK p l e R s m args below meth c Q mt base b n0 z0 D dA pc2 ls2 st2 h2) : W p l e R s m args below meth c H locs cells slots Q (F0 m pc sl (st.map (am_re base b))) := by
  simp only [am_next, am_pf, am_go] at hx
  split at hx
  · next cc f v k r hl =>
    split at hx
    · next g =>
      obtain ⟨hk, k0⟩ := g
      obtain ⟨hc10, C1, T1, N1, e1, hf, hlink⟩ := am_fld C.2.2.2.2.2.2.2 hl
      obtain ⟨C2, T2, N2, ty, e2, en, hu, -, -, hft, hnm⟩ := am_cls hc10
      have e3 := e1.symm.trans e2
      cases e3
      obtain ⟨hp, hown, hty⟩ := hft f hf
      have hv := hr.1.2 k _ k0 hk
      obtain ⟨r0, h1, cell, q1, q2, q3, q4⟩ := (show va_at D am_cl (base + k, .inr (cc, (List.range (am_nf cc)).map (am_fv base b cc k h))) H from hv)
      have hr0 : r0 = (C1, T1, N1) := Option.some.inj (h1.symm.trans e1)
      subst hr0
      obtain ⟨hS, hfc, kC, hkC, hkind⟩ := K.1 cc _ e1
      obtain ⟨cf, kf, fi, fd, hi, hsl⟩ := hS f hf
      have hap := va_apart (own := mt.1.cls) C.2.2.2.2.1 hu ty (fun a ha => (hft a ha).1) hnm K e1
      have hlay := C.2.2.2.2.1 _ (hu _ (u_in_lay hf))
      have hst9 := (u_facts hfc hkC (u_lays C.2.2.2.2.1 hu hf) hi).1
      have hi2 : s.fieldFound? C1 (T1 f).2.1 (T1 f).2.2.1 = some (cf, kf, fi, fd) := by rw [← hown]; exact hi
      have go : ∀ (h9 : am_H) (w9 : Value), h9.1 = h.1 → (∀ k', k' ≠ k → am_same k' h h9) → (∀ j, j < N1 → am_fv base b cc k h9 j = updV (am_fv base b cc k h) f w9 j) → am_rgH h9 → am_re base b v = w9 →
          (∀ H1 : Heap, H1[base + k]? = some (cell.setSlot fd.slot w9) → H1.size = H.size → (∀ q, q ≠ base + k → H1[q]? = H[q]?) → am_Rp base b D dA s n0 z0 h9 H1 (locs ++ [⟨base + k, fd.slot⟩]) cells slots) := by
        intro h9 w9 g1 g2 g3 g4 g5 H1 e9 z9 o9
        refine ⟨hr.1.upd (k := k) g1 z9 o9 g2 (fun q hq => ?_), hr.2.1.put z9 o9 (by show base < base + k; omega), by rw [g1]; exact hr.2.2.1, by rw [g1]; exact hr.2.2.2.1, g4, by rw [g1]; exact hr.2.2.2.2.2.1, hr.2.2.2.2.2.2⟩
        have hq := hk.symm.trans hq
        cases hq
        rw [hsl] at e9
        refine ⟨_, e1, t_OB.to (V := updV (vp_V ((List.range (am_nf cc)).map (am_fv base b cc k h))) f w9) ⟨_, e9, q2, q3, t_set q4 hap hf w9⟩ (fun j hj => ?_)⟩
        have hj : j < N1 := hj
        rw [am_vpV (by rw [en]; exact hj), g3 j hj]
        unfold updV
        rw [am_vpV (by rw [en]; exact hj)]
      rw [List.map_cons, List.map_cons, am_re_k k0]
      rcases hty with ⟨q, qt, qf⟩ | ⟨q, qt, qf⟩ | ⟨q, qt, qf⟩
      · rw [q] at hx
        rcases v with a | a | a
        · cases hx
          unfold u_lay at hlay
          rw [if_neg (by rw [qf]; decide)] at hlay
          have h6 := u_store (v := .int (Int32.ofInt a)) hfc hkC hkind hlay hi (by rw [hp, qt]) rfl rfl
          refine W.putK C.1 C.2.1 (f := fd) ⟨C.2.2.2.1, C.2.2.2.2.1 _ hlink, ⟨_, _, _, hi2⟩, hst9⟩ (by rw [q2]; exact h6) q1 q3 (by rw [hsl]; exact k2_hasslot (q4 f hf)) rfl rfl hd (fun H1 e9 z9 o9 => ?_)
          refine kk sl H1 (locs ++ [⟨base + k, fd.slot⟩]) cells slots hlo (am_rgS_t (am_rgS_t hst)) (go (h.1, h.2.1, am_uI h.2.2.1 k f a, h.2.2.2) (.int (Int32.ofInt a)) rfl (fun k2 hk2 => ⟨fun _ => rfl, fun j => by show am_uI _ _ _ _ _ _ = _; simp [am_uI, hk2], fun _ => rfl⟩) (fun j hj => ?_) (fun k2 j2 => by show am_rg (am_uI h.2.2.1 k f a k2 j2); unfold am_uI; split; exact am_rgS_h hst; exact hr.2.2.2.2.1 k2 j2) rfl H1 e9 z9 o9)
          unfold updV
          by_cases hjf : j = f
          · subst hjf
            unfold am_fv
            rw [if_pos rfl, q]
            simp [am_uI]
          · rw [if_neg hjf]
            have hz : ¬ ((j : Int) = (f : Int)) := by omega
            unfold am_fv
            simp [am_uI, hz]
        all_goals cases hx
      · rw [q] at hx
        rcases v with a | a | a
        · cases hx
        · cases hx
          unfold u_lay at hlay
          rw [if_neg (by rw [qf]; decide)] at hlay
          have h6 := u_store (v := .long a) hfc hkC hkind hlay hi (by rw [hp, qt]) rfl rfl
          refine W.putK C.1 C.2.1 (f := fd) ⟨C.2.2.2.1, C.2.2.2.2.1 _ hlink, ⟨_, _, _, hi2⟩, hst9⟩ (by rw [q2]; exact h6) q1 q3 (by rw [hsl]; exact k2_hasslot (q4 f hf)) rfl rfl hd (fun H1 e9 z9 o9 => ?_)
          refine kk sl H1 (locs ++ [⟨base + k, fd.slot⟩]) cells slots hlo (am_rgS_t (am_rgS_t hst)) (go (h.1, h.2.1, h.2.2.1, am_uL h.2.2.2 k f a) (.long a) rfl (fun k2 hk2 => ⟨fun _ => rfl, fun _ => rfl, fun j => by show am_uL _ _ _ _ _ _ = _; simp [am_uL, hk2]⟩) (fun j hj => ?_) hr.2.2.2.2.1 rfl H1 e9 z9 o9)
          unfold updV
          by_cases hjf : j = f
          · subst hjf
            unfold am_fv
            rw [if_pos rfl, q]
            simp [am_uL]
          · rw [if_neg hjf]
            have hz : ¬ ((j : Int) = (f : Int)) := by omega
            unfold am_fv
            simp [am_uL, hz]
        · cases hx
      · rw [q] at hx
        rcases v with a | a | (_ | a)
        · cases hx
        · cases hx
        · cases hx
        · have hx : (if (mt.1.name == "<init>") = true ∧ cc = mt.2.2.2.2 ∧ a ≠ 0 then some (Sum.inl (pc + 3, ls, r, h.1, am_uR h.2.1 k f (some a), h.2.2.1, h.2.2.2)) else none) = some (.inl (pc2, ls2, st2, h2)) := hx
          split at hx
          · next g9 =>
            obtain ⟨g1, g2, g3⟩ := g9
            cases hx
            have hown9 : C1 = mt.1.cls := by
              have w1 := (am_meth C.2.2.2.2.2.2.2).2.2.2.1
              rw [← g2] at w1
              have w2 : am_cn[cc]? = (am_cl[cc]?).map (fun q => q.1) := by
                have : ∀ x, x < 10 → am_cn[x]? = (am_cl[x]?).map (fun q => q.1) := by decide +kernel
                exact this cc hc10
              rw [e1] at w2
              exact Option.some.inj (w2.symm.trans w1)
            unfold u_lay at hlay
            rw [if_pos qf] at hlay
            have hcf : m.cls = cf := by
              obtain ⟨_, _, c', _, _, _, -, -, hf', -, -, -, hown2, -⟩ := Cond.laysFinal_spec hlay
              have e1 : c' = cf := by have := hi.symm.trans hf'; simp at this; exact this.1.symm
              rw [hown, hown9] at hown2
              rw [← e1]; exact Option.some.inj (C.2.2.2.1.symm.trans hown2)
            have hfit := am_fits base b qt (some a)
            have h6 := u_fits (v := am_re base b (.inr (.inr (some a)))) hfc hkC hkind (Or.inr hlay) hi hp hfit.1 hfit.2
            refine W.putFinK C.1 C.2.1 C.2.2.2.1 (C.2.2.2.2.1 _ hlink) hi2 hst9 hcf (C.2.2.2.2.2.1 (eq_of_beq g1)) (by rw [q2]; exact h6) q1 q3 (by rw [hsl]; exact k2_hasslot (q4 f hf)) rfl rfl hd (fun H1 e9 z9 o9 => ?_)
            refine kk sl H1 (locs ++ [⟨base + k, fd.slot⟩]) cells slots hlo (am_rgS_t (am_rgS_t hst)) (go (h.1, am_uR h.2.1 k f (some a), h.2.2.1, h.2.2.2) (am_re base b (.inr (.inr (some a)))) rfl (fun k2 hk2 => ⟨fun j => by show am_uR _ _ _ _ _ _ = _; simp [am_uR, hk2], fun _ => rfl, fun _ => rfl⟩) (fun j hj => ?_) hr.2.2.2.2.1 rfl H1 e9 z9 o9)
            unfold updV
            by_cases hjf : j = f
            · subst hjf
              unfold am_fv
              rw [if_pos rfl, q]
              simp [am_uR]
            · rw [if_neg hjf]
              have hz : ¬ ((j : Int) = (f : Int)) := by omega
              unfold am_fv
              simp [am_uR, hz]
          · cases hx
    · cases hx
  · cases hx
end AMW
end
section
/-! New cells. -/
theorem am_fresh_same {h : am_H} {q : Nat × Nat} : ∀ k, k < h.1.length → am_same k h (h.1 ++ [q], am_zR h.2.1 h.1.length, am_zI h.2.2.1 h.1.length, am_zL h.2.2.2 h.1.length) := by
  intro k hk
  have hne : k ≠ h.1.length := by omega
  exact ⟨fun j => by simp [am_zR, hne], fun j => by simp [am_zI, hne], fun j => by simp [am_zL, hne]⟩
theorem am_fresh_rg {h : am_H} (hr : am_rgH h) (k : Nat) : ∀ (k2 : Nat) (j : Int), am_rg (am_zI h.2.2.1 k k2 j) := by
  intro k2 j
  unfold am_zI
  split
  · exact am_rg0
  · exact hr k2 j
section AMW
variable {p : Program} {l : Launch} {e : Env} {R : Room} {s : State} {m : MethodId} {args : Array Value} {below : List Frame} {meth : Method} {c : Code} {Q : State → Prop} {mt : am_M} {base b n0 z0 : Nat} {D : va_G} {dA : Nat → ClassId} {H : Heap} {locs : List Loc} {cells slots : Nat} {pc pc2 : Nat} {ls ls2 : am_Ls} {st st2 : List am_V} {h h2 : am_H} {sl : Array Slot}
theorem am_fresh_Rp {q : Nat × Nat} {H1 : Heap} (hr : am_Rp base b D dA s n0 z0 h H locs cells slots) (z1 : H1.size = H.size + 1) (o1 : ∀ q, q < H.size → H1[q]? = H[q]?) (hk : va_at D am_cl (H.size, am_E dA base b h.1.length (h.1 ++ [q], am_zR h.2.1 h.1.length, am_zI h.2.2.1 h.1.length, am_zL h.2.2.2 h.1.length) q) H1) : am_Rp base b D dA s n0 z0 (h.1 ++ [q], am_zR h.2.1 h.1.length, am_zI h.2.2.1 h.1.length, am_zL h.2.2.2 h.1.length) H1 locs (cells + 1) (slots + am_size q) := by
  obtain ⟨a1, a2, a3, a4, a5, ⟨n, a6⟩, a7⟩ := hr
  refine ⟨a1.push rfl z1 o1 am_fresh_same hk, ⟨Nat.le_trans a2.1 (by omega), fun x h1 h2 => (o1 x (Nat.lt_of_lt_of_le h1 a2.1)).trans (a2.2.1 x h1 h2), a2.2.2⟩, ?_, ?_, am_fresh_rg a5 _, ⟨n, ?_⟩, a7⟩
  · show cells + 1 + n0 = (h.1 ++ [q]).length
    simp; omega
  · show slots + am_size q + z0 = am_sz (h.1 ++ [q])
    rw [am_sz_app]; omega
  · show (h.1 ++ [q])[0]? = some (9, n)
    rw [List.getElem?_append_left (List.getElem?_eq_some_iff.mp a6).1]
    exact a6
theorem am_w_new {i : Nat} (C : am_Cx p s m args meth c mt) (K : am_K D dA s) (hd : decode mt.2.1 pc = .ok (.new i, 3)) (hx : am_next mt (.new i) 3 pc ls st h = some (.inl (pc2, ls2, st2, h2))) (hfit : h2.1.length ≤ n0 + R.cells ∧ am_sz h2.1 ≤ z0 + R.slots) (hlo : am_Lo base b mt.2.2.1 ls sl) (hst : am_rgS st) (hr : am_Rp base b D dA s n0 z0 h H locs cells slots) (kk : am_KK p l e R s m args below meth c Q mt base b n0 z0 D dA pc2 ls2 st2 h2) : W p l e R s m args below meth c H locs cells slots Q (F0 m pc sl (st.map (am_re base b))) := by
  simp only [am_next, am_new, am_go] at hx
  split at hx
  · next cc hl =>
    cases hx
    have hmem := am_lk_mem _ _ _ hl
    have hlt := List.all_eq_true.mp am_fl_lt.2.2.1 _ hmem
    simp only [Bool.and_eq_true, decide_eq_true_eq] at hlt
    obtain ⟨e1, e2, e3⟩ := am_key_of rfl hlt.1
    have h1 := List.all_eq_true.mp am_all_n _ hmem
    unfold am_okn at h1
    simp only [e2, e3] at h1
    rw [(am_meth C.2.2.2.2.2.2.2).2.2.2.1] at h1
    obtain ⟨C1, T1, N1, ty, ec, en, hu, hins, hini, hft, -⟩ := am_cls hlt.2
    rw [ec] at h1
    have hcl := of_decide_eq_true h1
    have hKn := K.1 cc _ ec
    obtain ⟨n9, h9⟩ := hr.2.2.2.2.2.1
    have hl0 : h.1.length ≠ 0 := by have := (List.getElem?_eq_some_iff.mp h9).1; omega
    have f1 : (h.1 ++ [(cc + 3, 0)]).length ≤ n0 + R.cells := hfit.1
    have f2 : am_sz (h.1 ++ [(cc + 3, 0)]) ≤ z0 + R.slots := hfit.2
    rw [am_sz_app] at f2
    rw [List.length_append] at f1
    have f3 : am_size (cc + 3, 0) = N1 := en
    have f4 : ([(cc + 3, 0)] : List (Nat × Nat)).length = 1 := rfl
    have f5 := hr.2.2.1
    have f6 := hr.2.2.2.1
    refine W.newcK C.1 C.2.1 C.2.2.2.1 (C.2.2.2.2.1 _ (am_in_tb hcl rfl)) (C.2.2.2.2.1 _ hins) (C.2.2.2.2.1 _ hini) rfl hd (by omega) (by omega) hKn.2.1 rfl (fun H1 kC hkC g1 z1 o1 => ?_)
    have hb := u_born ty C.2.2.2.2.1 hu hKn hkC g1 (fun k hk => (hft k hk).1)
    have hat : va_at D am_cl (H.size, am_E dA base b h.1.length (h.1 ++ [(cc + 3, 0)], am_zR h.2.1 h.1.length, am_zI h.2.2.1 h.1.length, am_zL h.2.2.2 h.1.length) (cc + 3, 0)) H1 := by
      refine ⟨_, ec, hb.to (fun j hj => ?_)⟩
      have hj : j < N1 := hj
      rw [am_vpV (by rw [en]; exact hj)]
      obtain ⟨-, -, q⟩ := hft j hj
      rcases q with ⟨q, qt, -⟩ | ⟨q, qt, -⟩ | ⟨q, ⟨n, qt⟩ | ⟨t, qt⟩, -⟩ <;> (unfold am_fv; rw [q, qt]; simp [am_zI, am_zL, am_zR]; rfl)
    have w := kk sl H1 locs (cells + 1) (slots + am_size (cc + 3, 0)) hlo (am_rgS_r hst) (am_fresh_Rp hr z1 o1 hat)
    rw [List.map_cons, am_re_k hl0, ← hr.1.1, f3] at w
    exact w
  · cases hx
theorem am_w_new_int (C : am_Cx p s m args meth c mt) (K : am_K D dA s) (hd : decode mt.2.1 pc = .ok (.newarray .int, 2)) (hx : am_next mt (.newarray .int) 2 pc ls st h = some (.inl (pc2, ls2, st2, h2))) (hfit : h2.1.length ≤ n0 + R.cells ∧ am_sz h2.1 ≤ z0 + R.slots) (hlo : am_Lo base b mt.2.2.1 ls sl) (hst : am_rgS st) (hr : am_Rp base b D dA s n0 z0 h H locs cells slots) (kk : am_KK p l e R s m args below meth c Q mt base b n0 z0 D dA pc2 ls2 st2 h2) : W p l e R s m args below meth c H locs cells slots Q (F0 m pc sl (st.map (am_re base b))) := by
  rcases st with _ | ⟨v, r⟩
  · cases hx
  rcases v with n | n | n
  · have hx : (if 0 ≤ n ∧ n ≤ 10000 then some (Sum.inl (pc + 2, ls, .inr (.inr (some h.1.length)) :: r, (h.1 ++ [(0, n.toNat)], am_zR h.2.1 h.1.length, am_zI h.2.2.1 h.1.length, am_zL h.2.2.2 h.1.length))) else none) = some (.inl (pc2, ls2, st2, h2)) := hx
    split at hx
    · next g =>
      cases hx
      obtain ⟨n9, h9⟩ := hr.2.2.2.2.2.1
      have hl0 : h.1.length ≠ 0 := by have := (List.getElem?_eq_some_iff.mp h9).1; omega
      have f1 : (h.1 ++ [(0, n.toNat)]).length ≤ n0 + R.cells := hfit.1
      have f2 : am_sz (h.1 ++ [(0, n.toNat)]) ≤ z0 + R.slots := hfit.2
      rw [am_sz_app] at f2
      rw [List.length_append] at f1
      have f3 : am_size (0, n.toNat) = n.toNat := rfl
      have f4 : ([(0, n.toNat)] : List (Nat × Nat)).length = 1 := rfl
      have f5 := hr.2.2.1
      have f6 := hr.2.2.2.1
      have rn := am_rgS_h hst
      have z : (0 : Int32) = Int32.ofInt 0 := rfl
      have fb : n.toNat * componentBytes (newarray.typeOf .int) ≤ 536870912 := Nat.le_trans (Nat.mul_le_mul (show n.toNat ≤ 10000 by omega) (show componentBytes (newarray.typeOf .int) ≤ 8 by decide)) (by decide)
      refine va_newaK (atype := .int) (N := n.toNat) C.1 C.2.1 (C.2.2.2.2.1 _ (am_in_tb am_all_t.1 rfl)) rfl hd rfl (by rw [z, am_ltI rn am_rg0]; omega) (am_clamp rn) fb (by omega) (by omega) rfl (fun H1 cA g1 z1 o1 hAr hNm => ?_)
      have hcA : cA = dA 0 := by
        have q := (K.2 0 _ rfl).2
        exact Option.some.inj (hNm.symm.trans q)
      subst hcA
      have hat : va_at D am_cl (H.size, am_E dA base b h.1.length (h.1 ++ [(0, n.toNat)], am_zR h.2.1 h.1.length, am_zI h.2.2.1 h.1.length, am_zL h.2.2.2 h.1.length) (0, n.toNat)) H1 := by
        show H1[H.size]? = some (vp_cell (dA 0) (n.toNat, .inl (fun i : Nat => Int32.ofInt (am_zI h.2.2.1 h.1.length h.1.length i))))
        rw [g1]
        congr 1
        simp [am_zI, am_zL]
        rfl
      have w := kk sl H1 locs (cells + 1) (slots + am_size (0, n.toNat)) hlo (am_rgS_r (am_rgS_t hst)) (am_fresh_Rp hr z1 o1 hat)
      rw [List.map_cons, am_re_k hl0, ← hr.1.1, f3] at w
      exact w
    · cases hx
  · cases hx
  · cases hx
theorem am_w_new_long (C : am_Cx p s m args meth c mt) (K : am_K D dA s) (hd : decode mt.2.1 pc = .ok (.newarray .long, 2)) (hx : am_next mt (.newarray .long) 2 pc ls st h = some (.inl (pc2, ls2, st2, h2))) (hfit : h2.1.length ≤ n0 + R.cells ∧ am_sz h2.1 ≤ z0 + R.slots) (hlo : am_Lo base b mt.2.2.1 ls sl) (hst : am_rgS st) (hr : am_Rp base b D dA s n0 z0 h H locs cells slots) (kk : am_KK p l e R s m args below meth c Q mt base b n0 z0 D dA pc2 ls2 st2 h2) : W p l e R s m args below meth c H locs cells slots Q (F0 m pc sl (st.map (am_re base b))) := by
  rcases st with _ | ⟨v, r⟩
  · cases hx
  rcases v with n | n | n
  · have hx : (if 0 ≤ n ∧ n ≤ 10000 then some (Sum.inl (pc + 2, ls, .inr (.inr (some h.1.length)) :: r, (h.1 ++ [(1, n.toNat)], am_zR h.2.1 h.1.length, am_zI h.2.2.1 h.1.length, am_zL h.2.2.2 h.1.length))) else none) = some (.inl (pc2, ls2, st2, h2)) := hx
    split at hx
    · next g =>
      cases hx
      obtain ⟨n9, h9⟩ := hr.2.2.2.2.2.1
      have hl0 : h.1.length ≠ 0 := by have := (List.getElem?_eq_some_iff.mp h9).1; omega
      have f1 : (h.1 ++ [(1, n.toNat)]).length ≤ n0 + R.cells := hfit.1
      have f2 : am_sz (h.1 ++ [(1, n.toNat)]) ≤ z0 + R.slots := hfit.2
      rw [am_sz_app] at f2
      rw [List.length_append] at f1
      have f3 : am_size (1, n.toNat) = n.toNat := rfl
      have f4 : ([(1, n.toNat)] : List (Nat × Nat)).length = 1 := rfl
      have f5 := hr.2.2.1
      have f6 := hr.2.2.2.1
      have rn := am_rgS_h hst
      have z : (0 : Int32) = Int32.ofInt 0 := rfl
      have fb : n.toNat * componentBytes (newarray.typeOf .long) ≤ 536870912 := Nat.le_trans (Nat.mul_le_mul (show n.toNat ≤ 10000 by omega) (show componentBytes (newarray.typeOf .long) ≤ 8 by decide)) (by decide)
      refine va_newaK (atype := .long) (N := n.toNat) C.1 C.2.1 (C.2.2.2.2.1 _ (am_in_tb am_all_t.2.1 rfl)) rfl hd rfl (by rw [z, am_ltI rn am_rg0]; omega) (am_clamp rn) fb (by omega) (by omega) rfl (fun H1 cA g1 z1 o1 hAr hNm => ?_)
      have hcA : cA = dA 1 := by
        have q := (K.2 1 _ rfl).2
        exact Option.some.inj (hNm.symm.trans q)
      subst hcA
      have hat : va_at D am_cl (H.size, am_E dA base b h.1.length (h.1 ++ [(1, n.toNat)], am_zR h.2.1 h.1.length, am_zI h.2.2.1 h.1.length, am_zL h.2.2.2 h.1.length) (1, n.toNat)) H1 := by
        show H1[H.size]? = some (vp_cell (dA 1) (n.toNat, .inr (.inl (fun i : Nat => am_zL h.2.2.2 h.1.length h.1.length i))))
        rw [g1]
        congr 1
        simp [am_zI, am_zL]
        rfl
      have w := kk sl H1 locs (cells + 1) (slots + am_size (1, n.toNat)) hlo (am_rgS_r (am_rgS_t hst)) (am_fresh_Rp hr z1 o1 hat)
      rw [List.map_cons, am_re_k hl0, ← hr.1.1, f3] at w
      exact w
    · cases hx
  · cases hx
  · cases hx
theorem am_w_new_boolean (C : am_Cx p s m args meth c mt) (K : am_K D dA s) (hd : decode mt.2.1 pc = .ok (.newarray .boolean, 2)) (hx : am_next mt (.newarray .boolean) 2 pc ls st h = some (.inl (pc2, ls2, st2, h2))) (hfit : h2.1.length ≤ n0 + R.cells ∧ am_sz h2.1 ≤ z0 + R.slots) (hlo : am_Lo base b mt.2.2.1 ls sl) (hst : am_rgS st) (hr : am_Rp base b D dA s n0 z0 h H locs cells slots) (kk : am_KK p l e R s m args below meth c Q mt base b n0 z0 D dA pc2 ls2 st2 h2) : W p l e R s m args below meth c H locs cells slots Q (F0 m pc sl (st.map (am_re base b))) := by
  rcases st with _ | ⟨v, r⟩
  · cases hx
  rcases v with n | n | n
  · have hx : (if 0 ≤ n ∧ n ≤ 10000 then some (Sum.inl (pc + 2, ls, .inr (.inr (some h.1.length)) :: r, (h.1 ++ [(2, n.toNat)], am_zR h.2.1 h.1.length, am_zI h.2.2.1 h.1.length, am_zL h.2.2.2 h.1.length))) else none) = some (.inl (pc2, ls2, st2, h2)) := hx
    split at hx
    · next g =>
      cases hx
      obtain ⟨n9, h9⟩ := hr.2.2.2.2.2.1
      have hl0 : h.1.length ≠ 0 := by have := (List.getElem?_eq_some_iff.mp h9).1; omega
      have f1 : (h.1 ++ [(2, n.toNat)]).length ≤ n0 + R.cells := hfit.1
      have f2 : am_sz (h.1 ++ [(2, n.toNat)]) ≤ z0 + R.slots := hfit.2
      rw [am_sz_app] at f2
      rw [List.length_append] at f1
      have f3 : am_size (2, n.toNat) = n.toNat := rfl
      have f4 : ([(2, n.toNat)] : List (Nat × Nat)).length = 1 := rfl
      have f5 := hr.2.2.1
      have f6 := hr.2.2.2.1
      have rn := am_rgS_h hst
      have z : (0 : Int32) = Int32.ofInt 0 := rfl
      have fb : n.toNat * componentBytes (newarray.typeOf .boolean) ≤ 536870912 := Nat.le_trans (Nat.mul_le_mul (show n.toNat ≤ 10000 by omega) (show componentBytes (newarray.typeOf .boolean) ≤ 8 by decide)) (by decide)
      refine va_newaK (atype := .boolean) (N := n.toNat) C.1 C.2.1 (C.2.2.2.2.1 _ (am_in_tb am_all_t.2.2.1 rfl)) rfl hd rfl (by rw [z, am_ltI rn am_rg0]; omega) (am_clamp rn) fb (by omega) (by omega) rfl (fun H1 cA g1 z1 o1 hAr hNm => ?_)
      have hcA : cA = dA 2 := by
        have q := (K.2 2 _ rfl).2
        exact Option.some.inj (hNm.symm.trans q)
      subst hcA
      have hat : va_at D am_cl (H.size, am_E dA base b h.1.length (h.1 ++ [(2, n.toNat)], am_zR h.2.1 h.1.length, am_zI h.2.2.1 h.1.length, am_zL h.2.2.2 h.1.length) (2, n.toNat)) H1 := by
        show H1[H.size]? = some (vp_cell (dA 2) (n.toNat, .inl (fun i : Nat => Int32.ofInt (am_zI h.2.2.1 h.1.length h.1.length i))))
        rw [g1]
        congr 1
        simp [am_zI, am_zL]
        rfl
      have w := kk sl H1 locs (cells + 1) (slots + am_size (2, n.toNat)) hlo (am_rgS_r (am_rgS_t hst)) (am_fresh_Rp hr z1 o1 hat)
      rw [List.map_cons, am_re_k hl0, ← hr.1.1, f3] at w
      exact w
    · cases hx
  · cases hx
  · cases hx
theorem am_w_newarray {a : ArrayType} (C : am_Cx p s m args meth c mt) (K : am_K D dA s) (hd : decode mt.2.1 pc = .ok (.newarray a, 2)) (hx : am_next mt (.newarray a) 2 pc ls st h = some (.inl (pc2, ls2, st2, h2))) (hfit : h2.1.length ≤ n0 + R.cells ∧ am_sz h2.1 ≤ z0 + R.slots) (hlo : am_Lo base b mt.2.2.1 ls sl) (hst : am_rgS st) (hr : am_Rp base b D dA s n0 z0 h H locs cells slots) (kk : am_KK p l e R s m args below meth c Q mt base b n0 z0 D dA pc2 ls2 st2 h2) : W p l e R s m args below meth c H locs cells slots Q (F0 m pc sl (st.map (am_re base b))) := by
  cases a
  case int => exact am_w_new_int C K hd hx hfit hlo hst hr kk
  case long => exact am_w_new_long C K hd hx hfit hlo hst hr kk
  case boolean => exact am_w_new_boolean C K hd hx hfit hlo hst hr kk
  all_goals (rcases st with _ | ⟨v, r⟩ <;> cases hx)
end AMW
end
section
/-! What every instruction leaves: the cells grow, the script stays. -/
def am_le (h h' : am_H) : Prop := h.1.length ≤ h'.1.length ∧ am_sz h.1 ≤ am_sz h'.1 ∧ ∀ N, h.1[0]? = some (9, N) → h'.1[0]? = some (9, N) ∧ ∀ j, h'.2.2.1 0 j = h.2.2.1 0 j
theorem am_le.rf {h : am_H} : am_le h h := ⟨Nat.le_refl _, Nat.le_refl _, fun _ q => ⟨q, fun _ => rfl⟩⟩
theorem am_le.tr {h1 h2 h3 : am_H} (a : am_le h1 h2) (b : am_le h2 h3) : am_le h1 h3 := ⟨Nat.le_trans a.1 b.1, Nat.le_trans a.2.1 b.2.1, fun N q => ⟨(b.2.2 N (a.2.2 N q).1).1, fun j => ((b.2.2 N (a.2.2 N q).1).2 j).trans ((a.2.2 N q).2 j)⟩⟩
def am_out (x : am_Nx) : am_H := match x with
  | .inl (_, _, _, h) => h
  | .inr (.inl r) => r.2
  | .inr (.inr (_, _, _, _, _, h)) => h
theorem am_le_go {pc : Nat} {ls : am_Ls} {st : List am_V} {h h0 : am_H} {x : am_Nx} (hle : am_le h0 h) (q : am_go pc ls st h = some x) : am_le h0 (am_out x) := by
  cases q; exact hle
theorem am_le_jmp {pc nx : Nat} {off : Int} {cc : Bool} {ls : am_Ls} {st : List am_V} {h : am_H} {x : am_Nx} (q : am_jmp pc off cc nx ls st h = some x) : am_le h (am_out x) := by
  obtain ⟨-, rfl⟩ := am_jmp_inv q; exact am_le.rf
theorem am_le_load {k i nx : Nat} {ls : am_Ls} {st : List am_V} {h : am_H} {x : am_Nx} (q : am_load k i nx ls st h = some x) : am_le h (am_out x) := by
  unfold am_load am_go at q
  split at q <;> cases q <;> exact am_le.rf
theorem am_le_store {k i nx : Nat} {ls : am_Ls} {st : List am_V} {h : am_H} {x : am_Nx} (q : am_store k i nx ls st h = some x) : am_le h (am_out x) := by
  unfold am_store am_go at q
  split at q
  · split at q <;> cases q; exact am_le.rf
  · split at q <;> cases q; exact am_le.rf
  · split at q <;> cases q; exact am_le.rf
  · cases q
theorem am_le_bin {f : Int → Int → Int} {nx : Nat} {ls : am_Ls} {st : List am_V} {h : am_H} {x : am_Nx} (q : am_bin f nx ls st h = some x) : am_le h (am_out x) := by
  unfold am_bin am_go at q
  split at q <;> cases q; exact am_le.rf
theorem am_le_binL {f : Int64 → Int64 → Int64} {nx : Nat} {ls : am_Ls} {st : List am_V} {h : am_H} {x : am_Nx} (q : am_binL f nx ls st h = some x) : am_le h (am_out x) := by
  unfold am_binL am_go at q
  split at q <;> cases q; exact am_le.rf
theorem am_le_ial {o nx : Nat} {ls : am_Ls} {st : List am_V} {h : am_H} {x : am_Nx} (q : am_ial o nx ls st h = some x) : am_le h (am_out x) := by
  unfold am_ial am_go at q
  split at q
  · split at q <;> cases q; exact am_le.rf
  · cases q
theorem am_le_bal {nx : Nat} {ls : am_Ls} {st : List am_V} {h : am_H} {x : am_Nx} (q : am_bal nx ls st h = some x) : am_le h (am_out x) := by
  unfold am_bal am_go at q
  split at q
  · split at q <;> cases q; exact am_le.rf
  · cases q
theorem am_le_lal {nx : Nat} {ls : am_Ls} {st : List am_V} {h : am_H} {x : am_Nx} (q : am_lal nx ls st h = some x) : am_le h (am_out x) := by
  unfold am_lal am_go at q
  split at q
  · split at q <;> cases q; exact am_le.rf
  · cases q
theorem am_le_uI {h : am_H} {k tag : Nat} {j v : Int} (ht : tag ≠ 9) (hk : k ≠ 0 ∨ am_inb h.1 k tag j = true) : am_le h (h.1, h.2.1, am_uI h.2.2.1 k j v, h.2.2.2) := by
  refine ⟨Nat.le_refl _, Nat.le_refl _, fun N q => ⟨q, fun i => ?_⟩⟩
  have hk0 : k ≠ 0 := by
    rcases hk with h9 | h9
    · exact h9
    · intro e
      subst e
      obtain ⟨n, h8, -⟩ := am_inb_ex h9
      rw [q] at h8
      cases h8
      exact ht rfl
  show am_uI h.2.2.1 k j v 0 i = h.2.2.1 0 i
  unfold am_uI
  rw [if_neg (fun z => hk0 z.1.symm)]
theorem am_le_ias {nx : Nat} {ls : am_Ls} {st : List am_V} {h : am_H} {x : am_Nx} (q : am_ias nx ls st h = some x) : am_le h (am_out x) := by
  unfold am_ias am_go at q
  split at q
  · split at q
    · next g => cases q; exact am_le_uI (tag := 0) (by decide) (Or.inr g)
    · cases q
  · cases q
theorem am_le_bas {nx : Nat} {ls : am_Ls} {st : List am_V} {h : am_H} {x : am_Nx} (q : am_bas nx ls st h = some x) : am_le h (am_out x) := by
  unfold am_bas am_go at q
  split at q
  · split at q
    · next g => cases q; exact am_le_uI (tag := 2) (by decide) (Or.inr g.1)
    · cases q
  · cases q
theorem am_le_las {nx : Nat} {ls : am_Ls} {st : List am_V} {h : am_H} {x : am_Nx} (q : am_las nx ls st h = some x) : am_le h (am_out x) := by
  unfold am_las am_go at q
  split at q
  · split at q
    · cases q; exact ⟨Nat.le_refl _, Nat.le_refl _, fun N q => ⟨q, fun i => rfl⟩⟩
    · cases q
  · cases q
theorem am_le_len {o nx : Nat} {ls : am_Ls} {st : List am_V} {h : am_H} {x : am_Nx} (q : am_len o nx ls st h = some x) : am_le h (am_out x) := by
  unfold am_len am_go at q
  split at q
  · split at q
    · split at q <;> cases q; exact am_le.rf
    · cases q
  · cases q
theorem am_le_gf {o i nx : Nat} {ls : am_Ls} {st : List am_V} {h : am_H} {x : am_Nx} (q : am_gf o i nx ls st h = some x) : am_le h (am_out x) := by
  unfold am_gf am_go at q
  split at q
  · split at q
    · split at q <;> cases q <;> exact am_le.rf
    · cases q
  · cases q
theorem am_le_pf {ini : Bool} {o i nx : Nat} {ls : am_Ls} {st : List am_V} {h : am_H} {x : am_Nx} (q : am_pf ini o i nx ls st h = some x) : am_le h (am_out x) := by
  unfold am_pf am_go at q
  split at q
  · split at q
    · next g =>
      split at q
      · cases q; exact am_le_uI (tag := 0) (by decide) (Or.inl g.2)
      · cases q; exact ⟨Nat.le_refl _, Nat.le_refl _, fun N q => ⟨q, fun i => rfl⟩⟩
      · split at q
        · cases q; exact ⟨Nat.le_refl _, Nat.le_refl _, fun N q => ⟨q, fun i => rfl⟩⟩
        · cases q
      · cases q
    · cases q
  · cases q
theorem am_le_fresh {h : am_H} (q : Nat × Nat) : am_le h (h.1 ++ [q], am_zR h.2.1 h.1.length, am_zI h.2.2.1 h.1.length, am_zL h.2.2.2 h.1.length) := by
  refine ⟨by simp, by show am_sz h.1 ≤ am_sz (h.1 ++ [q]); rw [am_sz_app]; omega, fun N w => ?_⟩
  have hl := (List.getElem?_eq_some_iff.mp w).1
  refine ⟨by show (h.1 ++ [q])[0]? = _; rw [List.getElem?_append_left hl]; exact w, fun j => ?_⟩
  show am_zI h.2.2.1 h.1.length 0 j = _
  unfold am_zI
  rw [if_neg (by omega)]
theorem am_le_new {o i nx : Nat} {ls : am_Ls} {st : List am_V} {h : am_H} {x : am_Nx} (q : am_new o i nx ls st h = some x) : am_le h (am_out x) := by
  unfold am_new am_go at q
  split at q
  · cases q; exact am_le_fresh _
  · cases q
theorem am_le_newa {a : ArrayType} {nx : Nat} {ls : am_Ls} {st : List am_V} {h : am_H} {x : am_Nx} (q : am_newa a nx ls st h = some x) : am_le h (am_out x) := by
  unfold am_newa am_go at q
  split at q
  · split at q <;> cases q; exact am_le_fresh _
  · split at q <;> cases q; exact am_le_fresh _
  · split at q <;> cases q; exact am_le_fresh _
  · cases q
theorem am_le_inv {kd o i nx : Nat} {ls : am_Ls} {st : List am_V} {h : am_H} {x : am_Nx} (q : am_inv kd o i nx ls st h = some x) : am_le h (am_out x) := by
  unfold am_inv am_go at q
  split at q
  · split at q
    · split at q
      · split at q <;> cases q; exact am_le.rf
      · cases q
    · split at q <;> cases q; exact am_le.rf
    · split at q <;> cases q; exact am_le.rf
    · split at q <;> cases q; exact am_le.rf
    · split at q <;> cases q; exact am_le.rf
    · split at q <;> cases q; exact am_le.rf
    · cases q
  · cases q
theorem am_le_ret {rt : Option FieldType} {st : List am_V} {h : am_H} {x : am_Nx} (q : am_ret rt st h = some x) : am_le h (am_out x) := by
  unfold am_ret at q
  split at q
  · cases q; exact am_le.rf
  · split at q <;> cases q; exact am_le.rf
  · cases q
theorem am_le_next {mt : am_M} {i : Instr} {n pc : Nat} {ls : am_Ls} {st : List am_V} {h : am_H} {x : am_Nx} (q : am_next mt i n pc ls st h = some x) : am_le h (am_out x) := by
  cases i <;> simp only [am_next] at q <;> first
    | (cases q; done)
    | exact am_le_go am_le.rf q
    | exact am_le_load q
    | exact am_le_store q
    | exact am_le_bin q
    | exact am_le_binL q
    | exact am_le_jmp q
    | exact am_le_ial q
    | exact am_le_bal q
    | exact am_le_lal q
    | exact am_le_ias q
    | exact am_le_bas q
    | exact am_le_las q
    | exact am_le_len q
    | exact am_le_gf q
    | exact am_le_pf q
    | exact am_le_new q
    | exact am_le_newa q
    | exact am_le_inv q
    | exact am_le_ret q
    | (split at q <;> first | (cases q; done) | exact am_le_go am_le.rf q | exact am_le_jmp q | (cases q; exact am_le.rf) | (split at q <;> first | (cases q; done) | exact am_le_go am_le.rf q | exact am_le_jmp q))
theorem am_le_run {cl : am_C} (hcl : ∀ j as h v h', cl j as h = some (v, h') → am_le h h') {j : Nat} : ∀ (n pc : Nat) (ls : am_Ls) (st : List am_V) (h : am_H) (r : am_Re), am_run cl j n pc ls st h = some r → am_le h r.2 := by
  intro n
  induction n with
  | zero => intro pc ls st h r q; cases q
  | succ n ih =>
    intro pc ls st h r q
    unfold am_run at q
    cases hx : am_one j pc ls st h with
    | none => rw [hx] at q; cases q
    | some x =>
      rw [hx] at q
      have hle : am_le h (am_out x) := by
        unfold am_one at hx
        split at hx
        · exact am_le_next hx
        · cases hx
      unfold am_cont at q
      split at q
      · cases q
      · next e => cases e; exact hle.tr (ih _ _ _ _ _ q)
      · next e => cases e; cases q; exact hle
      · next e =>
        cases e
        split at q
        · cases q
        · next g => exact (hle.tr (hcl _ _ _ _ _ g)).tr (ih _ _ _ _ _ q)
theorem am_le_call : ∀ (d j : Nat) (as : List am_V) (h : am_H) (v : Option am_V) (h' : am_H), am_call d j as h = some (v, h') → am_le h h' := by
  intro d
  induction d with
  | zero => intro j as h v h' q; cases q
  | succ d ih =>
    intro j as h v h' q
    unfold am_call at q
    split at q
    · split at q
      · obtain ⟨n, w⟩ := am_go0_iff.mp q
        exact am_le_run ih n _ _ _ _ _ w
      · cases q
    · cases q
end
section
/-! Calls. -/
set_option maxRecDepth 20000 in
theorem am_all_p : am_cp.map (fun i => lw_tbl[i]?) = am_ml.dropLast.map (fun m => some (Cond.code m.1 m.2.1 m.2.2.1 m.2.2.2.1)) := by
  simp only [am_cp, am_ml, List.map_cons, List.map_nil, List.dropLast, am_w0, am_w1, am_w2, am_w3, am_w4, am_w5, am_w6, am_w7, am_w8, am_w9, am_w10, am_w11, am_w12, am_w13, am_w14, am_w15, am_w16, am_w17, am_w18, am_w19, am_w20, am_w21, am_w22, am_w23, am_w24, am_w25, am_w26, am_w27, am_w28, am_w29, am_w30, am_w31, am_w32, am_w33, am_w34, am_w35, am_w36, am_w37, am_w38, am_w39, am_w40, am_w41, am_w42, am_w43, am_w44, am_w45, am_w46, am_w47, am_w48, am_w49, am_w50, am_w51, am_w52, am_w53, am_w54, am_w55, am_w56, am_w57, am_w58, am_w59, am_w60, am_w61, am_w62, am_w63, am_w64, am_w65, am_w66, am_w67, am_w68, am_w69, am_w70, am_w71, am_w72, am_w73, am_w74, am_w75, am_w76, am_w77, am_w78, am_w79, am_w80, am_w81, am_w82, am_w83, am_w84, am_w85, am_w86, am_w87, am_w88, am_w89, am_w90, am_w91, am_w92, am_w93, am_w94, am_w95, am_w96, am_w97, am_w98, am_w99, am_w100, am_w101, am_w102, am_w103, am_w104, am_w105, am_w106, am_w107, am_w108, am_w109, am_w110, am_w111, am_w112, am_w113, am_w114, am_w115, am_w116, am_w117, am_w118, am_w119, am_w120, am_w121, am_w122, am_w123, am_w124, am_w125, am_w126, am_w127, am_w128, am_w129, am_w130, am_w131, am_w132, am_w133, am_w134, am_w135, am_w136, am_w137, am_w138, am_w139, am_w140, am_w141, am_w142, am_w143, am_w144, am_w145, am_w146, am_w147, am_w148, am_w149, am_w150, am_w151, am_w152, am_w153, am_w154, am_w155, am_w156, am_w157, am_w158, am_w159, am_w160, am_w161, am_w162, am_w163, am_w164, am_w165, am_w166, am_w167, am_w168, am_w169, am_w170, am_w171, am_w172, am_w173, am_w174, am_w175, am_w176, am_w177, am_w178, am_w179, am_w180, am_w181, am_w182]
theorem am_code_in {j : Nat} {mt : am_M} (h : am_ml[j]? = some mt) (ho : mt.2.2.2.2 ≠ 10) : Cond.code mt.1 mt.2.1 mt.2.2.1 mt.2.2.2.1 ∈ lw_tbl := by
  have hl := (List.getElem?_eq_some_iff.mp h).1
  rw [am_all_l.2.2.2] at hl
  have h183 : j ≠ 183 := by
    intro e
    subst e
    cases h
    exact ho rfl
  have h1 : (am_ml.dropLast)[j]? = some mt := by
    rw [List.getElem?_dropLast, am_all_l.2.2.2, if_pos (by omega)]
    exact h
  have h2 : (am_cp.map (fun i => lw_tbl[i]?))[j]? = some (some (Cond.code mt.1 mt.2.1 mt.2.2.1 mt.2.2.2.1)) := by
    rw [am_all_p, List.getElem?_map, h1]; rfl
  rw [List.getElem?_map] at h2
  cases hi : am_cp[j]? with
  | none => rw [hi] at h2; cases h2
  | some i => rw [hi] at h2; exact List.mem_of_getElem? (Option.some.inj h2)
def am_ws (mt : am_M) : List Cond := Cond.code mt.1 mt.2.1 mt.2.2.1 mt.2.2.2.1 :: am_tb
theorem am_good {j : Nat} {mt : am_M} (h : am_ml[j]? = some mt) (ho : mt.2.2.2.2 ≠ 10) : GoodIn am_tb (am_ws mt) := by
  have hc : Cond.code mt.1 mt.2.1 mt.2.2.1 mt.2.2.2.1 ∈ am_tb := am_in_tb (am_code_in h ho) rfl
  intro w hw
  have hm : w ∈ am_tb := by
    rcases List.mem_cons.mp hw with rfl | hw
    · exact hc
    · exact hw
  exact ⟨hm, good_of_word (List.mem_filter.mp hm).2⟩
def am_rm (d mc ms : Nat) : Room := { frames := d + 1, cells := mc, slots := ms, locals := 37 * d + 22 }
def am_Pc (base b : Nat) (D : va_G) (dA : Nat → ClassId) (as : List am_V) (h : am_H) : Array Value → State → Prop := fun a U => a = (as.map (am_re base b)).toArray ∧ am_P base b D dA h U.heap ∧ am_K D dA U ∧ am_rgH h ∧ am_rgS as ∧ am_Nst U ∧ (∃ n, h.1[0]? = some (9, n)) ∧ base < U.heap.size
def am_Qc (base b : Nat) (D : va_G) (dA : Nat → ClassId) (v : Option am_V) (h : am_H) : Array Value → State → Outcome → State → Prop := fun _ st o t => o = .returned (v.map (am_re base b)) ∧ am_P base b D dA h t.heap ∧ am_rgH h ∧ (∀ x, v = some (.inl x) → am_rg x) ∧ va_F (fun q => base < q) st t
theorem am_Nst.same {u U : State} (h : u.vm = U.vm) (q : am_Nst u) : am_Nst U := ⟨va_Nw.same rfl h q.1, va_Nw.same rfl h q.2⟩
theorem am_Nst.warm {s U : State} (hW : s.WarmedH U.vm) (q : am_Nst s) : am_Nst U := ⟨va_Nw.warmM hW q.1, va_Nw.warmM hW q.2⟩
theorem am_blind {base b : Nat} {D : va_G} {dA : Nat → ClassId} {as : List am_V} {h : am_H} : FrameBlind (am_Pc base b D dA as h) := by
  intro a U g mk q
  obtain ⟨q1, q2, q3, q4, q5, q6, q7, q8⟩ := q
  exact ⟨q1, q2, am_K.moved (u := U) (U := U.calling g mk a) (Vm.Alike.refl U.vm) q3, q4, q5, am_Nst.same (u := U) (U := U.calling g mk a) rfl q6, q7, q8⟩
/-- every method at a depth keeps its contract -/
def am_Sd (d : Nat) : Prop := ∀ (j : Nat) (as : List am_V) (h : am_H) (v : Option am_V) (h' : am_H), am_call d j as h = some (v, h') → ∀ mt : am_M, am_ml[j]? = some mt → mt.2.2.2.2 ≠ 10 → ∀ (l : Launch) (base b : Nat) (D : va_G) (dA : Nat → ClassId), Met l mt.1 (am_ws mt) (am_rm (d - 1) (h'.1.length - h.1.length) (am_sz h'.1 - am_sz h.1)) (am_Pc base b D dA as h) (am_Qc base b D dA v h') (h'.1.length - h.1.length) (am_sz h'.1 - am_sz h.1) (fun q => base < q)
theorem am_split_eq : ∀ (n : Nat) (acc st as r : List am_V), am_split n acc st = some (as, r) → ∃ y, as = y ++ acc ∧ st = y.reverse ++ r ∧ y.length = n := by
  intro n
  induction n with
  | zero => intro acc st as r h; cases h; exact ⟨[], rfl, rfl, rfl⟩
  | succ n ih =>
    intro acc st as r h
    cases st with
    | nil => cases h
    | cons v st =>
      obtain ⟨y, e1, e2, e3⟩ := ih (v :: acc) st as r h
      refine ⟨y ++ [v], by rw [e1]; simp, by rw [e2]; simp, by simp [e3]⟩
theorem am_words_eq (base b : Nat) (r : List am_V) : ((r.map (am_re base b)).map fun v => v.category).sum = am_words r := by
  unfold am_words
  rw [List.map_map]
  congr 1
  exact List.map_congr_left (fun v _ => am_re_cat base b v)
section AMC
variable {p : Program} {l : Launch} {e : Env} {R : Room} {s : State} {m : MethodId} {args : Array Value} {below : List Frame} {meth : Method} {c : Code} {Q : State → Prop} {mt : am_M} {base b n0 z0 : Nat} {D : va_G} {dA : Nat → ClassId} {H : Heap} {locs : List Loc} {cells slots : Nat} {pc : Nat} {h h2 : am_H} {sl : Array Slot}
theorem am_callW {mc ms : Nat} {st0 rest : List Value} {a : Array Value} {v : Option am_V} (hrun : va_Run p l e R s m args below meth c H locs cells slots mc ms (F0 m pc sl st0) rest (am_Qc base b D dA v h2 a) (fun q => base < q)) (hr : am_Rp base b D dA s n0 z0 h H locs cells slots) (hmc : mc = h2.1.length - h.1.length) (hms : ms = am_sz h2.1 - am_sz h.1) (hle : am_le h h2)
    (kk : ∀ (H1 : Heap) (locs1 : List Loc), am_Rp base b D dA s n0 z0 h2 H1 locs1 (cells + mc) (slots + ms) → (∀ x, v = some (.inl x) → am_rg x) → W p l e R s m args below meth c H1 locs1 (cells + mc) (slots + ms) Q (F0 m (pc + 3) sl ((v.map (am_re base b)).toList ++ rest))) : W p l e R s m args below meth c H locs cells slots Q (F0 m pc sl st0) := by
  intro T hT X
  obtain ⟨v', st₀, t, T', L, h0, X', hL, e1, e2, ⟨ho, hP, hrg, hv, hz, hk⟩, st⟩ := hrun T hT X
  cases ho
  rw [h0] at hz hk
  obtain ⟨a1, a2, a3, a4, a5, ⟨n, a6⟩, a7⟩ := hr
  have hRp : am_Rp base b D dA s n0 z0 h2 T'.heap (locs ++ L) (cells + mc) (slots + ms) := by
    refine ⟨by rw [e1]; exact hP, ⟨Nat.le_trans a2.1 (by rw [e1]; exact hz), fun q h1 h3 => by rw [e1, hk q (Nat.lt_of_lt_of_le h1 a2.1) h3]; exact a2.2.1 q h1 h3, fun q hq => ?_⟩, ?_, ?_, hrg, ⟨n, (hle.2.2 n a6).1⟩, a7⟩
    · rcases List.mem_append.mp hq with h9 | h9
      · exact a2.2.2 q h9
      · exact hL q h9
    · have := hle.1; omega
    · have := hle.2.1; omega
  obtain ⟨t2, b1, b2⟩ := kk T'.heap (locs ++ L) hRp hv T' rfl X'
  exact ⟨t2, st t2 b1, b2⟩
theorem am_PcU {as : List am_V} (K : am_K D dA s) (N : am_Nst s) (hr : am_Rp base b D dA s n0 z0 h H locs cells slots) (has : am_rgS as) {a : Array Value} (ha : a = (as.map (am_re base b)).toArray) : ∀ U : State, U.heap = H → s.WarmedH U.vm → am_Pc base b D dA as h a U := by
  intro U hU hW
  obtain ⟨a1, a2, a3, a4, a5, a6, a7⟩ := hr
  exact ⟨ha, by rw [hU]; exact a1, am_K.moved hW.alike K, a5, has, am_Nst.warm hW N, a6, by rw [hU]; exact Nat.lt_of_lt_of_le a7 a2.1⟩
end AMC
end
section
/-! The kinds of calls. -/
theorem am_lnk {mt : am_M} (hm : mt ∈ am_ml) {i k j n : Nat} (h : am_lk am_mk (am_key mt.2.2.2.2 i) = some (k, j, n)) :
    (k = 4 → Cond.methodLink mt.1.cls i objectInit ∈ am_tb ∧ n = 0) ∧ (k = 5 → Cond.methodLink mt.1.cls i Lib.Math.max.name ∈ am_tb ∧ n = 2) ∧
    (k < 4 → ∃ m2 : am_M, am_ml[j]? = some m2 ∧ m2.2.2.2.2 ≠ 10 ∧ (parseMethodDescriptor m2.1.desc).map (fun d => d.parameters.length) = some n ∧
      (k = 0 → Cond.methodLink mt.1.cls i m2.1 ∈ am_tb ∧ Cond.instanceMethod m2.1 ∈ am_tb ∧ Cond.selects m2.1.cls m2.1 m2.1 ∈ am_tb ∧ (am_cl[m2.2.2.2.2]?).map (fun q => q.1) = some m2.1.cls) ∧
      (k = 1 → Cond.methodLink mt.1.cls i m2.1 ∈ am_tb ∧ Cond.static m2.1 ∈ am_tb) ∧
      (k = 2 → Cond.methodLink mt.1.cls i m2.1 ∈ am_tb ∧ Cond.instanceMethod m2.1 ∈ am_tb ∧ m2.1.name = "<init>" ∧ m2.2.2.2.1 = none) ∧
      (k = 3 → mt.1.cls = "DictionaryTerms" ∧ ((i = 43 ∧ m2.1 = ⟨"DictionaryTerms$Values", "<init>", "()V"⟩) ∨ (i = 59 ∧ m2.1 = ⟨"DictionaryTerms$Report", "<init>", "()V"⟩)) ∧ Cond.instanceMethod m2.1 ∈ am_tb ∧ m2.1.name = "<init>" ∧ m2.2.2.2.1 = none)) := by
  have hmem := am_lk_mem _ _ _ h
  have hlt := List.all_eq_true.mp am_fl_lt.2.1 _ hmem
  simp only [decide_eq_true_eq] at hlt
  obtain ⟨e1, e2, e3⟩ := am_key_of rfl hlt
  obtain ⟨q, hq⟩ := am_zip_mem _ am_kp _ hmem am_all_l.1
  have h1 : am_okk (am_key mt.2.2.2.2 i, k, j, n) q = true := by
    rw [← List.take_append_drop 110 (am_mk.zip am_kp)] at hq
    rcases List.mem_append.mp hq with w | w
    · exact List.all_eq_true.mp am_all_k1 _ w
    · exact List.all_eq_true.mp am_all_k2 _ w
  unfold am_okk at h1
  simp only [e2, e3] at h1
  rw [(am_meth hm).2.2.2.1] at h1
  simp only at h1
  by_cases k4 : k = 4
  · subst k4
    rw [if_pos rfl] at h1
    simp only [Bool.and_eq_true, decide_eq_true_eq] at h1
    exact ⟨fun _ => ⟨am_in_tb (am_at_mem h1.1) rfl, h1.2⟩, fun w => by omega, fun w => by omega⟩
  rw [if_neg k4] at h1
  by_cases k5 : k = 5
  · subst k5
    rw [if_pos rfl] at h1
    simp only [Bool.and_eq_true, decide_eq_true_eq] at h1
    exact ⟨fun w => by omega, fun _ => ⟨am_in_tb (am_at_mem h1.1) rfl, h1.2⟩, fun w => by omega⟩
  rw [if_neg k5] at h1
  refine ⟨fun w => absurd w k4, fun w => absurd w k5, fun _ => ?_⟩
  rw [Bool.and_eq_true] at h1
  obtain ⟨-, h1⟩ := h1
  split at h1
  · next m2 hm2 =>
    rw [Bool.and_eq_true, Bool.and_eq_true, decide_eq_true_eq, decide_eq_true_eq] at h1
    obtain ⟨⟨g1, g2⟩, g3⟩ := h1
    refine ⟨m2, hm2, g2, g1, fun w => ?_, fun w => ?_, fun w => ?_, fun w => ?_⟩
    · subst w
      simp only [Bool.and_eq_true, decide_eq_true_eq] at g3
      exact ⟨am_in_tb (am_at_mem g3.1.1.1) rfl, am_in_tb (am_at_mem g3.1.1.2) rfl, am_in_tb (am_at_mem g3.1.2) rfl, g3.2⟩
    · subst w
      simp only [Bool.and_eq_true] at g3
      exact ⟨am_in_tb (am_at_mem g3.1) rfl, am_in_tb (am_at_mem g3.2) rfl⟩
    · subst w
      simp only [Bool.and_eq_true, decide_eq_true_eq] at g3
      exact ⟨am_in_tb (am_at_mem g3.1.1.1) rfl, am_in_tb (am_at_mem g3.1.1.2) rfl, g3.1.2, g3.2⟩
    · subst w
      simp only [Bool.and_eq_true, Bool.or_eq_true, decide_eq_true_eq] at g3
      exact ⟨g3.1.1.1.1.1, g3.1.1.1.1.2, am_in_tb (am_at_mem g3.1.1.2) rfl, g3.1.2, g3.2⟩
  · cases h1
theorem am_rgS_of {y r st : List am_V} (h : am_rgS st) (e : st = y.reverse ++ r) : am_rgS y ∧ am_rgS r := by
  subst e
  exact ⟨fun x hx => h x (List.mem_append_left _ (List.mem_reverse.mpr hx)), fun x hx => h x (List.mem_append_right _ hx)⟩
section AMI
variable {p : Program} {l : Launch} {e : Env} {R : Room} {s : State} {m : MethodId} {args : Array Value} {below : List Frame} {meth : Method} {c : Code} {mt m2 : am_M} {base b n0 z0 : Nat} {D : va_G} {dA : Nat → ClassId} {H : Heap} {locs : List Loc} {cells slots : Nat} {pc d mc ms j : Nat} {ls : am_Ls} {st as r : List am_V} {h h2 : am_H} {sl : Array Slot} {v : Option am_V}
theorem am_cB (C : am_Cx p s m args meth c mt) {i n : Nat} (hm2 : am_ml[j]? = some m2) (ho : m2.2.2.2.2 ≠ 10) (hn : (parseMethodDescriptor m2.1.desc).map (fun d => d.parameters.length) = some n) (hl : Cond.methodLink mt.1.cls i m2.1 ∈ am_tb) (hd1 : 1 ≤ d) (hR : d + 1 ≤ R.frames ∧ 37 * d + 22 ≤ R.locals) : CallB R s args mt.1.cls i m2.1 m2.2.1 m2.2.2.1 m2.2.2.2.1 (am_ws m2) (am_rm (d - 1) mc ms) mc ms n := by
  have hm9 := am_meth (List.mem_of_getElem? hm2)
  have hml := hm9.2.2.2.2.1
  exact callB_of n C.2.2.2.2.1 (am_good hm2 ho) rfl rfl rfl (C.2.2.2.2.1 _ hm9.2.2.2.2.2) (C.2.2.2.2.1 _ hl) ⟨hm9.2.1, hm9.2.2.1, hn⟩ ⟨by show d - 1 + 1 + 1 ≤ R.frames; omega, by show 8 + (m2.2.2.1 + 11) + (37 * (d - 1) + 22) ≤ R.locals; omega⟩
theorem am_invV (C : am_Cx p s m args meth c mt) (K : am_K D dA s) (hlo : am_Lo base b mt.2.2.1 ls sl) (hst : am_rgS st) (hr : am_Rp base b D dA s n0 z0 h H locs cells slots) {i n a : Nat} (hk : am_lk am_mk (am_key mt.2.2.2.2 i) = some (0, j, n)) (hm2 : am_ml[j]? = some m2) (hs : am_split n [] st = some (as, .inr (.inr (some a)) :: r)) (ha : h.1[a]? = some (m2.2.2.2.2 + 3, 0)) (a0 : a ≠ 0) (hw : am_words r ≤ 8)
    (hM : Met l m2.1 (am_ws m2) (am_rm (d - 1) mc ms) (am_Pc base b D dA (.inr (.inr (some a)) :: as) h) (am_Qc base b D dA v h2) mc ms (fun q => base < q)) (hd1 : 1 ≤ d) (hR : d + 1 ≤ R.frames ∧ 37 * d + 22 ≤ R.locals) (hd : decode mt.2.1 pc = .ok (.invokevirtual i, 3)) (hf : cells + mc ≤ R.cells ∧ slots + ms ≤ R.slots) :
    ∃ av, va_Run p l e R s m args below meth c H locs cells slots mc ms (F0 m pc sl (st.map (am_re base b))) (r.map (am_re base b)) (am_Qc base b D dA v h2 av) (fun q => base < q) := by
  obtain ⟨m3, hm3, ho, hn, w0, -⟩ := (am_lnk C.2.2.2.2.2.2.2 hk).2.2 (by omega)
  cases hm2.symm.trans hm3
  obtain ⟨hl, hi, hsel, hcl⟩ := w0 rfl
  obtain ⟨y, e1, e2, e3⟩ := am_split_eq _ _ _ _ _ hs
  rw [List.append_nil] at e1
  subst e1
  obtain ⟨g1, g2⟩ := am_rgS_of hst e2
  cases hc9 : am_cl[m2.2.2.2.2]? with
  | none => rw [hc9] at hcl; cases hcl
  | some q9 =>
    rw [hc9] at hcl
    have hq9 : q9.1 = m2.1.cls := Option.some.inj hcl
    have hv := am_one_w (show va_at D am_cl (base + a, .inr (m2.2.2.2.2, (List.range (am_nf m2.2.2.2.2)).map (am_fv base b m2.2.2.2.2 a h))) H from hr.1.2 a _ a0 ha)
    have hrec := va_recv K hv hc9 (q0 := 0) rfl
    rw [hq9] at hrec
    refine ⟨_, va_runV (b := base + a) (As := as.map (am_re base b)) (C := m2.1.cls) ⟨C.1, C.2.1, C.2.2.1, C.2.2.2.1, C.2.2.2.2.1⟩ hM ⟨am_cB C hm2 ho hn hl hd1 hR, C.2.2.2.2.1 _ hi, C.2.2.2.2.1 _ hsel⟩ ⟨am_blind, hrec, am_PcU K C.2.2.2.2.2.2.1 hr (am_rgS_r g1) ?_⟩ rfl (by rw [List.length_map]; exact e3) hlo.1.1 ?_ (lv_room (by rw [am_words_eq]; exact hw)) hd hf⟩
    · rw [List.map_cons, am_re_k a0]
    · show st.map (am_re base b) = _
      rw [e2, List.map_append, List.map_reverse, List.map_cons, am_re_k a0]
theorem am_invS (C : am_Cx p s m args meth c mt) (K : am_K D dA s) (hlo : am_Lo base b mt.2.2.1 ls sl) (hst : am_rgS st) (hr : am_Rp base b D dA s n0 z0 h H locs cells slots) {i n : Nat} (hk : am_lk am_mk (am_key mt.2.2.2.2 i) = some (1, j, n)) (hm2 : am_ml[j]? = some m2) (hs : am_split n [] st = some (as, r)) (hw : am_words r ≤ 8)
    (hM : Met l m2.1 (am_ws m2) (am_rm (d - 1) mc ms) (am_Pc base b D dA as h) (am_Qc base b D dA v h2) mc ms (fun q => base < q)) (hd1 : 1 ≤ d) (hR : d + 1 ≤ R.frames ∧ 37 * d + 22 ≤ R.locals) (hd : decode mt.2.1 pc = .ok (.invokestatic i, 3)) (hf : cells + mc ≤ R.cells ∧ slots + ms ≤ R.slots) :
    ∃ av, va_Run p l e R s m args below meth c H locs cells slots mc ms (F0 m pc sl (st.map (am_re base b))) (r.map (am_re base b)) (am_Qc base b D dA v h2 av) (fun q => base < q) := by
  obtain ⟨m3, hm3, ho, hn, -, w0, -⟩ := (am_lnk C.2.2.2.2.2.2.2 hk).2.2 (by omega)
  cases hm2.symm.trans hm3
  obtain ⟨hl, hi⟩ := w0 rfl
  obtain ⟨y, e1, e2, e3⟩ := am_split_eq _ _ _ _ _ hs
  rw [List.append_nil] at e1
  subst e1
  obtain ⟨g1, g2⟩ := am_rgS_of hst e2
  refine ⟨_, va_runS (As := as.map (am_re base b)) ⟨C.1, C.2.1, C.2.2.1, C.2.2.2.1, C.2.2.2.2.1⟩ hM ⟨am_cB C hm2 ho hn hl hd1 hR, C.2.2.2.2.1 _ hi⟩ ⟨am_blind, am_PcU K C.2.2.2.2.2.2.1 hr g1 rfl⟩ rfl (by rw [List.length_map]; exact e3) hlo.1.1 ?_ (lv_room (by rw [am_words_eq]; exact hw)) hd hf⟩
  show st.map (am_re base b) = _
  rw [e2, List.map_append, List.map_reverse]
theorem am_invI (C : am_Cx p s m args meth c mt) (K : am_K D dA s) (hlo : am_Lo base b mt.2.2.1 ls sl) (hst : am_rgS st) (hr : am_Rp base b D dA s n0 z0 h H locs cells slots) {i n a : Nat} (hk : am_lk am_mk (am_key mt.2.2.2.2 i) = some (2, j, n)) (hm2 : am_ml[j]? = some m2) (hs : am_split n [] st = some (as, .inr (.inr (some a)) :: r)) (hw : am_words r ≤ 8)
    (hM : Met l m2.1 (am_ws m2) (am_rm (d - 1) mc ms) (am_Pc base b D dA (.inr (.inr (some a)) :: as) h) (am_Qc base b D dA v h2) mc ms (fun q => base < q)) (hd1 : 1 ≤ d) (hR : d + 1 ≤ R.frames ∧ 37 * d + 22 ≤ R.locals) (hd : decode mt.2.1 pc = .ok (.invokespecial i, 3)) (hf : cells + mc ≤ R.cells ∧ slots + ms ≤ R.slots) :
    ∃ av, va_Run p l e R s m args below meth c H locs cells slots mc ms (F0 m pc sl (st.map (am_re base b))) (r.map (am_re base b)) (am_Qc base b D dA v h2 av) (fun q => base < q) := by
  obtain ⟨m3, hm3, ho, hn, -, -, w0, -⟩ := (am_lnk C.2.2.2.2.2.2.2 hk).2.2 (by omega)
  cases hm2.symm.trans hm3
  obtain ⟨hl, hi, hnm, hret⟩ := w0 rfl
  obtain ⟨y, e1, e2, e3⟩ := am_split_eq _ _ _ _ _ hs
  rw [List.append_nil] at e1
  subst e1
  obtain ⟨g1, g2⟩ := am_rgS_of hst e2
  have cb := am_cB (mc := mc) (ms := ms) C hm2 ho hn hl hd1 hR
  rw [hret] at cb
  refine ⟨_, va_runI (b := am_ad base b a) (As := as.map (am_re base b)) ⟨C.1, C.2.1, C.2.2.1, C.2.2.2.1, C.2.2.2.2.1⟩ hM ⟨cb, hnm, C.2.2.2.2.1 _ hi⟩ ⟨am_blind, am_PcU K C.2.2.2.2.2.2.1 hr (am_rgS_r g1) rfl⟩ rfl (by rw [List.length_map]; exact e3) hlo.1.1 ?_ (lv_room (by rw [am_words_eq]; exact hw)) hd hf⟩
  show st.map (am_re base b) = _
  rw [e2, List.map_append, List.map_reverse, List.map_cons]
  rfl
theorem am_invN (C : am_Cx p s m args meth c mt) (K : am_K D dA s) (hlo : am_Lo base b mt.2.2.1 ls sl) (hst : am_rgS st) (hr : am_Rp base b D dA s n0 z0 h H locs cells slots) {i n a : Nat} (hk : am_lk am_mk (am_key mt.2.2.2.2 i) = some (3, j, n)) (hm2 : am_ml[j]? = some m2) (hs : am_split n [] st = some (as, .inr (.inr (some a)) :: r)) (hw : am_words r ≤ 8)
    (hM : Met l m2.1 (am_ws m2) (am_rm (d - 1) mc ms) (am_Pc base b D dA (.inr (.inr (some a)) :: as) h) (am_Qc base b D dA v h2) mc ms (fun q => base < q)) (hd1 : 1 ≤ d) (hR : d + 1 ≤ R.frames ∧ 37 * d + 22 ≤ R.locals) (hd : decode mt.2.1 pc = .ok (.invokespecial i, 3)) (hf : cells + mc ≤ R.cells ∧ slots + ms ≤ R.slots) :
    ∃ av, va_Run p l e R s m args below meth c H locs cells slots mc ms (F0 m pc sl (st.map (am_re base b))) (r.map (am_re base b)) (am_Qc base b D dA v h2 av) (fun q => base < q) := by
  obtain ⟨m3, hm3, ho, hn, -, -, -, w0⟩ := (am_lnk C.2.2.2.2.2.2.2 hk).2.2 (by omega)
  cases hm2.symm.trans hm3
  obtain ⟨hcl, hwh, hi, hnm, hret⟩ := w0 rfl
  obtain ⟨y, e1, e2, e3⟩ := am_split_eq _ _ _ _ _ hs
  rw [List.append_nil] at e1
  subst e1
  obtain ⟨g1, g2⟩ := am_rgS_of hst e2
  have hnw : va_Nw (.methodLinkNest mt.1.cls i m2.1 "DictionaryTerms") s := by
    rw [hcl]
    rcases hwh with ⟨rfl, w⟩ | ⟨rfl, w⟩
    · rw [w]; exact C.2.2.2.2.2.2.1.1
    · rw [w]; exact C.2.2.2.2.2.2.1.2
  have hm9 := am_meth (List.mem_of_getElem? hm2)
  have hml := hm9.2.2.2.2.1
  have cb : va_CN R s args mt.1.cls i m2.1 "DictionaryTerms" m2.2.1 m2.2.2.1 m2.2.2.2.1 (am_ws m2) (am_rm (d - 1) mc ms) mc ms n :=
    va_cnB n C.2.2.2.2.1 (am_good hm2 ho) rfl rfl rfl hnw (C.2.2.2.2.1 _ hm9.2.2.2.2.2) ⟨hm9.2.1, hm9.2.2.1, hn⟩ ⟨by show d - 1 + 1 + 1 ≤ R.frames; omega, by show 8 + (m2.2.2.1 + 11) + (37 * (d - 1) + 22) ≤ R.locals; omega⟩
  rw [hret] at cb
  refine ⟨_, va_runIN (b := am_ad base b a) (As := as.map (am_re base b)) ⟨C.1, C.2.1, C.2.2.1, C.2.2.2.1, C.2.2.2.2.1⟩ hM ⟨cb, hnm, C.2.2.2.2.1 _ hi⟩ ⟨am_blind, am_PcU K C.2.2.2.2.2.2.1 hr (am_rgS_r g1) rfl⟩ rfl (by rw [List.length_map]; exact e3) hlo.1.1 ?_ (lv_room (by rw [am_words_eq]; exact hw)) hd hf⟩
  show st.map (am_re base b) = _
  rw [e2, List.map_append, List.map_reverse, List.map_cons]
  rfl
end AMI
end
section
/-! Every instruction. -/
theorem am_inv_inl {kd o i nx : Nat} {ls : am_Ls} {st : List am_V} {h : am_H} {y : Nat × am_Ls × List am_V × am_H} (q : am_inv kd o i nx ls st h = some (.inl y)) : (kd = 2 ∧ ∃ j n as a r, am_lk am_mk (am_key o i) = some (4, j, n) ∧ am_split n [] st = some (as, .inr (.inr (some a)) :: r) ∧ am_words r ≤ 8 ∧ y = (nx, ls, r, h)) ∨ (kd = 1 ∧ ∃ j n a a2 r, am_lk am_mk (am_key o i) = some (5, j, n) ∧ am_split n [] st = some ([.inl a, .inl a2], r) ∧ am_words r ≤ 8 ∧ y = (nx, ls, .inl (if a < a2 then a2 else a) :: r, h)) := by
  unfold am_inv am_go at q
  split at q
  · next k j n hk =>
    split at q
    · split at q
      · split at q <;> cases q
      · cases q
    · split at q <;> cases q
    · next hs =>
      split at q
      · next g => cases q; exact Or.inr ⟨rfl, _, _, _, _, _, hk, hs, g, rfl⟩
      · cases q
    · split at q <;> cases q
    · split at q <;> cases q
    · next hs =>
      split at q
      · next g => cases q; exact Or.inl ⟨rfl, _, _, _, _, _, hk, hs, g, rfl⟩
      · cases q
    · cases q
  · cases q
theorem am_inv_call {kd o i nx : Nat} {ls : am_Ls} {st : List am_V} {h : am_H} {j pc2 : Nat} {as r : List am_V} {ls2 : am_Ls} {h2 : am_H} (q : am_inv kd o i nx ls st h = some (.inr (.inr (j, as, pc2, ls2, r, h2)))) : pc2 = nx ∧ ls2 = ls ∧ h2 = h ∧ am_words r ≤ 8 ∧ ∃ n, (kd = 0 ∧ am_lk am_mk (am_key o i) = some (0, j, n) ∧ ∃ m2 a as', am_ml[j]? = some m2 ∧ am_split n [] st = some (as', .inr (.inr (some a)) :: r) ∧ h.1[a]? = some (m2.2.2.2.2 + 3, 0) ∧ a ≠ 0 ∧ as = .inr (.inr (some a)) :: as') ∨ (kd = 1 ∧ am_lk am_mk (am_key o i) = some (1, j, n) ∧ am_split n [] st = some (as, r)) ∨ (kd = 2 ∧ am_lk am_mk (am_key o i) = some (2, j, n) ∧ ∃ a as', am_split n [] st = some (as', .inr (.inr (some a)) :: r) ∧ as = .inr (.inr (some a)) :: as') ∨ (kd = 2 ∧ am_lk am_mk (am_key o i) = some (3, j, n) ∧ ∃ a as', am_split n [] st = some (as', .inr (.inr (some a)) :: r) ∧ as = .inr (.inr (some a)) :: as') := by
  unfold am_inv am_go at q
  split at q
  · next k j n hk =>
    split at q
    · next hs =>
      split at q
      · next m2 hm2 =>
        split at q
        · next g => cases q; exact ⟨rfl, rfl, rfl, g.2.2, n, Or.inl ⟨rfl, hk, m2, _, _, hm2, hs, g.1, g.2.1, rfl⟩⟩
        · cases q
      · cases q
    · next hs =>
      split at q
      · next g => cases q; exact ⟨rfl, rfl, rfl, g, n, Or.inr (Or.inl ⟨rfl, hk, hs⟩)⟩
      · cases q
    · split at q <;> cases q
    · next hs =>
      split at q
      · next g => cases q; exact ⟨rfl, rfl, rfl, g, n, Or.inr (Or.inr (Or.inl ⟨rfl, hk, _, _, hs, rfl⟩))⟩
      · cases q
    · next hs =>
      split at q
      · next g => cases q; exact ⟨rfl, rfl, rfl, g, n, Or.inr (Or.inr (Or.inr ⟨rfl, hk, _, _, hs, rfl⟩))⟩
      · cases q
    · split at q <;> cases q
    · cases q
  · cases q
theorem am_inv_ret {kd o i nx : Nat} {ls : am_Ls} {st : List am_V} {h : am_H} {y : am_Re} (q : am_inv kd o i nx ls st h = some (.inr (.inl y))) : False := by
  unfold am_inv am_go at q
  split at q
  · split at q
    · split at q
      · split at q <;> cases q
      · cases q
    · split at q <;> cases q
    · split at q <;> cases q
    · split at q <;> cases q
    · split at q <;> cases q
    · split at q <;> cases q
    · cases q
  · cases q
section AMS
variable {p : Program} {l : Launch} {e : Env} {R : Room} {s : State} {m : MethodId} {args : Array Value} {below : List Frame} {meth : Method} {c : Code} {Q : State → Prop} {mt : am_M} {base b n0 z0 : Nat} {D : va_G} {dA : Nat → ClassId} {H : Heap} {locs : List Loc} {cells slots : Nat} {pc pc2 : Nat} {ls ls2 : am_Ls} {st st2 : List am_V} {h h2 : am_H} {sl : Array Slot}
theorem am_w_invokevirtual {i : Nat} (C : am_Cx p s m args meth c mt) (hd : decode mt.2.1 pc = .ok (.invokevirtual i, 3)) (hx : am_next mt (.invokevirtual i) 3 pc ls st h = some (.inl (pc2, ls2, st2, h2))) (hfit : h2.1.length ≤ n0 + R.cells ∧ am_sz h2.1 ≤ z0 + R.slots) (hR : 1 ≤ R.frames ∧ 22 ≤ R.locals) (hlo : am_Lo base b mt.2.2.1 ls sl) (hst : am_rgS st) (hr : am_Rp base b D dA s n0 z0 h H locs cells slots) (kk : am_KK p l e R s m args below meth c Q mt base b n0 z0 D dA pc2 ls2 st2 h2) : W p l e R s m args below meth c H locs cells slots Q (F0 m pc sl (st.map (am_re base b))) := by
  rcases am_inv_inl hx with ⟨w, -⟩ | ⟨w, -⟩ <;> cases w
theorem am_w_invokestatic {i : Nat} (C : am_Cx p s m args meth c mt) (hd : decode mt.2.1 pc = .ok (.invokestatic i, 3)) (hx : am_next mt (.invokestatic i) 3 pc ls st h = some (.inl (pc2, ls2, st2, h2))) (hfit : h2.1.length ≤ n0 + R.cells ∧ am_sz h2.1 ≤ z0 + R.slots) (hR : 1 ≤ R.frames ∧ 22 ≤ R.locals) (hlo : am_Lo base b mt.2.2.1 ls sl) (hst : am_rgS st) (hr : am_Rp base b D dA s n0 z0 h H locs cells slots) (kk : am_KK p l e R s m args below meth c Q mt base b n0 z0 D dA pc2 ls2 st2 h2) : W p l e R s m args below meth c H locs cells slots Q (F0 m pc sl (st.map (am_re base b))) := by
  rcases am_inv_inl hx with ⟨w, -⟩ | ⟨-, j, n, a, a2, r, hk, hs, hw, e9⟩
  · cases w
  cases e9
  obtain ⟨hl, hn⟩ := (am_lnk C.2.2.2.2.2.2.2 hk).2.1 rfl
  obtain ⟨y, e1, e2, e3⟩ := am_split_eq _ _ _ _ _ hs
  rw [List.append_nil] at e1
  subst e1
  have e2 : st = .inl a2 :: .inl a :: r := e2
  subst e2
  have r2 := am_rgS_h hst
  have r1 := am_rgS_h (am_rgS_t hst)
  have f5 := hr.2.2.1
  have f6 := hr.2.2.2.1
  have f7 := hfit.1
  have f8 := hfit.2
  refine va_mmax C.1 C.2.1 (by rw [C.2.2.1]; exact hlo.1.1.symm) C.2.2.2.1 (C.2.2.2.2.1 _ hl) (C.2.2.2.2.1 _ (am_in_tb (List.mem_of_getElem? am_all_x1) rfl)) (C.2.2.2.2.1 _ (am_in_tb am_all_t.2.2.2.2 rfl)) (C.2.2.2.2.1 _ (am_in_tb (List.mem_of_getElem? am_all_x2) rfl)) hR.1 (by have := am_words_eq base b r; have := hR.2; omega) (by omega) (by omega) hd ?_
  have w := kk sl H locs cells slots hlo (am_rgS_c (by split <;> assumption) (am_rgS_t (am_rgS_t hst))) hr
  rw [List.map_cons] at w
  by_cases g : a < a2
  · rw [if_pos g] at w
    rw [if_pos ((am_ltI r1 r2).mpr g)]
    exact w
  · rw [if_neg g] at w
    rw [if_neg (fun z => g ((am_ltI r1 r2).mp z))]
    exact w
theorem am_w_invokespecial {i : Nat} (C : am_Cx p s m args meth c mt) (hd : decode mt.2.1 pc = .ok (.invokespecial i, 3)) (hx : am_next mt (.invokespecial i) 3 pc ls st h = some (.inl (pc2, ls2, st2, h2))) (hfit : h2.1.length ≤ n0 + R.cells ∧ am_sz h2.1 ≤ z0 + R.slots) (hR : 1 ≤ R.frames ∧ 22 ≤ R.locals) (hlo : am_Lo base b mt.2.2.1 ls sl) (hst : am_rgS st) (hr : am_Rp base b D dA s n0 z0 h H locs cells slots) (kk : am_KK p l e R s m args below meth c Q mt base b n0 z0 D dA pc2 ls2 st2 h2) : W p l e R s m args below meth c H locs cells slots Q (F0 m pc sl (st.map (am_re base b))) := by
  rcases am_inv_inl hx with ⟨-, j, n, as, a, r, hk, hs, hw, e9⟩ | ⟨w, -⟩
  · cases e9
    obtain ⟨hl, hn⟩ := (am_lnk C.2.2.2.2.2.2.2 hk).1 rfl
    subst hn
    cases hs
    refine W.objInit C.1 C.2.1 C.2.2.2.1 (C.2.2.2.2.1 _ hl) (C.2.2.2.2.1 _ (am_in_tb am_all_t.2.2.2.1 rfl)) (C.2.2.2.2.1 _ (am_in_tb (List.mem_of_getElem? am_all_x3) rfl)) rfl (by rw [C.2.2.1]; exact hlo.1.1) rfl hd hR.1 ?_ ?_
    · have := lv_room (m := m) (pc := pc) (ls := sl) (rest := List.map (am_re base b) (.inr (.inr (some a)) :: st2)) (st := st2.map (am_re base b)) (by rw [am_words_eq]; exact hw)
      have := hR.2
      omega
    · exact kk sl H locs cells slots hlo (am_rgS_t hst) hr
  · cases w
theorem am_stepW {i : Instr} {n : Nat} (C : am_Cx p s m args meth c mt) (K : am_K D dA s) (X : am_Xs mt b base s h) (hlok : am_lok i n = true) (hd : decode mt.2.1 pc = .ok (i, n)) (hx : am_next mt i n pc ls st h = some (.inl (pc2, ls2, st2, h2))) (hfit : h2.1.length ≤ n0 + R.cells ∧ am_sz h2.1 ≤ z0 + R.slots) (hR : 1 ≤ R.frames ∧ 22 ≤ R.locals) (hlo : am_Lo base b mt.2.2.1 ls sl) (hst : am_rgS st) (hr : am_Rp base b D dA s n0 z0 h H locs cells slots) (kk : am_KK p l e R s m args below meth c Q mt base b n0 z0 D dA pc2 ls2 st2 h2) : W p l e R s m args below meth c H locs cells slots Q (F0 m pc sl (st.map (am_re base b))) := by
  cases i
  case iconst =>
    have hn : n = 1 := by simpa [am_lok] using hlok
    subst hn
    exact am_w_iconst C hd hx hlo hst hr kk
  case bipush =>
    have hn : n = 2 := by simpa [am_lok] using hlok
    subst hn
    exact am_w_bipush C hd hx hlo hst hr kk
  case sipush =>
    have hn : n = 3 := by simpa [am_lok] using hlok
    subst hn
    exact am_w_sipush C hd hx hlo hst hr kk
  case lconst =>
    have hn : n = 1 := by simpa [am_lok] using hlok
    subst hn
    exact am_w_lconst C hd hx hlo hst hr kk
  case ldc =>
    have hn : n = 2 := by simpa [am_lok] using hlok
    subst hn
    exact am_w_ldc C hd hx hlo hst hr kk
  case iload_n =>
    have hn : n = 1 := by simpa [am_lok] using hlok
    subst hn
    exact am_w_iload_n C hd hx hlo hst hr kk
  case iload =>
    have hn : n = 2 := by simpa [am_lok] using hlok
    subst hn
    exact am_w_iload C hd hx hlo hst hr kk
  case lload_n =>
    have hn : n = 1 := by simpa [am_lok] using hlok
    subst hn
    exact am_w_lload_n C hd hx hlo hst hr kk
  case lload =>
    have hn : n = 2 := by simpa [am_lok] using hlok
    subst hn
    exact am_w_lload C hd hx hlo hst hr kk
  case aload_n =>
    have hn : n = 1 := by simpa [am_lok] using hlok
    subst hn
    exact am_w_aload_n C hd hx hlo hst hr kk
  case aload =>
    have hn : n = 2 := by simpa [am_lok] using hlok
    subst hn
    exact am_w_aload C hd hx hlo hst hr kk
  case istore_n =>
    have hn : n = 1 := by simpa [am_lok] using hlok
    subst hn
    exact am_w_istore_n C hd hx hlo hst hr kk
  case istore =>
    have hn : n = 2 := by simpa [am_lok] using hlok
    subst hn
    exact am_w_istore C hd hx hlo hst hr kk
  case lstore_n =>
    have hn : n = 1 := by simpa [am_lok] using hlok
    subst hn
    exact am_w_lstore_n C hd hx hlo hst hr kk
  case lstore =>
    have hn : n = 2 := by simpa [am_lok] using hlok
    subst hn
    exact am_w_lstore C hd hx hlo hst hr kk
  case astore_n =>
    have hn : n = 1 := by simpa [am_lok] using hlok
    subst hn
    exact am_w_astore_n C hd hx hlo hst hr kk
  case astore =>
    have hn : n = 2 := by simpa [am_lok] using hlok
    subst hn
    exact am_w_astore C hd hx hlo hst hr kk
  case iinc =>
    have hn : n = 3 := by simpa [am_lok] using hlok
    subst hn
    exact am_w_iinc C hd hx hlo hst hr kk
  case iadd =>
    have hn : n = 1 := by simpa [am_lok] using hlok
    subst hn
    exact am_w_iadd C hd hx hlo hst hr kk
  case isub =>
    have hn : n = 1 := by simpa [am_lok] using hlok
    subst hn
    exact am_w_isub C hd hx hlo hst hr kk
  case imul =>
    have hn : n = 1 := by simpa [am_lok] using hlok
    subst hn
    exact am_w_imul C hd hx hlo hst hr kk
  case iand =>
    have hn : n = 1 := by simpa [am_lok] using hlok
    subst hn
    exact am_w_iand C hd hx hlo hst hr kk
  case ior =>
    have hn : n = 1 := by simpa [am_lok] using hlok
    subst hn
    exact am_w_ior C hd hx hlo hst hr kk
  case ishl =>
    have hn : n = 1 := by simpa [am_lok] using hlok
    subst hn
    exact am_w_ishl C hd hx hlo hst hr kk
  case ishr =>
    have hn : n = 1 := by simpa [am_lok] using hlok
    subst hn
    exact am_w_ishr C hd hx hlo hst hr kk
  case ladd =>
    have hn : n = 1 := by simpa [am_lok] using hlok
    subst hn
    exact am_w_ladd C hd hx hlo hst hr kk
  case lsub =>
    have hn : n = 1 := by simpa [am_lok] using hlok
    subst hn
    exact am_w_lsub C hd hx hlo hst hr kk
  case lmul =>
    have hn : n = 1 := by simpa [am_lok] using hlok
    subst hn
    exact am_w_lmul C hd hx hlo hst hr kk
  case ldiv =>
    have hn : n = 1 := by simpa [am_lok] using hlok
    subst hn
    exact am_w_ldiv C hd hx hlo hst hr kk
  case lcmp =>
    have hn : n = 1 := by simpa [am_lok] using hlok
    subst hn
    exact am_w_lcmp C hd hx hlo hst hr kk
  case i2l =>
    have hn : n = 1 := by simpa [am_lok] using hlok
    subst hn
    exact am_w_i2l C hd hx hlo hst hr kk
  case dup =>
    have hn : n = 1 := by simpa [am_lok] using hlok
    subst hn
    exact am_w_dup C hd hx hlo hst hr kk
  case pop =>
    have hn : n = 1 := by simpa [am_lok] using hlok
    subst hn
    exact am_w_pop C hd hx hlo hst hr kk
  case dup_x1 =>
    have hn : n = 1 := by simpa [am_lok] using hlok
    subst hn
    exact am_w_dup_x1 C hd hx hlo hst hr kk
  case dup2 =>
    have hn : n = 1 := by simpa [am_lok] using hlok
    subst hn
    exact am_w_dup2 C hd hx hlo hst hr kk
  case ifCond =>
    have hn : n = 3 := by simpa [am_lok] using hlok
    subst hn
    exact am_w_ifCond C hd hx hlo hst hr kk
  case if_icmp =>
    have hn : n = 3 := by simpa [am_lok] using hlok
    subst hn
    exact am_w_if_icmp C hd hx hlo hst hr kk
  case goto =>
    have hn : n = 3 := by simpa [am_lok] using hlok
    subst hn
    exact am_w_goto C hd hx hlo hst hr kk
  case tableswitch => exact am_w_tableswitch C hd hx hlo hst hr kk
  case lookupswitch => exact am_w_lookupswitch C hd hx hlo hst hr kk
  case baload =>
    have hn : n = 1 := by simpa [am_lok] using hlok
    subst hn
    exact am_w_baload C K hd hx hlo hst hr kk
  case laload =>
    have hn : n = 1 := by simpa [am_lok] using hlok
    subst hn
    exact am_w_laload C K hd hx hlo hst hr kk
  case iastore =>
    have hn : n = 1 := by simpa [am_lok] using hlok
    subst hn
    exact am_w_iastore C K hd hx hlo hst hr kk
  case bastore =>
    have hn : n = 1 := by simpa [am_lok] using hlok
    subst hn
    exact am_w_bastore C K hd hx hlo hst hr kk
  case lastore =>
    have hn : n = 1 := by simpa [am_lok] using hlok
    subst hn
    exact am_w_lastore C K hd hx hlo hst hr kk
  case getfield =>
    have hn : n = 3 := by simpa [am_lok] using hlok
    subst hn
    exact am_w_getfield C K hd hx hlo hst hr kk
  case putfield =>
    have hn : n = 3 := by simpa [am_lok] using hlok
    subst hn
    exact am_w_putfield C K hd hx hlo hst hr kk
  case iaload =>
    have hn : n = 1 := by simpa [am_lok] using hlok
    subst hn
    exact am_w_iaload C K X hd hx hlo hst hr kk
  case arraylength =>
    have hn : n = 1 := by simpa [am_lok] using hlok
    subst hn
    exact am_w_arraylength C K X hd hx hlo hst hr kk
  case new =>
    have hn : n = 3 := by simpa [am_lok] using hlok
    subst hn
    exact am_w_new C K hd hx hfit hlo hst hr kk
  case newarray =>
    have hn : n = 2 := by simpa [am_lok] using hlok
    subst hn
    exact am_w_newarray C K hd hx hfit hlo hst hr kk
  case invokestatic =>
    have hn : n = 3 := by simpa [am_lok] using hlok
    subst hn
    exact am_w_invokestatic C hd hx hfit hR hlo hst hr kk
  case invokespecial =>
    have hn : n = 3 := by simpa [am_lok] using hlok
    subst hn
    exact am_w_invokespecial C hd hx hfit hR hlo hst hr kk
  case invokevirtual =>
    have hn : n = 3 := by simpa [am_lok] using hlok
    subst hn
    exact am_w_invokevirtual C hd hx hfit hR hlo hst hr kk
  case ireturn =>
    simp only [am_next, am_ret] at hx
    split at hx
    · cases hx
    · split at hx <;> cases hx
    · cases hx
  case lreturn =>
    simp only [am_next] at hx
    split at hx <;> cases hx
  case return_ =>
    simp only [am_next] at hx
    split at hx <;> cases hx
  all_goals cases hx
end AMS
end
section
/-! The abstract machine is sound. -/
theorem am_Xs.keep {mt : am_M} {b base : Nat} {s : State} {h h2 : am_H} (X : am_Xs mt b base s h) (h6 : ∃ n, h.1[0]? = some (9, n)) (hle : am_le h h2) : am_Xs mt b base s h2 := by
  intro ho n hn
  obtain ⟨n1, h1⟩ := h6
  obtain ⟨g1, g2⟩ := hle.2.2 n1 h1
  have en : n1 = n := by rw [g1] at hn; cases hn; rfl
  subst en
  have w := X ho n1 h1
  refine ⟨?_, w.2⟩
  have e : (fun j : Nat => Int32.ofInt (h2.2.2.1 0 j)) = (fun j : Nat => Int32.ofInt (h.2.2.1 0 j)) := by funext j; rw [g2]
  rw [e]
  exact w.1
theorem am_code_ok {j pc : Nat} {mt : am_M} {i : Instr} {n : Nat} (hm : am_ml[j]? = some mt) (h : am_code j pc = some (i, n)) : decode mt.2.1 pc = .ok (i, n) ∧ am_lok i n = true := by
  unfold am_code at h
  rw [hm] at h
  simp only at h
  split at h
  · next i1 n1 e =>
    split at h
    · next g => cases h; exact ⟨e, g⟩
    · cases h
  · cases h
theorem am_inv_of_call {mt : am_M} {i : Instr} {n pc : Nat} {ls : am_Ls} {st : List am_V} {h : am_H} {y : Nat × List am_V × Nat × am_Ls × List am_V × am_H} (q : am_next mt i n pc ls st h = some (.inr (.inr y))) : ∃ a kd, (i = .invokevirtual a ∧ kd = 0 ∨ i = .invokestatic a ∧ kd = 1 ∨ i = .invokespecial a ∧ kd = 2) ∧ am_inv kd mt.2.2.2.2 a (pc + n) ls st h = some (.inr (.inr y)) := by
  have hgo : ∀ {pc : Nat} {ls : am_Ls} {st : List am_V} {h : am_H}, am_go pc ls st h = some (.inr (.inr y)) → False := fun w => by cases w
  have hj : ∀ {pc nx : Nat} {off : Int} {cc : Bool} {ls : am_Ls} {st : List am_V} {h : am_H}, am_jmp pc off cc nx ls st h = some (.inr (.inr y)) → False := fun w => by
    obtain ⟨-, w⟩ := am_jmp_inv w; cases w
  cases i
  case invokevirtual a => exact ⟨a, 0, Or.inl ⟨rfl, rfl⟩, q⟩
  case invokestatic a => exact ⟨a, 1, Or.inr (Or.inl ⟨rfl, rfl⟩), q⟩
  case invokespecial a => exact ⟨a, 2, Or.inr (Or.inr ⟨rfl, rfl⟩), q⟩
  all_goals exfalso
  all_goals simp only [am_next] at q
  all_goals first
    | (cases q; done)
    | exact hgo q
    | exact hj q
    | (unfold am_load am_go at q; split at q <;> cases q; done)
    | (unfold am_store am_go at q; split at q <;> first | (cases q; done) | (split at q <;> cases q; done))
    | (unfold am_bin am_go at q; split at q <;> cases q; done)
    | (unfold am_binL am_go at q; split at q <;> cases q; done)
    | (unfold am_ial am_go at q; split at q <;> first | (cases q; done) | (split at q <;> cases q; done))
    | (unfold am_bal am_go at q; split at q <;> first | (cases q; done) | (split at q <;> cases q; done))
    | (unfold am_lal am_go at q; split at q <;> first | (cases q; done) | (split at q <;> cases q; done))
    | (unfold am_ias am_go at q; split at q <;> first | (cases q; done) | (split at q <;> cases q; done))
    | (unfold am_bas am_go at q; split at q <;> first | (cases q; done) | (split at q <;> cases q; done))
    | (unfold am_las am_go at q; split at q <;> first | (cases q; done) | (split at q <;> cases q; done))
    | (unfold am_len am_go at q; split at q <;> first | (cases q; done) | (split at q <;> first | (cases q; done) | (split at q <;> cases q; done)))
    | (unfold am_gf am_go at q; split at q <;> first | (cases q; done) | (split at q <;> first | (cases q; done) | (split at q <;> cases q; done)))
    | (unfold am_pf am_go at q; split at q <;> first | (cases q; done) | (split at q <;> first | (cases q; done) | (split at q <;> first | (cases q; done) | (split at q <;> cases q; done))))
    | (unfold am_new am_go at q; split at q <;> cases q; done)
    | (unfold am_newa am_go at q; split at q <;> first | (cases q; done) | (split at q <;> cases q; done))
    | (unfold am_ret at q; split at q <;> first | (cases q; done) | (split at q <;> cases q; done))
    | (split at q <;> first | (cases q; done) | exact hgo q | exact hj q | (split at q <;> first | (cases q; done) | exact hgo q | exact hj q))
section AMR
variable {p : Program} {l : Launch} {e : Env} {R : Room} {s : State} {m : MethodId} {args : Array Value} {below : List Frame} {meth : Method} {c : Code} {Q : State → Prop} {mt : am_M} {base b n0 z0 : Nat} {D : va_G} {dA : Nat → ClassId}
theorem am_runW {d j : Nat} (IH : am_Sd d) (hmt : am_ml[j]? = some mt) (C : am_Cx p s m args meth c mt) (K : am_K D dA s) (hR : d + 1 ≤ R.frames ∧ 37 * d + 22 ≤ R.locals) (res : am_Re) (hfit : res.2.1.length ≤ n0 + R.cells ∧ am_sz res.2.1 ≤ z0 + R.slots)
    (hend : ∀ (pc : Nat) (i : Instr) (n : Nat) (ls : am_Ls) (st : List am_V) (h : am_H) (sl : Array Slot) (H : Heap) (locs : List Loc) (cells slots : Nat), decode mt.2.1 pc = .ok (i, n) → am_lok i n = true → am_next mt i n pc ls st h = some (.inr (.inl res)) → am_Rp base b D dA s n0 z0 h H locs cells slots → am_rgS st → W p l e R s m args below meth c H locs cells slots Q (F0 m pc sl (st.map (am_re base b)))) :
    ∀ (n pc : Nat) (ls : am_Ls) (st : List am_V) (h : am_H), am_run (am_call d) j n pc ls st h = some res → am_Xs mt b base s h → am_KK p l e R s m args below meth c Q mt base b n0 z0 D dA pc ls st h := by
  intro n
  induction n with
  | zero => intro pc ls st h q; cases q
  | succ n ih =>
    intro pc ls st h q X sl H locs cells slots hlo hst hr
    have q0 := q
    unfold am_run at q
    cases hx : am_one j pc ls st h with
    | none => rw [hx] at q; cases q
    | some y =>
      rw [hx] at q
      unfold am_one at hx
      rw [hmt] at hx
      split at hx
      · next m9 i k e1 e2 =>
        cases e1
        obtain ⟨hd, hlok⟩ := am_code_ok hmt e2
        have hle := am_le_next hx
        have h6 := hr.2.2.2.2.2.1
        rcases y with ⟨pc2, ls2, st2, h2⟩ | y | ⟨j2, as, pc2, ls2, r2, h2⟩
        · have q : am_run (am_call d) j n pc2 ls2 st2 h2 = some res := q
          have hl2 := am_le_run (am_le_call d) n _ _ _ _ _ q
          exact am_stepW C K X hlok hd hx ⟨Nat.le_trans hl2.1 hfit.1, Nat.le_trans hl2.2.1 hfit.2⟩ ⟨by omega, by omega⟩ hlo hst hr (ih pc2 ls2 st2 h2 q (X.keep h6 hle))
        · cases q
          exact hend pc i k ls st h sl H locs cells slots hd hlok hx hr hst
        · obtain ⟨a, kd, hkd, hinv⟩ := am_inv_of_call hx
          have hk3 : k = 3 := by
            rcases hkd with ⟨rfl, -⟩ | ⟨rfl, -⟩ | ⟨rfl, -⟩ <;> simpa [am_lok] using hlok
          subst hk3
          obtain ⟨e3, e4, e5, hw, nn, hcase⟩ := am_inv_call hinv
          subst e3; subst e4; subst e5
          have q : (match am_call d j2 as h2 with
            | none => none
            | some (v, h') => am_run (am_call d) j n (pc + 3) ls2 (v.toList ++ r2) h') = some res := q
          split at q
          · cases q
          · next v h' hc =>
            have hd1 : 1 ≤ d := by
              cases d with
              | zero => cases hc
              | succ d => omega
            have hlc := am_le_call d _ _ _ _ _ hc
            have hl2 := am_le_run (am_le_call d) n _ _ _ _ _ q
            have f5 := hr.2.2.1
            have f6 := hr.2.2.2.1
            have g1 := hlc.1
            have g2 := hlc.2.1
            have g3 := hl2.1
            have g4 := hl2.2.1
            have g5 := hfit.1
            have g6 := hfit.2
            have hf : cells + (h'.1.length - h2.1.length) ≤ R.cells ∧ slots + (am_sz h'.1 - am_sz h2.1) ≤ R.slots := ⟨by omega, by omega⟩
            have go : ∀ av, va_Run p l e R s m args below meth c H locs cells slots (h'.1.length - h2.1.length) (am_sz h'.1 - am_sz h2.1) (F0 m pc sl (st.map (am_re base b))) (r2.map (am_re base b)) (am_Qc base b D dA v h' av) (fun q => base < q) → am_rgS r2 → W p l e R s m args below meth c H locs cells slots Q (F0 m pc sl (st.map (am_re base b))) := by
              intro av hrun hrg
              refine am_callW hrun hr rfl rfl hlc (fun H1 locs1 hr1 hv => ?_)
              have hst2 : am_rgS (v.toList ++ r2) := by
                cases v with
                | none => exact hrg
                | some v =>
                  intro z hz
                  rcases List.mem_cons.mp hz with e9 | e9
                  · exact hv z (by rw [e9])
                  · exact hrg z e9
              have w := ih (pc + 3) ls2 (v.toList ++ r2) h' q ((X.keep h6 hlc)) sl H1 locs1 _ _ hlo hst2 hr1
              have ev : (v.toList ++ r2).map (am_re base b) = (v.map (am_re base b)).toList ++ r2.map (am_re base b) := by cases v <;> rfl
              rw [ev] at w
              exact w
            have hs9 : ∀ {n : Nat} {as' r' : List am_V}, am_split n [] st = some (as', r') → am_rgS r' := fun hs => by
              obtain ⟨y, w1, w2, -⟩ := am_split_eq _ _ _ _ _ hs
              exact (am_rgS_of hst w2).2
            rcases hcase with ⟨rfl, hk, m2, a2, as', hm2, hs, ha, a0, rfl⟩ | ⟨rfl, hk, hs⟩ | ⟨rfl, hk, a2, as', hs, rfl⟩ | ⟨rfl, hk, a2, as', hs, rfl⟩
            · have hi : i = .invokevirtual a := by
                rcases hkd with ⟨w, -⟩ | ⟨-, w⟩ | ⟨-, w⟩
                · exact w
                · cases w
                · cases w
              subst hi
              obtain ⟨m3, hm3, ho, -⟩ := (am_lnk C.2.2.2.2.2.2.2 hk).2.2 (by omega)
              cases hm2.symm.trans hm3
              obtain ⟨av, hrun⟩ := am_invV (p := p) (e := e) (below := below) C K hlo hst hr hk hm2 hs ha a0 hw (IH _ _ _ _ _ hc m2 hm2 ho l base b D dA) hd1 hR hd hf
              exact go av hrun (am_rgS_t (hs9 hs))
            · have hi : i = .invokestatic a := by
                rcases hkd with ⟨-, w⟩ | ⟨w, -⟩ | ⟨-, w⟩
                · cases w
                · exact w
                · cases w
              subst hi
              obtain ⟨m3, hm3, ho, -⟩ := (am_lnk C.2.2.2.2.2.2.2 hk).2.2 (by omega)
              obtain ⟨av, hrun⟩ := am_invS (p := p) (e := e) (below := below) C K hlo hst hr hk hm3 hs hw (IH _ _ _ _ _ hc m3 hm3 ho l base b D dA) hd1 hR hd hf
              exact go av hrun (hs9 hs)
            · have hi : i = .invokespecial a := by
                rcases hkd with ⟨-, w⟩ | ⟨-, w⟩ | ⟨w, -⟩
                · cases w
                · cases w
                · exact w
              subst hi
              obtain ⟨m3, hm3, ho, -⟩ := (am_lnk C.2.2.2.2.2.2.2 hk).2.2 (by omega)
              obtain ⟨av, hrun⟩ := am_invI (p := p) (e := e) (below := below) C K hlo hst hr hk hm3 hs hw (IH _ _ _ _ _ hc m3 hm3 ho l base b D dA) hd1 hR hd hf
              exact go av hrun (am_rgS_t (hs9 hs))
            · have hi : i = .invokespecial a := by
                rcases hkd with ⟨-, w⟩ | ⟨-, w⟩ | ⟨w, -⟩
                · cases w
                · cases w
                · exact w
              subst hi
              obtain ⟨m3, hm3, ho, -⟩ := (am_lnk C.2.2.2.2.2.2.2 hk).2.2 (by omega)
              obtain ⟨av, hrun⟩ := am_invN (p := p) (e := e) (below := below) C K hlo hst hr hk hm3 hs hw (IH _ _ _ _ _ hc m3 hm3 ho l base b D dA) hd1 hR hd hf
              exact go av hrun (am_rgS_t (hs9 hs))
      · cases hx
end AMR
end
section
/-! Every method of the claim keeps the contract that the abstract machine gives it. -/
theorem am_ent_args (base b : Nat) : ∀ (as : List am_V) (i k : Nat), am_as base b i (am_ent as ++ List.replicate k none) = lv_args i (as.map (am_re base b)) := by
  intro as
  induction as with
  | nil =>
    intro i k
    show am_as base b i (List.replicate k none) = []
    induction k generalizing i with
    | zero => rfl
    | succ k ih => exact ih (i + 1)
  | cons v r ih =>
    intro i k
    unfold am_ent
    rw [List.map_cons]
    unfold lv_args
    rw [am_re_cat]
    by_cases hc : am_c2 v = true
    · rw [if_pos hc, if_pos hc, if_pos rfl]
      show (i, am_re base b v) :: am_as base b (i + 1 + 1) (am_ent r ++ List.replicate k none) = _
      rw [ih]
    · rw [if_neg hc, if_neg hc, if_neg (by omega)]
      show (i, am_re base b v) :: am_as base b (i + 1) (am_ent r ++ List.replicate k none) = _
      rw [ih]
theorem am_ent_len (base b : Nat) : ∀ as : List am_V, (lg_sl (as.map (am_re base b))).length = (am_ent as).length := by
  intro as
  induction as with
  | nil => rfl
  | cons v r ih =>
    have e : lg_sl ((v :: r).map (am_re base b)) = (if (am_re base b v).category = 2 then [.val (am_re base b v), .second] else [.val (am_re base b v)]) ++ lg_sl (r.map (am_re base b)) := rfl
    rw [e, am_re_cat, List.length_append, ih, show am_ent (v :: r) = if am_c2 v = true then some v :: none :: am_ent r else some v :: am_ent r from rfl]
    by_cases hc : am_c2 v = true
    · rw [if_pos hc, if_pos hc, if_pos rfl]; simp; omega
    · rw [if_neg hc, if_neg hc, if_neg (by omega)]; simp; omega
theorem am_ent_mem : ∀ (as : List am_V) (k : Nat) (v : am_V), some v ∈ am_ent as ++ List.replicate k none → v ∈ as := by
  intro as
  induction as with
  | nil => intro k v h; simp [am_ent] at h
  | cons a r ih =>
    intro k v h
    unfold am_ent at h
    by_cases hc : am_c2 a = true
    · rw [if_pos hc] at h
      rcases List.mem_cons.mp h with h | h
      · cases h; exact List.mem_cons_self
      · rcases List.mem_cons.mp h with h | h
        · cases h
        · exact List.mem_cons_of_mem _ (ih k v h)
    · rw [if_neg hc] at h
      rcases List.mem_cons.mp h with h | h
      · cases h; exact List.mem_cons_self
      · exact List.mem_cons_of_mem _ (ih k v h)
theorem am_entry (base b n : Nat) {as : List am_V} (h : (am_ent as).length ≤ n) (hr : am_rgS as) : am_Lo base b n (am_pad n (am_ent as)) ((lg_sl (as.map (am_re base b)) ++ List.replicate (n - (lg_sl (as.map (am_re base b))).length) Slot.unset).toArray) := by
  have h1 := lv_entry (as.map (am_re base b)) (n := n) (by rw [am_ent_len]; exact h)
  refine ⟨?_, by unfold am_pad; simp; omega, fun x hx => hr x (am_ent_mem as _ _ hx)⟩
  rw [am_pad, am_ent_args]
  exact h1
theorem am_sound : ∀ d, am_Sd d := by
  intro d
  induction d with
  | zero => intro j as h v h' q; cases q
  | succ d IH =>
    intro j as h v h' q mt hmt ho l base b D dA
    have hmem := List.mem_of_getElem? hmt
    have hcall := q
    refine Met.ofW (cc := mt.2.1) (maxL := mt.2.2.1) (ret := mt.2.2.2.1) (am_meth hmem).1 rfl ?_
    intro p e s m args below meth c s₁ B hml hv
    obtain ⟨rfl, hP, hK, hrg, has, hN, h6, hb0⟩ := hv
    have C : am_Cx p s m ((as.map (am_re base b)).toArray) meth c mt := ⟨B.exec, B.bytes, hml, findClass_of_methodNamed B.named, fun w hw => atoms_spec (ws := am_ws mt) B.pre w (List.mem_cons_of_mem _ hw), fun _ => (name_of_methodNamed B.named B.method).1.trans (by assumption), hN, hmem⟩
    unfold am_call at q
    rw [hmt] at q
    simp only at q
    split at q
    · next hlen =>
      obtain ⟨n, hrun⟩ := am_go0_iff.mp q
      have hle := am_le_call (d + 1) _ _ _ _ _ hcall
      have g1 := hle.1
      have g2 := hle.2.1
      rw [lg_entry_eq]
      have hS : va_S (fun q => base < q) s.heap s.heap [] := va_S.rf
      refine am_runW (base := base) (b := b) (n0 := h.1.length) (z0 := am_sz h.1) (R := am_rm d (h'.1.length - h.1.length) (am_sz h'.1 - am_sz h.1)) IH hmt C hK ⟨Nat.le_refl _, Nat.le_refl _⟩ (v, h') ⟨by show h'.1.length ≤ h.1.length + (h'.1.length - h.1.length); omega, by show am_sz h'.1 ≤ am_sz h.1 + (am_sz h'.1 - am_sz h.1); omega⟩ ?_ n 0 _ [] h hrun (fun w => absurd w ho) _ s.heap [] 0 0 (am_entry base b _ hlen has) (fun x hx => by cases hx) ⟨hP, hS, by omega, by omega, hrg, h6, hb0⟩
      intro pc i k ls st h9 sl H locs cells slots hd hlok hx hr hst
      have hlocks := B.notSynchronized
      have hret := B.returns
      obtain ⟨a1, a2, a3, a4, a5, a6, a7⟩ := hr
      cases i
      case ireturn =>
        have hk1 : k = 1 := by simpa [am_lok] using hlok
        subst hk1
        simp only [am_next, am_ret] at hx
        split at hx
        · next z hz =>
          cases hx
          have e1 : cells = h'.1.length - h.1.length := by omega
          have e2 : slots = am_sz h'.1 - am_sz h.1 := by omega
          subst e1; subst e2
          rw [hz] at hret
          exact W.iret (v := Int32.ofInt z) C.1 C.2.1 hret (fun t ht hW => ⟨rfl, by rw [ht]; exact a1, a5, fun x hx => by cases hx; exact am_rgS_h hst, a2.F ht⟩) a2.2.2 hd
        · next z hz =>
          split at hx
          · next g =>
            cases hx
            have e1 : cells = h'.1.length - h.1.length := by omega
            have e2 : slots = am_sz h'.1 - am_sz h.1 := by omega
            subst e1; subst e2
            rw [hz] at hret
            exact W.zret (v := Int32.ofInt z) C.1 C.2.1 hret (by rcases g with g | g <;> subst g <;> rfl) (fun t ht hW => ⟨rfl, by rw [ht]; exact a1, a5, fun x hx => by cases hx; exact am_rgS_h hst, a2.F ht⟩) a2.2.2 hd
          · cases hx
        · cases hx
      case lreturn =>
        have hk1 : k = 1 := by simpa [am_lok] using hlok
        subst hk1
        simp only [am_next] at hx
        split at hx
        · next z hz =>
          cases hx
          have e1 : cells = h'.1.length - h.1.length := by omega
          have e2 : slots = am_sz h'.1 - am_sz h.1 := by omega
          subst e1; subst e2
          rw [hz] at hret
          exact W.lret (v := z) C.1 C.2.1 hret (fun t ht hW => ⟨rfl, by rw [ht]; exact a1, a5, (fun x hx => by cases hx), a2.F ht⟩) a2.2.2 hd
        · cases hx
      case return_ =>
        have hk1 : k = 1 := by simpa [am_lok] using hlok
        subst hk1
        simp only [am_next] at hx
        split at hx
        · next hz =>
          cases hx
          have e1 : cells = h'.1.length - h.1.length := by omega
          have e2 : slots = am_sz h'.1 - am_sz h.1 := by omega
          subst e1; subst e2
          rw [hz] at hret
          exact W.vret C.1 C.2.1 hret (fun t ht hW => ⟨rfl, by rw [ht]; exact a1, a5, (fun x hx => by cases hx), a2.F ht⟩) a2.2.2 hd
        · cases hx
      case invokevirtual => exact (am_inv_ret hx).elim
      case invokestatic => exact (am_inv_ret hx).elim
      case invokespecial => exact (am_inv_ret hx).elim
      all_goals exfalso
      all_goals simp only [am_next] at hx
      all_goals first
        | (cases hx; done)
        | (obtain ⟨-, w⟩ := am_jmp_inv hx; cases w; done)
        | (unfold am_load am_go at hx; split at hx <;> cases hx; done)
        | (unfold am_store am_go at hx; split at hx <;> first | (cases hx; done) | (split at hx <;> cases hx; done))
        | (unfold am_bin am_go at hx; split at hx <;> cases hx; done)
        | (unfold am_binL am_go at hx; split at hx <;> cases hx; done)
        | (unfold am_ial am_go at hx; split at hx <;> first | (cases hx; done) | (split at hx <;> cases hx; done))
        | (unfold am_bal am_go at hx; split at hx <;> first | (cases hx; done) | (split at hx <;> cases hx; done))
        | (unfold am_lal am_go at hx; split at hx <;> first | (cases hx; done) | (split at hx <;> cases hx; done))
        | (unfold am_ias am_go at hx; split at hx <;> first | (cases hx; done) | (split at hx <;> cases hx; done))
        | (unfold am_bas am_go at hx; split at hx <;> first | (cases hx; done) | (split at hx <;> cases hx; done))
        | (unfold am_las am_go at hx; split at hx <;> first | (cases hx; done) | (split at hx <;> cases hx; done))
        | (unfold am_len am_go at hx; split at hx <;> first | (cases hx; done) | (split at hx <;> first | (cases hx; done) | (split at hx <;> cases hx; done)))
        | (unfold am_gf am_go at hx; split at hx <;> first | (cases hx; done) | (split at hx <;> first | (cases hx; done) | (split at hx <;> cases hx; done)))
        | (unfold am_pf am_go at hx; split at hx <;> first | (cases hx; done) | (split at hx <;> first | (cases hx; done) | (split at hx <;> first | (cases hx; done) | (split at hx <;> cases hx; done))))
        | (unfold am_new am_go at hx; split at hx <;> cases hx; done)
        | (unfold am_newa am_go at hx; split at hx <;> first | (cases hx; done) | (split at hx <;> cases hx; done))
        | (split at hx <;> first | (cases hx; done) | (obtain ⟨-, w⟩ := am_jmp_inv hx; cases w; done) | (split at hx <;> first | (cases hx; done) | (obtain ⟨-, w⟩ := am_jmp_inv hx; cases w; done)))
    · cases q
end
section
/-! THE CLAIM OUT OF ONE WALK OF THE LAW'S BODY. Your part is whole_start (and what it stands on); all else here is the same for every law, but numbers. -/
def R_law : String := "DictionaryTermsLaw"
def lw_P (b : Addr) (xs : List Int32) (args : Array Value) (s : State) : Prop := args = #[.ref b] ∧ s.IntsAt b xs ∧ xs.length ≤ 2560 ∧ (Jvm.Cond.and given_1 narrow_1).before args s = true
def lw_Q (_ : Array Value) (s : State) (o : Outcome) (t : State) : Prop := o = .returned (some (.int 1)) ∧ Framed s o t [] 94 11538
def lw_Z (below : List Frame) (a : Array Value) (s : State) : State → Prop := fun t => ∃ o, t.status = .running ∧ Ended t below o ∧ lw_Q a s o t
/-- the law's own end, with 1 on the stack, nothing written that was there before, its room as the claim has it -/
theorem lw_ret {p : Program} {l : Launch} {e : Env} {s : State} {m : MethodId} {below : List Frame} {meth : Method} {c : Code} {b : Nat} (hx : p.tables.exec = Jvm.exec) (hb : c.code = code) (hr : meth.sig.returnType = ret) (hlocks : meth.locks = false) {pc : Nat} {H : Heap} {ls : Array Slot} (hdg : decode code pc = .ok (.ireturn, 1)) : W p l e room_1 s m #[Value.ref b] below meth c H [] 94 11538 (lw_Z below #[Value.ref b] s) (F0 m pc ls [.int 1]) := by
  intro T hT X
  obtain ⟨fs, hret, hrun, hended, hW, hframe⟩ := X.leave (v := some (.int 1)) (hlocks := hlocks) (fun h => by rw [hr] at h; cases h)
  have hmeth' : T.vm.method? m = some meth := X.method'
  refine ⟨T.setFrames fs, ?_, .returned (some (.int 1)), hrun, hended, rfl, ⟨_, rfl⟩, hW, hframe⟩
  jvm_step X.here [X.here.top, hx, hb, hdg, hmeth', hr, ret, narrow_b1]
  (try refine ⟨rfl, ?_⟩); (try refine ⟨rfl, ?_⟩)
  first | (intro acts; rw [hret _ acts rfl rfl rfl]) | rw [hret _ _ rfl rfl rfl]
  exact Steps.refl _
/-- what holds at the law's entry: the machine, the code, the tables' words (any of lw_tbl by 'hts w (by decide +kernel)'), the script of L ints xs at the cell b, what the Statement gives of the start (any of its parts by flat_of_before) -/
def lw_At (p : Program) (s : State) (m : MethodId) (meth : Method) (c : Code) (b L : Nat) (xs : Nat → Int32) : Prop :=
  p.tables.exec = Jvm.exec ∧ c.code = code ∧ meth.sig.returnType = ret ∧ c.maxLocals = 4 ∧ s.vm.findClass R_law = some m.cls ∧ (∀ w ∈ lw_tbl, w.before #[Value.ref b] s = true) ∧ va_X b L xs s s.heap ∧ b < s.heap.size ∧ meth.locks = false ∧ (Jvm.Cond.and given_1 narrow_1).before #[Value.ref b] s = true

/-- the cells with which the law begins -/
def am_h0 (L : Nat) (xs : Nat → Int32) : am_H := ([(9, L)], fun _ _ => none, fun k j => if k = 0 then (xs j.toNat).toInt else 0, fun _ _ => 0)
/-- what is to be shown of the abstract machine -/
def am_Law (L : Nat) (xs : Nat → Int32) : Prop := ∃ h : am_H, h.1.length = 95 ∧ am_sz h.1 = 11541 ∧ am_go0 (am_call 10) 183 0 [some (.inr (.inr (some 0))), none, none, none] [] (am_h0 L xs) = some (some (.inl 1), h)
theorem am_known {s : State} {args : Array Value} (hts : ∀ w ∈ am_tb, w.before args s = true) : ∃ (D : va_G) (dA : Nat → ClassId), am_K D dA s := by
  have h1 : ∀ c : Nat, ∃ (cC : ClassId) (iS : Nat → Nat), ∀ q : vw_C, am_cl[c]? = some q → u_Kn s q.1 q.2.1 q.2.2 cC iS := by
    intro c
    by_cases hc : c < 10
    · obtain ⟨C, T, N, ty, e1, en, hu, hins, -⟩ := am_cls hc
      obtain ⟨cC, iS, h⟩ := u_known (T := T) hts hu (hts _ hins)
      refine ⟨cC, iS, fun q hq => ?_⟩
      rw [e1] at hq
      cases hq
      exact h
    · refine ⟨0, fun _ => 0, fun q hq => ?_⟩
      have := (List.getElem?_eq_some_iff.mp hq).1
      have h10 : am_cl.length = 10 := rfl
      omega
  have h2 : ∀ ty : FieldType, Cond.arrayClass ty ∈ am_tb → (∃ cA : ClassId, ArrOfT s cA ty ∧ s.vm.findClass ("[" ++ ty.toString) = some cA) := by
    intro ty hty
    obtain ⟨cA, kA, comp, hfind, hk, hkind⟩ := Cond.arrayClass_spec (hts _ hty)
    exact ⟨cA, fun n z => ⟨fun k h => (by cases h), kA, hk, comp, hkind⟩, hfind⟩
  obtain ⟨c0, a0, b0⟩ := h2 .int (am_in_tb am_all_t.1 rfl)
  obtain ⟨c1, a1, b1⟩ := h2 .long (am_in_tb am_all_t.2.1 rfl)
  obtain ⟨c2, a2, b2⟩ := h2 .boolean (am_in_tb am_all_t.2.2.1 rfl)
  refine ⟨(fun c => Classical.choose (h1 c), fun c => Classical.choose (Classical.choose_spec (h1 c))), fun k => if k = 0 then c0 else if k = 1 then c1 else c2, fun c q hq => Classical.choose_spec (Classical.choose_spec (h1 c)) q hq, fun k q hq => ?_⟩
  match k, hq with
  | 0, hq => cases hq; exact ⟨a0, b0⟩
  | 1, hq => cases hq; exact ⟨a1, b1⟩
  | 2, hq => cases hq; exact ⟨a2, b2⟩
  | k + 3, hq => simp at hq
theorem am_nest_in : Cond.methodLinkNest "DictionaryTerms" 43 ⟨"DictionaryTerms$Values", "<init>", "()V"⟩ "DictionaryTerms" ∈ lw_tbl ∧ Cond.methodLinkNest "DictionaryTerms" 59 ⟨"DictionaryTerms$Report", "<init>", "()V"⟩ "DictionaryTerms" ∈ lw_tbl := by decide +kernel
theorem am_ret_of {mt : am_M} {i : Instr} {n pc : Nat} {ls : am_Ls} {st : List am_V} {h : am_H} {y : am_Re} (hx : am_next mt i n pc ls st h = some (.inr (.inl y))) : i = .ireturn ∨ i = .lreturn ∨ i = .return_ := by
  cases i
  case ireturn => exact Or.inl rfl
  case lreturn => exact Or.inr (Or.inl rfl)
  case return_ => exact Or.inr (Or.inr rfl)
  case invokevirtual => exact (am_inv_ret hx).elim
  case invokestatic => exact (am_inv_ret hx).elim
  case invokespecial => exact (am_inv_ret hx).elim
  all_goals exfalso
  all_goals simp only [am_next] at hx
  all_goals first
    | (cases hx; done)
    | (obtain ⟨-, w⟩ := am_jmp_inv hx; cases w; done)
    | (unfold am_load am_go at hx; split at hx <;> cases hx; done)
    | (unfold am_store am_go at hx; split at hx <;> first | (cases hx; done) | (split at hx <;> cases hx; done))
    | (unfold am_bin am_go at hx; split at hx <;> cases hx; done)
    | (unfold am_binL am_go at hx; split at hx <;> cases hx; done)
    | (unfold am_ial am_go at hx; split at hx <;> first | (cases hx; done) | (split at hx <;> cases hx; done))
    | (unfold am_bal am_go at hx; split at hx <;> first | (cases hx; done) | (split at hx <;> cases hx; done))
    | (unfold am_lal am_go at hx; split at hx <;> first | (cases hx; done) | (split at hx <;> cases hx; done))
    | (unfold am_ias am_go at hx; split at hx <;> first | (cases hx; done) | (split at hx <;> cases hx; done))
    | (unfold am_bas am_go at hx; split at hx <;> first | (cases hx; done) | (split at hx <;> cases hx; done))
    | (unfold am_las am_go at hx; split at hx <;> first | (cases hx; done) | (split at hx <;> cases hx; done))
    | (unfold am_len am_go at hx; split at hx <;> first | (cases hx; done) | (split at hx <;> first | (cases hx; done) | (split at hx <;> cases hx; done)))
    | (unfold am_gf am_go at hx; split at hx <;> first | (cases hx; done) | (split at hx <;> first | (cases hx; done) | (split at hx <;> cases hx; done)))
    | (unfold am_pf am_go at hx; split at hx <;> first | (cases hx; done) | (split at hx <;> first | (cases hx; done) | (split at hx <;> first | (cases hx; done) | (split at hx <;> cases hx; done))))
    | (unfold am_new am_go at hx; split at hx <;> cases hx; done)
    | (unfold am_newa am_go at hx; split at hx <;> first | (cases hx; done) | (split at hx <;> cases hx; done))
    | (split at hx <;> first | (cases hx; done) | (obtain ⟨-, w⟩ := am_jmp_inv hx; cases w; done) | (split at hx <;> first | (cases hx; done) | (obtain ⟨-, w⟩ := am_jmp_inv hx; cases w; done)))
theorem am_start {p : Program} {e : Env} {s : State} {m : MethodId} {below : List Frame} {meth : Method} {c : Code} (l : Launch) {b L : Nat} {xs : Nat → Int32} (hlaw : am_Law L xs) (C0 : lw_At p s m meth c b L xs) : W p l e room_1 s m #[Value.ref b] below meth c s.heap [] 0 0 (lw_Z below #[Value.ref b] s) (entryFrame m ([Value.ref b] : List Value).toArray 4) := by
  obtain ⟨hx, hb, hr, hml, hown, hts, hX, hbl, hlocks, hgv⟩ := C0
  obtain ⟨h9, hl9, hz9, hrun⟩ := hlaw
  obtain ⟨n, hrun⟩ := am_go0_iff.mp hrun
  have htb : ∀ w ∈ am_tb, w.before #[Value.ref b] s = true := fun w hw => hts w (List.mem_filter.mp hw).1
  obtain ⟨D, dA, K⟩ := am_known htb
  have hm : am_ml[183]? = some (⟨"DictionaryTermsLaw", "law", "([I)Z"⟩, code, 4, (some .boolean), 10) := rfl
  have C : am_Cx p s m #[Value.ref b] meth c (⟨"DictionaryTermsLaw", "law", "([I)Z"⟩, code, 4, (some .boolean), 10) := ⟨hx, hb, hml, hown, htb, fun w => absurd w (by decide), ⟨va_Nw.of rfl (hts _ am_nest_in.1), va_Nw.of rfl (hts _ am_nest_in.2)⟩, List.mem_of_getElem? hm⟩
  obtain ⟨base, hbase⟩ : ∃ base, s.heap.size = base + 1 := ⟨s.heap.size - 1, by omega⟩
  have e0 : am_re base b (.inr (.inr (some 0))) = .ref b := rfl
  have has : am_rgS [.inr (.inr (some 0))] := fun x hx => by simp at hx
  have hent := am_entry base b 4 (as := [.inr (.inr (some 0))]) (by decide) has
  rw [lg_entry_eq]
  have hP : am_P base b D dA (am_h0 L xs) s.heap := by
    refine ⟨hbase, fun k q h0 hq => ?_⟩
    have : k < 1 := (List.getElem?_eq_some_iff.mp hq).1
    omega
  have hS : va_S (fun q => base < q) s.heap s.heap [] := va_S.rf
  have hrg : am_rgH (am_h0 L xs) := by
    intro k j
    show am_rg (if k = 0 then (xs j.toNat).toInt else 0)
    split
    · exact am_rg_to _
    · exact am_rg0
  have hXs : am_Xs (⟨"DictionaryTermsLaw", "law", "([I)Z"⟩, code, 4, (some .boolean), 10) b base s (am_h0 L xs) := by
    intro _ n hn
    cases hn
    refine ⟨?_, hbl, by omega⟩
    have e : (fun j : Nat => Int32.ofInt ((am_h0 L xs).2.2.1 0 j)) = xs := by
      funext j
      show Int32.ofInt (if (0 : Nat) = 0 then (xs ((j : Int).toNat)).toInt else 0) = xs j
      rw [if_pos rfl, Int32.ofInt_toInt, Int.toNat_natCast]
    rw [e]
    exact hX
  have hz0 : am_sz [(9, L)] = 3 := rfl
  refine am_runW (base := base) (b := b) (n0 := 1) (z0 := 3) (R := room_1) (am_sound 10) hm C K ⟨by decide, by decide⟩ (some (.inl 1), h9) ⟨by show h9.1.length ≤ 1 + 94; omega, by show am_sz h9.1 ≤ 3 + 11538; omega⟩ ?_ n 0 _ [] (am_h0 L xs) hrun hXs _ s.heap [] 0 0 hent (fun x hx => by cases hx) ⟨hP, hS, rfl, hz0.symm, hrg, ⟨L, rfl⟩, by omega⟩
  intro pc i k ls st h8 sl H locs cells slots hd hlok hx9 hrp hst
  obtain ⟨a1, a2, a3, a4, a5, a6, a7⟩ := hrp
  rcases am_ret_of hx9 with rfl | rfl | rfl
  · have hk1 : k = 1 := by simpa [am_lok] using hlok
    subst hk1
    simp only [am_next, am_ret] at hx9
    split at hx9
    · next z hz => cases hz
    · next z hz =>
      split at hx9
      · cases hx9
        have f1 : cells ≤ 94 := by omega
        have f2 : slots ≤ 11538 := by omega
        refine va_forget (fun q hq => by have := a2.2.2 q hq; omega) ?_
        refine W.widen (k := 94) (n := 11538) f1 f2 ?_
        exact lw_ret hx hb hr hlocks hd
      · cases hx9
    · cases hx9
  · simp only [am_next] at hx9
    cases hx9
  · simp only [am_next] at hx9
    cases hx9
end
section
/-- the law of the abstract machine (to be shown) -/
theorem am_law (L : Nat) (hL : L ≤ 2560) (xs : Nat → Int32) : am_Law L xs := by
  sorry
theorem whole_start {p : Program} {e : Env} {s : State} {m : MethodId} {below : List Frame} {meth : Method} {c : Code} (l : Launch) {b L : Nat} {xs : Nat → Int32} (hL : L ≤ 2560) (C0 : lw_At p s m meth c b L xs) : W p l e room_1 s m #[Value.ref b] below meth c s.heap [] 0 0 (lw_Z below #[Value.ref b] s) (entryFrame m ([Value.ref b] : List Value).toArray 4) := am_start l (am_law L hL xs) C0
-- ===== YOUR PART ENDS =====
set_option maxHeartbeats 4000000 in
theorem lw_walk (l : Launch) (b : Addr) (xs : List Int32) : MetFree l x (headSpec (Jvm.Cond.code x code maxLocals ret :: tables_1) room_1) (lw_P b xs) (fun _ _ _ _ _ => True) lw_Q := by
  refine MetFree.of_bodyS (code := code) (maxLocals := maxLocals) (ret := ret) (by decide) ?_ ?_
  · intro args s m h hn
    obtain ⟨meth, c, h1, h2, h3, h4, h5, h6, -, -⟩ := Cond.code_spec hn (atoms_spec (ws := Jvm.Cond.code x code maxLocals ret :: tables_1) h _ List.mem_cons_self)
    exact ⟨meth, c, h1, h2, h3, h4, h5, h6⟩
  · intro p e s m args below meth c s₁ B hml0 hP _
    obtain ⟨rfl, hx, hbd, hgv⟩ := hP
    obtain ⟨scr, harrAt, hlist, hof, hsmall⟩ := hx
    obtain ⟨hcb, hkn, -, -⟩ := State.arrayAt?_spec harrAt
    have hown : s.vm.findClass R_law = some m.cls := findClass_of_methodNamed B.named
    have hts0 : ∀ c ∈ (Jvm.Cond.code x code maxLocals ret :: tables_1), c.before #[Value.ref b] s = true := atoms_spec (ws := Jvm.Cond.code x code maxLocals ret :: tables_1) B.pre
    have hts : ∀ w ∈ lw_tbl, w.before #[Value.ref b] s = true := k2_hts_sels lw_privs (fun w hw => hts0 w (List.mem_cons_of_mem _ hw)) lw_privs_ok
    have hml : c.maxLocals = 4 := B.maxLocals_eq (hts0 _ List.mem_cons_self)
    have X₀ : Stand p l e room_1 s m #[Value.ref b] below meth c s₁ [] 0 0 := Stand.of_body B
    have hh0 : s₁.heap = s.heap := by rw [B.state]; rfl
    have hsz : scr.slots.size = xs.length := by rw [← Array.length_toList, hlist, List.length_map]
    have hval : ∀ j : Nat, j < xs.length → scr.slots[j]? = some (.int (xs.getD j 0)) := fun j hj => by
      rw [← Array.getElem?_toList, hlist]
      simp [hj]
    have hbl : b < s.heap.size := (Array.getElem?_eq_some_iff.mp hcb).1
    have hX : va_X b xs.length (fun j => xs.getD j 0) s s.heap := ⟨scr, hcb, hof, hkn, hsz, hval⟩
    have K : W p l e room_1 s m #[Value.ref b] below meth c s₁.heap [] 0 0 (lw_Z below #[Value.ref b] s) (entryFrame m ([Value.ref b] : List Value).toArray 4) := by
      rw [hh0]
      exact whole_start l hbd ⟨B.exec, B.bytes, B.returns, hml, hown, hts, hX, hbl, B.notSynchronized, hgv⟩
    obtain ⟨t, a1, o, b1, b2, b3⟩ := K s₁ rfl X₀
    exact ⟨t, o, a1, b1, b2, b3⟩
theorem lw_pre_spec {args : Array Value} {s : State} (h : (Jvm.Cond.and given_1 narrow_1).before args s = true) (hr : rest_1_c.before args s = true) : ∃ (b : Addr) (xs : List Int32), lw_P b xs args s := by
  have hs := flat_of_before _ h
  have hq := flat_of_before _ hr
  have hc : (Cond.count 1).before args s = true := hs _ (by decide +kernel)
  have harr : (Cond.arrayOf (.arg 0) .int).before args s = true := hs _ (by decide +kernel)
  have hle : (Cond.le (.length (.arg 0)) (.int 2560)).before args s = true := hs _ (by decide +kernel)
  have hlen : (Cond.isInt (.length (.arg 0))).before args s = true := hq _ (by decide +kernel)
  have hall : (Cond.all (.arg 0) (.isInt (.elem (.arg 0) (.index 0)))).before args s = true := hq _ (by decide +kernel)
  obtain ⟨b, xs, hb, hx⟩ := State.ints_of_pre rfl harr hlen hall
  have hsm : xs.length < 2 ^ 31 := hx.choose_spec.2.2.2
  have hev : (Term.length (.arg 0)).eval args s none [] s = some (.int xs.length.toInt32) := hx.length_eval hb
  have hv := Cond.le_ints hev (show (Term.int 2560).eval args s none [] s = some (.int 2560) from rfl)
  have hd : xs.length.toInt32 ≤ 2560 := by
    simpa [Cond.before, Cond.holds, hv] using hle
  have hN : xs.length ≤ 2560 := (Int32.ofNat_le_ofNat hsm (by decide)).mp (show Int32.ofNat xs.length ≤ Int32.ofNat 2560 from hd)
  exact ⟨b, xs, Cond.one_arg hc (show args[0]? = some (.ref b) from hb), hx, hN, h⟩
theorem lw_comes (l : Launch) : Comes l x (Jvm.Cond.code x code maxLocals ret :: tables_1) room_1 (fun tb e args s => Calls_1 tb e args s ∧ rest_1 tb e args s ∧ Pre_1 tb e args s)
    (fun _ _ args s o t => lw_Q args s o t) := by
  intro p e ha hc hk s m args below hf hfit hheap happ hpre
  obtain ⟨b, xs, hP⟩ := lw_pre_spec hpre.2.2 hpre.2.1
  obtain ⟨k, o, h1, h2, h3, hQ⟩ := lw_walk l b xs p e ha hc hk s m args below hf ((Spec.applies_iff_loose hf).mp happ).1 hP trivial
  exact ⟨k, o, h1, h2, h3, hQ⟩
theorem lw_frame {s t : State} {o : Outcome} {args : Array Value} (h : Framed s o t [] 94 11538) :
    Framed s o t (fieldLocs frame_1_writes args s ++ arrayLocs frame_1_arrays args s ++ staticLocs frame_1_statics s) 94 11538 := h
theorem lw_limb (L : Cond) (hL : ∀ (args : Array Value) (s t : State), L.after args s (.returned (some (.int 1))) t = true) :
    ArmFor flags0 classFile x code maxLocals ret World_1 tables_1 room_1 Calls_1 rest_1 Pre_1
      (fun tb e a s o t => postC L tb e a s o t ∧ Framed s o t (fieldLocs frame_1_writes a s ++ arrayLocs frame_1_arrays a s ++ staticLocs frame_1_statics s) 94 11538) := by
  intro l _ _ _ p e ha hc hk s m args below hf hfit hheap happ hpre
  obtain ⟨k, o, h1, h2, h3, rfl, hF⟩ := lw_comes l p e ha hc hk s m args below hf hfit hheap happ hpre
  exact ⟨k, _, h1, h2, h3, hL args s _, lw_frame hF⟩
theorem i_vc : Claimed_1_1 ∧ Claimed_1_2 := ⟨lw_limb limb_1_1 (fun args s t => by simp [limb_1_1, Cond.after, Cond.holds, Cond.value]), lw_limb limb_1_2 (fun args s t => Cond.after_iff.mpr (by
  first | (rw [show limb_1_2 = Cond.eq .result (.int 1) from rfl, Cond.eq_ints (x := 1) (y := 1) rfl rfl]; simp; done) | (simp [limb_1_2, Cond.value, Term.eval]; done)))⟩
end
