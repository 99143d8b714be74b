/-! Where the code of each method stands among the words. -/
set_option maxRecDepth 100000 in
theorem am_w0 : lw_tbl[123]? = some (Cond.code ⟨"DictionaryTerms$Classes", "<init>", "()V"⟩ prog_2_method_1_code 1 none) := rfl
set_option maxRecDepth 100000 in
theorem am_w1 : lw_tbl[432]? = some (Cond.code ⟨"DictionaryTerms$Classes", "add", "(I)I"⟩ prog_2_method_9_code 2 (some .int)) := rfl
set_option maxRecDepth 100000 in
theorem am_w2 : lw_tbl[448]? = some (Cond.code ⟨"DictionaryTerms$Classes", "addSuper", "(II)I"⟩ prog_2_method_10_code 3 (some .int)) := rfl
set_option maxRecDepth 100000 in
theorem am_w3 : lw_tbl[452]? = some (Cond.code ⟨"DictionaryTerms$Classes", "has", "(I)Z"⟩ prog_2_method_3_code 2 (some .boolean)) := rfl
set_option maxRecDepth 100000 in
theorem am_w4 : lw_tbl[456]? = some (Cond.code ⟨"DictionaryTerms$Classes", "hasAsSuper", "(II)Z"⟩ prog_2_method_11_code 4 (some .boolean)) := rfl
set_option maxRecDepth 100000 in
theorem am_w5 : lw_tbl[460]? = some (Cond.code ⟨"DictionaryTerms$Classes", "superAt", "(II)I"⟩ prog_2_method_6_code 3 (some .int)) := rfl
set_option maxRecDepth 100000 in
theorem am_w6 : lw_tbl[515]? = some (Cond.code ⟨"DictionaryTerms$Classes", "hasMember", "(II)Z"⟩ prog_2_method_4_code 3 (some .boolean)) := rfl
set_option maxRecDepth 100000 in
theorem am_w7 : lw_tbl[560]? = some (Cond.code ⟨"DictionaryTerms$Classes", "supersOf", "(I)I"⟩ prog_2_method_5_code 2 (some .int)) := rfl
set_option maxRecDepth 100000 in
theorem am_w8 : lw_tbl[585]? = some (Cond.code ⟨"DictionaryTerms$Classes", "setStandard", "(III)V"⟩ prog_2_method_8_code 4 none) := rfl
set_option maxRecDepth 100000 in
theorem am_w9 : lw_tbl[745]? = some (Cond.code ⟨"DictionaryTerms$Classes", "standardOf", "(II)I"⟩ prog_2_method_7_code 3 (some .int)) := rfl
set_option maxRecDepth 100000 in
theorem am_w10 : lw_tbl[901]? = some (Cond.code ⟨"DictionaryTerms$Classes", "made", "()I"⟩ prog_2_method_2_code 1 (some .int)) := rfl
set_option maxRecDepth 100000 in
theorem am_w11 : lw_tbl[238]? = some (Cond.code ⟨"DictionaryTerms$Dictionaries", "<init>", "(LDictionaryTerms$Types;LDictionaryTerms$Classes;LDictionaryTerms$Instances;LDictionaryTerms$Values;)V"⟩ prog_3_method_1_code 5 none) := rfl
set_option maxRecDepth 100000 in
theorem am_w12 : lw_tbl[440]? = some (Cond.code ⟨"DictionaryTerms$Dictionaries", "takeAway", "()V"⟩ prog_3_method_12_code 1 none) := rfl
set_option maxRecDepth 100000 in
theorem am_w13 : lw_tbl[599]? = some (Cond.code ⟨"DictionaryTerms$Dictionaries", "make", "(II)I"⟩ prog_3_method_13_code 11 (some .int)) := rfl
set_option maxRecDepth 100000 in
theorem am_w14 : lw_tbl[603]? = some (Cond.code ⟨"DictionaryTerms$Dictionaries", "find", "(II)I"⟩ prog_3_method_14_code 4 (some .int)) := rfl
set_option maxRecDepth 100000 in
theorem am_w15 : lw_tbl[607]? = some (Cond.code ⟨"DictionaryTerms$Dictionaries", "begin", "(II)I"⟩ prog_3_method_15_code 4 (some .int)) := rfl
set_option maxRecDepth 100000 in
theorem am_w16 : lw_tbl[624]? = some (Cond.code ⟨"DictionaryTerms$Dictionaries", "partsOf", "(I)I"⟩ prog_3_method_7_code 2 (some .int)) := rfl
set_option maxRecDepth 100000 in
theorem am_w17 : lw_tbl[630]? = some (Cond.code ⟨"DictionaryTerms$Dictionaries", "partClass", "(II)I"⟩ prog_3_method_16_code 4 (some .int)) := rfl
set_option maxRecDepth 100000 in
theorem am_w18 : lw_tbl[636]? = some (Cond.code ⟨"DictionaryTerms$Dictionaries", "partType", "(II)I"⟩ prog_3_method_17_code 4 (some .int)) := rfl
set_option maxRecDepth 100000 in
theorem am_w19 : lw_tbl[652]? = some (Cond.code ⟨"DictionaryTerms$Dictionaries", "lackingClass", "()I"⟩ prog_3_method_10_code 1 (some .int)) := rfl
set_option maxRecDepth 100000 in
theorem am_w20 : lw_tbl[656]? = some (Cond.code ⟨"DictionaryTerms$Dictionaries", "lackingType", "()I"⟩ prog_3_method_11_code 1 (some .int)) := rfl
set_option maxRecDepth 100000 in
theorem am_w21 : lw_tbl[664]? = some (Cond.code ⟨"DictionaryTerms$Dictionaries", "has", "(I)Z"⟩ prog_3_method_3_code 2 (some .boolean)) := rfl
set_option maxRecDepth 100000 in
theorem am_w22 : lw_tbl[669]? = some (Cond.code ⟨"DictionaryTerms$Dictionaries", "partAt", "(II)I"⟩ prog_3_method_8_code 3 (some .int)) := rfl
set_option maxRecDepth 100000 in
theorem am_w23 : lw_tbl[677]? = some (Cond.code ⟨"DictionaryTerms$Dictionaries", "classOf", "(I)I"⟩ prog_3_method_4_code 2 (some .int)) := rfl
set_option maxRecDepth 100000 in
theorem am_w24 : lw_tbl[681]? = some (Cond.code ⟨"DictionaryTerms$Dictionaries", "typeAt", "(I)I"⟩ prog_3_method_5_code 2 (some .int)) := rfl
set_option maxRecDepth 100000 in
theorem am_w25 : lw_tbl[685]? = some (Cond.code ⟨"DictionaryTerms$Dictionaries", "instanceOf", "(I)I"⟩ prog_3_method_6_code 2 (some .int)) := rfl
set_option maxRecDepth 100000 in
theorem am_w26 : lw_tbl[689]? = some (Cond.code ⟨"DictionaryTerms$Dictionaries", "hangingOn", "(I)I"⟩ prog_3_method_18_code 6 (some .int)) := rfl
set_option maxRecDepth 100000 in
theorem am_w27 : lw_tbl[817]? = some (Cond.code ⟨"DictionaryTerms$Dictionaries", "superPartAt", "(II)I"⟩ prog_3_method_9_code 3 (some .int)) := rfl
set_option maxRecDepth 100000 in
theorem am_w28 : lw_tbl[913]? = some (Cond.code ⟨"DictionaryTerms$Dictionaries", "made", "()I"⟩ prog_3_method_2_code 1 (some .int)) := rfl
set_option maxRecDepth 100000 in
theorem am_w29 : lw_tbl[148]? = some (Cond.code ⟨"DictionaryTerms$Instances", "<init>", "(LDictionaryTerms$Types;LDictionaryTerms$Classes;)V"⟩ prog_4_method_1_code 3 none) := rfl
set_option maxRecDepth 100000 in
theorem am_w30 : lw_tbl[468]? = some (Cond.code ⟨"DictionaryTerms$Instances", "add", "(II)I"⟩ prog_4_method_12_code 3 (some .int)) := rfl
set_option maxRecDepth 100000 in
theorem am_w31 : lw_tbl[474]? = some (Cond.code ⟨"DictionaryTerms$Instances", "find", "(II)I"⟩ prog_4_method_11_code 4 (some .int)) := rfl
set_option maxRecDepth 100000 in
theorem am_w32 : lw_tbl[482]? = some (Cond.code ⟨"DictionaryTerms$Instances", "addContext", "(III)I"⟩ prog_4_method_13_code 5 (some .int)) := rfl
set_option maxRecDepth 100000 in
theorem am_w33 : lw_tbl[486]? = some (Cond.code ⟨"DictionaryTerms$Instances", "has", "(I)Z"⟩ prog_4_method_3_code 2 (some .boolean)) := rfl
set_option maxRecDepth 100000 in
theorem am_w34 : lw_tbl[490]? = some (Cond.code ⟨"DictionaryTerms$Instances", "placesOf", "(I)I"⟩ prog_4_method_5_code 2 (some .int)) := rfl
set_option maxRecDepth 100000 in
theorem am_w35 : lw_tbl[533]? = some (Cond.code ⟨"DictionaryTerms$Instances", "classOf", "(I)I"⟩ prog_4_method_4_code 2 (some .int)) := rfl
set_option maxRecDepth 100000 in
theorem am_w36 : lw_tbl[552]? = some (Cond.code ⟨"DictionaryTerms$Instances", "contextsOf", "(I)I"⟩ prog_4_method_6_code 2 (some .int)) := rfl
set_option maxRecDepth 100000 in
theorem am_w37 : lw_tbl[556]? = some (Cond.code ⟨"DictionaryTerms$Instances", "contextClassAt", "(II)I"⟩ prog_4_method_7_code 3 (some .int)) := rfl
set_option maxRecDepth 100000 in
theorem am_w38 : lw_tbl[573]? = some (Cond.code ⟨"DictionaryTerms$Instances", "setBody", "(III)V"⟩ prog_4_method_10_code 4 none) := rfl
set_option maxRecDepth 100000 in
theorem am_w39 : lw_tbl[640]? = some (Cond.code ⟨"DictionaryTerms$Instances", "contextVariableAt", "(II)I"⟩ prog_4_method_8_code 3 (some .int)) := rfl
set_option maxRecDepth 100000 in
theorem am_w40 : lw_tbl[740]? = some (Cond.code ⟨"DictionaryTerms$Instances", "bodyOf", "(II)I"⟩ prog_4_method_9_code 3 (some .int)) := rfl
set_option maxRecDepth 100000 in
theorem am_w41 : lw_tbl[905]? = some (Cond.code ⟨"DictionaryTerms$Instances", "made", "()I"⟩ prog_4_method_2_code 1 (some .int)) := rfl
set_option maxRecDepth 100000 in
theorem am_w42 : lw_tbl[183]? = some (Cond.code ⟨"DictionaryTerms$Nodes", "<init>", "(LDictionaryTerms$Types;LDictionaryTerms$Classes;LDictionaryTerms$Instances;)V"⟩ prog_5_method_1_code 4 none) := rfl
set_option maxRecDepth 100000 in
theorem am_w43 : lw_tbl[502]? = some (Cond.code ⟨"DictionaryTerms$Nodes", "add", "(IIII)I"⟩ prog_5_method_7_code 6 (some .int)) := rfl
set_option maxRecDepth 100000 in
theorem am_w44 : lw_tbl[506]? = some (Cond.code ⟨"DictionaryTerms$Nodes", "isAsTold", "(IIII)Z"⟩ prog_5_method_8_code 5 (some .boolean)) := rfl
set_option maxRecDepth 100000 in
theorem am_w45 : lw_tbl[510]? = some (Cond.code ⟨"DictionaryTerms$Nodes", "isIndex", "(I)Z"⟩ prog_5_method_10_code 2 (some .boolean)) := rfl
set_option maxRecDepth 100000 in
theorem am_w46 : lw_tbl[519]? = some (Cond.code ⟨"DictionaryTerms$Nodes", "has", "(I)Z"⟩ prog_5_method_9_code 2 (some .boolean)) := rfl
set_option maxRecDepth 100000 in
theorem am_w47 : lw_tbl[523]? = some (Cond.code ⟨"DictionaryTerms$Nodes", "heightOver", "(IIII)I"⟩ prog_5_method_11_code 6 (some .int)) := rfl
set_option maxRecDepth 100000 in
theorem am_w48 : lw_tbl[538]? = some (Cond.code ⟨"DictionaryTerms$Nodes", "fitsInstance", "(II)Z"⟩ prog_5_method_12_code 3 (some .boolean)) := rfl
set_option maxRecDepth 100000 in
theorem am_w49 : lw_tbl[544]? = some (Cond.code ⟨"DictionaryTerms$Nodes", "fits", "(IIII)Z"⟩ prog_5_method_14_code 6 (some .boolean)) := rfl
set_option maxRecDepth 100000 in
theorem am_w50 : lw_tbl[548]? = some (Cond.code ⟨"DictionaryTerms$Nodes", "namesWhatIsThere", "(IIII)Z"⟩ prog_5_method_15_code 7 (some .boolean)) := rfl
set_option maxRecDepth 100000 in
theorem am_w51 : lw_tbl[569]? = some (Cond.code ⟨"DictionaryTerms$Nodes", "markInside", "(I)V"⟩ prog_5_method_16_code 2 none) := rfl
set_option maxRecDepth 100000 in
theorem am_w52 : lw_tbl[581]? = some (Cond.code ⟨"DictionaryTerms$Nodes", "fitsClass", "(II)Z"⟩ prog_5_method_13_code 3 (some .boolean)) := rfl
set_option maxRecDepth 100000 in
theorem am_w53 : lw_tbl[768]? = some (Cond.code ⟨"DictionaryTerms$Nodes", "kindOf", "(I)I"⟩ prog_5_method_3_code 2 (some .int)) := rfl
set_option maxRecDepth 100000 in
theorem am_w54 : lw_tbl[772]? = some (Cond.code ⟨"DictionaryTerms$Nodes", "firstOf", "(I)I"⟩ prog_5_method_4_code 2 (some .int)) := rfl
set_option maxRecDepth 100000 in
theorem am_w55 : lw_tbl[792]? = some (Cond.code ⟨"DictionaryTerms$Nodes", "secondOf", "(I)I"⟩ prog_5_method_5_code 2 (some .int)) := rfl
set_option maxRecDepth 100000 in
theorem am_w56 : lw_tbl[796]? = some (Cond.code ⟨"DictionaryTerms$Nodes", "thirdOf", "(I)I"⟩ prog_5_method_6_code 2 (some .int)) := rfl
set_option maxRecDepth 100000 in
theorem am_w57 : lw_tbl[909]? = some (Cond.code ⟨"DictionaryTerms$Nodes", "made", "()I"⟩ prog_5_method_2_code 1 (some .int)) := rfl
set_option maxRecDepth 100000 in
theorem am_w58 : lw_tbl[287]? = some (Cond.code ⟨"DictionaryTerms$Report", "<init>", "()V"⟩ prog_6_method_1_code 1 none) := rfl
set_option maxRecDepth 100000 in
theorem am_w59 : lw_tbl[702]? = some (Cond.code ⟨"DictionaryTerms$Report", "refuse", "()V"⟩ prog_6_method_3_code 1 none) := rfl
set_option maxRecDepth 100000 in
theorem am_w60 : lw_tbl[706]? = some (Cond.code ⟨"DictionaryTerms$Report", "start", "()V"⟩ prog_6_method_2_code 1 none) := rfl
set_option maxRecDepth 100000 in
theorem am_w61 : lw_tbl[731]? = some (Cond.code ⟨"DictionaryTerms$Report", "tellFault", "(III)V"⟩ prog_6_method_4_code 4 none) := rfl
set_option maxRecDepth 100000 in
theorem am_w62 : lw_tbl[784]? = some (Cond.code ⟨"DictionaryTerms$Report", "tellStep", "(II)V"⟩ prog_6_method_5_code 3 none) := rfl
set_option maxRecDepth 100000 in
theorem am_w63 : lw_tbl[760]? = some (Cond.code ⟨"DictionaryTerms$Report", "fault", "()I"⟩ prog_6_method_6_code 1 (some .int)) := rfl
set_option maxRecDepth 100000 in
theorem am_w64 : lw_tbl[855]? = some (Cond.code ⟨"DictionaryTerms$Report", "faultDictionary", "()I"⟩ prog_6_method_7_code 1 (some .int)) := rfl
set_option maxRecDepth 100000 in
theorem am_w65 : lw_tbl[859]? = some (Cond.code ⟨"DictionaryTerms$Report", "faultMember", "()I"⟩ prog_6_method_8_code 1 (some .int)) := rfl
set_option maxRecDepth 100000 in
theorem am_w66 : lw_tbl[867]? = some (Cond.code ⟨"DictionaryTerms$Report", "stepDictionary", "(I)I"⟩ prog_6_method_10_code 2 (some .int)) := rfl
set_option maxRecDepth 100000 in
theorem am_w67 : lw_tbl[871]? = some (Cond.code ⟨"DictionaryTerms$Report", "stepMember", "(I)I"⟩ prog_6_method_11_code 2 (some .int)) := rfl
set_option maxRecDepth 100000 in
theorem am_w68 : lw_tbl[917]? = some (Cond.code ⟨"DictionaryTerms$Report", "stepsTold", "()I"⟩ prog_6_method_9_code 1 (some .int)) := rfl
set_option maxRecDepth 100000 in
theorem am_w69 : lw_tbl[84]? = some (Cond.code ⟨"DictionaryTerms$Types", "<init>", "()V"⟩ prog_7_method_1_code 2 none) := rfl
set_option maxRecDepth 100000 in
theorem am_w70 : lw_tbl[89]? = some (Cond.code ⟨"DictionaryTerms$Types", "addRow", "(IIII)I"⟩ prog_7_method_14_code 5 (some .int)) := rfl
set_option maxRecDepth 100000 in
theorem am_w71 : lw_tbl[401]? = some (Cond.code ⟨"DictionaryTerms$Types", "addConstructor", "(I)I"⟩ prog_7_method_11_code 2 (some .int)) := rfl
set_option maxRecDepth 100000 in
theorem am_w72 : lw_tbl[409]? = some (Cond.code ⟨"DictionaryTerms$Types", "addType", "(III)I"⟩ prog_7_method_12_code 5 (some .int)) := rfl
set_option maxRecDepth 100000 in
theorem am_w73 : lw_tbl[413]? = some (Cond.code ⟨"DictionaryTerms$Types", "hasConstructor", "(I)Z"⟩ prog_7_method_4_code 2 (some .boolean)) := rfl
set_option maxRecDepth 100000 in
theorem am_w74 : lw_tbl[417]? = some (Cond.code ⟨"DictionaryTerms$Types", "has", "(I)Z"⟩ prog_7_method_5_code 2 (some .boolean)) := rfl
set_option maxRecDepth 100000 in
theorem am_w75 : lw_tbl[421]? = some (Cond.code ⟨"DictionaryTerms$Types", "findOrAdd", "(III)I"⟩ prog_7_method_13_code 6 (some .int)) := rfl
set_option maxRecDepth 100000 in
theorem am_w76 : lw_tbl[494]? = some (Cond.code ⟨"DictionaryTerms$Types", "placesOf", "(I)I"⟩ prog_7_method_6_code 2 (some .int)) := rfl
set_option maxRecDepth 100000 in
theorem am_w77 : lw_tbl[565]? = some (Cond.code ⟨"DictionaryTerms$Types", "needsOnlyBelow", "(II)Z"⟩ prog_7_method_10_code 3 (some .boolean)) := rfl
set_option maxRecDepth 100000 in
theorem am_w78 : lw_tbl[595]? = some (Cond.code ⟨"DictionaryTerms$Types", "isClosed", "(I)Z"⟩ prog_7_method_9_code 2 (some .boolean)) := rfl
set_option maxRecDepth 100000 in
theorem am_w79 : lw_tbl[611]? = some (Cond.code ⟨"DictionaryTerms$Types", "constructorOf", "(I)I"⟩ prog_7_method_7_code 2 (some .int)) := rfl
set_option maxRecDepth 100000 in
theorem am_w80 : lw_tbl[644]? = some (Cond.code ⟨"DictionaryTerms$Types", "argument", "(II)I"⟩ prog_7_method_8_code 3 (some .int)) := rfl
set_option maxRecDepth 100000 in
theorem am_w81 : lw_tbl[821]? = some (Cond.code ⟨"DictionaryTerms$Types", "putIn", "(III)I"⟩ prog_7_method_15_code 9 (some .int)) := rfl
set_option maxRecDepth 100000 in
theorem am_w82 : lw_tbl[825]? = some (Cond.code ⟨"DictionaryTerms$Types", "argumentToRebuild", "(I)I"⟩ prog_7_method_16_code 4 (some .int)) := rfl
set_option maxRecDepth 100000 in
theorem am_w83 : lw_tbl[829]? = some (Cond.code ⟨"DictionaryTerms$Types", "imageOf", "(I)I"⟩ prog_7_method_17_code 2 (some .int)) := rfl
set_option maxRecDepth 100000 in
theorem am_w84 : lw_tbl[893]? = some (Cond.code ⟨"DictionaryTerms$Types", "constructorsMade", "()I"⟩ prog_7_method_2_code 1 (some .int)) := rfl
set_option maxRecDepth 100000 in
theorem am_w85 : lw_tbl[897]? = some (Cond.code ⟨"DictionaryTerms$Types", "typesMade", "()I"⟩ prog_7_method_3_code 1 (some .int)) := rfl
set_option maxRecDepth 100000 in
theorem am_w86 : lw_tbl[221]? = some (Cond.code ⟨"DictionaryTerms$Values", "<init>", "()V"⟩ prog_8_method_1_code 1 none) := rfl
set_option maxRecDepth 100000 in
theorem am_w87 : lw_tbl[616]? = some (Cond.code ⟨"DictionaryTerms$Values", "clear", "(I)V"⟩ prog_8_method_3_code 3 none) := rfl
set_option maxRecDepth 100000 in
theorem am_w88 : lw_tbl[620]? = some (Cond.code ⟨"DictionaryTerms$Values", "cell", "(II)I"⟩ prog_8_method_2_code 3 (some .int)) := rfl
set_option maxRecDepth 100000 in
theorem am_w89 : lw_tbl[719]? = some (Cond.code ⟨"DictionaryTerms$Values", "isWorked", "(II)Z"⟩ prog_8_method_4_code 3 (some .boolean)) := rfl
set_option maxRecDepth 100000 in
theorem am_w90 : lw_tbl[723]? = some (Cond.code ⟨"DictionaryTerms$Values", "workedTo", "(II)J"⟩ prog_8_method_6_code 3 (some .long)) := rfl
set_option maxRecDepth 100000 in
theorem am_w91 : lw_tbl[727]? = some (Cond.code ⟨"DictionaryTerms$Values", "isBeingWorked", "(II)Z"⟩ prog_8_method_5_code 3 (some .boolean)) := rfl
set_option maxRecDepth 100000 in
theorem am_w92 : lw_tbl[846]? = some (Cond.code ⟨"DictionaryTerms$Values", "giveUp", "(II)V"⟩ prog_8_method_10_code 3 none) := rfl
set_option maxRecDepth 100000 in
theorem am_w93 : lw_tbl[750]? = some (Cond.code ⟨"DictionaryTerms$Values", "begin", "(II)V"⟩ prog_8_method_8_code 3 none) := rfl
set_option maxRecDepth 100000 in
theorem am_w94 : lw_tbl[780]? = some (Cond.code ⟨"DictionaryTerms$Values", "end", "(IIJ)V"⟩ prog_8_method_9_code 5 none) := rfl
set_option maxRecDepth 100000 in
theorem am_w95 : lw_tbl[879]? = some (Cond.code ⟨"DictionaryTerms$Values", "begunOf", "(II)I"⟩ prog_8_method_7_code 3 (some .int)) := rfl
set_option maxRecDepth 100000 in
theorem am_w96 : lw_tbl[312]? = some (Cond.code ⟨"DictionaryTerms$Worker", "<init>", "(LDictionaryTerms$Types;LDictionaryTerms$Nodes;LDictionaryTerms$Instances;LDictionaryTerms$Classes;LDictionaryTerms$Values;LDictionaryTerms$Dictionaries;LDictionaryTerms$Report;)V"⟩ prog_9_method_1_code 8 none) := rfl
set_option maxRecDepth 100000 in
theorem am_w97 : lw_tbl[710]? = some (Cond.code ⟨"DictionaryTerms$Worker", "work", "(II)J"⟩ prog_9_method_2_code 4 (some .long)) := rfl
set_option maxRecDepth 100000 in
theorem am_w98 : lw_tbl[715]? = some (Cond.code ⟨"DictionaryTerms$Worker", "need", "(II)V"⟩ prog_9_method_4_code 3 none) := rfl
set_option maxRecDepth 100000 in
theorem am_w99 : lw_tbl[842]? = some (Cond.code ⟨"DictionaryTerms$Worker", "giveUpAll", "()V"⟩ prog_9_method_3_code 2 none) := rfl
set_option maxRecDepth 100000 in
theorem am_w100 : lw_tbl[735]? = some (Cond.code ⟨"DictionaryTerms$Worker", "beginMember", "(II)V"⟩ prog_9_method_5_code 6 none) := rfl
set_option maxRecDepth 100000 in
theorem am_w101 : lw_tbl[755]? = some (Cond.code ⟨"DictionaryTerms$Worker", "openUp", "(I)V"⟩ prog_9_method_6_code 2 none) := rfl
set_option maxRecDepth 100000 in
theorem am_w102 : lw_tbl[764]? = some (Cond.code ⟨"DictionaryTerms$Worker", "advance", "()V"⟩ prog_9_method_7_code 4 none) := rfl
set_option maxRecDepth 100000 in
theorem am_w103 : lw_tbl[776]? = some (Cond.code ⟨"DictionaryTerms$Worker", "endNode", "(J)V"⟩ prog_9_method_11_code 3 none) := rfl
set_option maxRecDepth 100000 in
theorem am_w104 : lw_tbl[788]? = some (Cond.code ⟨"DictionaryTerms$Worker", "advanceIf", "(II)V"⟩ prog_9_method_8_code 3 none) := rfl
set_option maxRecDepth 100000 in
theorem am_w105 : lw_tbl[800]? = some (Cond.code ⟨"DictionaryTerms$Worker", "advanceSum", "(II)V"⟩ prog_9_method_9_code 3 none) := rfl
set_option maxRecDepth 100000 in
theorem am_w106 : lw_tbl[804]? = some (Cond.code ⟨"DictionaryTerms$Worker", "endSum", "(IJJ)V"⟩ prog_9_method_10_code 6 none) := rfl
set_option maxRecDepth 100000 in
theorem am_w107 : lw_tbl[808]? = some (Cond.code ⟨"DictionaryTerms$Worker", "failHere", "(I)V"⟩ prog_9_method_15_code 2 none) := rfl
set_option maxRecDepth 100000 in
theorem am_w108 : lw_tbl[812]? = some (Cond.code ⟨"DictionaryTerms$Worker", "dictionaryNamed", "(I)I"⟩ prog_9_method_12_code 6 (some .int)) := rfl
set_option maxRecDepth 100000 in
theorem am_w109 : lw_tbl[834]? = some (Cond.code ⟨"DictionaryTerms$Worker", "memberNamed", "(I)I"⟩ prog_9_method_13_code 2 (some .int)) := rfl
set_option maxRecDepth 100000 in
theorem am_w110 : lw_tbl[838]? = some (Cond.code ⟨"DictionaryTerms$Worker", "needNamed", "(II)V"⟩ prog_9_method_14_code 3 none) := rfl
set_option maxRecDepth 100000 in
theorem am_w111 : lw_tbl[76]? = some (Cond.code ⟨"DictionaryTerms", "<init>", "()V"⟩ prog_1_method_1_code 1 none) := rfl
set_option maxRecDepth 100000 in
theorem am_w112 : lw_tbl[397]? = some (Cond.code ⟨"DictionaryTerms", "constructor", "(I)I"⟩ prog_1_method_2_code 2 (some .int)) := rfl
set_option maxRecDepth 100000 in
theorem am_w113 : lw_tbl[405]? = some (Cond.code ⟨"DictionaryTerms", "type", "(III)I"⟩ prog_1_method_3_code 4 (some .int)) := rfl
set_option maxRecDepth 100000 in
theorem am_w114 : lw_tbl[428]? = some (Cond.code ⟨"DictionaryTerms", "cls", "(I)I"⟩ prog_1_method_4_code 2 (some .int)) := rfl
set_option maxRecDepth 100000 in
theorem am_w115 : lw_tbl[436]? = some (Cond.code ⟨"DictionaryTerms", "afterChange", "(I)I"⟩ prog_1_method_21_code 2 (some .int)) := rfl
set_option maxRecDepth 100000 in
theorem am_w116 : lw_tbl[444]? = some (Cond.code ⟨"DictionaryTerms", "superOf", "(II)I"⟩ prog_1_method_5_code 3 (some .int)) := rfl
set_option maxRecDepth 100000 in
theorem am_w117 : lw_tbl[464]? = some (Cond.code ⟨"DictionaryTerms", "instance", "(II)I"⟩ prog_1_method_6_code 3 (some .int)) := rfl
set_option maxRecDepth 100000 in
theorem am_w118 : lw_tbl[478]? = some (Cond.code ⟨"DictionaryTerms", "context", "(III)I"⟩ prog_1_method_7_code 4 (some .int)) := rfl
set_option maxRecDepth 100000 in
theorem am_w119 : lw_tbl[498]? = some (Cond.code ⟨"DictionaryTerms", "node", "(IIII)I"⟩ prog_1_method_8_code 5 (some .int)) := rfl
set_option maxRecDepth 100000 in
theorem am_w120 : lw_tbl[528]? = some (Cond.code ⟨"DictionaryTerms", "body", "(III)I"⟩ prog_1_method_9_code 4 (some .int)) := rfl
set_option maxRecDepth 100000 in
theorem am_w121 : lw_tbl[577]? = some (Cond.code ⟨"DictionaryTerms", "standard", "(III)I"⟩ prog_1_method_10_code 4 (some .int)) := rfl
set_option maxRecDepth 100000 in
theorem am_w122 : lw_tbl[589]? = some (Cond.code ⟨"DictionaryTerms", "dictionary", "(II)I"⟩ prog_1_method_11_code 3 (some .int)) := rfl
set_option maxRecDepth 100000 in
theorem am_w123 : lw_tbl[648]? = some (Cond.code ⟨"DictionaryTerms", "lack", "(I)I"⟩ prog_1_method_12_code 2 (some .int)) := rfl
set_option maxRecDepth 100000 in
theorem am_w124 : lw_tbl[660]? = some (Cond.code ⟨"DictionaryTerms", "part", "(II)I"⟩ prog_1_method_13_code 3 (some .int)) := rfl
set_option maxRecDepth 100000 in
theorem am_w125 : lw_tbl[673]? = some (Cond.code ⟨"DictionaryTerms", "about", "(II)I"⟩ prog_1_method_14_code 3 (some .int)) := rfl
set_option maxRecDepth 100000 in
theorem am_w126 : lw_tbl[694]? = some (Cond.code ⟨"DictionaryTerms", "value", "(II)J"⟩ prog_1_method_15_code 3 (some .long)) := rfl
set_option maxRecDepth 100000 in
theorem am_w127 : lw_tbl[698]? = some (Cond.code ⟨"DictionaryTerms", "hasMember", "(II)Z"⟩ prog_1_method_22_code 3 (some .boolean)) := rfl
set_option maxRecDepth 100000 in
theorem am_w128 : lw_tbl[850]? = some (Cond.code ⟨"DictionaryTerms", "failed", "(I)I"⟩ prog_1_method_16_code 2 (some .int)) := rfl
set_option maxRecDepth 100000 in
theorem am_w129 : lw_tbl[863]? = some (Cond.code ⟨"DictionaryTerms", "step", "(II)I"⟩ prog_1_method_17_code 3 (some .int)) := rfl
set_option maxRecDepth 100000 in
theorem am_w130 : lw_tbl[875]? = some (Cond.code ⟨"DictionaryTerms", "begun", "(II)I"⟩ prog_1_method_18_code 3 (some .int)) := rfl
set_option maxRecDepth 100000 in
theorem am_w131 : lw_tbl[883]? = some (Cond.code ⟨"DictionaryTerms", "typeOf", "(II)I"⟩ prog_1_method_19_code 3 (some .int)) := rfl
set_option maxRecDepth 100000 in
theorem am_w132 : lw_tbl[889]? = some (Cond.code ⟨"DictionaryTerms", "count", "(I)I"⟩ prog_1_method_20_code 2 (some .int)) := rfl
set_option maxRecDepth 100000 in
theorem am_w133 : lw_tbl[922]? = some (Cond.code ⟨"DictionaryTermsModel", "<init>", "()V"⟩ prog_11_method_2_code 2 none) := rfl
set_option maxRecDepth 100000 in
theorem am_w134 : lw_tbl[1096]? = some (Cond.code ⟨"DictionaryTermsModel", "constructor", "(I)I"⟩ prog_11_method_3_code 2 (some .int)) := rfl
set_option maxRecDepth 100000 in
theorem am_w135 : lw_tbl[1099]? = some (Cond.code ⟨"DictionaryTermsModel", "isIn", "(III)Z"⟩ prog_11_method_1_code 3 (some .boolean)) := rfl
set_option maxRecDepth 100000 in
theorem am_w136 : lw_tbl[1103]? = some (Cond.code ⟨"DictionaryTermsModel", "type", "(III)I"⟩ prog_11_method_6_code 4 (some .int)) := rfl
set_option maxRecDepth 100000 in
theorem am_w137 : lw_tbl[1107]? = some (Cond.code ⟨"DictionaryTermsModel", "isType", "(I)Z"⟩ prog_11_method_4_code 2 (some .boolean)) := rfl
set_option maxRecDepth 100000 in
theorem am_w138 : lw_tbl[1111]? = some (Cond.code ⟨"DictionaryTermsModel", "made", "(III)I"⟩ prog_11_method_5_code 5 (some .int)) := rfl
set_option maxRecDepth 100000 in
theorem am_w139 : lw_tbl[1115]? = some (Cond.code ⟨"DictionaryTermsModel", "typeOf", "(II)I"⟩ prog_11_method_7_code 3 (some .int)) := rfl
set_option maxRecDepth 100000 in
theorem am_w140 : lw_tbl[1119]? = some (Cond.code ⟨"DictionaryTermsModel", "cls", "(I)I"⟩ prog_11_method_12_code 3 (some .int)) := rfl
set_option maxRecDepth 100000 in
theorem am_w141 : lw_tbl[1123]? = some (Cond.code ⟨"DictionaryTermsModel", "away", "(I)I"⟩ prog_11_method_11_code 2 (some .int)) := rfl
set_option maxRecDepth 100000 in
theorem am_w142 : lw_tbl[1127]? = some (Cond.code ⟨"DictionaryTermsModel", "superOf", "(II)I"⟩ prog_11_method_13_code 4 (some .int)) := rfl
set_option maxRecDepth 100000 in
theorem am_w143 : lw_tbl[1131]? = some (Cond.code ⟨"DictionaryTermsModel", "isClass", "(I)Z"⟩ prog_11_method_9_code 2 (some .boolean)) := rfl
set_option maxRecDepth 100000 in
theorem am_w144 : lw_tbl[1135]? = some (Cond.code ⟨"DictionaryTermsModel", "instance", "(II)I"⟩ prog_11_method_15_code 4 (some .int)) := rfl
set_option maxRecDepth 100000 in
theorem am_w145 : lw_tbl[1139]? = some (Cond.code ⟨"DictionaryTermsModel", "instanceOf", "(II)I"⟩ prog_11_method_14_code 4 (some .int)) := rfl
set_option maxRecDepth 100000 in
theorem am_w146 : lw_tbl[1143]? = some (Cond.code ⟨"DictionaryTermsModel", "context", "(III)I"⟩ prog_11_method_16_code 4 (some .int)) := rfl
set_option maxRecDepth 100000 in
theorem am_w147 : lw_tbl[1147]? = some (Cond.code ⟨"DictionaryTermsModel", "isInstance", "(I)Z"⟩ prog_11_method_10_code 2 (some .boolean)) := rfl
set_option maxRecDepth 100000 in
theorem am_w148 : lw_tbl[1151]? = some (Cond.code ⟨"DictionaryTermsModel", "node", "(IIII)I"⟩ prog_11_method_20_code 6 (some .int)) := rfl
set_option maxRecDepth 100000 in
theorem am_w149 : lw_tbl[1155]? = some (Cond.code ⟨"DictionaryTermsModel", "isRight", "(IIII)Z"⟩ prog_11_method_19_code 5 (some .boolean)) := rfl
set_option maxRecDepth 100000 in
theorem am_w150 : lw_tbl[1159]? = some (Cond.code ⟨"DictionaryTermsModel", "isNode", "(I)Z"⟩ prog_11_method_18_code 2 (some .boolean)) := rfl
set_option maxRecDepth 100000 in
theorem am_w151 : lw_tbl[1162]? = some (Cond.code ⟨"DictionaryTermsModel", "greater", "(II)I"⟩ prog_11_method_17_code 2 (some .int)) := rfl
set_option maxRecDepth 100000 in
theorem am_w152 : lw_tbl[1166]? = some (Cond.code ⟨"DictionaryTermsModel", "body", "(III)I"⟩ prog_11_method_23_code 4 (some .int)) := rfl
set_option maxRecDepth 100000 in
theorem am_w153 : lw_tbl[1170]? = some (Cond.code ⟨"DictionaryTermsModel", "fits", "(III)Z"⟩ prog_11_method_21_code 6 (some .boolean)) := rfl
set_option maxRecDepth 100000 in
theorem am_w154 : lw_tbl[1174]? = some (Cond.code ⟨"DictionaryTermsModel", "isThere", "(III)Z"⟩ prog_11_method_22_code 4 (some .boolean)) := rfl
set_option maxRecDepth 100000 in
theorem am_w155 : lw_tbl[1178]? = some (Cond.code ⟨"DictionaryTermsModel", "standard", "(III)I"⟩ prog_11_method_24_code 4 (some .int)) := rfl
set_option maxRecDepth 100000 in
theorem am_w156 : lw_tbl[1182]? = some (Cond.code ⟨"DictionaryTermsModel", "dictionary", "(II)I"⟩ prog_11_method_31_code 3 (some .int)) := rfl
set_option maxRecDepth 100000 in
theorem am_w157 : lw_tbl[1186]? = some (Cond.code ⟨"DictionaryTermsModel", "make", "(II)I"⟩ prog_11_method_30_code 14 (some .int)) := rfl
set_option maxRecDepth 100000 in
theorem am_w158 : lw_tbl[1190]? = some (Cond.code ⟨"DictionaryTermsModel", "find", "(II)I"⟩ prog_11_method_27_code 4 (some .int)) := rfl
set_option maxRecDepth 100000 in
theorem am_w159 : lw_tbl[1194]? = some (Cond.code ⟨"DictionaryTermsModel", "begin", "(II)I"⟩ prog_11_method_28_code 6 (some .int)) := rfl
set_option maxRecDepth 100000 in
theorem am_w160 : lw_tbl[1198]? = some (Cond.code ⟨"DictionaryTermsModel", "partMany", "(I)I"⟩ prog_11_method_26_code 2 (some .int)) := rfl
set_option maxRecDepth 100000 in
theorem am_w161 : lw_tbl[1202]? = some (Cond.code ⟨"DictionaryTermsModel", "argument", "(II)I"⟩ prog_11_method_29_code 3 (some .int)) := rfl
set_option maxRecDepth 100000 in
theorem am_w162 : lw_tbl[1206]? = some (Cond.code ⟨"DictionaryTermsModel", "lack", "(I)I"⟩ prog_11_method_32_code 2 (some .int)) := rfl
set_option maxRecDepth 100000 in
theorem am_w163 : lw_tbl[1210]? = some (Cond.code ⟨"DictionaryTermsModel", "part", "(II)I"⟩ prog_11_method_33_code 3 (some .int)) := rfl
set_option maxRecDepth 100000 in
theorem am_w164 : lw_tbl[1214]? = some (Cond.code ⟨"DictionaryTermsModel", "isDictionary", "(I)Z"⟩ prog_11_method_25_code 2 (some .boolean)) := rfl
set_option maxRecDepth 100000 in
theorem am_w165 : lw_tbl[1218]? = some (Cond.code ⟨"DictionaryTermsModel", "about", "(II)I"⟩ prog_11_method_35_code 3 (some .int)) := rfl
set_option maxRecDepth 100000 in
theorem am_w166 : lw_tbl[1222]? = some (Cond.code ⟨"DictionaryTermsModel", "hanging", "(I)I"⟩ prog_11_method_34_code 5 (some .int)) := rfl
set_option maxRecDepth 100000 in
theorem am_w167 : lw_tbl[1226]? = some (Cond.code ⟨"DictionaryTermsModel", "value", "(II)J"⟩ prog_11_method_45_code 4 (some .long)) := rfl
set_option maxRecDepth 100000 in
theorem am_w168 : lw_tbl[1230]? = some (Cond.code ⟨"DictionaryTermsModel", "need", "(II)V"⟩ prog_11_method_39_code 6 none) := rfl
set_option maxRecDepth 100000 in
theorem am_w169 : lw_tbl[1234]? = some (Cond.code ⟨"DictionaryTermsModel", "come", "(J)V"⟩ prog_11_method_37_code 3 none) := rfl
set_option maxRecDepth 100000 in
theorem am_w170 : lw_tbl[1238]? = some (Cond.code ⟨"DictionaryTermsModel", "fails", "(III)V"⟩ prog_11_method_38_code 4 none) := rfl
set_option maxRecDepth 100000 in
theorem am_w171 : lw_tbl[1242]? = some (Cond.code ⟨"DictionaryTermsModel", "task", "(I)V"⟩ prog_11_method_36_code 2 none) := rfl
set_option maxRecDepth 100000 in
theorem am_w172 : lw_tbl[1246]? = some (Cond.code ⟨"DictionaryTermsModel", "end", "()V"⟩ prog_11_method_44_code 3 none) := rfl
set_option maxRecDepth 100000 in
theorem am_w173 : lw_tbl[1250]? = some (Cond.code ⟨"DictionaryTermsModel", "together", "(I)V"⟩ prog_11_method_43_code 6 none) := rfl
set_option maxRecDepth 100000 in
theorem am_w174 : lw_tbl[1254]? = some (Cond.code ⟨"DictionaryTermsModel", "failsHere", "(I)V"⟩ prog_11_method_40_code 2 none) := rfl
set_option maxRecDepth 100000 in
theorem am_w175 : lw_tbl[1258]? = some (Cond.code ⟨"DictionaryTermsModel", "work", "(I)V"⟩ prog_11_method_42_code 3 none) := rfl
set_option maxRecDepth 100000 in
theorem am_w176 : lw_tbl[1262]? = some (Cond.code ⟨"DictionaryTermsModel", "workAt", "(I)V"⟩ prog_11_method_41_code 6 none) := rfl
set_option maxRecDepth 100000 in
theorem am_w177 : lw_tbl[1266]? = some (Cond.code ⟨"DictionaryTermsModel", "put", "(III)I"⟩ prog_11_method_8_code 6 (some .int)) := rfl
set_option maxRecDepth 100000 in
theorem am_w178 : lw_tbl[1270]? = some (Cond.code ⟨"DictionaryTermsModel", "failed", "(I)I"⟩ prog_11_method_46_code 2 (some .int)) := rfl
set_option maxRecDepth 100000 in
theorem am_w179 : lw_tbl[1274]? = some (Cond.code ⟨"DictionaryTermsModel", "step", "(II)I"⟩ prog_11_method_47_code 3 (some .int)) := rfl
set_option maxRecDepth 100000 in
theorem am_w180 : lw_tbl[1278]? = some (Cond.code ⟨"DictionaryTermsModel", "begun", "(II)I"⟩ prog_11_method_48_code 3 (some .int)) := rfl
set_option maxRecDepth 100000 in
theorem am_w181 : lw_tbl[1282]? = some (Cond.code ⟨"DictionaryTermsModel", "count", "(I)I"⟩ prog_11_method_49_code 2 (some .int)) := rfl
set_option maxRecDepth 100000 in
theorem am_w182 : lw_tbl[127]? = some (Cond.code ⟨"java/util/Arrays", "fill", "([II)V"⟩ prog_13_method_103_code 4 none) := rfl
