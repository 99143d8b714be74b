def am_R0 : String := "DictionaryTerms$Classes"
def am_T0 : u_T := fun k => match k with
  | 0 => ("DictionaryTerms$Classes", "members", "[I", true)
  | 1 => ("DictionaryTerms$Classes", "supers", "[I", true)
  | 2 => ("DictionaryTerms$Classes", "superRow", "[I", true)
  | 3 => ("DictionaryTerms$Classes", "standards", "[I", true)
  | _ => ("DictionaryTerms$Classes", "classes", "I", false)
def am_y0 : Nat → FieldType := fun k => match k with
  | 0 => .array .int
  | 1 => .array .int
  | 2 => .array .int
  | 3 => .array .int
  | _ => .int
def am_R1 : String := "DictionaryTerms$Dictionaries"
def am_T1 : u_T := fun k => match k with
  | 0 => ("DictionaryTerms$Dictionaries", "types", "LDictionaryTerms$Types;", true)
  | 1 => ("DictionaryTerms$Dictionaries", "classes", "LDictionaryTerms$Classes;", true)
  | 2 => ("DictionaryTerms$Dictionaries", "instances", "LDictionaryTerms$Instances;", true)
  | 3 => ("DictionaryTerms$Dictionaries", "values", "LDictionaryTerms$Values;", true)
  | 4 => ("DictionaryTerms$Dictionaries", "cls", "[I", true)
  | 5 => ("DictionaryTerms$Dictionaries", "type", "[I", true)
  | 6 => ("DictionaryTerms$Dictionaries", "instance", "[I", true)
  | 7 => ("DictionaryTerms$Dictionaries", "partsMade", "[I", true)
  | 8 => ("DictionaryTerms$Dictionaries", "parts", "[I", true)
  | 9 => ("DictionaryTerms$Dictionaries", "dictionaries", "I", false)
  | 10 => ("DictionaryTerms$Dictionaries", "lackedClass", "I", false)
  | 11 => ("DictionaryTerms$Dictionaries", "lackedType", "I", false)
  | 12 => ("DictionaryTerms$Dictionaries", "row", "[I", true)
  | _ => ("DictionaryTerms$Dictionaries", "seen", "[Z", true)
def am_y1 : Nat → FieldType := fun k => match k with
  | 0 => .object "DictionaryTerms$Types"
  | 1 => .object "DictionaryTerms$Classes"
  | 2 => .object "DictionaryTerms$Instances"
  | 3 => .object "DictionaryTerms$Values"
  | 4 => .array .int
  | 5 => .array .int
  | 6 => .array .int
  | 7 => .array .int
  | 8 => .array .int
  | 9 => .int
  | 10 => .int
  | 11 => .int
  | 12 => .array .int
  | _ => .array .boolean
def am_R2 : String := "DictionaryTerms$Instances"
def am_T2 : u_T := fun k => match k with
  | 0 => ("DictionaryTerms$Instances", "types", "LDictionaryTerms$Types;", true)
  | 1 => ("DictionaryTerms$Instances", "classes", "LDictionaryTerms$Classes;", true)
  | 2 => ("DictionaryTerms$Instances", "cls", "[I", true)
  | 3 => ("DictionaryTerms$Instances", "head", "[I", true)
  | 4 => ("DictionaryTerms$Instances", "contexts", "[I", true)
  | 5 => ("DictionaryTerms$Instances", "contextClass", "[I", true)
  | 6 => ("DictionaryTerms$Instances", "contextVariable", "[I", true)
  | 7 => ("DictionaryTerms$Instances", "bodies", "[I", true)
  | _ => ("DictionaryTerms$Instances", "instances", "I", false)
def am_y2 : Nat → FieldType := fun k => match k with
  | 0 => .object "DictionaryTerms$Types"
  | 1 => .object "DictionaryTerms$Classes"
  | 2 => .array .int
  | 3 => .array .int
  | 4 => .array .int
  | 5 => .array .int
  | 6 => .array .int
  | 7 => .array .int
  | _ => .int
def am_R3 : String := "DictionaryTerms$Nodes"
def am_T3 : u_T := fun k => match k with
  | 0 => ("DictionaryTerms$Nodes", "types", "LDictionaryTerms$Types;", true)
  | 1 => ("DictionaryTerms$Nodes", "classes", "LDictionaryTerms$Classes;", true)
  | 2 => ("DictionaryTerms$Nodes", "instances", "LDictionaryTerms$Instances;", true)
  | 3 => ("DictionaryTerms$Nodes", "kind", "[I", true)
  | 4 => ("DictionaryTerms$Nodes", "first", "[I", true)
  | 5 => ("DictionaryTerms$Nodes", "second", "[I", true)
  | 6 => ("DictionaryTerms$Nodes", "third", "[I", true)
  | 7 => ("DictionaryTerms$Nodes", "height", "[I", true)
  | 8 => ("DictionaryTerms$Nodes", "nodes", "I", false)
  | _ => ("DictionaryTerms$Nodes", "standsIn", "[Z", true)
def am_y3 : Nat → FieldType := fun k => match k with
  | 0 => .object "DictionaryTerms$Types"
  | 1 => .object "DictionaryTerms$Classes"
  | 2 => .object "DictionaryTerms$Instances"
  | 3 => .array .int
  | 4 => .array .int
  | 5 => .array .int
  | 6 => .array .int
  | 7 => .array .int
  | 8 => .int
  | _ => .array .boolean
def am_R4 : String := "DictionaryTerms$Report"
def am_T4 : u_T := fun k => match k with
  | 0 => ("DictionaryTerms$Report", "fault", "I", false)
  | 1 => ("DictionaryTerms$Report", "faultDictionary", "I", false)
  | 2 => ("DictionaryTerms$Report", "faultMember", "I", false)
  | 3 => ("DictionaryTerms$Report", "stepDictionary", "[I", true)
  | 4 => ("DictionaryTerms$Report", "stepMember", "[I", true)
  | _ => ("DictionaryTerms$Report", "steps", "I", false)
def am_y4 : Nat → FieldType := fun k => match k with
  | 0 => .int
  | 1 => .int
  | 2 => .int
  | 3 => .array .int
  | 4 => .array .int
  | _ => .int
def am_R5 : String := "DictionaryTerms$Types"
def am_T5 : u_T := fun k => match k with
  | 0 => ("DictionaryTerms$Types", "places", "[I", true)
  | 1 => ("DictionaryTerms$Types", "constructors", "I", false)
  | 2 => ("DictionaryTerms$Types", "head", "[I", true)
  | 3 => ("DictionaryTerms$Types", "left", "[I", true)
  | 4 => ("DictionaryTerms$Types", "right", "[I", true)
  | 5 => ("DictionaryTerms$Types", "open", "[I", true)
  | 6 => ("DictionaryTerms$Types", "types", "I", false)
  | 7 => ("DictionaryTerms$Types", "image", "[I", true)
  | _ => ("DictionaryTerms$Types", "waiting", "[I", true)
def am_y5 : Nat → FieldType := fun k => match k with
  | 0 => .array .int
  | 1 => .int
  | 2 => .array .int
  | 3 => .array .int
  | 4 => .array .int
  | 5 => .array .int
  | 6 => .int
  | 7 => .array .int
  | _ => .array .int
def am_R6 : String := "DictionaryTerms$Values"
def am_T6 : u_T := fun k => match k with
  | 0 => ("DictionaryTerms$Values", "state", "[I", true)
  | 1 => ("DictionaryTerms$Values", "worked", "[J", true)
  | _ => ("DictionaryTerms$Values", "begins", "[I", true)
def am_y6 : Nat → FieldType := fun k => match k with
  | 0 => .array .int
  | 1 => .array .long
  | _ => .array .int
def am_R7 : String := "DictionaryTerms$Worker"
def am_T7 : u_T := fun k => match k with
  | 0 => ("DictionaryTerms$Worker", "types", "LDictionaryTerms$Types;", true)
  | 1 => ("DictionaryTerms$Worker", "nodes", "LDictionaryTerms$Nodes;", true)
  | 2 => ("DictionaryTerms$Worker", "instances", "LDictionaryTerms$Instances;", true)
  | 3 => ("DictionaryTerms$Worker", "classes", "LDictionaryTerms$Classes;", true)
  | 4 => ("DictionaryTerms$Worker", "values", "LDictionaryTerms$Values;", true)
  | 5 => ("DictionaryTerms$Worker", "dictionaries", "LDictionaryTerms$Dictionaries;", true)
  | 6 => ("DictionaryTerms$Worker", "report", "LDictionaryTerms$Report;", true)
  | 7 => ("DictionaryTerms$Worker", "workDictionary", "[I", true)
  | 8 => ("DictionaryTerms$Worker", "workMember", "[I", true)
  | 9 => ("DictionaryTerms$Worker", "workZero", "[I", true)
  | 10 => ("DictionaryTerms$Worker", "workOne", "[I", true)
  | 11 => ("DictionaryTerms$Worker", "workFloor", "[I", true)
  | 12 => ("DictionaryTerms$Worker", "atWork", "I", false)
  | 13 => ("DictionaryTerms$Worker", "openNode", "[I", true)
  | 14 => ("DictionaryTerms$Worker", "turnsHad", "[I", true)
  | 15 => ("DictionaryTerms$Worker", "leftValue", "[J", true)
  | 16 => ("DictionaryTerms$Worker", "open", "I", false)
  | _ => ("DictionaryTerms$Worker", "latest", "J", false)
def am_y7 : Nat → FieldType := fun k => match k with
  | 0 => .object "DictionaryTerms$Types"
  | 1 => .object "DictionaryTerms$Nodes"
  | 2 => .object "DictionaryTerms$Instances"
  | 3 => .object "DictionaryTerms$Classes"
  | 4 => .object "DictionaryTerms$Values"
  | 5 => .object "DictionaryTerms$Dictionaries"
  | 6 => .object "DictionaryTerms$Report"
  | 7 => .array .int
  | 8 => .array .int
  | 9 => .array .int
  | 10 => .array .int
  | 11 => .array .int
  | 12 => .int
  | 13 => .array .int
  | 14 => .array .int
  | 15 => .array .long
  | 16 => .int
  | _ => .long
def am_R8 : String := "DictionaryTerms"
def am_T8 : u_T := fun k => match k with
  | 0 => ("DictionaryTerms", "types", "LDictionaryTerms$Types;", true)
  | 1 => ("DictionaryTerms", "classes", "LDictionaryTerms$Classes;", true)
  | 2 => ("DictionaryTerms", "instances", "LDictionaryTerms$Instances;", true)
  | 3 => ("DictionaryTerms", "nodes", "LDictionaryTerms$Nodes;", true)
  | 4 => ("DictionaryTerms", "values", "LDictionaryTerms$Values;", true)
  | 5 => ("DictionaryTerms", "dictionaries", "LDictionaryTerms$Dictionaries;", true)
  | 6 => ("DictionaryTerms", "report", "LDictionaryTerms$Report;", true)
  | _ => ("DictionaryTerms", "worker", "LDictionaryTerms$Worker;", true)
def am_y8 : Nat → FieldType := fun k => match k with
  | 0 => .object "DictionaryTerms$Types"
  | 1 => .object "DictionaryTerms$Classes"
  | 2 => .object "DictionaryTerms$Instances"
  | 3 => .object "DictionaryTerms$Nodes"
  | 4 => .object "DictionaryTerms$Values"
  | 5 => .object "DictionaryTerms$Dictionaries"
  | 6 => .object "DictionaryTerms$Report"
  | _ => .object "DictionaryTerms$Worker"
def am_R9 : String := "DictionaryTermsModel"
def am_T9 : u_T := fun k => match k with
  | 0 => ("DictionaryTermsModel", "constructors", "I", false)
  | 1 => ("DictionaryTermsModel", "places", "[I", true)
  | 2 => ("DictionaryTermsModel", "types", "I", false)
  | 3 => ("DictionaryTermsModel", "head", "[I", true)
  | 4 => ("DictionaryTermsModel", "first", "[I", true)
  | 5 => ("DictionaryTermsModel", "second", "[I", true)
  | 6 => ("DictionaryTermsModel", "free", "[I", true)
  | 7 => ("DictionaryTermsModel", "came", "[I", true)
  | 8 => ("DictionaryTermsModel", "open", "[I", true)
  | 9 => ("DictionaryTermsModel", "classes", "I", false)
  | 10 => ("DictionaryTermsModel", "members", "[I", true)
  | 11 => ("DictionaryTermsModel", "supers", "[I", true)
  | 12 => ("DictionaryTermsModel", "superRow", "[I", true)
  | 13 => ("DictionaryTermsModel", "standards", "[I", true)
  | 14 => ("DictionaryTermsModel", "instances", "I", false)
  | 15 => ("DictionaryTermsModel", "ofClass", "[I", true)
  | 16 => ("DictionaryTermsModel", "ofHead", "[I", true)
  | 17 => ("DictionaryTermsModel", "contexts", "[I", true)
  | 18 => ("DictionaryTermsModel", "contextClass", "[I", true)
  | 19 => ("DictionaryTermsModel", "contextVariable", "[I", true)
  | 20 => ("DictionaryTermsModel", "bodies", "[I", true)
  | 21 => ("DictionaryTermsModel", "nodes", "I", false)
  | 22 => ("DictionaryTermsModel", "kind", "[I", true)
  | 23 => ("DictionaryTermsModel", "na", "[I", true)
  | 24 => ("DictionaryTermsModel", "nb", "[I", true)
  | 25 => ("DictionaryTermsModel", "nc", "[I", true)
  | 26 => ("DictionaryTermsModel", "height", "[I", true)
  | 27 => ("DictionaryTermsModel", "stands", "[Z", true)
  | 28 => ("DictionaryTermsModel", "dictionaries", "I", false)
  | 29 => ("DictionaryTermsModel", "dClass", "[I", true)
  | 30 => ("DictionaryTermsModel", "dType", "[I", true)
  | 31 => ("DictionaryTermsModel", "dInstance", "[I", true)
  | 32 => ("DictionaryTermsModel", "parts", "[I", true)
  | 33 => ("DictionaryTermsModel", "worked", "[Z", true)
  | 34 => ("DictionaryTermsModel", "being", "[Z", true)
  | 35 => ("DictionaryTermsModel", "values", "[J", true)
  | 36 => ("DictionaryTermsModel", "begun", "[I", true)
  | 37 => ("DictionaryTermsModel", "lackClass", "I", false)
  | 38 => ("DictionaryTermsModel", "lackType", "I", false)
  | 39 => ("DictionaryTermsModel", "making", "[I", true)
  | 40 => ("DictionaryTermsModel", "next", "[I", true)
  | 41 => ("DictionaryTermsModel", "hangs", "[Z", true)
  | 42 => ("DictionaryTermsModel", "tasks", "[I", true)
  | 43 => ("DictionaryTermsModel", "taskMany", "I", false)
  | 44 => ("DictionaryTermsModel", "stack", "[J", true)
  | 45 => ("DictionaryTermsModel", "high", "I", false)
  | 46 => ("DictionaryTermsModel", "frameD", "[I", true)
  | 47 => ("DictionaryTermsModel", "frameM", "[I", true)
  | 48 => ("DictionaryTermsModel", "isStandard", "[Z", true)
  | 49 => ("DictionaryTermsModel", "depth", "I", false)
  | 50 => ("DictionaryTermsModel", "fault", "I", false)
  | 51 => ("DictionaryTermsModel", "faultD", "I", false)
  | 52 => ("DictionaryTermsModel", "faultM", "I", false)
  | 53 => ("DictionaryTermsModel", "steps", "I", false)
  | 54 => ("DictionaryTermsModel", "stepD", "[I", true)
  | _ => ("DictionaryTermsModel", "stepM", "[I", true)
def am_y9 : Nat → FieldType := fun k => match k with
  | 0 => .int
  | 1 => .array .int
  | 2 => .int
  | 3 => .array .int
  | 4 => .array .int
  | 5 => .array .int
  | 6 => .array .int
  | 7 => .array .int
  | 8 => .array .int
  | 9 => .int
  | 10 => .array .int
  | 11 => .array .int
  | 12 => .array .int
  | 13 => .array .int
  | 14 => .int
  | 15 => .array .int
  | 16 => .array .int
  | 17 => .array .int
  | 18 => .array .int
  | 19 => .array .int
  | 20 => .array .int
  | 21 => .int
  | 22 => .array .int
  | 23 => .array .int
  | 24 => .array .int
  | 25 => .array .int
  | 26 => .array .int
  | 27 => .array .boolean
  | 28 => .int
  | 29 => .array .int
  | 30 => .array .int
  | 31 => .array .int
  | 32 => .array .int
  | 33 => .array .boolean
  | 34 => .array .boolean
  | 35 => .array .long
  | 36 => .array .int
  | 37 => .int
  | 38 => .int
  | 39 => .array .int
  | 40 => .array .int
  | 41 => .array .boolean
  | 42 => .array .int
  | 43 => .int
  | 44 => .array .long
  | 45 => .int
  | 46 => .array .int
  | 47 => .array .int
  | 48 => .array .boolean
  | 49 => .int
  | 50 => .int
  | 51 => .int
  | 52 => .int
  | 53 => .int
  | 54 => .array .int
  | _ => .array .int
abbrev am_cl : List vw_C := [(am_R0, am_T0, 5), (am_R1, am_T1, 14), (am_R2, am_T2, 9), (am_R3, am_T3, 10), (am_R4, am_T4, 6), (am_R5, am_T5, 9), (am_R6, am_T6, 3), (am_R7, am_T7, 18), (am_R8, am_T8, 8), (am_R9, am_T9, 56)]
def am_yl : List (Nat → FieldType) := [am_y0, am_y1, am_y2, am_y3, am_y4, am_y5, am_y6, am_y7, am_y8, am_y9]
def am_cn : List String := [am_R0, am_R1, am_R2, am_R3, am_R4, am_R5, am_R6, am_R7, am_R8, am_R9, "DictionaryTermsLaw", "java/util/Arrays"]
/-- a class's fields: 0 an int, 1 a long, 2 a reference -/
def am_fts : List (List Nat) := [[2, 2, 2, 2, 0], [2, 2, 2, 2, 2, 2, 2, 2, 2, 0, 0, 0, 2, 2], [2, 2, 2, 2, 2, 2, 2, 2, 0], [2, 2, 2, 2, 2, 2, 2, 2, 0, 2], [0, 0, 0, 2, 2, 0], [2, 0, 2, 2, 2, 2, 0, 2, 2], [2, 2, 2], [2, 2, 2, 2, 2, 2, 2, 2, 2, 2, 2, 2, 0, 2, 2, 2, 0, 1], [2, 2, 2, 2, 2, 2, 2, 2], [0, 2, 0, 2, 2, 2, 2, 2, 2, 0, 2, 2, 2, 2, 0, 2, 2, 2, 2, 2, 2, 0, 2, 2, 2, 2, 2, 2, 0, 2, 2, 2, 2, 2, 2, 2, 2, 0, 0, 2, 2, 2, 2, 0, 2, 0, 2, 2, 2, 0, 0, 0, 0, 0, 2, 2]]
/-- the methods: name, bytes, locals, answer, class -/
def am_ml : List (MethodName × ByteArray × Nat × Option FieldType × Nat) := [
  (⟨"DictionaryTerms$Classes", "<init>", "()V"⟩, prog_2_method_1_code, 1, none, 0),
  (⟨"DictionaryTerms$Classes", "add", "(I)I"⟩, prog_2_method_9_code, 2, (some .int), 0),
  (⟨"DictionaryTerms$Classes", "addSuper", "(II)I"⟩, prog_2_method_10_code, 3, (some .int), 0),
  (⟨"DictionaryTerms$Classes", "has", "(I)Z"⟩, prog_2_method_3_code, 2, (some .boolean), 0),
  (⟨"DictionaryTerms$Classes", "hasAsSuper", "(II)Z"⟩, prog_2_method_11_code, 4, (some .boolean), 0),
  (⟨"DictionaryTerms$Classes", "superAt", "(II)I"⟩, prog_2_method_6_code, 3, (some .int), 0),
  (⟨"DictionaryTerms$Classes", "hasMember", "(II)Z"⟩, prog_2_method_4_code, 3, (some .boolean), 0),
  (⟨"DictionaryTerms$Classes", "supersOf", "(I)I"⟩, prog_2_method_5_code, 2, (some .int), 0),
  (⟨"DictionaryTerms$Classes", "setStandard", "(III)V"⟩, prog_2_method_8_code, 4, none, 0),
  (⟨"DictionaryTerms$Classes", "standardOf", "(II)I"⟩, prog_2_method_7_code, 3, (some .int), 0),
  (⟨"DictionaryTerms$Classes", "made", "()I"⟩, prog_2_method_2_code, 1, (some .int), 0),
  (⟨"DictionaryTerms$Dictionaries", "<init>", "(LDictionaryTerms$Types;LDictionaryTerms$Classes;LDictionaryTerms$Instances;LDictionaryTerms$Values;)V"⟩, prog_3_method_1_code, 5, none, 1),
  (⟨"DictionaryTerms$Dictionaries", "takeAway", "()V"⟩, prog_3_method_12_code, 1, none, 1),
  (⟨"DictionaryTerms$Dictionaries", "make", "(II)I"⟩, prog_3_method_13_code, 11, (some .int), 1),
  (⟨"DictionaryTerms$Dictionaries", "find", "(II)I"⟩, prog_3_method_14_code, 4, (some .int), 1),
  (⟨"DictionaryTerms$Dictionaries", "begin", "(II)I"⟩, prog_3_method_15_code, 4, (some .int), 1),
  (⟨"DictionaryTerms$Dictionaries", "partsOf", "(I)I"⟩, prog_3_method_7_code, 2, (some .int), 1),
  (⟨"DictionaryTerms$Dictionaries", "partClass", "(II)I"⟩, prog_3_method_16_code, 4, (some .int), 1),
  (⟨"DictionaryTerms$Dictionaries", "partType", "(II)I"⟩, prog_3_method_17_code, 4, (some .int), 1),
  (⟨"DictionaryTerms$Dictionaries", "lackingClass", "()I"⟩, prog_3_method_10_code, 1, (some .int), 1),
  (⟨"DictionaryTerms$Dictionaries", "lackingType", "()I"⟩, prog_3_method_11_code, 1, (some .int), 1),
  (⟨"DictionaryTerms$Dictionaries", "has", "(I)Z"⟩, prog_3_method_3_code, 2, (some .boolean), 1),
  (⟨"DictionaryTerms$Dictionaries", "partAt", "(II)I"⟩, prog_3_method_8_code, 3, (some .int), 1),
  (⟨"DictionaryTerms$Dictionaries", "classOf", "(I)I"⟩, prog_3_method_4_code, 2, (some .int), 1),
  (⟨"DictionaryTerms$Dictionaries", "typeAt", "(I)I"⟩, prog_3_method_5_code, 2, (some .int), 1),
  (⟨"DictionaryTerms$Dictionaries", "instanceOf", "(I)I"⟩, prog_3_method_6_code, 2, (some .int), 1),
  (⟨"DictionaryTerms$Dictionaries", "hangingOn", "(I)I"⟩, prog_3_method_18_code, 6, (some .int), 1),
  (⟨"DictionaryTerms$Dictionaries", "superPartAt", "(II)I"⟩, prog_3_method_9_code, 3, (some .int), 1),
  (⟨"DictionaryTerms$Dictionaries", "made", "()I"⟩, prog_3_method_2_code, 1, (some .int), 1),
  (⟨"DictionaryTerms$Instances", "<init>", "(LDictionaryTerms$Types;LDictionaryTerms$Classes;)V"⟩, prog_4_method_1_code, 3, none, 2),
  (⟨"DictionaryTerms$Instances", "add", "(II)I"⟩, prog_4_method_12_code, 3, (some .int), 2),
  (⟨"DictionaryTerms$Instances", "find", "(II)I"⟩, prog_4_method_11_code, 4, (some .int), 2),
  (⟨"DictionaryTerms$Instances", "addContext", "(III)I"⟩, prog_4_method_13_code, 5, (some .int), 2),
  (⟨"DictionaryTerms$Instances", "has", "(I)Z"⟩, prog_4_method_3_code, 2, (some .boolean), 2),
  (⟨"DictionaryTerms$Instances", "placesOf", "(I)I"⟩, prog_4_method_5_code, 2, (some .int), 2),
  (⟨"DictionaryTerms$Instances", "classOf", "(I)I"⟩, prog_4_method_4_code, 2, (some .int), 2),
  (⟨"DictionaryTerms$Instances", "contextsOf", "(I)I"⟩, prog_4_method_6_code, 2, (some .int), 2),
  (⟨"DictionaryTerms$Instances", "contextClassAt", "(II)I"⟩, prog_4_method_7_code, 3, (some .int), 2),
  (⟨"DictionaryTerms$Instances", "setBody", "(III)V"⟩, prog_4_method_10_code, 4, none, 2),
  (⟨"DictionaryTerms$Instances", "contextVariableAt", "(II)I"⟩, prog_4_method_8_code, 3, (some .int), 2),
  (⟨"DictionaryTerms$Instances", "bodyOf", "(II)I"⟩, prog_4_method_9_code, 3, (some .int), 2),
  (⟨"DictionaryTerms$Instances", "made", "()I"⟩, prog_4_method_2_code, 1, (some .int), 2),
  (⟨"DictionaryTerms$Nodes", "<init>", "(LDictionaryTerms$Types;LDictionaryTerms$Classes;LDictionaryTerms$Instances;)V"⟩, prog_5_method_1_code, 4, none, 3),
  (⟨"DictionaryTerms$Nodes", "add", "(IIII)I"⟩, prog_5_method_7_code, 6, (some .int), 3),
  (⟨"DictionaryTerms$Nodes", "isAsTold", "(IIII)Z"⟩, prog_5_method_8_code, 5, (some .boolean), 3),
  (⟨"DictionaryTerms$Nodes", "isIndex", "(I)Z"⟩, prog_5_method_10_code, 2, (some .boolean), 3),
  (⟨"DictionaryTerms$Nodes", "has", "(I)Z"⟩, prog_5_method_9_code, 2, (some .boolean), 3),
  (⟨"DictionaryTerms$Nodes", "heightOver", "(IIII)I"⟩, prog_5_method_11_code, 6, (some .int), 3),
  (⟨"DictionaryTerms$Nodes", "fitsInstance", "(II)Z"⟩, prog_5_method_12_code, 3, (some .boolean), 3),
  (⟨"DictionaryTerms$Nodes", "fits", "(IIII)Z"⟩, prog_5_method_14_code, 6, (some .boolean), 3),
  (⟨"DictionaryTerms$Nodes", "namesWhatIsThere", "(IIII)Z"⟩, prog_5_method_15_code, 7, (some .boolean), 3),
  (⟨"DictionaryTerms$Nodes", "markInside", "(I)V"⟩, prog_5_method_16_code, 2, none, 3),
  (⟨"DictionaryTerms$Nodes", "fitsClass", "(II)Z"⟩, prog_5_method_13_code, 3, (some .boolean), 3),
  (⟨"DictionaryTerms$Nodes", "kindOf", "(I)I"⟩, prog_5_method_3_code, 2, (some .int), 3),
  (⟨"DictionaryTerms$Nodes", "firstOf", "(I)I"⟩, prog_5_method_4_code, 2, (some .int), 3),
  (⟨"DictionaryTerms$Nodes", "secondOf", "(I)I"⟩, prog_5_method_5_code, 2, (some .int), 3),
  (⟨"DictionaryTerms$Nodes", "thirdOf", "(I)I"⟩, prog_5_method_6_code, 2, (some .int), 3),
  (⟨"DictionaryTerms$Nodes", "made", "()I"⟩, prog_5_method_2_code, 1, (some .int), 3),
  (⟨"DictionaryTerms$Report", "<init>", "()V"⟩, prog_6_method_1_code, 1, none, 4),
  (⟨"DictionaryTerms$Report", "refuse", "()V"⟩, prog_6_method_3_code, 1, none, 4),
  (⟨"DictionaryTerms$Report", "start", "()V"⟩, prog_6_method_2_code, 1, none, 4),
  (⟨"DictionaryTerms$Report", "tellFault", "(III)V"⟩, prog_6_method_4_code, 4, none, 4),
  (⟨"DictionaryTerms$Report", "tellStep", "(II)V"⟩, prog_6_method_5_code, 3, none, 4),
  (⟨"DictionaryTerms$Report", "fault", "()I"⟩, prog_6_method_6_code, 1, (some .int), 4),
  (⟨"DictionaryTerms$Report", "faultDictionary", "()I"⟩, prog_6_method_7_code, 1, (some .int), 4),
  (⟨"DictionaryTerms$Report", "faultMember", "()I"⟩, prog_6_method_8_code, 1, (some .int), 4),
  (⟨"DictionaryTerms$Report", "stepDictionary", "(I)I"⟩, prog_6_method_10_code, 2, (some .int), 4),
  (⟨"DictionaryTerms$Report", "stepMember", "(I)I"⟩, prog_6_method_11_code, 2, (some .int), 4),
  (⟨"DictionaryTerms$Report", "stepsTold", "()I"⟩, prog_6_method_9_code, 1, (some .int), 4),
  (⟨"DictionaryTerms$Types", "<init>", "()V"⟩, prog_7_method_1_code, 2, none, 5),
  (⟨"DictionaryTerms$Types", "addRow", "(IIII)I"⟩, prog_7_method_14_code, 5, (some .int), 5),
  (⟨"DictionaryTerms$Types", "addConstructor", "(I)I"⟩, prog_7_method_11_code, 2, (some .int), 5),
  (⟨"DictionaryTerms$Types", "addType", "(III)I"⟩, prog_7_method_12_code, 5, (some .int), 5),
  (⟨"DictionaryTerms$Types", "hasConstructor", "(I)Z"⟩, prog_7_method_4_code, 2, (some .boolean), 5),
  (⟨"DictionaryTerms$Types", "has", "(I)Z"⟩, prog_7_method_5_code, 2, (some .boolean), 5),
  (⟨"DictionaryTerms$Types", "findOrAdd", "(III)I"⟩, prog_7_method_13_code, 6, (some .int), 5),
  (⟨"DictionaryTerms$Types", "placesOf", "(I)I"⟩, prog_7_method_6_code, 2, (some .int), 5),
  (⟨"DictionaryTerms$Types", "needsOnlyBelow", "(II)Z"⟩, prog_7_method_10_code, 3, (some .boolean), 5),
  (⟨"DictionaryTerms$Types", "isClosed", "(I)Z"⟩, prog_7_method_9_code, 2, (some .boolean), 5),
  (⟨"DictionaryTerms$Types", "constructorOf", "(I)I"⟩, prog_7_method_7_code, 2, (some .int), 5),
  (⟨"DictionaryTerms$Types", "argument", "(II)I"⟩, prog_7_method_8_code, 3, (some .int), 5),
  (⟨"DictionaryTerms$Types", "putIn", "(III)I"⟩, prog_7_method_15_code, 9, (some .int), 5),
  (⟨"DictionaryTerms$Types", "argumentToRebuild", "(I)I"⟩, prog_7_method_16_code, 4, (some .int), 5),
  (⟨"DictionaryTerms$Types", "imageOf", "(I)I"⟩, prog_7_method_17_code, 2, (some .int), 5),
  (⟨"DictionaryTerms$Types", "constructorsMade", "()I"⟩, prog_7_method_2_code, 1, (some .int), 5),
  (⟨"DictionaryTerms$Types", "typesMade", "()I"⟩, prog_7_method_3_code, 1, (some .int), 5),
  (⟨"DictionaryTerms$Values", "<init>", "()V"⟩, prog_8_method_1_code, 1, none, 6),
  (⟨"DictionaryTerms$Values", "clear", "(I)V"⟩, prog_8_method_3_code, 3, none, 6),
  (⟨"DictionaryTerms$Values", "cell", "(II)I"⟩, prog_8_method_2_code, 3, (some .int), 6),
  (⟨"DictionaryTerms$Values", "isWorked", "(II)Z"⟩, prog_8_method_4_code, 3, (some .boolean), 6),
  (⟨"DictionaryTerms$Values", "workedTo", "(II)J"⟩, prog_8_method_6_code, 3, (some .long), 6),
  (⟨"DictionaryTerms$Values", "isBeingWorked", "(II)Z"⟩, prog_8_method_5_code, 3, (some .boolean), 6),
  (⟨"DictionaryTerms$Values", "giveUp", "(II)V"⟩, prog_8_method_10_code, 3, none, 6),
  (⟨"DictionaryTerms$Values", "begin", "(II)V"⟩, prog_8_method_8_code, 3, none, 6),
  (⟨"DictionaryTerms$Values", "end", "(IIJ)V"⟩, prog_8_method_9_code, 5, none, 6),
  (⟨"DictionaryTerms$Values", "begunOf", "(II)I"⟩, prog_8_method_7_code, 3, (some .int), 6),
  (⟨"DictionaryTerms$Worker", "<init>", "(LDictionaryTerms$Types;LDictionaryTerms$Nodes;LDictionaryTerms$Instances;LDictionaryTerms$Classes;LDictionaryTerms$Values;LDictionaryTerms$Dictionaries;LDictionaryTerms$Report;)V"⟩, prog_9_method_1_code, 8, none, 7),
  (⟨"DictionaryTerms$Worker", "work", "(II)J"⟩, prog_9_method_2_code, 4, (some .long), 7),
  (⟨"DictionaryTerms$Worker", "need", "(II)V"⟩, prog_9_method_4_code, 3, none, 7),
  (⟨"DictionaryTerms$Worker", "giveUpAll", "()V"⟩, prog_9_method_3_code, 2, none, 7),
  (⟨"DictionaryTerms$Worker", "beginMember", "(II)V"⟩, prog_9_method_5_code, 6, none, 7),
  (⟨"DictionaryTerms$Worker", "openUp", "(I)V"⟩, prog_9_method_6_code, 2, none, 7),
  (⟨"DictionaryTerms$Worker", "advance", "()V"⟩, prog_9_method_7_code, 4, none, 7),
  (⟨"DictionaryTerms$Worker", "endNode", "(J)V"⟩, prog_9_method_11_code, 3, none, 7),
  (⟨"DictionaryTerms$Worker", "advanceIf", "(II)V"⟩, prog_9_method_8_code, 3, none, 7),
  (⟨"DictionaryTerms$Worker", "advanceSum", "(II)V"⟩, prog_9_method_9_code, 3, none, 7),
  (⟨"DictionaryTerms$Worker", "endSum", "(IJJ)V"⟩, prog_9_method_10_code, 6, none, 7),
  (⟨"DictionaryTerms$Worker", "failHere", "(I)V"⟩, prog_9_method_15_code, 2, none, 7),
  (⟨"DictionaryTerms$Worker", "dictionaryNamed", "(I)I"⟩, prog_9_method_12_code, 6, (some .int), 7),
  (⟨"DictionaryTerms$Worker", "memberNamed", "(I)I"⟩, prog_9_method_13_code, 2, (some .int), 7),
  (⟨"DictionaryTerms$Worker", "needNamed", "(II)V"⟩, prog_9_method_14_code, 3, none, 7),
  (⟨"DictionaryTerms", "<init>", "()V"⟩, prog_1_method_1_code, 1, none, 8),
  (⟨"DictionaryTerms", "constructor", "(I)I"⟩, prog_1_method_2_code, 2, (some .int), 8),
  (⟨"DictionaryTerms", "type", "(III)I"⟩, prog_1_method_3_code, 4, (some .int), 8),
  (⟨"DictionaryTerms", "cls", "(I)I"⟩, prog_1_method_4_code, 2, (some .int), 8),
  (⟨"DictionaryTerms", "afterChange", "(I)I"⟩, prog_1_method_21_code, 2, (some .int), 8),
  (⟨"DictionaryTerms", "superOf", "(II)I"⟩, prog_1_method_5_code, 3, (some .int), 8),
  (⟨"DictionaryTerms", "instance", "(II)I"⟩, prog_1_method_6_code, 3, (some .int), 8),
  (⟨"DictionaryTerms", "context", "(III)I"⟩, prog_1_method_7_code, 4, (some .int), 8),
  (⟨"DictionaryTerms", "node", "(IIII)I"⟩, prog_1_method_8_code, 5, (some .int), 8),
  (⟨"DictionaryTerms", "body", "(III)I"⟩, prog_1_method_9_code, 4, (some .int), 8),
  (⟨"DictionaryTerms", "standard", "(III)I"⟩, prog_1_method_10_code, 4, (some .int), 8),
  (⟨"DictionaryTerms", "dictionary", "(II)I"⟩, prog_1_method_11_code, 3, (some .int), 8),
  (⟨"DictionaryTerms", "lack", "(I)I"⟩, prog_1_method_12_code, 2, (some .int), 8),
  (⟨"DictionaryTerms", "part", "(II)I"⟩, prog_1_method_13_code, 3, (some .int), 8),
  (⟨"DictionaryTerms", "about", "(II)I"⟩, prog_1_method_14_code, 3, (some .int), 8),
  (⟨"DictionaryTerms", "value", "(II)J"⟩, prog_1_method_15_code, 3, (some .long), 8),
  (⟨"DictionaryTerms", "hasMember", "(II)Z"⟩, prog_1_method_22_code, 3, (some .boolean), 8),
  (⟨"DictionaryTerms", "failed", "(I)I"⟩, prog_1_method_16_code, 2, (some .int), 8),
  (⟨"DictionaryTerms", "step", "(II)I"⟩, prog_1_method_17_code, 3, (some .int), 8),
  (⟨"DictionaryTerms", "begun", "(II)I"⟩, prog_1_method_18_code, 3, (some .int), 8),
  (⟨"DictionaryTerms", "typeOf", "(II)I"⟩, prog_1_method_19_code, 3, (some .int), 8),
  (⟨"DictionaryTerms", "count", "(I)I"⟩, prog_1_method_20_code, 2, (some .int), 8),
  (⟨"DictionaryTermsModel", "<init>", "()V"⟩, prog_11_method_2_code, 2, none, 9),
  (⟨"DictionaryTermsModel", "constructor", "(I)I"⟩, prog_11_method_3_code, 2, (some .int), 9),
  (⟨"DictionaryTermsModel", "isIn", "(III)Z"⟩, prog_11_method_1_code, 3, (some .boolean), 9),
  (⟨"DictionaryTermsModel", "type", "(III)I"⟩, prog_11_method_6_code, 4, (some .int), 9),
  (⟨"DictionaryTermsModel", "isType", "(I)Z"⟩, prog_11_method_4_code, 2, (some .boolean), 9),
  (⟨"DictionaryTermsModel", "made", "(III)I"⟩, prog_11_method_5_code, 5, (some .int), 9),
  (⟨"DictionaryTermsModel", "typeOf", "(II)I"⟩, prog_11_method_7_code, 3, (some .int), 9),
  (⟨"DictionaryTermsModel", "cls", "(I)I"⟩, prog_11_method_12_code, 3, (some .int), 9),
  (⟨"DictionaryTermsModel", "away", "(I)I"⟩, prog_11_method_11_code, 2, (some .int), 9),
  (⟨"DictionaryTermsModel", "superOf", "(II)I"⟩, prog_11_method_13_code, 4, (some .int), 9),
  (⟨"DictionaryTermsModel", "isClass", "(I)Z"⟩, prog_11_method_9_code, 2, (some .boolean), 9),
  (⟨"DictionaryTermsModel", "instance", "(II)I"⟩, prog_11_method_15_code, 4, (some .int), 9),
  (⟨"DictionaryTermsModel", "instanceOf", "(II)I"⟩, prog_11_method_14_code, 4, (some .int), 9),
  (⟨"DictionaryTermsModel", "context", "(III)I"⟩, prog_11_method_16_code, 4, (some .int), 9),
  (⟨"DictionaryTermsModel", "isInstance", "(I)Z"⟩, prog_11_method_10_code, 2, (some .boolean), 9),
  (⟨"DictionaryTermsModel", "node", "(IIII)I"⟩, prog_11_method_20_code, 6, (some .int), 9),
  (⟨"DictionaryTermsModel", "isRight", "(IIII)Z"⟩, prog_11_method_19_code, 5, (some .boolean), 9),
  (⟨"DictionaryTermsModel", "isNode", "(I)Z"⟩, prog_11_method_18_code, 2, (some .boolean), 9),
  (⟨"DictionaryTermsModel", "greater", "(II)I"⟩, prog_11_method_17_code, 2, (some .int), 9),
  (⟨"DictionaryTermsModel", "body", "(III)I"⟩, prog_11_method_23_code, 4, (some .int), 9),
  (⟨"DictionaryTermsModel", "fits", "(III)Z"⟩, prog_11_method_21_code, 6, (some .boolean), 9),
  (⟨"DictionaryTermsModel", "isThere", "(III)Z"⟩, prog_11_method_22_code, 4, (some .boolean), 9),
  (⟨"DictionaryTermsModel", "standard", "(III)I"⟩, prog_11_method_24_code, 4, (some .int), 9),
  (⟨"DictionaryTermsModel", "dictionary", "(II)I"⟩, prog_11_method_31_code, 3, (some .int), 9),
  (⟨"DictionaryTermsModel", "make", "(II)I"⟩, prog_11_method_30_code, 14, (some .int), 9),
  (⟨"DictionaryTermsModel", "find", "(II)I"⟩, prog_11_method_27_code, 4, (some .int), 9),
  (⟨"DictionaryTermsModel", "begin", "(II)I"⟩, prog_11_method_28_code, 6, (some .int), 9),
  (⟨"DictionaryTermsModel", "partMany", "(I)I"⟩, prog_11_method_26_code, 2, (some .int), 9),
  (⟨"DictionaryTermsModel", "argument", "(II)I"⟩, prog_11_method_29_code, 3, (some .int), 9),
  (⟨"DictionaryTermsModel", "lack", "(I)I"⟩, prog_11_method_32_code, 2, (some .int), 9),
  (⟨"DictionaryTermsModel", "part", "(II)I"⟩, prog_11_method_33_code, 3, (some .int), 9),
  (⟨"DictionaryTermsModel", "isDictionary", "(I)Z"⟩, prog_11_method_25_code, 2, (some .boolean), 9),
  (⟨"DictionaryTermsModel", "about", "(II)I"⟩, prog_11_method_35_code, 3, (some .int), 9),
  (⟨"DictionaryTermsModel", "hanging", "(I)I"⟩, prog_11_method_34_code, 5, (some .int), 9),
  (⟨"DictionaryTermsModel", "value", "(II)J"⟩, prog_11_method_45_code, 4, (some .long), 9),
  (⟨"DictionaryTermsModel", "need", "(II)V"⟩, prog_11_method_39_code, 6, none, 9),
  (⟨"DictionaryTermsModel", "come", "(J)V"⟩, prog_11_method_37_code, 3, none, 9),
  (⟨"DictionaryTermsModel", "fails", "(III)V"⟩, prog_11_method_38_code, 4, none, 9),
  (⟨"DictionaryTermsModel", "task", "(I)V"⟩, prog_11_method_36_code, 2, none, 9),
  (⟨"DictionaryTermsModel", "end", "()V"⟩, prog_11_method_44_code, 3, none, 9),
  (⟨"DictionaryTermsModel", "together", "(I)V"⟩, prog_11_method_43_code, 6, none, 9),
  (⟨"DictionaryTermsModel", "failsHere", "(I)V"⟩, prog_11_method_40_code, 2, none, 9),
  (⟨"DictionaryTermsModel", "work", "(I)V"⟩, prog_11_method_42_code, 3, none, 9),
  (⟨"DictionaryTermsModel", "workAt", "(I)V"⟩, prog_11_method_41_code, 6, none, 9),
  (⟨"DictionaryTermsModel", "put", "(III)I"⟩, prog_11_method_8_code, 6, (some .int), 9),
  (⟨"DictionaryTermsModel", "failed", "(I)I"⟩, prog_11_method_46_code, 2, (some .int), 9),
  (⟨"DictionaryTermsModel", "step", "(II)I"⟩, prog_11_method_47_code, 3, (some .int), 9),
  (⟨"DictionaryTermsModel", "begun", "(II)I"⟩, prog_11_method_48_code, 3, (some .int), 9),
  (⟨"DictionaryTermsModel", "count", "(I)I"⟩, prog_11_method_49_code, 2, (some .int), 9),
  (⟨"java/util/Arrays", "fill", "([II)V"⟩, prog_13_method_103_code, 4, none, 11),
  (⟨"DictionaryTermsLaw", "law", "([I)Z"⟩, code, 4, (some .boolean), 10)]
/-- (class * 1000 + entry) to a field: class, number -/
def am_fl : List (Nat × Nat × Nat) := [(11, 0, 0), (15, 0, 1), (18, 0, 2), (21, 0, 3), (24, 0, 4), (1015, 1, 4), (1019, 1, 5), (1022, 1, 6), (1025, 1, 7), (1028, 1, 8), (1031, 1, 9), (1035, 1, 10), (1038, 1, 11), (1041, 1, 12), (1044, 1, 13), (1048, 1, 0), (1052, 1, 1), (1056, 1, 2), (1060, 1, 3), (2011, 2, 2), (2015, 2, 3), (2018, 2, 4), (2021, 2, 5), (2024, 2, 6), (2029, 2, 7), (2032, 2, 8), (2036, 2, 0), (2040, 2, 1), (3011, 3, 3), (3015, 3, 4), (3018, 3, 5), (3021, 3, 6), (3024, 3, 7), (3027, 3, 8), (3031, 3, 9), (3035, 3, 0), (3039, 3, 1), (3043, 3, 2), (4009, 4, 0), (4015, 4, 1), (4018, 4, 2), (4023, 4, 3), (4027, 4, 4), (4030, 4, 5), (5011, 5, 0), (5015, 5, 1), (5019, 5, 2), (5022, 5, 3), (5025, 5, 4), (5028, 5, 5), (5031, 5, 6), (5034, 5, 7), (5037, 5, 8), (6013, 6, 0), (6017, 6, 1), (6021, 6, 2), (7013, 7, 7), (7017, 7, 8), (7020, 7, 9), (7023, 7, 10), (7026, 7, 11), (7029, 7, 12), (7033, 7, 13), (7036, 7, 14), (7039, 7, 15), (7043, 7, 16), (7046, 7, 17), (7050, 7, 0), (7054, 7, 1), (7058, 7, 2), (7062, 7, 3), (7066, 7, 4), (7070, 7, 5), (7074, 7, 6), (8010, 8, 0), (8019, 8, 1), (8028, 8, 2), (8037, 8, 3), (8044, 8, 4), (8053, 8, 5), (8060, 8, 6), (8069, 8, 7), (9007, 9, 1), (9013, 9, 2), (9017, 9, 3), (9020, 9, 4), (9023, 9, 5), (9026, 9, 6), (9029, 9, 7), (9032, 9, 8), (9035, 9, 10), (9038, 9, 11), (9041, 9, 12), (9044, 9, 13), (9047, 9, 15), (9050, 9, 16), (9053, 9, 17), (9056, 9, 18), (9059, 9, 19), (9062, 9, 20), (9065, 9, 22), (9068, 9, 23), (9071, 9, 24), (9074, 9, 25), (9077, 9, 26), (9080, 9, 27), (9084, 9, 29), (9087, 9, 30), (9090, 9, 31), (9093, 9, 32), (9096, 9, 33), (9099, 9, 34), (9102, 9, 35), (9106, 9, 36), (9109, 9, 37), (9112, 9, 38), (9115, 9, 39), (9118, 9, 40), (9121, 9, 41), (9124, 9, 42), (9127, 9, 44), (9130, 9, 46), (9133, 9, 47), (9136, 9, 48), (9139, 9, 51), (9142, 9, 52), (9145, 9, 54), (9148, 9, 55), (9155, 9, 0), (9166, 9, 9), (9169, 9, 14), (9172, 9, 28), (9189, 9, 21), (9229, 9, 43), (9232, 9, 45), (9235, 9, 50), (9242, 9, 49), (9266, 9, 53)]
/-- (class * 1000 + entry) to a method: 0 virtual, 1 static, 2 a constructor, 3 a nest mate's constructor, 4 Object's; its number; its arguments -/
def am_mk : List (Nat × Nat × Nat × Nat) := [(3, 4, 0, 0), (28, 1, 182, 2), (34, 0, 3, 1), (38, 0, 4, 2), (42, 0, 5, 2), (1009, 4, 0, 0), (1064, 0, 36, 1), (1068, 0, 7, 1), (1071, 0, 22, 2), (1075, 0, 14, 2), (1078, 0, 15, 2), (1081, 0, 16, 1), (1084, 0, 17, 2), (1087, 0, 18, 2), (1090, 0, 79, 1), (1095, 0, 31, 2), (1096, 0, 87, 1), (1102, 0, 37, 2), (1105, 0, 5, 2), (1108, 0, 39, 2), (1111, 0, 80, 2), (2003, 4, 0, 0), (2044, 1, 182, 2), (2050, 0, 76, 1), (2056, 0, 3, 1), (2060, 0, 73, 1), (2063, 0, 31, 2), (2067, 0, 33, 1), (2068, 0, 34, 1), (3003, 4, 0, 0), (3047, 0, 44, 4), (3051, 0, 47, 4), (3055, 0, 45, 1), (3059, 0, 74, 1), (3064, 0, 6, 2), (3070, 0, 46, 1), (3071, 5, 0, 2), (3077, 0, 35, 1), (3083, 0, 34, 1), (3086, 0, 49, 4), (3089, 0, 50, 4), (3092, 0, 51, 1), (3096, 0, 36, 1), (3099, 0, 37, 2), (3102, 0, 7, 1), (3105, 0, 5, 2), (3108, 0, 77, 2), (4003, 4, 0, 0), (4033, 0, 60, 0), (5003, 4, 0, 0), (5040, 0, 70, 4), (5044, 0, 73, 1), (5048, 0, 74, 1), (5051, 0, 75, 3), (5055, 5, 0, 2), (5061, 0, 82, 1), (5065, 0, 83, 1), (6005, 4, 0, 0), (6024, 0, 88, 2), (7007, 4, 0, 0), (7078, 0, 60, 0), (7083, 0, 98, 2), (7088, 0, 63, 0), (7092, 0, 102, 0), (7095, 0, 99, 0), (7098, 0, 92, 2), (7103, 0, 89, 2), (7107, 0, 90, 2), (7111, 0, 91, 2), (7114, 0, 61, 3), (7118, 0, 100, 2), (7121, 0, 25, 1), (7127, 0, 40, 2), (7133, 0, 23, 1), (7136, 0, 9, 2), (7141, 0, 24, 1), (7144, 0, 93, 2), (7147, 0, 80, 2), (7152, 0, 101, 1), (7156, 0, 53, 1), (7159, 0, 54, 1), (7162, 0, 103, 1), (7166, 0, 104, 2), (7169, 0, 105, 2), (7172, 0, 108, 1), (7175, 0, 109, 1), (7178, 0, 110, 2), (7181, 0, 55, 1), (7184, 0, 56, 1), (7187, 0, 106, 3), (7191, 0, 107, 1), (7194, 0, 94, 3), (7198, 0, 62, 2), (7201, 0, 22, 2), (7204, 0, 27, 2), (7207, 0, 81, 3), (7211, 0, 13, 2), (8001, 4, 0, 0), (8009, 2, 69, 0), (8018, 2, 0, 0), (8025, 2, 29, 2), (8034, 2, 42, 3), (8043, 3, 86, 0), (8050, 2, 11, 4), (8059, 3, 58, 0), (8066, 2, 96, 7), (8073, 0, 71, 1), (8077, 0, 72, 3), (8081, 0, 1, 1), (8084, 0, 115, 1), (8087, 0, 2, 2), (8091, 0, 30, 2), (8093, 0, 32, 3), (8096, 0, 43, 4), (8099, 0, 33, 1), (8103, 0, 35, 1), (8106, 0, 6, 2), (8110, 0, 48, 2), (8113, 0, 38, 3), (8117, 0, 52, 2), (8120, 0, 8, 3), (8123, 0, 3, 1), (8124, 0, 74, 1), (8125, 0, 78, 1), (8128, 0, 13, 2), (8131, 0, 19, 0), (8135, 0, 20, 0), (8138, 0, 21, 1), (8139, 0, 16, 1), (8142, 0, 22, 2), (8145, 0, 23, 1), (8146, 0, 24, 1), (8149, 0, 25, 1), (8152, 0, 26, 1), (8155, 0, 127, 2), (8156, 0, 59, 0), (8159, 0, 97, 2), (8163, 0, 63, 0), (8166, 0, 64, 0), (8169, 0, 65, 0), (8172, 0, 66, 1), (8175, 0, 67, 1), (8178, 0, 95, 2), (8181, 0, 79, 1), (8184, 0, 80, 2), (8187, 0, 84, 0), (8190, 0, 85, 0), (8193, 0, 10, 0), (8196, 0, 41, 0), (8197, 0, 57, 0), (8198, 0, 28, 0), (8199, 0, 68, 0), (8202, 0, 12, 0), (9001, 4, 0, 0), (9151, 1, 135, 3), (9158, 0, 137, 1), (9162, 0, 138, 3), (9175, 0, 141, 1), (9179, 0, 143, 1), (9182, 0, 145, 2), (9186, 0, 147, 1), (9192, 0, 150, 1), (9195, 0, 149, 4), (9199, 1, 151, 2), (9202, 0, 154, 3), (9205, 0, 153, 3), (9208, 0, 158, 2), (9211, 0, 159, 2), (9214, 0, 160, 1), (9217, 0, 161, 2), (9220, 0, 157, 2), (9223, 0, 164, 1), (9226, 0, 166, 1), (9238, 0, 169, 1), (9245, 0, 170, 3), (9249, 0, 171, 1), (9253, 0, 177, 3), (9256, 0, 174, 1), (9259, 0, 168, 2), (9263, 0, 176, 1), (9269, 0, 172, 0), (9272, 0, 173, 1), (9275, 0, 175, 1), (10009, 2, 111, 0), (10012, 2, 133, 0), (10013, 0, 112, 1), (10017, 0, 134, 1), (10018, 0, 113, 3), (10022, 0, 136, 3), (10023, 0, 114, 1), (10026, 0, 140, 1), (10027, 0, 116, 2), (10031, 0, 142, 2), (10032, 0, 117, 2), (10035, 0, 144, 2), (10036, 0, 118, 3), (10039, 0, 146, 3), (10040, 0, 119, 4), (10044, 0, 148, 4), (10045, 0, 120, 3), (10048, 0, 152, 3), (10049, 0, 121, 3), (10052, 0, 155, 3), (10053, 0, 122, 2), (10056, 0, 156, 2), (10057, 0, 123, 1), (10060, 0, 162, 1), (10061, 0, 124, 2), (10064, 0, 163, 2), (10065, 0, 125, 2), (10068, 0, 165, 2), (10069, 0, 126, 2), (10073, 0, 167, 2), (10074, 0, 128, 1), (10077, 0, 178, 1), (10078, 0, 129, 2), (10081, 0, 179, 2), (10082, 0, 130, 2), (10085, 0, 180, 2), (10086, 0, 131, 2), (10089, 0, 139, 2), (10090, 0, 132, 1), (10093, 0, 181, 1)]
/-- (class * 1000 + entry) to a class -/
def am_ck : List (Nat × Nat) := [(8007, 5), (8016, 0), (8023, 2), (8032, 3), (8041, 6), (8048, 1), (8057, 4), (8064, 7), (10007, 8), (10010, 9)]
/-- (class * 1000 + entry) to a constant -/
def am_kk : List (Nat × Int) := [(7087, 1000000)]
/-- where the words of a field's entry stand -/
def am_fp : List Nat := [128, 129, 130, 131, 132, 244, 245, 246, 247, 248, 249, 250, 251, 252, 253, 240, 241, 242, 243, 153, 154, 155, 156, 157, 158, 159, 151, 152, 188, 189, 190, 191, 192, 193, 194, 185, 186, 187, 289, 290, 291, 292, 293, 294, 90, 91, 92, 93, 94, 95, 96, 97, 98, 223, 224, 225, 321, 322, 323, 324, 325, 326, 327, 328, 329, 330, 331, 314, 315, 316, 317, 318, 319, 320, 369, 370, 371, 372, 373, 374, 375, 376, 925, 926, 927, 928, 929, 930, 931, 932, 934, 935, 936, 937, 939, 940, 941, 942, 943, 944, 946, 947, 948, 949, 950, 951, 953, 954, 955, 956, 957, 958, 959, 960, 961, 962, 963, 964, 965, 966, 968, 970, 971, 972, 975, 976, 978, 979, 924, 933, 938, 952, 945, 967, 969, 974, 973, 977]
/-- where the words of a method's entry stand -/
def am_kp : List (Nat × Nat × Nat) := [(124, 78, 79), (125, 126, 0), (449, 450, 451), (453, 455, 3), (457, 458, 459), (239, 78, 79), (625, 550, 551), (626, 558, 559), (690, 667, 668), (600, 602, 11), (604, 606, 12), (621, 622, 623), (627, 629, 14), (633, 635, 15), (608, 609, 610), (612, 472, 473), (613, 614, 615), (631, 554, 555), (632, 458, 459), (637, 638, 639), (641, 642, 643), (149, 78, 79), (150, 126, 0), (491, 492, 493), (469, 450, 451), (470, 411, 412), (471, 472, 473), (483, 484, 485), (487, 488, 489), (184, 78, 79), (503, 505, 4), (520, 522, 7), (507, 509, 5), (511, 415, 416), (512, 513, 514), (516, 518, 6), (524, 423, 0), (539, 531, 532), (540, 488, 489), (541, 543, 8), (545, 547, 9), (566, 568, 10), (549, 550, 551), (553, 554, 555), (557, 558, 559), (561, 458, 459), (562, 563, 564), (288, 78, 79), (703, 704, 705), (85, 78, 79), (86, 88, 0), (410, 411, 412), (414, 415, 416), (418, 420, 1), (422, 423, 0), (822, 824, 27), (826, 828, 28), (222, 78, 79), (617, 619, 13), (313, 78, 79), (711, 704, 705), (712, 714, 17), (757, 758, 759), (761, 763, 20), (839, 841, 31), (843, 844, 845), (716, 717, 718), (720, 721, 722), (724, 725, 726), (728, 729, 730), (732, 734, 18), (736, 683, 684), (737, 738, 739), (741, 675, 676), (742, 743, 744), (746, 679, 680), (747, 748, 749), (751, 642, 643), (752, 754, 19), (765, 766, 767), (769, 770, 771), (773, 775, 21), (785, 787, 22), (797, 799, 23), (809, 811, 26), (831, 833, 29), (835, 837, 30), (789, 790, 791), (793, 794, 795), (801, 803, 24), (805, 807, 25), (777, 778, 779), (781, 782, 783), (813, 667, 668), (814, 815, 816), (818, 819, 820), (830, 597, 598), (77, 78, 79), (82, 83, 0), (121, 122, 0), (146, 147, 0), (181, 182, 0), (219, 220, 0), (236, 237, 0), (285, 286, 0), (310, 311, 0), (398, 399, 400), (406, 407, 408), (429, 430, 431), (433, 435, 2), (445, 446, 447), (465, 466, 467), (479, 480, 481), (499, 500, 501), (529, 484, 485), (530, 531, 532), (534, 513, 514), (535, 536, 537), (570, 571, 572), (578, 579, 580), (582, 583, 584), (590, 450, 451), (591, 415, 416), (592, 593, 594), (596, 597, 598), (649, 650, 651), (653, 654, 655), (661, 662, 663), (665, 622, 623), (666, 667, 668), (674, 675, 676), (678, 679, 680), (682, 683, 684), (686, 687, 688), (695, 697, 16), (699, 700, 701), (707, 708, 709), (851, 758, 759), (852, 853, 854), (856, 857, 858), (864, 865, 866), (868, 869, 870), (876, 877, 878), (884, 609, 610), (885, 642, 643), (890, 891, 892), (894, 895, 896), (898, 899, 900), (902, 903, 904), (906, 907, 908), (910, 911, 912), (914, 915, 916), (437, 438, 439), (923, 78, 79), (1097, 1098, 0), (1104, 1106, 32), (1108, 1110, 33), (1120, 1122, 34), (1128, 1130, 35), (1136, 1138, 36), (1144, 1146, 37), (1156, 1158, 39), (1152, 1154, 38), (1160, 1161, 0), (1171, 1173, 41), (1167, 1169, 40), (1187, 1189, 43), (1191, 1193, 44), (1195, 1197, 45), (1199, 1201, 46), (1183, 1185, 42), (1211, 1213, 47), (1219, 1221, 48), (1231, 1233, 50), (1235, 1237, 51), (1239, 1241, 52), (1263, 1265, 58), (1251, 1253, 55), (1227, 1229, 49), (1259, 1261, 57), (1243, 1245, 53), (1247, 1249, 54), (1255, 1257, 56), (74, 75, 0), (920, 921, 0), (394, 395, 396), (1093, 1094, 1095), (402, 403, 404), (1100, 1101, 1102), (425, 426, 427), (1116, 1117, 1118), (441, 442, 443), (1124, 1125, 1126), (461, 462, 463), (1132, 1133, 1134), (475, 476, 477), (1140, 1141, 1142), (495, 496, 497), (1148, 1149, 1150), (525, 526, 527), (1163, 1164, 1165), (574, 575, 576), (1175, 1176, 1177), (586, 587, 588), (1179, 1180, 1181), (645, 646, 647), (1203, 1204, 1205), (657, 658, 659), (1207, 1208, 1209), (670, 671, 672), (1215, 1216, 1217), (691, 692, 693), (1223, 1224, 1225), (847, 848, 849), (1267, 1268, 1269), (860, 861, 862), (1271, 1272, 1273), (872, 873, 874), (1275, 1276, 1277), (880, 881, 882), (1112, 1113, 1114), (886, 887, 888), (1279, 1280, 1281)]
/-- where the words of a method's code stand -/
def am_cp : List Nat := [123, 432, 448, 452, 456, 460, 515, 560, 585, 745, 901, 238, 440, 599, 603, 607, 624, 630, 636, 652, 656, 664, 669, 677, 681, 685, 689, 817, 913, 148, 468, 474, 482, 486, 490, 533, 552, 556, 573, 640, 740, 905, 183, 502, 506, 510, 519, 523, 538, 544, 548, 569, 581, 768, 772, 792, 796, 909, 287, 702, 706, 731, 784, 760, 855, 859, 867, 871, 917, 84, 89, 401, 409, 413, 417, 421, 494, 565, 595, 611, 644, 821, 825, 829, 893, 897, 221, 616, 620, 719, 723, 727, 846, 750, 780, 879, 312, 710, 715, 842, 735, 755, 764, 776, 788, 800, 804, 808, 812, 834, 838, 76, 397, 405, 428, 436, 444, 464, 478, 498, 528, 577, 589, 648, 660, 673, 694, 698, 850, 863, 875, 883, 889, 922, 1096, 1099, 1103, 1107, 1111, 1115, 1119, 1123, 1127, 1131, 1135, 1139, 1143, 1147, 1151, 1155, 1159, 1162, 1166, 1170, 1174, 1178, 1182, 1186, 1190, 1194, 1198, 1202, 1206, 1210, 1214, 1218, 1222, 1226, 1230, 1234, 1238, 1242, 1246, 1250, 1254, 1258, 1262, 1266, 1270, 1274, 1278, 1282, 127]
def am_xp : Nat × Nat × Nat := (423, 424, 79)
