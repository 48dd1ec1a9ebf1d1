/-! printed by wip/whole/gen_sites.py: the methods, and what each site of the code needs of the tables -/
theorem tb_1 {x : Cond} (h : x ∈ tables_1_1) : x ∈ lw_tbl := List.mem_append_right _ (List.mem_append_left _ h)
theorem tb_2 {x : Cond} (h : x ∈ tables_1_2) : x ∈ lw_tbl := List.mem_append_right _ (List.mem_append_right _ (List.mem_append_left _ h))
theorem tb_3 {x : Cond} (h : x ∈ tables_1_3) : x ∈ lw_tbl := List.mem_append_right _ (List.mem_append_right _ (List.mem_append_right _ (List.mem_append_left _ h)))
theorem tb_4 {x : Cond} (h : x ∈ tables_1_4) : x ∈ lw_tbl := List.mem_append_right _ (List.mem_append_right _ (List.mem_append_right _ (List.mem_append_right _ (List.mem_append_left _ h))))
theorem tb_5 {x : Cond} (h : x ∈ tables_1_5) : x ∈ lw_tbl := List.mem_append_right _ (List.mem_append_right _ (List.mem_append_right _ (List.mem_append_right _ (List.mem_append_right _ (h)))))
theorem mw_1_18 : (Cond.code ({ cls := "QuotaRegister", name := "<init>", desc := "()V" } : Jvm.MethodName) prog_1_method_1_code (1 : Nat) (Option.none : Option FieldType)) ∈ lw_tbl := tb_1 (List.mem_of_getElem? (i := 18) rfl)
theorem mw_1_26 : (Cond.code ({ cls := "QuotaRegister$Shares", name := "<init>", desc := "()V" } : Jvm.MethodName) prog_4_method_1_code (2 : Nat) (Option.none : Option FieldType)) ∈ lw_tbl := tb_1 (List.mem_of_getElem? (i := 26) rfl)
theorem mw_1_31 : (Cond.code ({ cls := "java/util/Arrays", name := "fill", desc := "([II)V" } : Jvm.MethodName) prog_15_method_103_code (4 : Nat) (Option.none : Option FieldType)) ∈ lw_tbl := tb_1 (List.mem_of_getElem? (i := 31) rfl)
theorem mw_1_53 : (Cond.code ({ cls := "QuotaRegister$Accounts", name := "<init>", desc := "()V" } : Jvm.MethodName) prog_2_method_1_code (1 : Nat) (Option.none : Option FieldType)) ∈ lw_tbl := tb_1 (List.mem_of_getElem? (i := 53) rfl)
theorem mw_1_90 : (Cond.code ({ cls := "QuotaRegister$Events", name := "<init>", desc := "()V" } : Jvm.MethodName) prog_3_method_1_code (1 : Nat) (Option.none : Option FieldType)) ∈ lw_tbl := tb_1 (List.mem_of_getElem? (i := 90) rfl)
theorem mw_1_152 : (Cond.codeWith ({ cls := "QuotaRegisterLaw", name := "species", desc := "(LQuotaRegister;III)I" } : Jvm.MethodName) method_3_code (5 : Nat) (Option.some FieldType.int) [((0 : Nat), (7 : Nat), (10 : Nat), (13 : Nat))]) ∈ lw_tbl := tb_1 (List.mem_of_getElem? (i := 152) rfl)
theorem mw_1_157 : (Cond.code ({ cls := "QuotaRegister", name := "species", desc := "(III)V" } : Jvm.MethodName) prog_1_method_2_code (4 : Nat) (Option.none : Option FieldType)) ∈ lw_tbl := tb_1 (List.mem_of_getElem? (i := 157) rfl)
theorem mw_1_160 : (Cond.code ({ cls := "QuotaRegister", name := "isSpecies", desc := "(I)Z" } : Jvm.MethodName) prog_1_method_23_code (1 : Nat) (Option.some FieldType.boolean)) ∈ lw_tbl := tb_1 (List.mem_of_getElem? (i := 160) rfl)
theorem mw_1_163 : (Cond.code ({ cls := "QuotaRegister", name := "isWithin", desc := "(III)Z" } : Jvm.MethodName) prog_1_method_22_code (3 : Nat) (Option.some FieldType.boolean)) ∈ lw_tbl := tb_1 (List.mem_of_getElem? (i := 163) rfl)
theorem mw_1_236 : (Cond.code ({ cls := "QuotaRegister$Shares", name := "someGroupHoldsMore", desc := "(II)Z" } : Jvm.MethodName) prog_4_method_18_code (4 : Nat) (Option.some FieldType.boolean)) ∈ lw_tbl := tb_1 (List.mem_of_getElem? (i := 236) rfl)
theorem mw_2_0 : (Cond.code ({ cls := "QuotaRegister$Shares", name := "groupOf", desc := "(I)I" } : Jvm.MethodName) prog_4_method_9_code (5 : Nat) (Option.some FieldType.int)) ∈ lw_tbl := tb_2 (List.mem_of_getElem? (i := 0) rfl)
theorem mw_2_4 : (Cond.code ({ cls := "QuotaRegister$Shares", name := "partsOfGroup", desc := "(II)I" } : Jvm.MethodName) prog_4_method_11_code (5 : Nat) (Option.some FieldType.int)) ∈ lw_tbl := tb_2 (List.mem_of_getElem? (i := 4) rfl)
theorem mw_2_8 : (Cond.code ({ cls := "QuotaRegister$Shares", name := "partsOf", desc := "(II)I" } : Jvm.MethodName) prog_4_method_10_code (3 : Nat) (Option.some FieldType.int)) ∈ lw_tbl := tb_2 (List.mem_of_getElem? (i := 8) rfl)
theorem mw_2_13 : (Cond.code ({ cls := "QuotaRegister$Shares", name := "setCap", desc := "(II)V" } : Jvm.MethodName) prog_4_method_2_code (3 : Nat) (Option.none : Option FieldType)) ∈ lw_tbl := tb_2 (List.mem_of_getElem? (i := 13) rfl)
theorem mw_2_16 : (Cond.codeWith ({ cls := "QuotaRegisterLaw", name := "factor", desc := "(LQuotaRegister;III)I" } : Jvm.MethodName) method_4_code (5 : Nat) (Option.some FieldType.int) [((0 : Nat), (7 : Nat), (10 : Nat), (13 : Nat))]) ∈ lw_tbl := tb_2 (List.mem_of_getElem? (i := 16) rfl)
theorem mw_2_20 : (Cond.code ({ cls := "QuotaRegister", name := "factor", desc := "(III)V" } : Jvm.MethodName) prog_1_method_3_code (4 : Nat) (Option.none : Option FieldType)) ∈ lw_tbl := tb_2 (List.mem_of_getElem? (i := 20) rfl)
theorem mw_2_23 : (Cond.code ({ cls := "QuotaRegister", name := "isForm", desc := "(I)Z" } : Jvm.MethodName) prog_1_method_25_code (1 : Nat) (Option.some FieldType.boolean)) ∈ lw_tbl := tb_2 (List.mem_of_getElem? (i := 23) rfl)
theorem mw_2_27 : (Cond.codeWith ({ cls := "QuotaRegisterLaw", name := "vessel", desc := "(LQuotaRegister;II)I" } : Jvm.MethodName) method_5_code (4 : Nat) (Option.some FieldType.int) [((0 : Nat), (6 : Nat), (9 : Nat), (13 : Nat)), ((0 : Nat), (6 : Nat), (12 : Nat), (22 : Nat))]) ∈ lw_tbl := tb_2 (List.mem_of_getElem? (i := 27) rfl)
theorem mw_2_32 : (Cond.code ({ cls := "QuotaRegister", name := "vessel", desc := "(II)V" } : Jvm.MethodName) prog_1_method_4_code (3 : Nat) (Option.none : Option FieldType)) ∈ lw_tbl := tb_2 (List.mem_of_getElem? (i := 32) rfl)
theorem mw_2_35 : (Cond.code ({ cls := "QuotaRegister", name := "isVessel", desc := "(I)Z" } : Jvm.MethodName) prog_1_method_28_code (1 : Nat) (Option.some FieldType.boolean)) ∈ lw_tbl := tb_2 (List.mem_of_getElem? (i := 35) rfl)
theorem mw_2_38 : (Cond.code ({ cls := "QuotaRegister", name := "isOwner", desc := "(I)Z" } : Jvm.MethodName) prog_1_method_26_code (1 : Nat) (Option.some FieldType.boolean)) ∈ lw_tbl := tb_2 (List.mem_of_getElem? (i := 38) rfl)
theorem mw_2_43 : (Cond.code ({ cls := "QuotaRegister$Shares", name := "carriesParts", desc := "(I)Z" } : Jvm.MethodName) prog_4_method_16_code (3 : Nat) (Option.some FieldType.boolean)) ∈ lw_tbl := tb_2 (List.mem_of_getElem? (i := 43) rfl)
theorem mw_2_47 : (Cond.code ({ cls := "QuotaRegister$Shares", name := "placedOn", desc := "(II)I" } : Jvm.MethodName) prog_4_method_14_code (3 : Nat) (Option.some FieldType.int)) ∈ lw_tbl := tb_2 (List.mem_of_getElem? (i := 47) rfl)
theorem mw_2_67 : (Cond.code ({ cls := "QuotaRegister$Shares", name := "setOwner", desc := "(II)V" } : Jvm.MethodName) prog_4_method_3_code (3 : Nat) (Option.none : Option FieldType)) ∈ lw_tbl := tb_2 (List.mem_of_getElem? (i := 67) rfl)
theorem mw_2_70 : (Cond.codeWith ({ cls := "QuotaRegisterLaw", name := "link", desc := "(LQuotaRegister;II)I" } : Jvm.MethodName) method_6_code (4 : Nat) (Option.some FieldType.int) [((0 : Nat), (6 : Nat), (9 : Nat), (13 : Nat)), ((0 : Nat), (6 : Nat), (12 : Nat), (22 : Nat))]) ∈ lw_tbl := tb_2 (List.mem_of_getElem? (i := 70) rfl)
theorem mw_2_74 : (Cond.code ({ cls := "QuotaRegister", name := "link", desc := "(II)V" } : Jvm.MethodName) prog_1_method_5_code (3 : Nat) (Option.none : Option FieldType)) ∈ lw_tbl := tb_2 (List.mem_of_getElem? (i := 74) rfl)
theorem mw_2_77 : (Cond.code ({ cls := "QuotaRegister", name := "areTwoOwners", desc := "(II)Z" } : Jvm.MethodName) prog_1_method_27_code (2 : Nat) (Option.some FieldType.boolean)) ∈ lw_tbl := tb_2 (List.mem_of_getElem? (i := 77) rfl)
theorem mw_2_82 : (Cond.code ({ cls := "QuotaRegister$Shares", name := "joinedWouldPassCap", desc := "(II)Z" } : Jvm.MethodName) prog_4_method_20_code (5 : Nat) (Option.some FieldType.boolean)) ∈ lw_tbl := tb_2 (List.mem_of_getElem? (i := 82) rfl)
theorem mw_2_87 : (Cond.code ({ cls := "QuotaRegister$Shares", name := "join", desc := "(II)V" } : Jvm.MethodName) prog_4_method_5_code (3 : Nat) (Option.none : Option FieldType)) ∈ lw_tbl := tb_2 (List.mem_of_getElem? (i := 87) rfl)
theorem mw_2_90 : (Cond.codeWith ({ cls := "QuotaRegisterLaw", name := "unlink", desc := "(LQuotaRegister;II)I" } : Jvm.MethodName) method_7_code (4 : Nat) (Option.some FieldType.int) [((0 : Nat), (6 : Nat), (9 : Nat), (13 : Nat)), ((0 : Nat), (6 : Nat), (12 : Nat), (22 : Nat))]) ∈ lw_tbl := tb_2 (List.mem_of_getElem? (i := 90) rfl)
theorem mw_2_94 : (Cond.code ({ cls := "QuotaRegister", name := "unlink", desc := "(II)V" } : Jvm.MethodName) prog_1_method_6_code (3 : Nat) (Option.none : Option FieldType)) ∈ lw_tbl := tb_2 (List.mem_of_getElem? (i := 94) rfl)
theorem mw_2_98 : (Cond.code ({ cls := "QuotaRegister$Shares", name := "areJoined", desc := "(II)Z" } : Jvm.MethodName) prog_4_method_7_code (3 : Nat) (Option.some FieldType.boolean)) ∈ lw_tbl := tb_2 (List.mem_of_getElem? (i := 98) rfl)
theorem mw_2_103 : (Cond.code ({ cls := "QuotaRegister$Shares", name := "part", desc := "(II)V" } : Jvm.MethodName) prog_4_method_6_code (3 : Nat) (Option.none : Option FieldType)) ∈ lw_tbl := tb_2 (List.mem_of_getElem? (i := 103) rfl)
theorem mw_2_106 : (Cond.codeWith ({ cls := "QuotaRegisterLaw", name := "issue", desc := "(LQuotaRegister;III[J)I" } : Jvm.MethodName) method_8_code (6 : Nat) (Option.some FieldType.int) [((0 : Nat), (12 : Nat), (15 : Nat), (13 : Nat)), ((0 : Nat), (12 : Nat), (19 : Nat), (22 : Nat))]) ∈ lw_tbl := tb_2 (List.mem_of_getElem? (i := 106) rfl)
theorem mw_2_110 : (Cond.code ({ cls := "QuotaRegister", name := "issue", desc := "(III)I" } : Jvm.MethodName) prog_1_method_7_code (4 : Nat) (Option.some FieldType.int)) ∈ lw_tbl := tb_2 (List.mem_of_getElem? (i := 110) rfl)
theorem mw_2_116 : (Cond.code ({ cls := "QuotaRegister$Shares", name := "partsInAll", desc := "(I)I" } : Jvm.MethodName) prog_4_method_12_code (2 : Nat) (Option.some FieldType.int)) ∈ lw_tbl := tb_2 (List.mem_of_getElem? (i := 116) rfl)
theorem mw_2_120 : (Cond.code ({ cls := "QuotaRegister$Shares", name := "groupWouldPassCap", desc := "(III)Z" } : Jvm.MethodName) prog_4_method_19_code (4 : Nat) (Option.some FieldType.boolean)) ∈ lw_tbl := tb_2 (List.mem_of_getElem? (i := 120) rfl)
theorem mw_2_125 : (Cond.code ({ cls := "QuotaRegister$Shares", name := "addParts", desc := "(III)I" } : Jvm.MethodName) prog_4_method_13_code (4 : Nat) (Option.some FieldType.int)) ∈ lw_tbl := tb_2 (List.mem_of_getElem? (i := 125) rfl)
theorem mw_2_128 : (Cond.codeWith ({ cls := "QuotaRegisterLaw", name := "sell", desc := "(LQuotaRegister;IIII)I" } : Jvm.MethodName) method_9_code (6 : Nat) (Option.some FieldType.int) [((0 : Nat), (9 : Nat), (12 : Nat), (13 : Nat)), ((0 : Nat), (9 : Nat), (16 : Nat), (22 : Nat))]) ∈ lw_tbl := tb_2 (List.mem_of_getElem? (i := 128) rfl)
theorem mw_2_132 : (Cond.code ({ cls := "QuotaRegister", name := "sell", desc := "(IIII)V" } : Jvm.MethodName) prog_1_method_8_code (5 : Nat) (Option.none : Option FieldType)) ∈ lw_tbl := tb_2 (List.mem_of_getElem? (i := 132) rfl)
theorem mw_2_137 : (Cond.code ({ cls := "QuotaRegister$Shares", name := "freeParts", desc := "(II)I" } : Jvm.MethodName) prog_4_method_17_code (5 : Nat) (Option.some FieldType.int)) ∈ lw_tbl := tb_2 (List.mem_of_getElem? (i := 137) rfl)
theorem mw_2_142 : (Cond.code ({ cls := "QuotaRegister$Shares", name := "inOneGroup", desc := "(II)Z" } : Jvm.MethodName) prog_4_method_8_code (3 : Nat) (Option.some FieldType.boolean)) ∈ lw_tbl := tb_2 (List.mem_of_getElem? (i := 142) rfl)
theorem mw_2_146 : (Cond.codeWith ({ cls := "QuotaRegisterLaw", name := "place", desc := "(LQuotaRegister;III[J)I" } : Jvm.MethodName) method_10_code (6 : Nat) (Option.some FieldType.int) [((0 : Nat), (12 : Nat), (15 : Nat), (13 : Nat)), ((0 : Nat), (12 : Nat), (19 : Nat), (22 : Nat))]) ∈ lw_tbl := tb_2 (List.mem_of_getElem? (i := 146) rfl)
theorem mw_2_150 : (Cond.code ({ cls := "QuotaRegister", name := "place", desc := "(III)I" } : Jvm.MethodName) prog_1_method_9_code (4 : Nat) (Option.some FieldType.int)) ∈ lw_tbl := tb_2 (List.mem_of_getElem? (i := 150) rfl)
theorem mw_2_155 : (Cond.code ({ cls := "QuotaRegister$Shares", name := "ownerOf", desc := "(I)I" } : Jvm.MethodName) prog_4_method_4_code (2 : Nat) (Option.some FieldType.int)) ∈ lw_tbl := tb_2 (List.mem_of_getElem? (i := 155) rfl)
theorem mw_2_161 : (Cond.code ({ cls := "QuotaRegister$Shares", name := "addPlaced", desc := "(III)I" } : Jvm.MethodName) prog_4_method_15_code (4 : Nat) (Option.some FieldType.int)) ∈ lw_tbl := tb_2 (List.mem_of_getElem? (i := 161) rfl)
theorem mw_2_164 : (Cond.codeWith ({ cls := "QuotaRegisterLaw", name := "open", desc := "(LQuotaRegister;IIII[J)I" } : Jvm.MethodName) method_11_code (7 : Nat) (Option.some FieldType.int) [((0 : Nat), (14 : Nat), (17 : Nat), (13 : Nat)), ((0 : Nat), (14 : Nat), (21 : Nat), (22 : Nat))]) ∈ lw_tbl := tb_2 (List.mem_of_getElem? (i := 164) rfl)
theorem mw_2_168 : (Cond.code ({ cls := "QuotaRegister", name := "open", desc := "(IIII)I" } : Jvm.MethodName) prog_1_method_10_code (5 : Nat) (Option.some FieldType.int)) ∈ lw_tbl := tb_2 (List.mem_of_getElem? (i := 168) rfl)
theorem mw_2_171 : (Cond.code ({ cls := "QuotaRegister", name := "isLimit", desc := "(I)Z" } : Jvm.MethodName) prog_1_method_30_code (1 : Nat) (Option.some FieldType.boolean)) ∈ lw_tbl := tb_2 (List.mem_of_getElem? (i := 171) rfl)
theorem mw_2_177 : (Cond.code ({ cls := "QuotaRegister$Accounts", name := "allot", desc := "(IIILQuotaRegister$Shares;)V" } : Jvm.MethodName) prog_2_method_3_code (12 : Nat) (Option.none : Option FieldType)) ∈ lw_tbl := tb_2 (List.mem_of_getElem? (i := 177) rfl)
theorem mw_2_182 : (Cond.code ({ cls := "QuotaRegister$Accounts", name := "row", desc := "(III)I" } : Jvm.MethodName) prog_2_method_2_code (3 : Nat) (Option.some FieldType.int)) ∈ lw_tbl := tb_2 (List.mem_of_getElem? (i := 182) rfl)
theorem mw_2_186 : (Cond.code ({ cls := "QuotaRegister$Accounts", name := "greatestRemainder", desc := "()I" } : Jvm.MethodName) prog_2_method_4_code (3 : Nat) (Option.some FieldType.int)) ∈ lw_tbl := tb_2 (List.mem_of_getElem? (i := 186) rfl)
theorem mw_2_190 : (Cond.code ({ cls := "QuotaRegister$Accounts", name := "begin", desc := "(I)V" } : Jvm.MethodName) prog_2_method_5_code (4 : Nat) (Option.none : Option FieldType)) ∈ lw_tbl := tb_2 (List.mem_of_getElem? (i := 190) rfl)
theorem mw_2_193 : (Cond.codeWith ({ cls := "QuotaRegisterLaw", name := "end", desc := "(LQuotaRegister;[J)I" } : Jvm.MethodName) method_12_code (3 : Nat) (Option.some FieldType.int) [((0 : Nat), (8 : Nat), (11 : Nat), (22 : Nat))]) ∈ lw_tbl := tb_2 (List.mem_of_getElem? (i := 193) rfl)
theorem mw_2_197 : (Cond.code ({ cls := "QuotaRegister", name := "end", desc := "()I" } : Jvm.MethodName) prog_1_method_11_code (1 : Nat) (Option.some FieldType.int)) ∈ lw_tbl := tb_2 (List.mem_of_getElem? (i := 197) rfl)
theorem mw_2_202 : (Cond.code ({ cls := "QuotaRegister$Accounts", name := "settle", desc := "(I)V" } : Jvm.MethodName) prog_2_method_6_code (6 : Nat) (Option.none : Option FieldType)) ∈ lw_tbl := tb_2 (List.mem_of_getElem? (i := 202) rfl)
theorem mw_2_206 : (Cond.code ({ cls := "QuotaRegister$Accounts", name := "leftOn", desc := "(I)I" } : Jvm.MethodName) prog_2_method_15_code (2 : Nat) (Option.some FieldType.int)) ∈ lw_tbl := tb_2 (List.mem_of_getElem? (i := 206) rfl)
theorem mw_2_209 : (Cond.code ({ cls := "java/lang/Math", name := "max", desc := "(II)I" } : Jvm.MethodName) prog_11_method_65_code (2 : Nat) (Option.some FieldType.int)) ∈ lw_tbl := tb_2 (List.mem_of_getElem? (i := 209) rfl)
theorem mw_2_212 : (Cond.code ({ cls := "java/lang/Math", name := "min", desc := "(II)I" } : Jvm.MethodName) prog_11_method_69_code (2 : Nat) (Option.some FieldType.int)) ∈ lw_tbl := tb_2 (List.mem_of_getElem? (i := 212) rfl)
theorem mw_2_216 : (Cond.code ({ cls := "QuotaRegister$Accounts", name := "countLevied", desc := "(I)I" } : Jvm.MethodName) prog_2_method_7_code (5 : Nat) (Option.some FieldType.int)) ∈ lw_tbl := tb_2 (List.mem_of_getElem? (i := 216) rfl)
theorem mw_2_219 : (Cond.codeWith ({ cls := "QuotaRegisterLaw", name := "lease", desc := "(LQuotaRegister;IIII[J)I" } : Jvm.MethodName) method_13_code (7 : Nat) (Option.some FieldType.int) [((0 : Nat), (14 : Nat), (17 : Nat), (13 : Nat)), ((0 : Nat), (14 : Nat), (21 : Nat), (22 : Nat))]) ∈ lw_tbl := tb_2 (List.mem_of_getElem? (i := 219) rfl)
theorem mw_2_223 : (Cond.code ({ cls := "QuotaRegister", name := "lease", desc := "(IIII)I" } : Jvm.MethodName) prog_1_method_12_code (6 : Nat) (Option.some FieldType.int)) ∈ lw_tbl := tb_2 (List.mem_of_getElem? (i := 223) rfl)
theorem mw_2_226 : (Cond.code ({ cls := "QuotaRegister", name := "areTwoVessels", desc := "(II)Z" } : Jvm.MethodName) prog_1_method_29_code (2 : Nat) (Option.some FieldType.boolean)) ∈ lw_tbl := tb_2 (List.mem_of_getElem? (i := 226) rfl)
theorem mw_2_231 : (Cond.code ({ cls := "QuotaRegister$Events", name := "areFull", desc := "()Z" } : Jvm.MethodName) prog_3_method_3_code (1 : Nat) (Option.some FieldType.boolean)) ∈ lw_tbl := tb_2 (List.mem_of_getElem? (i := 231) rfl)
theorem mw_2_236 : (Cond.code ({ cls := "QuotaRegister$Accounts", name := "hasLeft", desc := "(IIII)Z" } : Jvm.MethodName) prog_2_method_9_code (5 : Nat) (Option.some FieldType.boolean)) ∈ lw_tbl := tb_2 (List.mem_of_getElem? (i := 236) rfl)
theorem mw_3_1 : (Cond.code ({ cls := "QuotaRegister$Events", name := "add", desc := "(IIIIIII)I" } : Jvm.MethodName) prog_3_method_5_code (9 : Nat) (Option.some FieldType.int)) ∈ lw_tbl := tb_3 (List.mem_of_getElem? (i := 1) rfl)
theorem mw_3_5 : (Cond.code ({ cls := "QuotaRegister$Events", name := "work", desc := "(ILQuotaRegister$Accounts;)V" } : Jvm.MethodName) prog_3_method_10_code (3 : Nat) (Option.none : Option FieldType)) ∈ lw_tbl := tb_3 (List.mem_of_getElem? (i := 5) rfl)
theorem mw_3_9 : (Cond.code ({ cls := "QuotaRegister$Events", name := "workLease", desc := "(ILQuotaRegister$Accounts;)Z" } : Jvm.MethodName) prog_3_method_11_code (3 : Nat) (Option.some FieldType.boolean)) ∈ lw_tbl := tb_3 (List.mem_of_getElem? (i := 9) rfl)
theorem mw_3_14 : (Cond.code ({ cls := "QuotaRegister$Accounts", name := "moveLeased", desc := "(IIIII)V" } : Jvm.MethodName) prog_2_method_11_code (6 : Nat) (Option.none : Option FieldType)) ∈ lw_tbl := tb_3 (List.mem_of_getElem? (i := 14) rfl)
theorem mw_3_18 : (Cond.code ({ cls := "QuotaRegister$Events", name := "workLanding", desc := "(ILQuotaRegister$Accounts;)Z" } : Jvm.MethodName) prog_3_method_12_code (3 : Nat) (Option.some FieldType.boolean)) ∈ lw_tbl := tb_3 (List.mem_of_getElem? (i := 18) rfl)
theorem mw_3_22 : (Cond.code ({ cls := "QuotaRegister$Accounts", name := "charge", desc := "(IIII)V" } : Jvm.MethodName) prog_2_method_12_code (5 : Nat) (Option.none : Option FieldType)) ∈ lw_tbl := tb_3 (List.mem_of_getElem? (i := 22) rfl)
theorem mw_3_26 : (Cond.code ({ cls := "QuotaRegister$Events", name := "workEquivalent", desc := "(ILQuotaRegister$Accounts;)Z" } : Jvm.MethodName) prog_3_method_13_code (3 : Nat) (Option.some FieldType.boolean)) ∈ lw_tbl := tb_3 (List.mem_of_getElem? (i := 26) rfl)
theorem mw_3_30 : (Cond.code ({ cls := "QuotaRegister$Accounts", name := "canExchange", desc := "(IIIIII)Z" } : Jvm.MethodName) prog_2_method_10_code (7 : Nat) (Option.some FieldType.boolean)) ∈ lw_tbl := tb_3 (List.mem_of_getElem? (i := 30) rfl)
theorem mw_3_35 : (Cond.code ({ cls := "QuotaRegister$Accounts", name := "exchange", desc := "(IIIIII)V" } : Jvm.MethodName) prog_2_method_13_code (7 : Nat) (Option.none : Option FieldType)) ∈ lw_tbl := tb_3 (List.mem_of_getElem? (i := 35) rfl)
theorem mw_3_38 : (Cond.codeWith ({ cls := "QuotaRegisterLaw", name := "land", desc := "(LQuotaRegister;IIIIIZ[J)I" } : Jvm.MethodName) method_14_code (9 : Nat) (Option.some FieldType.int) [((0 : Nat), (18 : Nat), (21 : Nat), (13 : Nat)), ((0 : Nat), (18 : Nat), (25 : Nat), (22 : Nat))]) ∈ lw_tbl := tb_3 (List.mem_of_getElem? (i := 38) rfl)
theorem mw_3_42 : (Cond.code ({ cls := "QuotaRegister", name := "land", desc := "(IIIIIZ)I" } : Jvm.MethodName) prog_1_method_13_code (9 : Nat) (Option.some FieldType.int)) ∈ lw_tbl := tb_3 (List.mem_of_getElem? (i := 42) rfl)
theorem mw_3_46 : (Cond.code ({ cls := "QuotaRegister", name := "wasOpened", desc := "(I)Z" } : Jvm.MethodName) prog_1_method_31_code (2 : Nat) (Option.some FieldType.boolean)) ∈ lw_tbl := tb_3 (List.mem_of_getElem? (i := 46) rfl)
theorem mw_3_52 : (Cond.code ({ cls := "QuotaRegister", name := "takesChanges", desc := "(I)Z" } : Jvm.MethodName) prog_1_method_33_code (2 : Nat) (Option.some FieldType.boolean)) ∈ lw_tbl := tb_3 (List.mem_of_getElem? (i := 52) rfl)
theorem mw_3_56 : (Cond.code ({ cls := "QuotaRegister", name := "isOpen", desc := "(I)Z" } : Jvm.MethodName) prog_1_method_32_code (2 : Nat) (Option.some FieldType.boolean)) ∈ lw_tbl := tb_3 (List.mem_of_getElem? (i := 56) rfl)
theorem mw_3_60 : (Cond.code ({ cls := "QuotaRegister", name := "liveWeight", desc := "(IIZ)I" } : Jvm.MethodName) prog_1_method_34_code (4 : Nat) (Option.some FieldType.int)) ∈ lw_tbl := tb_3 (List.mem_of_getElem? (i := 60) rfl)
theorem mw_3_66 : (Cond.code ({ cls := "QuotaRegister", name := "workAnew", desc := "(I)V" } : Jvm.MethodName) prog_1_method_36_code (3 : Nat) (Option.none : Option FieldType)) ∈ lw_tbl := tb_3 (List.mem_of_getElem? (i := 66) rfl)
theorem mw_3_70 : (Cond.code ({ cls := "QuotaRegister$Events", name := "workYear", desc := "(ILQuotaRegister$Accounts;)V" } : Jvm.MethodName) prog_3_method_9_code (4 : Nat) (Option.none : Option FieldType)) ∈ lw_tbl := tb_3 (List.mem_of_getElem? (i := 70) rfl)
theorem mw_3_74 : (Cond.codeWith ({ cls := "QuotaRegisterLaw", name := "equivalent", desc := "(LQuotaRegister;IIII[J)I" } : Jvm.MethodName) method_15_code (7 : Nat) (Option.some FieldType.int) [((0 : Nat), (14 : Nat), (17 : Nat), (13 : Nat)), ((0 : Nat), (14 : Nat), (21 : Nat), (22 : Nat))]) ∈ lw_tbl := tb_3 (List.mem_of_getElem? (i := 74) rfl)
theorem mw_3_78 : (Cond.code ({ cls := "QuotaRegister", name := "equivalent", desc := "(IIII)I" } : Jvm.MethodName) prog_1_method_14_code (7 : Nat) (Option.some FieldType.int)) ∈ lw_tbl := tb_3 (List.mem_of_getElem? (i := 78) rfl)
theorem mw_3_81 : (Cond.code ({ cls := "QuotaRegister", name := "areTwoSpecies", desc := "(II)Z" } : Jvm.MethodName) prog_1_method_24_code (2 : Nat) (Option.some FieldType.boolean)) ∈ lw_tbl := tb_3 (List.mem_of_getElem? (i := 81) rfl)
theorem mw_3_85 : (Cond.code ({ cls := "QuotaRegister", name := "equalWeight", desc := "(III)I" } : Jvm.MethodName) prog_1_method_35_code (3 : Nat) (Option.some FieldType.int)) ∈ lw_tbl := tb_3 (List.mem_of_getElem? (i := 85) rfl)
theorem mw_3_90 : (Cond.codeWith ({ cls := "QuotaRegisterLaw", name := "strike", desc := "(LQuotaRegister;I)I" } : Jvm.MethodName) method_16_code (3 : Nat) (Option.some FieldType.int) [((0 : Nat), (5 : Nat), (8 : Nat), (63 : Nat)), ((0 : Nat), (5 : Nat), (11 : Nat), (22 : Nat))]) ∈ lw_tbl := tb_3 (List.mem_of_getElem? (i := 90) rfl)
theorem mw_3_95 : (Cond.code ({ cls := "QuotaRegister", name := "strike", desc := "(I)V" } : Jvm.MethodName) prog_1_method_15_code (3 : Nat) (Option.none : Option FieldType)) ∈ lw_tbl := tb_3 (List.mem_of_getElem? (i := 95) rfl)
theorem mw_3_99 : (Cond.code ({ cls := "QuotaRegister$Events", name := "has", desc := "(I)Z" } : Jvm.MethodName) prog_3_method_4_code (2 : Nat) (Option.some FieldType.boolean)) ∈ lw_tbl := tb_3 (List.mem_of_getElem? (i := 99) rfl)
theorem mw_3_120 : (Cond.code ({ cls := "QuotaRegister$Events", name := "canBeStruck", desc := "(I)Z" } : Jvm.MethodName) prog_3_method_7_code (2 : Nat) (Option.some FieldType.boolean)) ∈ lw_tbl := tb_3 (List.mem_of_getElem? (i := 120) rfl)
theorem mw_3_125 : (Cond.code ({ cls := "QuotaRegister$Events", name := "yearOf", desc := "(I)I" } : Jvm.MethodName) prog_3_method_6_code (2 : Nat) (Option.some FieldType.int)) ∈ lw_tbl := tb_3 (List.mem_of_getElem? (i := 125) rfl)
theorem mw_3_130 : (Cond.code ({ cls := "QuotaRegister$Events", name := "markStruck", desc := "(I)V" } : Jvm.MethodName) prog_3_method_8_code (2 : Nat) (Option.none : Option FieldType)) ∈ lw_tbl := tb_3 (List.mem_of_getElem? (i := 130) rfl)
theorem mw_3_133 : (Cond.codeWith ({ cls := "QuotaRegisterLaw", name := "reopen", desc := "(LQuotaRegister;I)I" } : Jvm.MethodName) method_17_code (3 : Nat) (Option.some FieldType.int) [((0 : Nat), (5 : Nat), (8 : Nat), (13 : Nat)), ((0 : Nat), (5 : Nat), (11 : Nat), (22 : Nat))]) ∈ lw_tbl := tb_3 (List.mem_of_getElem? (i := 133) rfl)
theorem mw_3_137 : (Cond.code ({ cls := "QuotaRegister", name := "reopen", desc := "(I)V" } : Jvm.MethodName) prog_1_method_16_code (2 : Nat) (Option.none : Option FieldType)) ∈ lw_tbl := tb_3 (List.mem_of_getElem? (i := 137) rfl)
theorem mw_3_142 : (Cond.codeWith ({ cls := "QuotaRegisterLaw", name := "account", desc := "(LQuotaRegister;IIII[J)I" } : Jvm.MethodName) method_18_code (7 : Nat) (Option.some FieldType.int) [((0 : Nat), (14 : Nat), (17 : Nat), (13 : Nat))]) ∈ lw_tbl := tb_3 (List.mem_of_getElem? (i := 142) rfl)
theorem mw_3_146 : (Cond.code ({ cls := "QuotaRegister", name := "account", desc := "(IIII)I" } : Jvm.MethodName) prog_1_method_17_code (5 : Nat) (Option.some FieldType.int)) ∈ lw_tbl := tb_3 (List.mem_of_getElem? (i := 146) rfl)
theorem mw_3_152 : (Cond.code ({ cls := "QuotaRegister$Accounts", name := "figure", desc := "(II)I" } : Jvm.MethodName) prog_2_method_14_code (3 : Nat) (Option.some FieldType.int)) ∈ lw_tbl := tb_3 (List.mem_of_getElem? (i := 152) rfl)
theorem mw_3_155 : (Cond.codeWith ({ cls := "QuotaRegisterLaw", name := "levy", desc := "(LQuotaRegister;II[J)I" } : Jvm.MethodName) method_19_code (5 : Nat) (Option.some FieldType.int) [((0 : Nat), (9 : Nat), (12 : Nat), (13 : Nat))]) ∈ lw_tbl := tb_3 (List.mem_of_getElem? (i := 155) rfl)
theorem mw_3_159 : (Cond.code ({ cls := "QuotaRegister", name := "levy", desc := "(II)J" } : Jvm.MethodName) prog_1_method_18_code (6 : Nat) (Option.some FieldType.long)) ∈ lw_tbl := tb_3 (List.mem_of_getElem? (i := 159) rfl)
theorem mw_3_164 : (Cond.code ({ cls := "QuotaRegister", name := "levyOfVessel", desc := "(II)J" } : Jvm.MethodName) prog_1_method_37_code (6 : Nat) (Option.some FieldType.long)) ∈ lw_tbl := tb_3 (List.mem_of_getElem? (i := 164) rfl)
theorem mw_3_168 : (Cond.code ({ cls := "QuotaRegister$Accounts", name := "leviedOn", desc := "(III)I" } : Jvm.MethodName) prog_2_method_8_code (4 : Nat) (Option.some FieldType.int)) ∈ lw_tbl := tb_3 (List.mem_of_getElem? (i := 168) rfl)
theorem mw_3_171 : (Cond.codeWith ({ cls := "QuotaRegisterLaw", name := "held", desc := "(LQuotaRegister;III[J)I" } : Jvm.MethodName) method_20_code (6 : Nat) (Option.some FieldType.int) [((0 : Nat), (12 : Nat), (15 : Nat), (13 : Nat))]) ∈ lw_tbl := tb_3 (List.mem_of_getElem? (i := 171) rfl)
theorem mw_3_175 : (Cond.code ({ cls := "QuotaRegister", name := "held", desc := "(III)I" } : Jvm.MethodName) prog_1_method_19_code (4 : Nat) (Option.some FieldType.int)) ∈ lw_tbl := tb_3 (List.mem_of_getElem? (i := 175) rfl)
theorem mw_3_182 : (Cond.codeWith ({ cls := "QuotaRegisterLaw", name := "event", desc := "(LQuotaRegister;II[J)I" } : Jvm.MethodName) method_21_code (5 : Nat) (Option.some FieldType.int) [((0 : Nat), (10 : Nat), (13 : Nat), (63 : Nat)), ((0 : Nat), (10 : Nat), (17 : Nat), (13 : Nat))]) ∈ lw_tbl := tb_3 (List.mem_of_getElem? (i := 182) rfl)
theorem mw_3_186 : (Cond.code ({ cls := "QuotaRegister", name := "event", desc := "(II)I" } : Jvm.MethodName) prog_1_method_20_code (3 : Nat) (Option.some FieldType.int)) ∈ lw_tbl := tb_3 (List.mem_of_getElem? (i := 186) rfl)
theorem mw_3_191 : (Cond.code ({ cls := "QuotaRegister$Events", name := "figure", desc := "(II)I" } : Jvm.MethodName) prog_3_method_15_code (3 : Nat) (Option.some FieldType.int)) ∈ lw_tbl := tb_3 (List.mem_of_getElem? (i := 191) rfl)
theorem mw_3_194 : (Cond.codeWith ({ cls := "QuotaRegisterLaw", name := "about", desc := "(LQuotaRegister;I[J)I" } : Jvm.MethodName) method_22_code (4 : Nat) (Option.some FieldType.int) [((0 : Nat), (9 : Nat), (12 : Nat), (13 : Nat))]) ∈ lw_tbl := tb_3 (List.mem_of_getElem? (i := 194) rfl)
theorem mw_3_198 : (Cond.code ({ cls := "QuotaRegister", name := "about", desc := "(I)I" } : Jvm.MethodName) prog_1_method_21_code (2 : Nat) (Option.some FieldType.int)) ∈ lw_tbl := tb_3 (List.mem_of_getElem? (i := 198) rfl)
theorem mw_3_202 : (Cond.code ({ cls := "QuotaRegister$Events", name := "size", desc := "()I" } : Jvm.MethodName) prog_3_method_2_code (1 : Nat) (Option.some FieldType.int)) ∈ lw_tbl := tb_3 (List.mem_of_getElem? (i := 202) rfl)
theorem mw_3_206 : (Cond.code ({ cls := "QuotaRegister$Events", name := "countCounting", desc := "()I" } : Jvm.MethodName) prog_3_method_14_code (3 : Nat) (Option.some FieldType.int)) ∈ lw_tbl := tb_3 (List.mem_of_getElem? (i := 206) rfl)
theorem mw_3_211 : (Cond.code ({ cls := "QuotaRegisterModel", name := "<init>", desc := "()V" } : Jvm.MethodName) prog_6_method_1_code (2 : Nat) (Option.none : Option FieldType)) ∈ lw_tbl := tb_3 (List.mem_of_getElem? (i := 211) rfl)
theorem mw_4_72 : (Cond.code ({ cls := "QuotaRegisterModel", name := "thrown", desc := "()I" } : Jvm.MethodName) prog_6_method_2_code (1 : Nat) (Option.some FieldType.int)) ∈ lw_tbl := tb_4 (List.mem_of_getElem? (i := 72) rfl)
theorem mw_4_76 : (Cond.code ({ cls := "QuotaRegisterModel", name := "species", desc := "(III)V" } : Jvm.MethodName) prog_6_method_11_code (5 : Nat) (Option.none : Option FieldType)) ∈ lw_tbl := tb_4 (List.mem_of_getElem? (i := 76) rfl)
theorem mw_4_79 : (Cond.code ({ cls := "QuotaRegisterModel", name := "isSpecies", desc := "(I)Z" } : Jvm.MethodName) prog_6_method_5_code (1 : Nat) (Option.some FieldType.boolean)) ∈ lw_tbl := tb_4 (List.mem_of_getElem? (i := 79) rfl)
theorem mw_4_83 : (Cond.code ({ cls := "QuotaRegisterModel", name := "in", desc := "(JJJ)Z" } : Jvm.MethodName) prog_6_method_4_code (6 : Nat) (Option.some FieldType.boolean)) ∈ lw_tbl := tb_4 (List.mem_of_getElem? (i := 83) rfl)
theorem mw_4_89 : (Cond.code ({ cls := "QuotaRegisterModel", name := "fits", desc := "(II)Z" } : Jvm.MethodName) prog_6_method_9_code (5 : Nat) (Option.some FieldType.boolean)) ∈ lw_tbl := tb_4 (List.mem_of_getElem? (i := 89) rfl)
theorem mw_4_93 : (Cond.code ({ cls := "QuotaRegisterModel", name := "ofGroup", desc := "(II)I" } : Jvm.MethodName) prog_6_method_8_code (5 : Nat) (Option.some FieldType.int)) ∈ lw_tbl := tb_4 (List.mem_of_getElem? (i := 93) rfl)
theorem mw_4_97 : (Cond.code ({ cls := "QuotaRegisterModel", name := "gather", desc := "(I)V" } : Jvm.MethodName) prog_6_method_7_code (5 : Nat) (Option.none : Option FieldType)) ∈ lw_tbl := tb_4 (List.mem_of_getElem? (i := 97) rfl)
theorem mw_4_101 : (Cond.code ({ cls := "QuotaRegisterModel", name := "refuse", desc := "(ZZ)Z" } : Jvm.MethodName) prog_6_method_3_code (3 : Nat) (Option.some FieldType.boolean)) ∈ lw_tbl := tb_4 (List.mem_of_getElem? (i := 101) rfl)
theorem mw_4_105 : (Cond.code ({ cls := "QuotaRegisterModel", name := "factor", desc := "(III)V" } : Jvm.MethodName) prog_6_method_12_code (4 : Nat) (Option.none : Option FieldType)) ∈ lw_tbl := tb_4 (List.mem_of_getElem? (i := 105) rfl)
theorem mw_4_111 : (Cond.code ({ cls := "QuotaRegisterModel", name := "vessel", desc := "(II)V" } : Jvm.MethodName) prog_6_method_13_code (6 : Nat) (Option.none : Option FieldType)) ∈ lw_tbl := tb_4 (List.mem_of_getElem? (i := 111) rfl)
theorem mw_4_114 : (Cond.code ({ cls := "QuotaRegisterModel", name := "isOne", desc := "(I)Z" } : Jvm.MethodName) prog_6_method_6_code (1 : Nat) (Option.some FieldType.boolean)) ∈ lw_tbl := tb_4 (List.mem_of_getElem? (i := 114) rfl)
theorem mw_4_119 : (Cond.code ({ cls := "QuotaRegisterModel", name := "link", desc := "(II)V" } : Jvm.MethodName) prog_6_method_15_code (6 : Nat) (Option.none : Option FieldType)) ∈ lw_tbl := tb_4 (List.mem_of_getElem? (i := 119) rfl)
theorem mw_4_123 : (Cond.code ({ cls := "QuotaRegisterModel", name := "setLink", desc := "(IIZ)V" } : Jvm.MethodName) prog_6_method_14_code (4 : Nat) (Option.none : Option FieldType)) ∈ lw_tbl := tb_4 (List.mem_of_getElem? (i := 123) rfl)
theorem mw_4_127 : (Cond.code ({ cls := "QuotaRegisterModel", name := "unlink", desc := "(II)V" } : Jvm.MethodName) prog_6_method_16_code (4 : Nat) (Option.none : Option FieldType)) ∈ lw_tbl := tb_4 (List.mem_of_getElem? (i := 127) rfl)
theorem mw_4_131 : (Cond.code ({ cls := "QuotaRegisterModel", name := "issue", desc := "(III)I" } : Jvm.MethodName) prog_6_method_17_code (7 : Nat) (Option.some FieldType.int)) ∈ lw_tbl := tb_4 (List.mem_of_getElem? (i := 131) rfl)
theorem mw_4_135 : (Cond.code ({ cls := "QuotaRegisterModel", name := "sell", desc := "(IIII)V" } : Jvm.MethodName) prog_6_method_18_code (6 : Nat) (Option.none : Option FieldType)) ∈ lw_tbl := tb_4 (List.mem_of_getElem? (i := 135) rfl)
theorem mw_4_139 : (Cond.code ({ cls := "QuotaRegisterModel", name := "free", desc := "(II)I" } : Jvm.MethodName) prog_6_method_10_code (5 : Nat) (Option.some FieldType.int)) ∈ lw_tbl := tb_4 (List.mem_of_getElem? (i := 139) rfl)
theorem mw_4_143 : (Cond.code ({ cls := "QuotaRegisterModel", name := "place", desc := "(III)I" } : Jvm.MethodName) prog_6_method_19_code (6 : Nat) (Option.some FieldType.int)) ∈ lw_tbl := tb_4 (List.mem_of_getElem? (i := 143) rfl)
theorem mw_4_147 : (Cond.code ({ cls := "QuotaRegisterModel", name := "open", desc := "(IIII)I" } : Jvm.MethodName) prog_6_method_28_code (6 : Nat) (Option.some FieldType.int)) ∈ lw_tbl := tb_4 (List.mem_of_getElem? (i := 147) rfl)
theorem mw_4_151 : (Cond.code ({ cls := "QuotaRegisterModel", name := "allot", desc := "(III)V" } : Jvm.MethodName) prog_6_method_21_code (12 : Nat) (Option.none : Option FieldType)) ∈ lw_tbl := tb_4 (List.mem_of_getElem? (i := 151) rfl)
theorem mw_4_154 : (Cond.code ({ cls := "QuotaRegisterModel", name := "at", desc := "(III)I" } : Jvm.MethodName) prog_6_method_20_code (3 : Nat) (Option.some FieldType.int)) ∈ lw_tbl := tb_4 (List.mem_of_getElem? (i := 154) rfl)
theorem mw_4_159 : (Cond.code ({ cls := "QuotaRegisterModel", name := "work", desc := "()V" } : Jvm.MethodName) prog_6_method_27_code (3 : Nat) (Option.none : Option FieldType)) ∈ lw_tbl := tb_4 (List.mem_of_getElem? (i := 159) rfl)
theorem mw_4_163 : (Cond.code ({ cls := "QuotaRegisterModel", name := "may", desc := "(I)Z" } : Jvm.MethodName) prog_6_method_24_code (3 : Nat) (Option.some FieldType.boolean)) ∈ lw_tbl := tb_4 (List.mem_of_getElem? (i := 163) rfl)
theorem mw_4_167 : (Cond.code ({ cls := "QuotaRegisterModel", name := "left", desc := "(I)I" } : Jvm.MethodName) prog_6_method_22_code (2 : Nat) (Option.some FieldType.int)) ∈ lw_tbl := tb_4 (List.mem_of_getElem? (i := 167) rfl)
theorem mw_4_171 : (Cond.code ({ cls := "QuotaRegisterModel", name := "moved", desc := "(III)I" } : Jvm.MethodName) prog_6_method_23_code (7 : Nat) (Option.some FieldType.int)) ∈ lw_tbl := tb_4 (List.mem_of_getElem? (i := 171) rfl)
theorem mw_4_175 : (Cond.code ({ cls := "QuotaRegisterModel", name := "act", desc := "(I)V" } : Jvm.MethodName) prog_6_method_25_code (3 : Nat) (Option.none : Option FieldType)) ∈ lw_tbl := tb_4 (List.mem_of_getElem? (i := 175) rfl)
theorem mw_4_179 : (Cond.code ({ cls := "QuotaRegisterModel", name := "close", desc := "(I)V" } : Jvm.MethodName) prog_6_method_26_code (6 : Nat) (Option.none : Option FieldType)) ∈ lw_tbl := tb_4 (List.mem_of_getElem? (i := 179) rfl)
theorem mw_4_185 : (Cond.code ({ cls := "QuotaRegisterModel", name := "end", desc := "()I" } : Jvm.MethodName) prog_6_method_29_code (3 : Nat) (Option.some FieldType.int)) ∈ lw_tbl := tb_4 (List.mem_of_getElem? (i := 185) rfl)
theorem mw_4_189 : (Cond.code ({ cls := "QuotaRegisterModel", name := "lease", desc := "(IIII)I" } : Jvm.MethodName) prog_6_method_32_code (7 : Nat) (Option.some FieldType.int)) ∈ lw_tbl := tb_4 (List.mem_of_getElem? (i := 189) rfl)
theorem mw_4_193 : (Cond.code ({ cls := "QuotaRegisterModel", name := "tell", desc := "(IIIIIII)V" } : Jvm.MethodName) prog_6_method_30_code (8 : Nat) (Option.none : Option FieldType)) ∈ lw_tbl := tb_4 (List.mem_of_getElem? (i := 193) rfl)
theorem mw_4_197 : (Cond.code ({ cls := "QuotaRegisterModel", name := "put", desc := "()I" } : Jvm.MethodName) prog_6_method_31_code (1 : Nat) (Option.some FieldType.int)) ∈ lw_tbl := tb_4 (List.mem_of_getElem? (i := 197) rfl)
theorem mw_4_201 : (Cond.code ({ cls := "QuotaRegisterModel", name := "land", desc := "(IIIIIZ)I" } : Jvm.MethodName) prog_6_method_35_code (12 : Nat) (Option.some FieldType.int)) ∈ lw_tbl := tb_4 (List.mem_of_getElem? (i := 201) rfl)
theorem mw_4_205 : (Cond.code ({ cls := "QuotaRegisterModel", name := "wasYear", desc := "(I)Z" } : Jvm.MethodName) prog_6_method_33_code (2 : Nat) (Option.some FieldType.boolean)) ∈ lw_tbl := tb_4 (List.mem_of_getElem? (i := 205) rfl)
theorem mw_4_209 : (Cond.code ({ cls := "QuotaRegisterModel", name := "takes", desc := "(I)Z" } : Jvm.MethodName) prog_6_method_34_code (2 : Nat) (Option.some FieldType.boolean)) ∈ lw_tbl := tb_4 (List.mem_of_getElem? (i := 209) rfl)
theorem mw_4_214 : (Cond.code ({ cls := "QuotaRegisterModel", name := "equivalent", desc := "(IIII)I" } : Jvm.MethodName) prog_6_method_36_code (7 : Nat) (Option.some FieldType.int)) ∈ lw_tbl := tb_4 (List.mem_of_getElem? (i := 214) rfl)
theorem mw_4_218 : (Cond.code ({ cls := "QuotaRegisterModel", name := "strike", desc := "(I)V" } : Jvm.MethodName) prog_6_method_37_code (4 : Nat) (Option.none : Option FieldType)) ∈ lw_tbl := tb_4 (List.mem_of_getElem? (i := 218) rfl)
theorem mw_4_222 : (Cond.code ({ cls := "QuotaRegisterModel", name := "reopen", desc := "(I)V" } : Jvm.MethodName) prog_6_method_38_code (3 : Nat) (Option.none : Option FieldType)) ∈ lw_tbl := tb_4 (List.mem_of_getElem? (i := 222) rfl)
theorem mw_4_226 : (Cond.code ({ cls := "QuotaRegisterModel", name := "account", desc := "(IIII)I" } : Jvm.MethodName) prog_6_method_39_code (6 : Nat) (Option.some FieldType.int)) ∈ lw_tbl := tb_4 (List.mem_of_getElem? (i := 226) rfl)
theorem mw_4_231 : (Cond.code ({ cls := "QuotaRegisterModel", name := "levy", desc := "(II)J" } : Jvm.MethodName) prog_6_method_40_code (7 : Nat) (Option.some FieldType.long)) ∈ lw_tbl := tb_4 (List.mem_of_getElem? (i := 231) rfl)
theorem mw_4_235 : (Cond.code ({ cls := "QuotaRegisterModel", name := "held", desc := "(III)I" } : Jvm.MethodName) prog_6_method_41_code (4 : Nat) (Option.some FieldType.int)) ∈ lw_tbl := tb_4 (List.mem_of_getElem? (i := 235) rfl)
theorem mw_4_239 : (Cond.code ({ cls := "QuotaRegisterModel", name := "event", desc := "(II)I" } : Jvm.MethodName) prog_6_method_42_code (4 : Nat) (Option.some FieldType.int)) ∈ lw_tbl := tb_4 (List.mem_of_getElem? (i := 239) rfl)
theorem mw_5_3 : (Cond.code ({ cls := "QuotaRegisterModel", name := "about", desc := "(I)I" } : Jvm.MethodName) prog_6_method_43_code (4 : Nat) (Option.some FieldType.int)) ∈ lw_tbl := tb_5 (List.mem_of_getElem? (i := 3) rfl)
abbrev M_X3_init : ax_M := (yX3_init, cX3_init, 1, none, [])
abbrev M_X2_init : ax_M := (yX2_init, cX2_init, 2, none, [])
abbrev M_J7_fill_53178 : ax_M := (yJ7_fill_53178, cJ7_fill_53178, 4, none, [])
abbrev M_X0_init : ax_M := (yX0_init, cX0_init, 1, none, [])
abbrev M_X1_init : ax_M := (yX1_init, cX1_init, 1, none, [])
abbrev M_L_species : ax_M := (yL_species, cL_species, 5, some .int, [(0, 7, 10, 13)])
abbrev M_X3_species : ax_M := (yX3_species, cX3_species, 4, none, [])
abbrev M_X3_isSpecies : ax_M := (yX3_isSpecies, cX3_isSpecies, 1, some .boolean, [])
abbrev M_X3_isWithin : ax_M := (yX3_isWithin, cX3_isWithin, 3, some .boolean, [])
abbrev M_X2_someGroupHoldsMore : ax_M := (yX2_someGroupHoldsMore, cX2_someGroupHoldsMore, 4, some .boolean, [])
abbrev M_X2_groupOf : ax_M := (yX2_groupOf, cX2_groupOf, 5, some .int, [])
abbrev M_X2_partsOfGroup : ax_M := (yX2_partsOfGroup, cX2_partsOfGroup, 5, some .int, [])
abbrev M_X2_partsOf : ax_M := (yX2_partsOf, cX2_partsOf, 3, some .int, [])
abbrev M_X2_setCap : ax_M := (yX2_setCap, cX2_setCap, 3, none, [])
abbrev M_L_factor : ax_M := (yL_factor, cL_factor, 5, some .int, [(0, 7, 10, 13)])
abbrev M_X3_factor : ax_M := (yX3_factor, cX3_factor, 4, none, [])
abbrev M_X3_isForm : ax_M := (yX3_isForm, cX3_isForm, 1, some .boolean, [])
abbrev M_L_vessel : ax_M := (yL_vessel, cL_vessel, 4, some .int, [(0, 6, 9, 13), (0, 6, 12, 22)])
abbrev M_X3_vessel : ax_M := (yX3_vessel, cX3_vessel, 3, none, [])
abbrev M_X3_isVessel : ax_M := (yX3_isVessel, cX3_isVessel, 1, some .boolean, [])
abbrev M_X3_isOwner : ax_M := (yX3_isOwner, cX3_isOwner, 1, some .boolean, [])
abbrev M_X2_carriesParts : ax_M := (yX2_carriesParts, cX2_carriesParts, 3, some .boolean, [])
abbrev M_X2_placedOn : ax_M := (yX2_placedOn, cX2_placedOn, 3, some .int, [])
abbrev M_X2_setOwner : ax_M := (yX2_setOwner, cX2_setOwner, 3, none, [])
abbrev M_L_link : ax_M := (yL_link, cL_link, 4, some .int, [(0, 6, 9, 13), (0, 6, 12, 22)])
abbrev M_X3_link : ax_M := (yX3_link, cX3_link, 3, none, [])
abbrev M_X3_areTwoOwners : ax_M := (yX3_areTwoOwners, cX3_areTwoOwners, 2, some .boolean, [])
abbrev M_X2_joinedWouldPassCap : ax_M := (yX2_joinedWouldPassCap, cX2_joinedWouldPassCap, 5, some .boolean, [])
abbrev M_X2_join : ax_M := (yX2_join, cX2_join, 3, none, [])
abbrev M_L_unlink : ax_M := (yL_unlink, cL_unlink, 4, some .int, [(0, 6, 9, 13), (0, 6, 12, 22)])
abbrev M_X3_unlink : ax_M := (yX3_unlink, cX3_unlink, 3, none, [])
abbrev M_X2_areJoined : ax_M := (yX2_areJoined, cX2_areJoined, 3, some .boolean, [])
abbrev M_X2_part : ax_M := (yX2_part, cX2_part, 3, none, [])
abbrev M_L_issue : ax_M := (yL_issue, cL_issue, 6, some .int, [(0, 12, 15, 13), (0, 12, 19, 22)])
abbrev M_X3_issue : ax_M := (yX3_issue, cX3_issue, 4, some .int, [])
abbrev M_X2_partsInAll : ax_M := (yX2_partsInAll, cX2_partsInAll, 2, some .int, [])
abbrev M_X2_groupWouldPassCap : ax_M := (yX2_groupWouldPassCap, cX2_groupWouldPassCap, 4, some .boolean, [])
abbrev M_X2_addParts : ax_M := (yX2_addParts, cX2_addParts, 4, some .int, [])
abbrev M_L_sell : ax_M := (yL_sell, cL_sell, 6, some .int, [(0, 9, 12, 13), (0, 9, 16, 22)])
abbrev M_X3_sell : ax_M := (yX3_sell, cX3_sell, 5, none, [])
abbrev M_X2_freeParts : ax_M := (yX2_freeParts, cX2_freeParts, 5, some .int, [])
abbrev M_X2_inOneGroup : ax_M := (yX2_inOneGroup, cX2_inOneGroup, 3, some .boolean, [])
abbrev M_L_place : ax_M := (yL_place, cL_place, 6, some .int, [(0, 12, 15, 13), (0, 12, 19, 22)])
abbrev M_X3_place : ax_M := (yX3_place, cX3_place, 4, some .int, [])
abbrev M_X2_ownerOf : ax_M := (yX2_ownerOf, cX2_ownerOf, 2, some .int, [])
abbrev M_X2_addPlaced : ax_M := (yX2_addPlaced, cX2_addPlaced, 4, some .int, [])
abbrev M_L_open : ax_M := (yL_open, cL_open, 7, some .int, [(0, 14, 17, 13), (0, 14, 21, 22)])
abbrev M_X3_open : ax_M := (yX3_open, cX3_open, 5, some .int, [])
abbrev M_X3_isLimit : ax_M := (yX3_isLimit, cX3_isLimit, 1, some .boolean, [])
abbrev M_X0_allot : ax_M := (yX0_allot, cX0_allot, 12, none, [])
abbrev M_X0_row : ax_M := (yX0_row, cX0_row, 3, some .int, [])
abbrev M_X0_greatestRemainder : ax_M := (yX0_greatestRemainder, cX0_greatestRemainder, 3, some .int, [])
abbrev M_X0_begin : ax_M := (yX0_begin, cX0_begin, 4, none, [])
abbrev M_L_end : ax_M := (yL_end, cL_end, 3, some .int, [(0, 8, 11, 22)])
abbrev M_X3_end : ax_M := (yX3_end, cX3_end, 1, some .int, [])
abbrev M_X0_settle : ax_M := (yX0_settle, cX0_settle, 6, none, [])
abbrev M_X0_leftOn : ax_M := (yX0_leftOn, cX0_leftOn, 2, some .int, [])
abbrev M_J9_max_7cf53 : ax_M := (yJ9_max_7cf53, cJ9_max_7cf53, 2, some .int, [])
abbrev M_J9_min_7cf53 : ax_M := (yJ9_min_7cf53, cJ9_min_7cf53, 2, some .int, [])
abbrev M_X0_countLevied : ax_M := (yX0_countLevied, cX0_countLevied, 5, some .int, [])
abbrev M_L_lease : ax_M := (yL_lease, cL_lease, 7, some .int, [(0, 14, 17, 13), (0, 14, 21, 22)])
abbrev M_X3_lease : ax_M := (yX3_lease, cX3_lease, 6, some .int, [])
abbrev M_X3_areTwoVessels : ax_M := (yX3_areTwoVessels, cX3_areTwoVessels, 2, some .boolean, [])
abbrev M_X1_areFull : ax_M := (yX1_areFull, cX1_areFull, 1, some .boolean, [])
abbrev M_X0_hasLeft : ax_M := (yX0_hasLeft, cX0_hasLeft, 5, some .boolean, [])
abbrev M_X1_add : ax_M := (yX1_add, cX1_add, 9, some .int, [])
abbrev M_X1_work : ax_M := (yX1_work, cX1_work, 3, none, [])
abbrev M_X1_workLease : ax_M := (yX1_workLease, cX1_workLease, 3, some .boolean, [])
abbrev M_X0_moveLeased : ax_M := (yX0_moveLeased, cX0_moveLeased, 6, none, [])
abbrev M_X1_workLanding : ax_M := (yX1_workLanding, cX1_workLanding, 3, some .boolean, [])
abbrev M_X0_charge : ax_M := (yX0_charge, cX0_charge, 5, none, [])
abbrev M_X1_workEquivalent : ax_M := (yX1_workEquivalent, cX1_workEquivalent, 3, some .boolean, [])
abbrev M_X0_canExchange : ax_M := (yX0_canExchange, cX0_canExchange, 7, some .boolean, [])
abbrev M_X0_exchange : ax_M := (yX0_exchange, cX0_exchange, 7, none, [])
abbrev M_L_land : ax_M := (yL_land, cL_land, 9, some .int, [(0, 18, 21, 13), (0, 18, 25, 22)])
abbrev M_X3_land : ax_M := (yX3_land, cX3_land, 9, some .int, [])
abbrev M_X3_wasOpened : ax_M := (yX3_wasOpened, cX3_wasOpened, 2, some .boolean, [])
abbrev M_X3_takesChanges : ax_M := (yX3_takesChanges, cX3_takesChanges, 2, some .boolean, [])
abbrev M_X3_isOpen : ax_M := (yX3_isOpen, cX3_isOpen, 2, some .boolean, [])
abbrev M_X3_liveWeight : ax_M := (yX3_liveWeight, cX3_liveWeight, 4, some .int, [])
abbrev M_X3_workAnew : ax_M := (yX3_workAnew, cX3_workAnew, 3, none, [])
abbrev M_X1_workYear : ax_M := (yX1_workYear, cX1_workYear, 4, none, [])
abbrev M_L_equivalent : ax_M := (yL_equivalent, cL_equivalent, 7, some .int, [(0, 14, 17, 13), (0, 14, 21, 22)])
abbrev M_X3_equivalent : ax_M := (yX3_equivalent, cX3_equivalent, 7, some .int, [])
abbrev M_X3_areTwoSpecies : ax_M := (yX3_areTwoSpecies, cX3_areTwoSpecies, 2, some .boolean, [])
abbrev M_X3_equalWeight : ax_M := (yX3_equalWeight, cX3_equalWeight, 3, some .int, [])
abbrev M_L_strike : ax_M := (yL_strike, cL_strike, 3, some .int, [(0, 5, 8, 63), (0, 5, 11, 22)])
abbrev M_X3_strike : ax_M := (yX3_strike, cX3_strike, 3, none, [])
abbrev M_X1_has : ax_M := (yX1_has, cX1_has, 2, some .boolean, [])
abbrev M_X1_canBeStruck : ax_M := (yX1_canBeStruck, cX1_canBeStruck, 2, some .boolean, [])
abbrev M_X1_yearOf : ax_M := (yX1_yearOf, cX1_yearOf, 2, some .int, [])
abbrev M_X1_markStruck : ax_M := (yX1_markStruck, cX1_markStruck, 2, none, [])
abbrev M_L_reopen : ax_M := (yL_reopen, cL_reopen, 3, some .int, [(0, 5, 8, 13), (0, 5, 11, 22)])
abbrev M_X3_reopen : ax_M := (yX3_reopen, cX3_reopen, 2, none, [])
abbrev M_L_account : ax_M := (yL_account, cL_account, 7, some .int, [(0, 14, 17, 13)])
abbrev M_X3_account : ax_M := (yX3_account, cX3_account, 5, some .int, [])
abbrev M_X0_figure : ax_M := (yX0_figure, cX0_figure, 3, some .int, [])
abbrev M_L_levy : ax_M := (yL_levy, cL_levy, 5, some .int, [(0, 9, 12, 13)])
abbrev M_X3_levy : ax_M := (yX3_levy, cX3_levy, 6, some .long, [])
abbrev M_X3_levyOfVessel : ax_M := (yX3_levyOfVessel, cX3_levyOfVessel, 6, some .long, [])
abbrev M_X0_leviedOn : ax_M := (yX0_leviedOn, cX0_leviedOn, 4, some .int, [])
abbrev M_L_held : ax_M := (yL_held, cL_held, 6, some .int, [(0, 12, 15, 13)])
abbrev M_X3_held : ax_M := (yX3_held, cX3_held, 4, some .int, [])
abbrev M_L_event : ax_M := (yL_event, cL_event, 5, some .int, [(0, 10, 13, 63), (0, 10, 17, 13)])
abbrev M_X3_event : ax_M := (yX3_event, cX3_event, 3, some .int, [])
abbrev M_X1_figure : ax_M := (yX1_figure, cX1_figure, 3, some .int, [])
abbrev M_L_about : ax_M := (yL_about, cL_about, 4, some .int, [(0, 9, 12, 13)])
abbrev M_X3_about : ax_M := (yX3_about, cX3_about, 2, some .int, [])
abbrev M_X1_size : ax_M := (yX1_size, cX1_size, 1, some .int, [])
abbrev M_X1_countCounting : ax_M := (yX1_countCounting, cX1_countCounting, 3, some .int, [])
abbrev M_X4_init : ax_M := (yX4_init, cX4_init, 2, none, [])
abbrev M_X4_thrown : ax_M := (yX4_thrown, cX4_thrown, 1, some .int, [])
abbrev M_X4_species : ax_M := (yX4_species, cX4_species, 5, none, [])
abbrev M_X4_isSpecies : ax_M := (yX4_isSpecies, cX4_isSpecies, 1, some .boolean, [])
abbrev M_X4_in : ax_M := (yX4_in, cX4_in, 6, some .boolean, [])
abbrev M_X4_fits : ax_M := (yX4_fits, cX4_fits, 5, some .boolean, [])
abbrev M_X4_ofGroup : ax_M := (yX4_ofGroup, cX4_ofGroup, 5, some .int, [])
abbrev M_X4_gather : ax_M := (yX4_gather, cX4_gather, 5, none, [])
abbrev M_X4_refuse : ax_M := (yX4_refuse, cX4_refuse, 3, some .boolean, [])
abbrev M_X4_factor : ax_M := (yX4_factor, cX4_factor, 4, none, [])
abbrev M_X4_vessel : ax_M := (yX4_vessel, cX4_vessel, 6, none, [])
abbrev M_X4_isOne : ax_M := (yX4_isOne, cX4_isOne, 1, some .boolean, [])
abbrev M_X4_link : ax_M := (yX4_link, cX4_link, 6, none, [])
abbrev M_X4_setLink : ax_M := (yX4_setLink, cX4_setLink, 4, none, [])
abbrev M_X4_unlink : ax_M := (yX4_unlink, cX4_unlink, 4, none, [])
abbrev M_X4_issue : ax_M := (yX4_issue, cX4_issue, 7, some .int, [])
abbrev M_X4_sell : ax_M := (yX4_sell, cX4_sell, 6, none, [])
abbrev M_X4_free : ax_M := (yX4_free, cX4_free, 5, some .int, [])
abbrev M_X4_place : ax_M := (yX4_place, cX4_place, 6, some .int, [])
abbrev M_X4_open : ax_M := (yX4_open, cX4_open, 6, some .int, [])
abbrev M_X4_allot : ax_M := (yX4_allot, cX4_allot, 12, none, [])
abbrev M_X4_at : ax_M := (yX4_at, cX4_at, 3, some .int, [])
abbrev M_X4_work : ax_M := (yX4_work, cX4_work, 3, none, [])
abbrev M_X4_may : ax_M := (yX4_may, cX4_may, 3, some .boolean, [])
abbrev M_X4_left : ax_M := (yX4_left, cX4_left, 2, some .int, [])
abbrev M_X4_moved : ax_M := (yX4_moved, cX4_moved, 7, some .int, [])
abbrev M_X4_act : ax_M := (yX4_act, cX4_act, 3, none, [])
abbrev M_X4_close : ax_M := (yX4_close, cX4_close, 6, none, [])
abbrev M_X4_end : ax_M := (yX4_end, cX4_end, 3, some .int, [])
abbrev M_X4_lease : ax_M := (yX4_lease, cX4_lease, 7, some .int, [])
abbrev M_X4_tell : ax_M := (yX4_tell, cX4_tell, 8, none, [])
abbrev M_X4_put : ax_M := (yX4_put, cX4_put, 1, some .int, [])
abbrev M_X4_land : ax_M := (yX4_land, cX4_land, 12, some .int, [])
abbrev M_X4_wasYear : ax_M := (yX4_wasYear, cX4_wasYear, 2, some .boolean, [])
abbrev M_X4_takes : ax_M := (yX4_takes, cX4_takes, 2, some .boolean, [])
abbrev M_X4_equivalent : ax_M := (yX4_equivalent, cX4_equivalent, 7, some .int, [])
abbrev M_X4_strike : ax_M := (yX4_strike, cX4_strike, 4, none, [])
abbrev M_X4_reopen : ax_M := (yX4_reopen, cX4_reopen, 3, none, [])
abbrev M_X4_account : ax_M := (yX4_account, cX4_account, 6, some .int, [])
abbrev M_X4_levy : ax_M := (yX4_levy, cX4_levy, 7, some .long, [])
abbrev M_X4_held : ax_M := (yX4_held, cX4_held, 4, some .int, [])
abbrev M_X4_event : ax_M := (yX4_event, cX4_event, 4, some .int, [])
abbrev M_X4_about : ax_M := (yX4_about, cX4_about, 4, some .int, [])
abbrev M_L_law : ax_M := (yL_law, cL_law, maxLocals, ret, [])
theorem uw_X0 : ∀ x ∈ u_ws RX0 TX0 10, x ∈ lw_tbl ∧ goodWord x = true := by
  have h : ∀ x ∈ u_ws RX0 TX0 10, x ∈ lw_tbl := by decide +kernel
  have h2 : (u_ws RX0 TX0 10).all goodWord = true := by decide +kernel
  exact fun x hx => ⟨h x hx, List.all_eq_true.mp h2 x hx⟩
theorem uw_X1 : ∀ x ∈ u_ws RX1 TX1 10, x ∈ lw_tbl ∧ goodWord x = true := by
  have h : ∀ x ∈ u_ws RX1 TX1 10, x ∈ lw_tbl := by decide +kernel
  have h2 : (u_ws RX1 TX1 10).all goodWord = true := by decide +kernel
  exact fun x hx => ⟨h x hx, List.all_eq_true.mp h2 x hx⟩
theorem uw_X2 : ∀ x ∈ u_ws RX2 TX2 5, x ∈ lw_tbl ∧ goodWord x = true := by
  have h : ∀ x ∈ u_ws RX2 TX2 5, x ∈ lw_tbl := by decide +kernel
  have h2 : (u_ws RX2 TX2 5).all goodWord = true := by decide +kernel
  exact fun x hx => ⟨h x hx, List.all_eq_true.mp h2 x hx⟩
theorem uw_X3 : ∀ x ∈ u_ws RX3 TX3 8, x ∈ lw_tbl ∧ goodWord x = true := by
  have h : ∀ x ∈ u_ws RX3 TX3 8, x ∈ lw_tbl := by decide +kernel
  have h2 : (u_ws RX3 TX3 8).all goodWord = true := by decide +kernel
  exact fun x hx => ⟨h x hx, List.all_eq_true.mp h2 x hx⟩
theorem uw_X4 : ∀ x ∈ u_ws RX4 TX4 31, x ∈ lw_tbl ∧ goodWord x = true := by
  have h : ∀ x ∈ u_ws RX4 TX4 31, x ∈ lw_tbl := by decide +kernel
  have h2 : (u_ws RX4 TX4 31).all goodWord = true := by decide +kernel
  exact fun x hx => ⟨h x hx, List.all_eq_true.mp h2 x hx⟩
theorem mw_1_32 : (Cond.fieldLink "QuotaRegister$Shares" (9 : Nat) "QuotaRegister$Shares" "caps" "[I") ∈ lw_tbl := tb_1 (List.mem_of_getElem? (i := 32) rfl)
theorem fl_X2_9 : ax_fl RX2 9 2 0 := ⟨(RX2, TX2, 5), rfl, by decide, uw_X2, mw_1_32⟩
theorem fp_X2_9 : ax_fp RX2 9 2 0 true (.array .int) := ⟨(RX2, TX2, 5), tyX2, rfl, by decide, uw_X2, mw_1_32, tyX2_ok, nmX2, rfl, by decide +kernel, rfl⟩
theorem mw_1_33 : (Cond.fieldLink "QuotaRegister$Shares" (15 : Nat) "QuotaRegister$Shares" "links" "[I") ∈ lw_tbl := tb_1 (List.mem_of_getElem? (i := 33) rfl)
theorem fl_X2_15 : ax_fl RX2 15 2 1 := ⟨(RX2, TX2, 5), rfl, by decide, uw_X2, mw_1_33⟩
theorem fp_X2_15 : ax_fp RX2 15 2 1 true (.array .int) := ⟨(RX2, TX2, 5), tyX2, rfl, by decide, uw_X2, mw_1_33, tyX2_ok, nmX2, rfl, by decide +kernel, rfl⟩
theorem mw_1_34 : (Cond.fieldLink "QuotaRegister$Shares" (18 : Nat) "QuotaRegister$Shares" "vesselOwners" "[I") ∈ lw_tbl := tb_1 (List.mem_of_getElem? (i := 34) rfl)
theorem fl_X2_18 : ax_fl RX2 18 2 2 := ⟨(RX2, TX2, 5), rfl, by decide, uw_X2, mw_1_34⟩
theorem fp_X2_18 : ax_fp RX2 18 2 2 true (.array .int) := ⟨(RX2, TX2, 5), tyX2, rfl, by decide, uw_X2, mw_1_34, tyX2_ok, nmX2, rfl, by decide +kernel, rfl⟩
theorem mw_1_35 : (Cond.fieldLink "QuotaRegister$Shares" (21 : Nat) "QuotaRegister$Shares" "parts" "[I") ∈ lw_tbl := tb_1 (List.mem_of_getElem? (i := 35) rfl)
theorem fl_X2_21 : ax_fl RX2 21 2 3 := ⟨(RX2, TX2, 5), rfl, by decide, uw_X2, mw_1_35⟩
theorem fp_X2_21 : ax_fp RX2 21 2 3 true (.array .int) := ⟨(RX2, TX2, 5), tyX2, rfl, by decide, uw_X2, mw_1_35, tyX2_ok, nmX2, rfl, by decide +kernel, rfl⟩
theorem mw_1_36 : (Cond.fieldLink "QuotaRegister$Shares" (24 : Nat) "QuotaRegister$Shares" "placed" "[I") ∈ lw_tbl := tb_1 (List.mem_of_getElem? (i := 36) rfl)
theorem fl_X2_24 : ax_fl RX2 24 2 4 := ⟨(RX2, TX2, 5), rfl, by decide, uw_X2, mw_1_36⟩
theorem fp_X2_24 : ax_fp RX2 24 2 4 true (.array .int) := ⟨(RX2, TX2, 5), tyX2, rfl, by decide, uw_X2, mw_1_36, tyX2_ok, nmX2, rfl, by decide +kernel, rfl⟩
theorem mw_1_55 : (Cond.fieldLink "QuotaRegister$Accounts" (11 : Nat) "QuotaRegister$Accounts" "allotted" "[I") ∈ lw_tbl := tb_1 (List.mem_of_getElem? (i := 55) rfl)
theorem fl_X0_11 : ax_fl RX0 11 0 0 := ⟨(RX0, TX0, 10), rfl, by decide, uw_X0, mw_1_55⟩
theorem fp_X0_11 : ax_fp RX0 11 0 0 true (.array .int) := ⟨(RX0, TX0, 10), tyX0, rfl, by decide, uw_X0, mw_1_55, tyX0_ok, nmX0, rfl, by decide +kernel, rfl⟩
theorem mw_1_56 : (Cond.fieldLink "QuotaRegister$Accounts" (15 : Nat) "QuotaRegister$Accounts" "leased" "[I") ∈ lw_tbl := tb_1 (List.mem_of_getElem? (i := 56) rfl)
theorem fl_X0_15 : ax_fl RX0 15 0 1 := ⟨(RX0, TX0, 10), rfl, by decide, uw_X0, mw_1_56⟩
theorem fp_X0_15 : ax_fp RX0 15 0 1 true (.array .int) := ⟨(RX0, TX0, 10), tyX0, rfl, by decide, uw_X0, mw_1_56, tyX0_ok, nmX0, rfl, by decide +kernel, rfl⟩
theorem mw_1_57 : (Cond.fieldLink "QuotaRegister$Accounts" (18 : Nat) "QuotaRegister$Accounts" "banked" "[I") ∈ lw_tbl := tb_1 (List.mem_of_getElem? (i := 57) rfl)
theorem fl_X0_18 : ax_fl RX0 18 0 2 := ⟨(RX0, TX0, 10), rfl, by decide, uw_X0, mw_1_57⟩
theorem fp_X0_18 : ax_fp RX0 18 0 2 true (.array .int) := ⟨(RX0, TX0, 10), tyX0, rfl, by decide, uw_X0, mw_1_57, tyX0_ok, nmX0, rfl, by decide +kernel, rfl⟩
theorem mw_1_58 : (Cond.fieldLink "QuotaRegister$Accounts" (21 : Nat) "QuotaRegister$Accounts" "takenOff" "[I") ∈ lw_tbl := tb_1 (List.mem_of_getElem? (i := 58) rfl)
theorem fl_X0_21 : ax_fl RX0 21 0 3 := ⟨(RX0, TX0, 10), rfl, by decide, uw_X0, mw_1_58⟩
theorem fp_X0_21 : ax_fp RX0 21 0 3 true (.array .int) := ⟨(RX0, TX0, 10), tyX0, rfl, by decide, uw_X0, mw_1_58, tyX0_ok, nmX0, rfl, by decide +kernel, rfl⟩
theorem mw_1_59 : (Cond.fieldLink "QuotaRegister$Accounts" (24 : Nat) "QuotaRegister$Accounts" "charged" "[I") ∈ lw_tbl := tb_1 (List.mem_of_getElem? (i := 59) rfl)
theorem fl_X0_24 : ax_fl RX0 24 0 4 := ⟨(RX0, TX0, 10), rfl, by decide, uw_X0, mw_1_59⟩
theorem fp_X0_24 : ax_fp RX0 24 0 4 true (.array .int) := ⟨(RX0, TX0, 10), tyX0, rfl, by decide, uw_X0, mw_1_59, tyX0_ok, nmX0, rfl, by decide +kernel, rfl⟩
theorem mw_1_60 : (Cond.fieldLink "QuotaRegister$Accounts" (27 : Nat) "QuotaRegister$Accounts" "toBank" "[I") ∈ lw_tbl := tb_1 (List.mem_of_getElem? (i := 60) rfl)
theorem fl_X0_27 : ax_fl RX0 27 0 5 := ⟨(RX0, TX0, 10), rfl, by decide, uw_X0, mw_1_60⟩
theorem fp_X0_27 : ax_fp RX0 27 0 5 true (.array .int) := ⟨(RX0, TX0, 10), tyX0, rfl, by decide, uw_X0, mw_1_60, tyX0_ok, nmX0, rfl, by decide +kernel, rfl⟩
theorem mw_1_61 : (Cond.fieldLink "QuotaRegister$Accounts" (30 : Nat) "QuotaRegister$Accounts" "advanced" "[I") ∈ lw_tbl := tb_1 (List.mem_of_getElem? (i := 61) rfl)
theorem fl_X0_30 : ax_fl RX0 30 0 6 := ⟨(RX0, TX0, 10), rfl, by decide, uw_X0, mw_1_61⟩
theorem fp_X0_30 : ax_fp RX0 30 0 6 true (.array .int) := ⟨(RX0, TX0, 10), tyX0, rfl, by decide, uw_X0, mw_1_61, tyX0_ok, nmX0, rfl, by decide +kernel, rfl⟩
theorem mw_1_62 : (Cond.fieldLink "QuotaRegister$Accounts" (33 : Nat) "QuotaRegister$Accounts" "levied" "[I") ∈ lw_tbl := tb_1 (List.mem_of_getElem? (i := 62) rfl)
theorem fl_X0_33 : ax_fl RX0 33 0 7 := ⟨(RX0, TX0, 10), rfl, by decide, uw_X0, mw_1_62⟩
theorem fp_X0_33 : ax_fp RX0 33 0 7 true (.array .int) := ⟨(RX0, TX0, 10), tyX0, rfl, by decide, uw_X0, mw_1_62, tyX0_ok, nmX0, rfl, by decide +kernel, rfl⟩
theorem mw_1_63 : (Cond.fieldLink "QuotaRegister$Accounts" (36 : Nat) "QuotaRegister$Accounts" "exchanged" "[I") ∈ lw_tbl := tb_1 (List.mem_of_getElem? (i := 63) rfl)
theorem fl_X0_36 : ax_fl RX0 36 0 8 := ⟨(RX0, TX0, 10), rfl, by decide, uw_X0, mw_1_63⟩
theorem fp_X0_36 : ax_fp RX0 36 0 8 true (.array .int) := ⟨(RX0, TX0, 10), tyX0, rfl, by decide, uw_X0, mw_1_63, tyX0_ok, nmX0, rfl, by decide +kernel, rfl⟩
theorem mw_1_64 : (Cond.fieldLink "QuotaRegister$Accounts" (39 : Nat) "QuotaRegister$Accounts" "remainders" "[I") ∈ lw_tbl := tb_1 (List.mem_of_getElem? (i := 64) rfl)
theorem fl_X0_39 : ax_fl RX0 39 0 9 := ⟨(RX0, TX0, 10), rfl, by decide, uw_X0, mw_1_64⟩
theorem fp_X0_39 : ax_fp RX0 39 0 9 true (.array .int) := ⟨(RX0, TX0, 10), tyX0, rfl, by decide, uw_X0, mw_1_64, tyX0_ok, nmX0, rfl, by decide +kernel, rfl⟩
theorem mw_1_92 : (Cond.fieldLink "QuotaRegister$Events" (9 : Nat) "QuotaRegister$Events" "kinds" "[I") ∈ lw_tbl := tb_1 (List.mem_of_getElem? (i := 92) rfl)
theorem fl_X1_9 : ax_fl RX1 9 1 0 := ⟨(RX1, TX1, 10), rfl, by decide, uw_X1, mw_1_92⟩
theorem fp_X1_9 : ax_fp RX1 9 1 0 true (.array .int) := ⟨(RX1, TX1, 10), tyX1, rfl, by decide, uw_X1, mw_1_92, tyX1_ok, nmX1, rfl, by decide +kernel, rfl⟩
theorem mw_1_93 : (Cond.fieldLink "QuotaRegister$Events" (15 : Nat) "QuotaRegister$Events" "years" "[I") ∈ lw_tbl := tb_1 (List.mem_of_getElem? (i := 93) rfl)
theorem fl_X1_15 : ax_fl RX1 15 1 1 := ⟨(RX1, TX1, 10), rfl, by decide, uw_X1, mw_1_93⟩
theorem fp_X1_15 : ax_fp RX1 15 1 1 true (.array .int) := ⟨(RX1, TX1, 10), tyX1, rfl, by decide, uw_X1, mw_1_93, tyX1_ok, nmX1, rfl, by decide +kernel, rfl⟩
theorem mw_1_94 : (Cond.fieldLink "QuotaRegister$Events" (18 : Nat) "QuotaRegister$Events" "vessels" "[I") ∈ lw_tbl := tb_1 (List.mem_of_getElem? (i := 94) rfl)
theorem fl_X1_18 : ax_fl RX1 18 1 2 := ⟨(RX1, TX1, 10), rfl, by decide, uw_X1, mw_1_94⟩
theorem fp_X1_18 : ax_fp RX1 18 1 2 true (.array .int) := ⟨(RX1, TX1, 10), tyX1, rfl, by decide, uw_X1, mw_1_94, tyX1_ok, nmX1, rfl, by decide +kernel, rfl⟩
theorem mw_1_95 : (Cond.fieldLink "QuotaRegister$Events" (21 : Nat) "QuotaRegister$Events" "species" "[I") ∈ lw_tbl := tb_1 (List.mem_of_getElem? (i := 95) rfl)
theorem fl_X1_21 : ax_fl RX1 21 1 3 := ⟨(RX1, TX1, 10), rfl, by decide, uw_X1, mw_1_95⟩
theorem fp_X1_21 : ax_fp RX1 21 1 3 true (.array .int) := ⟨(RX1, TX1, 10), tyX1, rfl, by decide, uw_X1, mw_1_95, tyX1_ok, nmX1, rfl, by decide +kernel, rfl⟩
theorem mw_1_96 : (Cond.fieldLink "QuotaRegister$Events" (24 : Nat) "QuotaRegister$Events" "others" "[I") ∈ lw_tbl := tb_1 (List.mem_of_getElem? (i := 96) rfl)
theorem fl_X1_24 : ax_fl RX1 24 1 4 := ⟨(RX1, TX1, 10), rfl, by decide, uw_X1, mw_1_96⟩
theorem fp_X1_24 : ax_fp RX1 24 1 4 true (.array .int) := ⟨(RX1, TX1, 10), tyX1, rfl, by decide, uw_X1, mw_1_96, tyX1_ok, nmX1, rfl, by decide +kernel, rfl⟩
theorem mw_1_97 : (Cond.fieldLink "QuotaRegister$Events" (27 : Nat) "QuotaRegister$Events" "kilograms" "[I") ∈ lw_tbl := tb_1 (List.mem_of_getElem? (i := 97) rfl)
theorem fl_X1_27 : ax_fl RX1 27 1 5 := ⟨(RX1, TX1, 10), rfl, by decide, uw_X1, mw_1_97⟩
theorem fp_X1_27 : ax_fp RX1 27 1 5 true (.array .int) := ⟨(RX1, TX1, 10), tyX1, rfl, by decide, uw_X1, mw_1_97, tyX1_ok, nmX1, rfl, by decide +kernel, rfl⟩
theorem mw_1_98 : (Cond.fieldLink "QuotaRegister$Events" (30 : Nat) "QuotaRegister$Events" "weights" "[I") ∈ lw_tbl := tb_1 (List.mem_of_getElem? (i := 98) rfl)
theorem fl_X1_30 : ax_fl RX1 30 1 6 := ⟨(RX1, TX1, 10), rfl, by decide, uw_X1, mw_1_98⟩
theorem fp_X1_30 : ax_fp RX1 30 1 6 true (.array .int) := ⟨(RX1, TX1, 10), tyX1, rfl, by decide, uw_X1, mw_1_98, tyX1_ok, nmX1, rfl, by decide +kernel, rfl⟩
theorem mw_1_99 : (Cond.fieldLink "QuotaRegister$Events" (33 : Nat) "QuotaRegister$Events" "struck" "[Z") ∈ lw_tbl := tb_1 (List.mem_of_getElem? (i := 99) rfl)
theorem fl_X1_33 : ax_fl RX1 33 1 7 := ⟨(RX1, TX1, 10), rfl, by decide, uw_X1, mw_1_99⟩
theorem fp_X1_33 : ax_fp RX1 33 1 7 true (.array .boolean) := ⟨(RX1, TX1, 10), tyX1, rfl, by decide, uw_X1, mw_1_99, tyX1_ok, nmX1, rfl, by decide +kernel, rfl⟩
theorem mw_1_100 : (Cond.fieldLink "QuotaRegister$Events" (37 : Nat) "QuotaRegister$Events" "counting" "[Z") ∈ lw_tbl := tb_1 (List.mem_of_getElem? (i := 100) rfl)
theorem fl_X1_37 : ax_fl RX1 37 1 8 := ⟨(RX1, TX1, 10), rfl, by decide, uw_X1, mw_1_100⟩
theorem fp_X1_37 : ax_fp RX1 37 1 8 true (.array .boolean) := ⟨(RX1, TX1, 10), tyX1, rfl, by decide, uw_X1, mw_1_100, tyX1_ok, nmX1, rfl, by decide +kernel, rfl⟩
theorem mw_1_101 : (Cond.fieldLink "QuotaRegister$Events" (40 : Nat) "QuotaRegister$Events" "count" "I") ∈ lw_tbl := tb_1 (List.mem_of_getElem? (i := 101) rfl)
theorem fl_X1_40 : ax_fl RX1 40 1 9 := ⟨(RX1, TX1, 10), rfl, by decide, uw_X1, mw_1_101⟩
theorem fp_X1_40 : ax_fp RX1 40 1 9 false .int := ⟨(RX1, TX1, 10), tyX1, rfl, by decide, uw_X1, mw_1_101, tyX1_ok, nmX1, rfl, by decide +kernel, rfl⟩
theorem mw_1_125 : (Cond.fieldLink "QuotaRegister" (9 : Nat) "QuotaRegister" "values" "[I") ∈ lw_tbl := tb_1 (List.mem_of_getElem? (i := 125) rfl)
theorem fl_X3_9 : ax_fl RX3 9 3 0 := ⟨(RX3, TX3, 8), rfl, by decide, uw_X3, mw_1_125⟩
theorem fp_X3_9 : ax_fp RX3 9 3 0 true (.array .int) := ⟨(RX3, TX3, 8), tyX3, rfl, by decide, uw_X3, mw_1_125, tyX3_ok, nmX3, rfl, by decide +kernel, rfl⟩
theorem mw_1_126 : (Cond.fieldLink "QuotaRegister" (13 : Nat) "QuotaRegister" "factors" "[I") ∈ lw_tbl := tb_1 (List.mem_of_getElem? (i := 126) rfl)
theorem fl_X3_13 : ax_fl RX3 13 3 1 := ⟨(RX3, TX3, 8), rfl, by decide, uw_X3, mw_1_126⟩
theorem fp_X3_13 : ax_fp RX3 13 3 1 true (.array .int) := ⟨(RX3, TX3, 8), tyX3, rfl, by decide, uw_X3, mw_1_126, tyX3_ok, nmX3, rfl, by decide +kernel, rfl⟩
theorem mw_1_127 : (Cond.fieldLink "QuotaRegister" (19 : Nat) "QuotaRegister" "shares" "LQuotaRegister$Shares;") ∈ lw_tbl := tb_1 (List.mem_of_getElem? (i := 127) rfl)
theorem fl_X3_19 : ax_fl RX3 19 3 2 := ⟨(RX3, TX3, 8), rfl, by decide, uw_X3, mw_1_127⟩
theorem fp_X3_19 : ax_fp RX3 19 3 2 true (.object "QuotaRegister$Shares") := ⟨(RX3, TX3, 8), tyX3, rfl, by decide, uw_X3, mw_1_127, tyX3_ok, nmX3, rfl, by decide +kernel, rfl⟩
theorem mw_1_128 : (Cond.fieldLink "QuotaRegister" (26 : Nat) "QuotaRegister" "accounts" "LQuotaRegister$Accounts;") ∈ lw_tbl := tb_1 (List.mem_of_getElem? (i := 128) rfl)
theorem fl_X3_26 : ax_fl RX3 26 3 3 := ⟨(RX3, TX3, 8), rfl, by decide, uw_X3, mw_1_128⟩
theorem fp_X3_26 : ax_fp RX3 26 3 3 true (.object "QuotaRegister$Accounts") := ⟨(RX3, TX3, 8), tyX3, rfl, by decide, uw_X3, mw_1_128, tyX3_ok, nmX3, rfl, by decide +kernel, rfl⟩
theorem mw_1_129 : (Cond.fieldLink "QuotaRegister" (33 : Nat) "QuotaRegister" "events" "LQuotaRegister$Events;") ∈ lw_tbl := tb_1 (List.mem_of_getElem? (i := 129) rfl)
theorem fl_X3_33 : ax_fl RX3 33 3 4 := ⟨(RX3, TX3, 8), rfl, by decide, uw_X3, mw_1_129⟩
theorem fp_X3_33 : ax_fp RX3 33 3 4 true (.object "QuotaRegister$Events") := ⟨(RX3, TX3, 8), tyX3, rfl, by decide, uw_X3, mw_1_129, tyX3_ok, nmX3, rfl, by decide +kernel, rfl⟩
theorem mw_1_130 : (Cond.fieldLink "QuotaRegister" (37 : Nat) "QuotaRegister" "reopened" "[Z") ∈ lw_tbl := tb_1 (List.mem_of_getElem? (i := 130) rfl)
theorem fl_X3_37 : ax_fl RX3 37 3 5 := ⟨(RX3, TX3, 8), rfl, by decide, uw_X3, mw_1_130⟩
theorem fp_X3_37 : ax_fp RX3 37 3 5 true (.array .boolean) := ⟨(RX3, TX3, 8), tyX3, rfl, by decide, uw_X3, mw_1_130, tyX3_ok, nmX3, rfl, by decide +kernel, rfl⟩
theorem mw_1_131 : (Cond.fieldLink "QuotaRegister" (41 : Nat) "QuotaRegister" "latestYear" "I") ∈ lw_tbl := tb_1 (List.mem_of_getElem? (i := 131) rfl)
theorem fl_X3_41 : ax_fl RX3 41 3 6 := ⟨(RX3, TX3, 8), rfl, by decide, uw_X3, mw_1_131⟩
theorem fp_X3_41 : ax_fp RX3 41 3 6 false .int := ⟨(RX3, TX3, 8), tyX3, rfl, by decide, uw_X3, mw_1_131, tyX3_ok, nmX3, rfl, by decide +kernel, rfl⟩
theorem mw_1_132 : (Cond.fieldLink "QuotaRegister" (45 : Nat) "QuotaRegister" "latestIsOpen" "Z") ∈ lw_tbl := tb_1 (List.mem_of_getElem? (i := 132) rfl)
theorem fl_X3_45 : ax_fl RX3 45 3 7 := ⟨(RX3, TX3, 8), rfl, by decide, uw_X3, mw_1_132⟩
theorem fp_X3_45 : ax_fp RX3 45 3 7 false .boolean := ⟨(RX3, TX3, 8), tyX3, rfl, by decide, uw_X3, mw_1_132, tyX3_ok, nmX3, rfl, by decide +kernel, rfl⟩
theorem mw_3_214 : (Cond.fieldLink "QuotaRegisterModel" (94 : Nat) "QuotaRegisterModel" "thrown" "I") ∈ lw_tbl := tb_3 (List.mem_of_getElem? (i := 214) rfl)
theorem fl_X4_94 : ax_fl RX4 94 4 0 := ⟨(RX4, TX4, 31), rfl, by decide, uw_X4, mw_3_214⟩
theorem fp_X4_94 : ax_fp RX4 94 4 0 false .int := ⟨(RX4, TX4, 31), tyX4, rfl, by decide, uw_X4, mw_3_214, tyX4_ok, nmX4, rfl, by decide +kernel, rfl⟩
theorem mw_3_215 : (Cond.fieldLink "QuotaRegisterModel" (7 : Nat) "QuotaRegisterModel" "values" "[I") ∈ lw_tbl := tb_3 (List.mem_of_getElem? (i := 215) rfl)
theorem fl_X4_7 : ax_fl RX4 7 4 1 := ⟨(RX4, TX4, 31), rfl, by decide, uw_X4, mw_3_215⟩
theorem fp_X4_7 : ax_fp RX4 7 4 1 true (.array .int) := ⟨(RX4, TX4, 31), tyX4, rfl, by decide, uw_X4, mw_3_215, tyX4_ok, nmX4, rfl, by decide +kernel, rfl⟩
theorem mw_3_216 : (Cond.fieldLink "QuotaRegisterModel" (13 : Nat) "QuotaRegisterModel" "caps" "[I") ∈ lw_tbl := tb_3 (List.mem_of_getElem? (i := 216) rfl)
theorem fl_X4_13 : ax_fl RX4 13 4 2 := ⟨(RX4, TX4, 31), rfl, by decide, uw_X4, mw_3_216⟩
theorem fp_X4_13 : ax_fp RX4 13 4 2 true (.array .int) := ⟨(RX4, TX4, 31), tyX4, rfl, by decide, uw_X4, mw_3_216, tyX4_ok, nmX4, rfl, by decide +kernel, rfl⟩
theorem mw_3_217 : (Cond.fieldLink "QuotaRegisterModel" (16 : Nat) "QuotaRegisterModel" "factors" "[I") ∈ lw_tbl := tb_3 (List.mem_of_getElem? (i := 217) rfl)
theorem fl_X4_16 : ax_fl RX4 16 4 3 := ⟨(RX4, TX4, 31), rfl, by decide, uw_X4, mw_3_217⟩
theorem fp_X4_16 : ax_fp RX4 16 4 3 true (.array .int) := ⟨(RX4, TX4, 31), tyX4, rfl, by decide, uw_X4, mw_3_217, tyX4_ok, nmX4, rfl, by decide +kernel, rfl⟩
theorem mw_3_218 : (Cond.fieldLink "QuotaRegisterModel" (19 : Nat) "QuotaRegisterModel" "ownerOf" "[I") ∈ lw_tbl := tb_3 (List.mem_of_getElem? (i := 218) rfl)
theorem fl_X4_19 : ax_fl RX4 19 4 4 := ⟨(RX4, TX4, 31), rfl, by decide, uw_X4, mw_3_218⟩
theorem fp_X4_19 : ax_fp RX4 19 4 4 true (.array .int) := ⟨(RX4, TX4, 31), tyX4, rfl, by decide, uw_X4, mw_3_218, tyX4_ok, nmX4, rfl, by decide +kernel, rfl⟩
theorem mw_3_219 : (Cond.fieldLink "QuotaRegisterModel" (22 : Nat) "QuotaRegisterModel" "parts" "[I") ∈ lw_tbl := tb_3 (List.mem_of_getElem? (i := 219) rfl)
theorem fl_X4_22 : ax_fl RX4 22 4 5 := ⟨(RX4, TX4, 31), rfl, by decide, uw_X4, mw_3_219⟩
theorem fp_X4_22 : ax_fp RX4 22 4 5 true (.array .int) := ⟨(RX4, TX4, 31), tyX4, rfl, by decide, uw_X4, mw_3_219, tyX4_ok, nmX4, rfl, by decide +kernel, rfl⟩
theorem mw_3_220 : (Cond.fieldLink "QuotaRegisterModel" (25 : Nat) "QuotaRegisterModel" "placed" "[I") ∈ lw_tbl := tb_3 (List.mem_of_getElem? (i := 220) rfl)
theorem fl_X4_25 : ax_fl RX4 25 4 6 := ⟨(RX4, TX4, 31), rfl, by decide, uw_X4, mw_3_220⟩
theorem fp_X4_25 : ax_fp RX4 25 4 6 true (.array .int) := ⟨(RX4, TX4, 31), tyX4, rfl, by decide, uw_X4, mw_3_220, tyX4_ok, nmX4, rfl, by decide +kernel, rfl⟩
theorem mw_3_221 : (Cond.fieldLink "QuotaRegisterModel" (28 : Nat) "QuotaRegisterModel" "linked" "[Z") ∈ lw_tbl := tb_3 (List.mem_of_getElem? (i := 221) rfl)
theorem fl_X4_28 : ax_fl RX4 28 4 7 := ⟨(RX4, TX4, 31), rfl, by decide, uw_X4, mw_3_221⟩
theorem fp_X4_28 : ax_fp RX4 28 4 7 true (.array .boolean) := ⟨(RX4, TX4, 31), tyX4, rfl, by decide, uw_X4, mw_3_221, tyX4_ok, nmX4, rfl, by decide +kernel, rfl⟩
theorem mw_3_222 : (Cond.fieldLink "QuotaRegisterModel" (32 : Nat) "QuotaRegisterModel" "group" "[Z") ∈ lw_tbl := tb_3 (List.mem_of_getElem? (i := 222) rfl)
theorem fl_X4_32 : ax_fl RX4 32 4 8 := ⟨(RX4, TX4, 31), rfl, by decide, uw_X4, mw_3_222⟩
theorem fp_X4_32 : ax_fp RX4 32 4 8 true (.array .boolean) := ⟨(RX4, TX4, 31), tyX4, rfl, by decide, uw_X4, mw_3_222, tyX4_ok, nmX4, rfl, by decide +kernel, rfl⟩
theorem mw_3_223 : (Cond.fieldLink "QuotaRegisterModel" (141 : Nat) "QuotaRegisterModel" "latest" "I") ∈ lw_tbl := tb_3 (List.mem_of_getElem? (i := 223) rfl)
theorem fl_X4_141 : ax_fl RX4 141 4 9 := ⟨(RX4, TX4, 31), rfl, by decide, uw_X4, mw_3_223⟩
theorem fp_X4_141 : ax_fp RX4 141 4 9 false .int := ⟨(RX4, TX4, 31), tyX4, rfl, by decide, uw_X4, mw_3_223, tyX4_ok, nmX4, rfl, by decide +kernel, rfl⟩
theorem mw_3_224 : (Cond.fieldLink "QuotaRegisterModel" (173 : Nat) "QuotaRegisterModel" "isOpen" "Z") ∈ lw_tbl := tb_3 (List.mem_of_getElem? (i := 224) rfl)
theorem fl_X4_173 : ax_fl RX4 173 4 10 := ⟨(RX4, TX4, 31), rfl, by decide, uw_X4, mw_3_224⟩
theorem fp_X4_173 : ax_fp RX4 173 4 10 false .boolean := ⟨(RX4, TX4, 31), tyX4, rfl, by decide, uw_X4, mw_3_224, tyX4_ok, nmX4, rfl, by decide +kernel, rfl⟩
theorem mw_3_225 : (Cond.fieldLink "QuotaRegisterModel" (35 : Nat) "QuotaRegisterModel" "reopened" "[Z") ∈ lw_tbl := tb_3 (List.mem_of_getElem? (i := 225) rfl)
theorem fl_X4_35 : ax_fl RX4 35 4 11 := ⟨(RX4, TX4, 31), rfl, by decide, uw_X4, mw_3_225⟩
theorem fp_X4_35 : ax_fp RX4 35 4 11 true (.array .boolean) := ⟨(RX4, TX4, 31), tyX4, rfl, by decide, uw_X4, mw_3_225, tyX4_ok, nmX4, rfl, by decide +kernel, rfl⟩
theorem mw_3_226 : (Cond.fieldLink "QuotaRegisterModel" (38 : Nat) "QuotaRegisterModel" "allotted" "[I") ∈ lw_tbl := tb_3 (List.mem_of_getElem? (i := 226) rfl)
theorem fl_X4_38 : ax_fl RX4 38 4 12 := ⟨(RX4, TX4, 31), rfl, by decide, uw_X4, mw_3_226⟩
theorem fp_X4_38 : ax_fp RX4 38 4 12 true (.array .int) := ⟨(RX4, TX4, 31), tyX4, rfl, by decide, uw_X4, mw_3_226, tyX4_ok, nmX4, rfl, by decide +kernel, rfl⟩
theorem mw_3_227 : (Cond.fieldLink "QuotaRegisterModel" (41 : Nat) "QuotaRegisterModel" "leased" "[I") ∈ lw_tbl := tb_3 (List.mem_of_getElem? (i := 227) rfl)
theorem fl_X4_41 : ax_fl RX4 41 4 13 := ⟨(RX4, TX4, 31), rfl, by decide, uw_X4, mw_3_227⟩
theorem fp_X4_41 : ax_fp RX4 41 4 13 true (.array .int) := ⟨(RX4, TX4, 31), tyX4, rfl, by decide, uw_X4, mw_3_227, tyX4_ok, nmX4, rfl, by decide +kernel, rfl⟩
theorem mw_3_228 : (Cond.fieldLink "QuotaRegisterModel" (44 : Nat) "QuotaRegisterModel" "banked" "[I") ∈ lw_tbl := tb_3 (List.mem_of_getElem? (i := 228) rfl)
theorem fl_X4_44 : ax_fl RX4 44 4 14 := ⟨(RX4, TX4, 31), rfl, by decide, uw_X4, mw_3_228⟩
theorem fp_X4_44 : ax_fp RX4 44 4 14 true (.array .int) := ⟨(RX4, TX4, 31), tyX4, rfl, by decide, uw_X4, mw_3_228, tyX4_ok, nmX4, rfl, by decide +kernel, rfl⟩
theorem mw_3_229 : (Cond.fieldLink "QuotaRegisterModel" (47 : Nat) "QuotaRegisterModel" "taken" "[I") ∈ lw_tbl := tb_3 (List.mem_of_getElem? (i := 229) rfl)
theorem fl_X4_47 : ax_fl RX4 47 4 15 := ⟨(RX4, TX4, 31), rfl, by decide, uw_X4, mw_3_229⟩
theorem fp_X4_47 : ax_fp RX4 47 4 15 true (.array .int) := ⟨(RX4, TX4, 31), tyX4, rfl, by decide, uw_X4, mw_3_229, tyX4_ok, nmX4, rfl, by decide +kernel, rfl⟩
theorem mw_3_230 : (Cond.fieldLink "QuotaRegisterModel" (50 : Nat) "QuotaRegisterModel" "charged" "[I") ∈ lw_tbl := tb_3 (List.mem_of_getElem? (i := 230) rfl)
theorem fl_X4_50 : ax_fl RX4 50 4 16 := ⟨(RX4, TX4, 31), rfl, by decide, uw_X4, mw_3_230⟩
theorem fp_X4_50 : ax_fp RX4 50 4 16 true (.array .int) := ⟨(RX4, TX4, 31), tyX4, rfl, by decide, uw_X4, mw_3_230, tyX4_ok, nmX4, rfl, by decide +kernel, rfl⟩
theorem mw_3_231 : (Cond.fieldLink "QuotaRegisterModel" (53 : Nat) "QuotaRegisterModel" "kept" "[I") ∈ lw_tbl := tb_3 (List.mem_of_getElem? (i := 231) rfl)
theorem fl_X4_53 : ax_fl RX4 53 4 17 := ⟨(RX4, TX4, 31), rfl, by decide, uw_X4, mw_3_231⟩
theorem fp_X4_53 : ax_fp RX4 53 4 17 true (.array .int) := ⟨(RX4, TX4, 31), tyX4, rfl, by decide, uw_X4, mw_3_231, tyX4_ok, nmX4, rfl, by decide +kernel, rfl⟩
theorem mw_3_232 : (Cond.fieldLink "QuotaRegisterModel" (56 : Nat) "QuotaRegisterModel" "advanced" "[I") ∈ lw_tbl := tb_3 (List.mem_of_getElem? (i := 232) rfl)
theorem fl_X4_56 : ax_fl RX4 56 4 18 := ⟨(RX4, TX4, 31), rfl, by decide, uw_X4, mw_3_232⟩
theorem fp_X4_56 : ax_fp RX4 56 4 18 true (.array .int) := ⟨(RX4, TX4, 31), tyX4, rfl, by decide, uw_X4, mw_3_232, tyX4_ok, nmX4, rfl, by decide +kernel, rfl⟩
theorem mw_3_233 : (Cond.fieldLink "QuotaRegisterModel" (59 : Nat) "QuotaRegisterModel" "levied" "[I") ∈ lw_tbl := tb_3 (List.mem_of_getElem? (i := 233) rfl)
theorem fl_X4_59 : ax_fl RX4 59 4 19 := ⟨(RX4, TX4, 31), rfl, by decide, uw_X4, mw_3_233⟩
theorem fp_X4_59 : ax_fp RX4 59 4 19 true (.array .int) := ⟨(RX4, TX4, 31), tyX4, rfl, by decide, uw_X4, mw_3_233, tyX4_ok, nmX4, rfl, by decide +kernel, rfl⟩
theorem mw_3_234 : (Cond.fieldLink "QuotaRegisterModel" (164 : Nat) "QuotaRegisterModel" "events" "I") ∈ lw_tbl := tb_3 (List.mem_of_getElem? (i := 234) rfl)
theorem fl_X4_164 : ax_fl RX4 164 4 20 := ⟨(RX4, TX4, 31), rfl, by decide, uw_X4, mw_3_234⟩
theorem fp_X4_164 : ax_fp RX4 164 4 20 false .int := ⟨(RX4, TX4, 31), tyX4, rfl, by decide, uw_X4, mw_3_234, tyX4_ok, nmX4, rfl, by decide +kernel, rfl⟩
theorem mw_3_235 : (Cond.fieldLink "QuotaRegisterModel" (62 : Nat) "QuotaRegisterModel" "kinds" "[I") ∈ lw_tbl := tb_3 (List.mem_of_getElem? (i := 235) rfl)
theorem fl_X4_62 : ax_fl RX4 62 4 21 := ⟨(RX4, TX4, 31), rfl, by decide, uw_X4, mw_3_235⟩
theorem fp_X4_62 : ax_fp RX4 62 4 21 true (.array .int) := ⟨(RX4, TX4, 31), tyX4, rfl, by decide, uw_X4, mw_3_235, tyX4_ok, nmX4, rfl, by decide +kernel, rfl⟩
theorem mw_3_236 : (Cond.fieldLink "QuotaRegisterModel" (65 : Nat) "QuotaRegisterModel" "years" "[I") ∈ lw_tbl := tb_3 (List.mem_of_getElem? (i := 236) rfl)
theorem fl_X4_65 : ax_fl RX4 65 4 22 := ⟨(RX4, TX4, 31), rfl, by decide, uw_X4, mw_3_236⟩
theorem fp_X4_65 : ax_fp RX4 65 4 22 true (.array .int) := ⟨(RX4, TX4, 31), tyX4, rfl, by decide, uw_X4, mw_3_236, tyX4_ok, nmX4, rfl, by decide +kernel, rfl⟩
theorem mw_3_237 : (Cond.fieldLink "QuotaRegisterModel" (68 : Nat) "QuotaRegisterModel" "vessels" "[I") ∈ lw_tbl := tb_3 (List.mem_of_getElem? (i := 237) rfl)
theorem fl_X4_68 : ax_fl RX4 68 4 23 := ⟨(RX4, TX4, 31), rfl, by decide, uw_X4, mw_3_237⟩
theorem fp_X4_68 : ax_fp RX4 68 4 23 true (.array .int) := ⟨(RX4, TX4, 31), tyX4, rfl, by decide, uw_X4, mw_3_237, tyX4_ok, nmX4, rfl, by decide +kernel, rfl⟩
theorem mw_3_238 : (Cond.fieldLink "QuotaRegisterModel" (71 : Nat) "QuotaRegisterModel" "kindsOfFish" "[I") ∈ lw_tbl := tb_3 (List.mem_of_getElem? (i := 238) rfl)
theorem fl_X4_71 : ax_fl RX4 71 4 24 := ⟨(RX4, TX4, 31), rfl, by decide, uw_X4, mw_3_238⟩
theorem fp_X4_71 : ax_fp RX4 71 4 24 true (.array .int) := ⟨(RX4, TX4, 31), tyX4, rfl, by decide, uw_X4, mw_3_238, tyX4_ok, nmX4, rfl, by decide +kernel, rfl⟩
theorem mw_3_239 : (Cond.fieldLink "QuotaRegisterModel" (74 : Nat) "QuotaRegisterModel" "others" "[I") ∈ lw_tbl := tb_3 (List.mem_of_getElem? (i := 239) rfl)
theorem fl_X4_74 : ax_fl RX4 74 4 25 := ⟨(RX4, TX4, 31), rfl, by decide, uw_X4, mw_3_239⟩
theorem fp_X4_74 : ax_fp RX4 74 4 25 true (.array .int) := ⟨(RX4, TX4, 31), tyX4, rfl, by decide, uw_X4, mw_3_239, tyX4_ok, nmX4, rfl, by decide +kernel, rfl⟩
theorem mw_4_0 : (Cond.fieldLink "QuotaRegisterModel" (77 : Nat) "QuotaRegisterModel" "told" "[I") ∈ lw_tbl := tb_4 (List.mem_of_getElem? (i := 0) rfl)
theorem fl_X4_77 : ax_fl RX4 77 4 26 := ⟨(RX4, TX4, 31), rfl, by decide, uw_X4, mw_4_0⟩
theorem fp_X4_77 : ax_fp RX4 77 4 26 true (.array .int) := ⟨(RX4, TX4, 31), tyX4, rfl, by decide, uw_X4, mw_4_0, tyX4_ok, nmX4, rfl, by decide +kernel, rfl⟩
theorem mw_4_1 : (Cond.fieldLink "QuotaRegisterModel" (80 : Nat) "QuotaRegisterModel" "weights" "[I") ∈ lw_tbl := tb_4 (List.mem_of_getElem? (i := 1) rfl)
theorem fl_X4_80 : ax_fl RX4 80 4 27 := ⟨(RX4, TX4, 31), rfl, by decide, uw_X4, mw_4_1⟩
theorem fp_X4_80 : ax_fp RX4 80 4 27 true (.array .int) := ⟨(RX4, TX4, 31), tyX4, rfl, by decide, uw_X4, mw_4_1, tyX4_ok, nmX4, rfl, by decide +kernel, rfl⟩
theorem mw_4_2 : (Cond.fieldLink "QuotaRegisterModel" (83 : Nat) "QuotaRegisterModel" "struck" "[Z") ∈ lw_tbl := tb_4 (List.mem_of_getElem? (i := 2) rfl)
theorem fl_X4_83 : ax_fl RX4 83 4 28 := ⟨(RX4, TX4, 31), rfl, by decide, uw_X4, mw_4_2⟩
theorem fp_X4_83 : ax_fp RX4 83 4 28 true (.array .boolean) := ⟨(RX4, TX4, 31), tyX4, rfl, by decide, uw_X4, mw_4_2, tyX4_ok, nmX4, rfl, by decide +kernel, rfl⟩
theorem mw_4_3 : (Cond.fieldLink "QuotaRegisterModel" (86 : Nat) "QuotaRegisterModel" "counts" "[Z") ∈ lw_tbl := tb_4 (List.mem_of_getElem? (i := 3) rfl)
theorem fl_X4_86 : ax_fl RX4 86 4 29 := ⟨(RX4, TX4, 31), rfl, by decide, uw_X4, mw_4_3⟩
theorem fp_X4_86 : ax_fp RX4 86 4 29 true (.array .boolean) := ⟨(RX4, TX4, 31), tyX4, rfl, by decide, uw_X4, mw_4_3, tyX4_ok, nmX4, rfl, by decide +kernel, rfl⟩
theorem mw_4_4 : (Cond.fieldLink "QuotaRegisterModel" (89 : Nat) "QuotaRegisterModel" "remainders" "[J") ∈ lw_tbl := tb_4 (List.mem_of_getElem? (i := 4) rfl)
theorem fl_X4_89 : ax_fl RX4 89 4 30 := ⟨(RX4, TX4, 31), rfl, by decide, uw_X4, mw_4_4⟩
theorem fp_X4_89 : ax_fp RX4 89 4 30 true (.array .long) := ⟨(RX4, TX4, 31), tyX4, rfl, by decide, uw_X4, mw_4_4, tyX4_ok, nmX4, rfl, by decide +kernel, rfl⟩
theorem mw_1_16 : (Cond.methodLink "QuotaRegisterLaw" (86 : Nat) ({ cls := "QuotaRegister", name := "<init>", desc := "()V" } : Jvm.MethodName)) ∈ lw_tbl := tb_1 (List.mem_of_getElem? (i := 16) rfl)
theorem mw_1_1 : (Cond.initialized "QuotaRegister") ∈ lw_tbl := tb_1 (List.mem_of_getElem? (i := 1) rfl)
theorem mw_1_17 : (Cond.instanceMethod ({ cls := "QuotaRegister", name := "<init>", desc := "()V" } : Jvm.MethodName)) ∈ lw_tbl := tb_1 (List.mem_of_getElem? (i := 17) rfl)
theorem ml_L_86 : ax_li RL 86 M_X3_init 0 := ⟨mw_1_16, mw_1_17, mw_1_1, mw_1_18, rfl, ⟨by decide +kernel, by decide +kernel⟩, by decide +kernel, by decide, rfl, rfl⟩
theorem mw_1_19 : (Cond.methodLink "QuotaRegister" (1 : Nat) ({ cls := "java/lang/Object", name := "<init>", desc := "()V" } : Jvm.MethodName)) ∈ lw_tbl := tb_1 (List.mem_of_getElem? (i := 19) rfl)
theorem oi_X3 : Cond.methodLink RX3 1 objectInit ∈ lw_tbl := mw_1_19
theorem mw_1_24 : (Cond.methodLink "QuotaRegister" (18 : Nat) ({ cls := "QuotaRegister$Shares", name := "<init>", desc := "()V" } : Jvm.MethodName)) ∈ lw_tbl := tb_1 (List.mem_of_getElem? (i := 24) rfl)
theorem mw_1_2 : (Cond.initialized "QuotaRegister$Shares") ∈ lw_tbl := tb_1 (List.mem_of_getElem? (i := 2) rfl)
theorem mw_1_25 : (Cond.instanceMethod ({ cls := "QuotaRegister$Shares", name := "<init>", desc := "()V" } : Jvm.MethodName)) ∈ lw_tbl := tb_1 (List.mem_of_getElem? (i := 25) rfl)
theorem ml_X3_18 : ax_li RX3 18 M_X2_init 0 := ⟨mw_1_24, mw_1_25, mw_1_2, mw_1_26, rfl, ⟨by decide +kernel, by decide +kernel⟩, by decide +kernel, by decide, rfl, rfl⟩
theorem mw_1_27 : (Cond.methodLink "QuotaRegister$Shares" (3 : Nat) ({ cls := "java/lang/Object", name := "<init>", desc := "()V" } : Jvm.MethodName)) ∈ lw_tbl := tb_1 (List.mem_of_getElem? (i := 27) rfl)
theorem oi_X2 : Cond.methodLink RX2 3 objectInit ∈ lw_tbl := mw_1_27
theorem mw_1_29 : (Cond.methodLink "QuotaRegister$Shares" (28 : Nat) ({ cls := "java/util/Arrays", name := "fill", desc := "([II)V" } : Jvm.MethodName)) ∈ lw_tbl := tb_1 (List.mem_of_getElem? (i := 29) rfl)
theorem mw_1_3 : (Cond.initialized "java/util/Arrays") ∈ lw_tbl := tb_1 (List.mem_of_getElem? (i := 3) rfl)
theorem mw_1_30 : (Cond.static ({ cls := "java/util/Arrays", name := "fill", desc := "([II)V" } : Jvm.MethodName)) ∈ lw_tbl := tb_1 (List.mem_of_getElem? (i := 30) rfl)
theorem ml_X2_28 : ax_lks RX2 28 M_J7_fill_53178 2 := ⟨mw_1_29, mw_1_30, mw_1_3, mw_1_31, ⟨by decide +kernel, by decide +kernel⟩, by decide +kernel, by decide⟩
theorem mw_1_51 : (Cond.methodLinkNest "QuotaRegister" (25 : Nat) ({ cls := "QuotaRegister$Accounts", name := "<init>", desc := "()V" } : Jvm.MethodName) "QuotaRegister") ∈ lw_tbl := tb_1 (List.mem_of_getElem? (i := 51) rfl)
theorem mw_1_4 : (Cond.initialized "QuotaRegister$Accounts") ∈ lw_tbl := tb_1 (List.mem_of_getElem? (i := 4) rfl)
theorem mn_X3_25 : ax_ln RX3 25 "QuotaRegister" M_X0_init 0 := ⟨mw_1_51, mw_1_4, mw_1_53, rfl, ⟨by decide +kernel, by decide +kernel⟩, by decide +kernel, by decide⟩
theorem mw_1_52 : (Cond.instanceMethod ({ cls := "QuotaRegister$Accounts", name := "<init>", desc := "()V" } : Jvm.MethodName)) ∈ lw_tbl := tb_1 (List.mem_of_getElem? (i := 52) rfl)
theorem mi_X3_25 : M_X0_init.1.name = "<init>" ∧ M_X0_init.2.2.2.1 = none ∧ Cond.instanceMethod M_X0_init.1 ∈ lw_tbl := ⟨rfl, rfl, mw_1_52⟩
theorem mw_1_54 : (Cond.methodLink "QuotaRegister$Accounts" (5 : Nat) ({ cls := "java/lang/Object", name := "<init>", desc := "()V" } : Jvm.MethodName)) ∈ lw_tbl := tb_1 (List.mem_of_getElem? (i := 54) rfl)
theorem oi_X0 : Cond.methodLink RX0 5 objectInit ∈ lw_tbl := mw_1_54
theorem mw_1_88 : (Cond.methodLinkNest "QuotaRegister" (32 : Nat) ({ cls := "QuotaRegister$Events", name := "<init>", desc := "()V" } : Jvm.MethodName) "QuotaRegister") ∈ lw_tbl := tb_1 (List.mem_of_getElem? (i := 88) rfl)
theorem mw_1_5 : (Cond.initialized "QuotaRegister$Events") ∈ lw_tbl := tb_1 (List.mem_of_getElem? (i := 5) rfl)
theorem mn_X3_32 : ax_ln RX3 32 "QuotaRegister" M_X1_init 0 := ⟨mw_1_88, mw_1_5, mw_1_90, rfl, ⟨by decide +kernel, by decide +kernel⟩, by decide +kernel, by decide⟩
theorem mw_1_89 : (Cond.instanceMethod ({ cls := "QuotaRegister$Events", name := "<init>", desc := "()V" } : Jvm.MethodName)) ∈ lw_tbl := tb_1 (List.mem_of_getElem? (i := 89) rfl)
theorem mi_X3_32 : M_X1_init.1.name = "<init>" ∧ M_X1_init.2.2.2.1 = none ∧ Cond.instanceMethod M_X1_init.1 ∈ lw_tbl := ⟨rfl, rfl, mw_1_89⟩
theorem mw_1_91 : (Cond.methodLink "QuotaRegister$Events" (3 : Nat) ({ cls := "java/lang/Object", name := "<init>", desc := "()V" } : Jvm.MethodName)) ∈ lw_tbl := tb_1 (List.mem_of_getElem? (i := 91) rfl)
theorem oi_X1 : Cond.methodLink RX1 3 objectInit ∈ lw_tbl := mw_1_91
theorem mw_1_124 : (Cond.methodLink "QuotaRegister" (49 : Nat) ({ cls := "java/util/Arrays", name := "fill", desc := "([II)V" } : Jvm.MethodName)) ∈ lw_tbl := tb_1 (List.mem_of_getElem? (i := 124) rfl)
theorem ml_X3_49 : ax_lks RX3 49 M_J7_fill_53178 2 := ⟨mw_1_124, mw_1_30, mw_1_3, mw_1_31, ⟨by decide +kernel, by decide +kernel⟩, by decide +kernel, by decide⟩
theorem mw_1_150 : (Cond.methodLink "QuotaRegisterLaw" (90 : Nat) ({ cls := "QuotaRegisterLaw", name := "species", desc := "(LQuotaRegister;III)I" } : Jvm.MethodName)) ∈ lw_tbl := tb_1 (List.mem_of_getElem? (i := 150) rfl)
theorem mw_1_0 : (Cond.initialized "QuotaRegisterLaw") ∈ lw_tbl := tb_1 (List.mem_of_getElem? (i := 0) rfl)
theorem mw_1_151 : (Cond.static ({ cls := "QuotaRegisterLaw", name := "species", desc := "(LQuotaRegister;III)I" } : Jvm.MethodName)) ∈ lw_tbl := tb_1 (List.mem_of_getElem? (i := 151) rfl)
theorem ml_L_90 : ax_lks RL 90 M_L_species 4 := ⟨mw_1_150, mw_1_151, mw_1_0, mw_1_152, ⟨by decide +kernel, by decide +kernel⟩, by decide +kernel, by decide⟩
theorem mw_1_154 : (Cond.methodLink "QuotaRegisterLaw" (7 : Nat) ({ cls := "QuotaRegister", name := "species", desc := "(III)V" } : Jvm.MethodName)) ∈ lw_tbl := tb_1 (List.mem_of_getElem? (i := 154) rfl)
theorem mw_1_155 : (Cond.instanceMethod ({ cls := "QuotaRegister", name := "species", desc := "(III)V" } : Jvm.MethodName)) ∈ lw_tbl := tb_1 (List.mem_of_getElem? (i := 155) rfl)
theorem mw_1_156 : (Cond.selects "QuotaRegister" ({ cls := "QuotaRegister", name := "species", desc := "(III)V" } : Jvm.MethodName) ({ cls := "QuotaRegister", name := "species", desc := "(III)V" } : Jvm.MethodName)) ∈ lw_tbl := tb_1 (List.mem_of_getElem? (i := 156) rfl)
theorem ml_L_7 : ax_lvr RL 7 M_X3_species 3 3 := ⟨mw_1_154, mw_1_155, mw_1_156, mw_1_1, mw_1_157, rfl, ⟨by decide +kernel, by decide +kernel⟩, by decide +kernel, by decide, (RX3, TX3, 8), rfl, rfl⟩
theorem mw_1_158 : (Cond.methodLink "QuotaRegister" (55 : Nat) ({ cls := "QuotaRegister", name := "isSpecies", desc := "(I)Z" } : Jvm.MethodName)) ∈ lw_tbl := tb_1 (List.mem_of_getElem? (i := 158) rfl)
theorem mw_1_159 : (Cond.static ({ cls := "QuotaRegister", name := "isSpecies", desc := "(I)Z" } : Jvm.MethodName)) ∈ lw_tbl := tb_1 (List.mem_of_getElem? (i := 159) rfl)
theorem ml_X3_55 : ax_lks RX3 55 M_X3_isSpecies 1 := ⟨mw_1_158, mw_1_159, mw_1_1, mw_1_160, ⟨by decide +kernel, by decide +kernel⟩, by decide +kernel, by decide⟩
theorem mw_1_161 : (Cond.methodLink "QuotaRegister" (59 : Nat) ({ cls := "QuotaRegister", name := "isWithin", desc := "(III)Z" } : Jvm.MethodName)) ∈ lw_tbl := tb_1 (List.mem_of_getElem? (i := 161) rfl)
theorem mw_1_162 : (Cond.static ({ cls := "QuotaRegister", name := "isWithin", desc := "(III)Z" } : Jvm.MethodName)) ∈ lw_tbl := tb_1 (List.mem_of_getElem? (i := 162) rfl)
theorem ml_X3_59 : ax_lks RX3 59 M_X3_isWithin 3 := ⟨mw_1_161, mw_1_162, mw_1_1, mw_1_163, ⟨by decide +kernel, by decide +kernel⟩, by decide +kernel, by decide⟩
theorem mw_1_233 : (Cond.methodLink "QuotaRegister" (71 : Nat) ({ cls := "QuotaRegister$Shares", name := "someGroupHoldsMore", desc := "(II)Z" } : Jvm.MethodName)) ∈ lw_tbl := tb_1 (List.mem_of_getElem? (i := 233) rfl)
theorem mw_1_234 : (Cond.instanceMethod ({ cls := "QuotaRegister$Shares", name := "someGroupHoldsMore", desc := "(II)Z" } : Jvm.MethodName)) ∈ lw_tbl := tb_1 (List.mem_of_getElem? (i := 234) rfl)
theorem mw_1_235 : (Cond.selects "QuotaRegister$Shares" ({ cls := "QuotaRegister$Shares", name := "someGroupHoldsMore", desc := "(II)Z" } : Jvm.MethodName) ({ cls := "QuotaRegister$Shares", name := "someGroupHoldsMore", desc := "(II)Z" } : Jvm.MethodName)) ∈ lw_tbl := tb_1 (List.mem_of_getElem? (i := 235) rfl)
theorem ml_X3_71 : ax_lvr RX3 71 M_X2_someGroupHoldsMore 2 2 := ⟨mw_1_233, mw_1_234, mw_1_235, mw_1_2, mw_1_236, rfl, ⟨by decide +kernel, by decide +kernel⟩, by decide +kernel, by decide, (RX2, TX2, 5), rfl, rfl⟩
theorem mw_1_237 : (Cond.methodLink "QuotaRegister$Shares" (34 : Nat) ({ cls := "QuotaRegister$Shares", name := "groupOf", desc := "(I)I" } : Jvm.MethodName)) ∈ lw_tbl := tb_1 (List.mem_of_getElem? (i := 237) rfl)
theorem mw_1_238 : (Cond.instanceMethod ({ cls := "QuotaRegister$Shares", name := "groupOf", desc := "(I)I" } : Jvm.MethodName)) ∈ lw_tbl := tb_1 (List.mem_of_getElem? (i := 238) rfl)
theorem mw_1_239 : (Cond.selects "QuotaRegister$Shares" ({ cls := "QuotaRegister$Shares", name := "groupOf", desc := "(I)I" } : Jvm.MethodName) ({ cls := "QuotaRegister$Shares", name := "groupOf", desc := "(I)I" } : Jvm.MethodName)) ∈ lw_tbl := tb_1 (List.mem_of_getElem? (i := 239) rfl)
theorem ml_X2_34 : ax_lvr RX2 34 M_X2_groupOf 1 2 := ⟨mw_1_237, mw_1_238, mw_1_239, mw_1_2, mw_2_0, rfl, ⟨by decide +kernel, by decide +kernel⟩, by decide +kernel, by decide, (RX2, TX2, 5), rfl, rfl⟩
theorem mw_2_1 : (Cond.methodLink "QuotaRegister$Shares" (42 : Nat) ({ cls := "QuotaRegister$Shares", name := "partsOfGroup", desc := "(II)I" } : Jvm.MethodName)) ∈ lw_tbl := tb_2 (List.mem_of_getElem? (i := 1) rfl)
theorem mw_2_2 : (Cond.instanceMethod ({ cls := "QuotaRegister$Shares", name := "partsOfGroup", desc := "(II)I" } : Jvm.MethodName)) ∈ lw_tbl := tb_2 (List.mem_of_getElem? (i := 2) rfl)
theorem mw_2_3 : (Cond.selects "QuotaRegister$Shares" ({ cls := "QuotaRegister$Shares", name := "partsOfGroup", desc := "(II)I" } : Jvm.MethodName) ({ cls := "QuotaRegister$Shares", name := "partsOfGroup", desc := "(II)I" } : Jvm.MethodName)) ∈ lw_tbl := tb_2 (List.mem_of_getElem? (i := 3) rfl)
theorem ml_X2_42 : ax_lvr RX2 42 M_X2_partsOfGroup 2 2 := ⟨mw_2_1, mw_2_2, mw_2_3, mw_1_2, mw_2_4, rfl, ⟨by decide +kernel, by decide +kernel⟩, by decide +kernel, by decide, (RX2, TX2, 5), rfl, rfl⟩
theorem mw_2_5 : (Cond.methodLink "QuotaRegister$Shares" (38 : Nat) ({ cls := "QuotaRegister$Shares", name := "partsOf", desc := "(II)I" } : Jvm.MethodName)) ∈ lw_tbl := tb_2 (List.mem_of_getElem? (i := 5) rfl)
theorem mw_2_6 : (Cond.instanceMethod ({ cls := "QuotaRegister$Shares", name := "partsOf", desc := "(II)I" } : Jvm.MethodName)) ∈ lw_tbl := tb_2 (List.mem_of_getElem? (i := 6) rfl)
theorem mw_2_7 : (Cond.selects "QuotaRegister$Shares" ({ cls := "QuotaRegister$Shares", name := "partsOf", desc := "(II)I" } : Jvm.MethodName) ({ cls := "QuotaRegister$Shares", name := "partsOf", desc := "(II)I" } : Jvm.MethodName)) ∈ lw_tbl := tb_2 (List.mem_of_getElem? (i := 7) rfl)
theorem ml_X2_38 : ax_lvr RX2 38 M_X2_partsOf 2 2 := ⟨mw_2_5, mw_2_6, mw_2_7, mw_1_2, mw_2_8, rfl, ⟨by decide +kernel, by decide +kernel⟩, by decide +kernel, by decide, (RX2, TX2, 5), rfl, rfl⟩
theorem mw_2_10 : (Cond.methodLink "QuotaRegister" (77 : Nat) ({ cls := "QuotaRegister$Shares", name := "setCap", desc := "(II)V" } : Jvm.MethodName)) ∈ lw_tbl := tb_2 (List.mem_of_getElem? (i := 10) rfl)
theorem mw_2_11 : (Cond.instanceMethod ({ cls := "QuotaRegister$Shares", name := "setCap", desc := "(II)V" } : Jvm.MethodName)) ∈ lw_tbl := tb_2 (List.mem_of_getElem? (i := 11) rfl)
theorem mw_2_12 : (Cond.selects "QuotaRegister$Shares" ({ cls := "QuotaRegister$Shares", name := "setCap", desc := "(II)V" } : Jvm.MethodName) ({ cls := "QuotaRegister$Shares", name := "setCap", desc := "(II)V" } : Jvm.MethodName)) ∈ lw_tbl := tb_2 (List.mem_of_getElem? (i := 12) rfl)
theorem ml_X3_77 : ax_lvr RX3 77 M_X2_setCap 2 2 := ⟨mw_2_10, mw_2_11, mw_2_12, mw_1_2, mw_2_13, rfl, ⟨by decide +kernel, by decide +kernel⟩, by decide +kernel, by decide, (RX2, TX2, 5), rfl, rfl⟩
theorem mw_2_14 : (Cond.methodLink "QuotaRegisterLaw" (99 : Nat) ({ cls := "QuotaRegisterLaw", name := "factor", desc := "(LQuotaRegister;III)I" } : Jvm.MethodName)) ∈ lw_tbl := tb_2 (List.mem_of_getElem? (i := 14) rfl)
theorem mw_2_15 : (Cond.static ({ cls := "QuotaRegisterLaw", name := "factor", desc := "(LQuotaRegister;III)I" } : Jvm.MethodName)) ∈ lw_tbl := tb_2 (List.mem_of_getElem? (i := 15) rfl)
theorem ml_L_99 : ax_lks RL 99 M_L_factor 4 := ⟨mw_2_14, mw_2_15, mw_1_0, mw_2_16, ⟨by decide +kernel, by decide +kernel⟩, by decide +kernel, by decide⟩
theorem mw_2_17 : (Cond.methodLink "QuotaRegisterLaw" (15 : Nat) ({ cls := "QuotaRegister", name := "factor", desc := "(III)V" } : Jvm.MethodName)) ∈ lw_tbl := tb_2 (List.mem_of_getElem? (i := 17) rfl)
theorem mw_2_18 : (Cond.instanceMethod ({ cls := "QuotaRegister", name := "factor", desc := "(III)V" } : Jvm.MethodName)) ∈ lw_tbl := tb_2 (List.mem_of_getElem? (i := 18) rfl)
theorem mw_2_19 : (Cond.selects "QuotaRegister" ({ cls := "QuotaRegister", name := "factor", desc := "(III)V" } : Jvm.MethodName) ({ cls := "QuotaRegister", name := "factor", desc := "(III)V" } : Jvm.MethodName)) ∈ lw_tbl := tb_2 (List.mem_of_getElem? (i := 19) rfl)
theorem ml_L_15 : ax_lvr RL 15 M_X3_factor 3 3 := ⟨mw_2_17, mw_2_18, mw_2_19, mw_1_1, mw_2_20, rfl, ⟨by decide +kernel, by decide +kernel⟩, by decide +kernel, by decide, (RX3, TX3, 8), rfl, rfl⟩
theorem mw_2_21 : (Cond.methodLink "QuotaRegister" (81 : Nat) ({ cls := "QuotaRegister", name := "isForm", desc := "(I)Z" } : Jvm.MethodName)) ∈ lw_tbl := tb_2 (List.mem_of_getElem? (i := 21) rfl)
theorem mw_2_22 : (Cond.static ({ cls := "QuotaRegister", name := "isForm", desc := "(I)Z" } : Jvm.MethodName)) ∈ lw_tbl := tb_2 (List.mem_of_getElem? (i := 22) rfl)
theorem ml_X3_81 : ax_lks RX3 81 M_X3_isForm 1 := ⟨mw_2_21, mw_2_22, mw_1_1, mw_2_23, ⟨by decide +kernel, by decide +kernel⟩, by decide +kernel, by decide⟩
theorem mw_2_25 : (Cond.methodLink "QuotaRegisterLaw" (102 : Nat) ({ cls := "QuotaRegisterLaw", name := "vessel", desc := "(LQuotaRegister;II)I" } : Jvm.MethodName)) ∈ lw_tbl := tb_2 (List.mem_of_getElem? (i := 25) rfl)
theorem mw_2_26 : (Cond.static ({ cls := "QuotaRegisterLaw", name := "vessel", desc := "(LQuotaRegister;II)I" } : Jvm.MethodName)) ∈ lw_tbl := tb_2 (List.mem_of_getElem? (i := 26) rfl)
theorem ml_L_102 : ax_lks RL 102 M_L_vessel 3 := ⟨mw_2_25, mw_2_26, mw_1_0, mw_2_27, ⟨by decide +kernel, by decide +kernel⟩, by decide +kernel, by decide⟩
theorem mw_2_29 : (Cond.methodLink "QuotaRegisterLaw" (18 : Nat) ({ cls := "QuotaRegister", name := "vessel", desc := "(II)V" } : Jvm.MethodName)) ∈ lw_tbl := tb_2 (List.mem_of_getElem? (i := 29) rfl)
theorem mw_2_30 : (Cond.instanceMethod ({ cls := "QuotaRegister", name := "vessel", desc := "(II)V" } : Jvm.MethodName)) ∈ lw_tbl := tb_2 (List.mem_of_getElem? (i := 30) rfl)
theorem mw_2_31 : (Cond.selects "QuotaRegister" ({ cls := "QuotaRegister", name := "vessel", desc := "(II)V" } : Jvm.MethodName) ({ cls := "QuotaRegister", name := "vessel", desc := "(II)V" } : Jvm.MethodName)) ∈ lw_tbl := tb_2 (List.mem_of_getElem? (i := 31) rfl)
theorem ml_L_18 : ax_lvr RL 18 M_X3_vessel 2 3 := ⟨mw_2_29, mw_2_30, mw_2_31, mw_1_1, mw_2_32, rfl, ⟨by decide +kernel, by decide +kernel⟩, by decide +kernel, by decide, (RX3, TX3, 8), rfl, rfl⟩
theorem mw_2_33 : (Cond.methodLink "QuotaRegister" (86 : Nat) ({ cls := "QuotaRegister", name := "isVessel", desc := "(I)Z" } : Jvm.MethodName)) ∈ lw_tbl := tb_2 (List.mem_of_getElem? (i := 33) rfl)
theorem mw_2_34 : (Cond.static ({ cls := "QuotaRegister", name := "isVessel", desc := "(I)Z" } : Jvm.MethodName)) ∈ lw_tbl := tb_2 (List.mem_of_getElem? (i := 34) rfl)
theorem ml_X3_86 : ax_lks RX3 86 M_X3_isVessel 1 := ⟨mw_2_33, mw_2_34, mw_1_1, mw_2_35, ⟨by decide +kernel, by decide +kernel⟩, by decide +kernel, by decide⟩
theorem mw_2_36 : (Cond.methodLink "QuotaRegister" (89 : Nat) ({ cls := "QuotaRegister", name := "isOwner", desc := "(I)Z" } : Jvm.MethodName)) ∈ lw_tbl := tb_2 (List.mem_of_getElem? (i := 36) rfl)
theorem mw_2_37 : (Cond.static ({ cls := "QuotaRegister", name := "isOwner", desc := "(I)Z" } : Jvm.MethodName)) ∈ lw_tbl := tb_2 (List.mem_of_getElem? (i := 37) rfl)
theorem ml_X3_89 : ax_lks RX3 89 M_X3_isOwner 1 := ⟨mw_2_36, mw_2_37, mw_1_1, mw_2_38, ⟨by decide +kernel, by decide +kernel⟩, by decide +kernel, by decide⟩
theorem mw_2_40 : (Cond.methodLink "QuotaRegister" (94 : Nat) ({ cls := "QuotaRegister$Shares", name := "carriesParts", desc := "(I)Z" } : Jvm.MethodName)) ∈ lw_tbl := tb_2 (List.mem_of_getElem? (i := 40) rfl)
theorem mw_2_41 : (Cond.instanceMethod ({ cls := "QuotaRegister$Shares", name := "carriesParts", desc := "(I)Z" } : Jvm.MethodName)) ∈ lw_tbl := tb_2 (List.mem_of_getElem? (i := 41) rfl)
theorem mw_2_42 : (Cond.selects "QuotaRegister$Shares" ({ cls := "QuotaRegister$Shares", name := "carriesParts", desc := "(I)Z" } : Jvm.MethodName) ({ cls := "QuotaRegister$Shares", name := "carriesParts", desc := "(I)Z" } : Jvm.MethodName)) ∈ lw_tbl := tb_2 (List.mem_of_getElem? (i := 42) rfl)
theorem ml_X3_94 : ax_lvr RX3 94 M_X2_carriesParts 1 2 := ⟨mw_2_40, mw_2_41, mw_2_42, mw_1_2, mw_2_43, rfl, ⟨by decide +kernel, by decide +kernel⟩, by decide +kernel, by decide, (RX2, TX2, 5), rfl, rfl⟩
theorem mw_2_44 : (Cond.methodLink "QuotaRegister$Shares" (45 : Nat) ({ cls := "QuotaRegister$Shares", name := "placedOn", desc := "(II)I" } : Jvm.MethodName)) ∈ lw_tbl := tb_2 (List.mem_of_getElem? (i := 44) rfl)
theorem mw_2_45 : (Cond.instanceMethod ({ cls := "QuotaRegister$Shares", name := "placedOn", desc := "(II)I" } : Jvm.MethodName)) ∈ lw_tbl := tb_2 (List.mem_of_getElem? (i := 45) rfl)
theorem mw_2_46 : (Cond.selects "QuotaRegister$Shares" ({ cls := "QuotaRegister$Shares", name := "placedOn", desc := "(II)I" } : Jvm.MethodName) ({ cls := "QuotaRegister$Shares", name := "placedOn", desc := "(II)I" } : Jvm.MethodName)) ∈ lw_tbl := tb_2 (List.mem_of_getElem? (i := 46) rfl)
theorem ml_X2_45 : ax_lvr RX2 45 M_X2_placedOn 2 2 := ⟨mw_2_44, mw_2_45, mw_2_46, mw_1_2, mw_2_47, rfl, ⟨by decide +kernel, by decide +kernel⟩, by decide +kernel, by decide, (RX2, TX2, 5), rfl, rfl⟩
theorem mw_2_64 : (Cond.methodLink "QuotaRegister" (102 : Nat) ({ cls := "QuotaRegister$Shares", name := "setOwner", desc := "(II)V" } : Jvm.MethodName)) ∈ lw_tbl := tb_2 (List.mem_of_getElem? (i := 64) rfl)
theorem mw_2_65 : (Cond.instanceMethod ({ cls := "QuotaRegister$Shares", name := "setOwner", desc := "(II)V" } : Jvm.MethodName)) ∈ lw_tbl := tb_2 (List.mem_of_getElem? (i := 65) rfl)
theorem mw_2_66 : (Cond.selects "QuotaRegister$Shares" ({ cls := "QuotaRegister$Shares", name := "setOwner", desc := "(II)V" } : Jvm.MethodName) ({ cls := "QuotaRegister$Shares", name := "setOwner", desc := "(II)V" } : Jvm.MethodName)) ∈ lw_tbl := tb_2 (List.mem_of_getElem? (i := 66) rfl)
theorem ml_X3_102 : ax_lvr RX3 102 M_X2_setOwner 2 2 := ⟨mw_2_64, mw_2_65, mw_2_66, mw_1_2, mw_2_67, rfl, ⟨by decide +kernel, by decide +kernel⟩, by decide +kernel, by decide, (RX2, TX2, 5), rfl, rfl⟩
theorem mw_2_68 : (Cond.methodLink "QuotaRegisterLaw" (106 : Nat) ({ cls := "QuotaRegisterLaw", name := "link", desc := "(LQuotaRegister;II)I" } : Jvm.MethodName)) ∈ lw_tbl := tb_2 (List.mem_of_getElem? (i := 68) rfl)
theorem mw_2_69 : (Cond.static ({ cls := "QuotaRegisterLaw", name := "link", desc := "(LQuotaRegister;II)I" } : Jvm.MethodName)) ∈ lw_tbl := tb_2 (List.mem_of_getElem? (i := 69) rfl)
theorem ml_L_106 : ax_lks RL 106 M_L_link 3 := ⟨mw_2_68, mw_2_69, mw_1_0, mw_2_70, ⟨by decide +kernel, by decide +kernel⟩, by decide +kernel, by decide⟩
theorem mw_2_71 : (Cond.methodLink "QuotaRegisterLaw" (24 : Nat) ({ cls := "QuotaRegister", name := "link", desc := "(II)V" } : Jvm.MethodName)) ∈ lw_tbl := tb_2 (List.mem_of_getElem? (i := 71) rfl)
theorem mw_2_72 : (Cond.instanceMethod ({ cls := "QuotaRegister", name := "link", desc := "(II)V" } : Jvm.MethodName)) ∈ lw_tbl := tb_2 (List.mem_of_getElem? (i := 72) rfl)
theorem mw_2_73 : (Cond.selects "QuotaRegister" ({ cls := "QuotaRegister", name := "link", desc := "(II)V" } : Jvm.MethodName) ({ cls := "QuotaRegister", name := "link", desc := "(II)V" } : Jvm.MethodName)) ∈ lw_tbl := tb_2 (List.mem_of_getElem? (i := 73) rfl)
theorem ml_L_24 : ax_lvr RL 24 M_X3_link 2 3 := ⟨mw_2_71, mw_2_72, mw_2_73, mw_1_1, mw_2_74, rfl, ⟨by decide +kernel, by decide +kernel⟩, by decide +kernel, by decide, (RX3, TX3, 8), rfl, rfl⟩
theorem mw_2_75 : (Cond.methodLink "QuotaRegister" (105 : Nat) ({ cls := "QuotaRegister", name := "areTwoOwners", desc := "(II)Z" } : Jvm.MethodName)) ∈ lw_tbl := tb_2 (List.mem_of_getElem? (i := 75) rfl)
theorem mw_2_76 : (Cond.static ({ cls := "QuotaRegister", name := "areTwoOwners", desc := "(II)Z" } : Jvm.MethodName)) ∈ lw_tbl := tb_2 (List.mem_of_getElem? (i := 76) rfl)
theorem ml_X3_105 : ax_lks RX3 105 M_X3_areTwoOwners 2 := ⟨mw_2_75, mw_2_76, mw_1_1, mw_2_77, ⟨by decide +kernel, by decide +kernel⟩, by decide +kernel, by decide⟩
theorem mw_2_79 : (Cond.methodLink "QuotaRegister" (110 : Nat) ({ cls := "QuotaRegister$Shares", name := "joinedWouldPassCap", desc := "(II)Z" } : Jvm.MethodName)) ∈ lw_tbl := tb_2 (List.mem_of_getElem? (i := 79) rfl)
theorem mw_2_80 : (Cond.instanceMethod ({ cls := "QuotaRegister$Shares", name := "joinedWouldPassCap", desc := "(II)Z" } : Jvm.MethodName)) ∈ lw_tbl := tb_2 (List.mem_of_getElem? (i := 80) rfl)
theorem mw_2_81 : (Cond.selects "QuotaRegister$Shares" ({ cls := "QuotaRegister$Shares", name := "joinedWouldPassCap", desc := "(II)Z" } : Jvm.MethodName) ({ cls := "QuotaRegister$Shares", name := "joinedWouldPassCap", desc := "(II)Z" } : Jvm.MethodName)) ∈ lw_tbl := tb_2 (List.mem_of_getElem? (i := 81) rfl)
theorem ml_X3_110 : ax_lvr RX3 110 M_X2_joinedWouldPassCap 2 2 := ⟨mw_2_79, mw_2_80, mw_2_81, mw_1_2, mw_2_82, rfl, ⟨by decide +kernel, by decide +kernel⟩, by decide +kernel, by decide, (RX2, TX2, 5), rfl, rfl⟩
theorem mw_2_84 : (Cond.methodLink "QuotaRegister" (115 : Nat) ({ cls := "QuotaRegister$Shares", name := "join", desc := "(II)V" } : Jvm.MethodName)) ∈ lw_tbl := tb_2 (List.mem_of_getElem? (i := 84) rfl)
theorem mw_2_85 : (Cond.instanceMethod ({ cls := "QuotaRegister$Shares", name := "join", desc := "(II)V" } : Jvm.MethodName)) ∈ lw_tbl := tb_2 (List.mem_of_getElem? (i := 85) rfl)
theorem mw_2_86 : (Cond.selects "QuotaRegister$Shares" ({ cls := "QuotaRegister$Shares", name := "join", desc := "(II)V" } : Jvm.MethodName) ({ cls := "QuotaRegister$Shares", name := "join", desc := "(II)V" } : Jvm.MethodName)) ∈ lw_tbl := tb_2 (List.mem_of_getElem? (i := 86) rfl)
theorem ml_X3_115 : ax_lvr RX3 115 M_X2_join 2 2 := ⟨mw_2_84, mw_2_85, mw_2_86, mw_1_2, mw_2_87, rfl, ⟨by decide +kernel, by decide +kernel⟩, by decide +kernel, by decide, (RX2, TX2, 5), rfl, rfl⟩
theorem mw_2_88 : (Cond.methodLink "QuotaRegisterLaw" (109 : Nat) ({ cls := "QuotaRegisterLaw", name := "unlink", desc := "(LQuotaRegister;II)I" } : Jvm.MethodName)) ∈ lw_tbl := tb_2 (List.mem_of_getElem? (i := 88) rfl)
theorem mw_2_89 : (Cond.static ({ cls := "QuotaRegisterLaw", name := "unlink", desc := "(LQuotaRegister;II)I" } : Jvm.MethodName)) ∈ lw_tbl := tb_2 (List.mem_of_getElem? (i := 89) rfl)
theorem ml_L_109 : ax_lks RL 109 M_L_unlink 3 := ⟨mw_2_88, mw_2_89, mw_1_0, mw_2_90, ⟨by decide +kernel, by decide +kernel⟩, by decide +kernel, by decide⟩
theorem mw_2_91 : (Cond.methodLink "QuotaRegisterLaw" (27 : Nat) ({ cls := "QuotaRegister", name := "unlink", desc := "(II)V" } : Jvm.MethodName)) ∈ lw_tbl := tb_2 (List.mem_of_getElem? (i := 91) rfl)
theorem mw_2_92 : (Cond.instanceMethod ({ cls := "QuotaRegister", name := "unlink", desc := "(II)V" } : Jvm.MethodName)) ∈ lw_tbl := tb_2 (List.mem_of_getElem? (i := 92) rfl)
theorem mw_2_93 : (Cond.selects "QuotaRegister" ({ cls := "QuotaRegister", name := "unlink", desc := "(II)V" } : Jvm.MethodName) ({ cls := "QuotaRegister", name := "unlink", desc := "(II)V" } : Jvm.MethodName)) ∈ lw_tbl := tb_2 (List.mem_of_getElem? (i := 93) rfl)
theorem ml_L_27 : ax_lvr RL 27 M_X3_unlink 2 3 := ⟨mw_2_91, mw_2_92, mw_2_93, mw_1_1, mw_2_94, rfl, ⟨by decide +kernel, by decide +kernel⟩, by decide +kernel, by decide, (RX3, TX3, 8), rfl, rfl⟩
theorem mw_2_95 : (Cond.methodLink "QuotaRegister" (118 : Nat) ({ cls := "QuotaRegister$Shares", name := "areJoined", desc := "(II)Z" } : Jvm.MethodName)) ∈ lw_tbl := tb_2 (List.mem_of_getElem? (i := 95) rfl)
theorem mw_2_96 : (Cond.instanceMethod ({ cls := "QuotaRegister$Shares", name := "areJoined", desc := "(II)Z" } : Jvm.MethodName)) ∈ lw_tbl := tb_2 (List.mem_of_getElem? (i := 96) rfl)
theorem mw_2_97 : (Cond.selects "QuotaRegister$Shares" ({ cls := "QuotaRegister$Shares", name := "areJoined", desc := "(II)Z" } : Jvm.MethodName) ({ cls := "QuotaRegister$Shares", name := "areJoined", desc := "(II)Z" } : Jvm.MethodName)) ∈ lw_tbl := tb_2 (List.mem_of_getElem? (i := 97) rfl)
theorem ml_X3_118 : ax_lvr RX3 118 M_X2_areJoined 2 2 := ⟨mw_2_95, mw_2_96, mw_2_97, mw_1_2, mw_2_98, rfl, ⟨by decide +kernel, by decide +kernel⟩, by decide +kernel, by decide, (RX2, TX2, 5), rfl, rfl⟩
theorem mw_2_100 : (Cond.methodLink "QuotaRegister" (123 : Nat) ({ cls := "QuotaRegister$Shares", name := "part", desc := "(II)V" } : Jvm.MethodName)) ∈ lw_tbl := tb_2 (List.mem_of_getElem? (i := 100) rfl)
theorem mw_2_101 : (Cond.instanceMethod ({ cls := "QuotaRegister$Shares", name := "part", desc := "(II)V" } : Jvm.MethodName)) ∈ lw_tbl := tb_2 (List.mem_of_getElem? (i := 101) rfl)
theorem mw_2_102 : (Cond.selects "QuotaRegister$Shares" ({ cls := "QuotaRegister$Shares", name := "part", desc := "(II)V" } : Jvm.MethodName) ({ cls := "QuotaRegister$Shares", name := "part", desc := "(II)V" } : Jvm.MethodName)) ∈ lw_tbl := tb_2 (List.mem_of_getElem? (i := 102) rfl)
theorem ml_X3_123 : ax_lvr RX3 123 M_X2_part 2 2 := ⟨mw_2_100, mw_2_101, mw_2_102, mw_1_2, mw_2_103, rfl, ⟨by decide +kernel, by decide +kernel⟩, by decide +kernel, by decide, (RX2, TX2, 5), rfl, rfl⟩
theorem mw_2_104 : (Cond.methodLink "QuotaRegisterLaw" (112 : Nat) ({ cls := "QuotaRegisterLaw", name := "issue", desc := "(LQuotaRegister;III[J)I" } : Jvm.MethodName)) ∈ lw_tbl := tb_2 (List.mem_of_getElem? (i := 104) rfl)
theorem mw_2_105 : (Cond.static ({ cls := "QuotaRegisterLaw", name := "issue", desc := "(LQuotaRegister;III[J)I" } : Jvm.MethodName)) ∈ lw_tbl := tb_2 (List.mem_of_getElem? (i := 105) rfl)
theorem ml_L_112 : ax_lks RL 112 M_L_issue 5 := ⟨mw_2_104, mw_2_105, mw_1_0, mw_2_106, ⟨by decide +kernel, by decide +kernel⟩, by decide +kernel, by decide⟩
theorem mw_2_107 : (Cond.methodLink "QuotaRegisterLaw" (30 : Nat) ({ cls := "QuotaRegister", name := "issue", desc := "(III)I" } : Jvm.MethodName)) ∈ lw_tbl := tb_2 (List.mem_of_getElem? (i := 107) rfl)
theorem mw_2_108 : (Cond.instanceMethod ({ cls := "QuotaRegister", name := "issue", desc := "(III)I" } : Jvm.MethodName)) ∈ lw_tbl := tb_2 (List.mem_of_getElem? (i := 108) rfl)
theorem mw_2_109 : (Cond.selects "QuotaRegister" ({ cls := "QuotaRegister", name := "issue", desc := "(III)I" } : Jvm.MethodName) ({ cls := "QuotaRegister", name := "issue", desc := "(III)I" } : Jvm.MethodName)) ∈ lw_tbl := tb_2 (List.mem_of_getElem? (i := 109) rfl)
theorem ml_L_30 : ax_lvr RL 30 M_X3_issue 3 3 := ⟨mw_2_107, mw_2_108, mw_2_109, mw_1_1, mw_2_110, rfl, ⟨by decide +kernel, by decide +kernel⟩, by decide +kernel, by decide, (RX3, TX3, 8), rfl, rfl⟩
theorem mw_2_113 : (Cond.methodLink "QuotaRegister" (130 : Nat) ({ cls := "QuotaRegister$Shares", name := "partsInAll", desc := "(I)I" } : Jvm.MethodName)) ∈ lw_tbl := tb_2 (List.mem_of_getElem? (i := 113) rfl)
theorem mw_2_114 : (Cond.instanceMethod ({ cls := "QuotaRegister$Shares", name := "partsInAll", desc := "(I)I" } : Jvm.MethodName)) ∈ lw_tbl := tb_2 (List.mem_of_getElem? (i := 114) rfl)
theorem mw_2_115 : (Cond.selects "QuotaRegister$Shares" ({ cls := "QuotaRegister$Shares", name := "partsInAll", desc := "(I)I" } : Jvm.MethodName) ({ cls := "QuotaRegister$Shares", name := "partsInAll", desc := "(I)I" } : Jvm.MethodName)) ∈ lw_tbl := tb_2 (List.mem_of_getElem? (i := 115) rfl)
theorem ml_X3_130 : ax_lvr RX3 130 M_X2_partsInAll 1 2 := ⟨mw_2_113, mw_2_114, mw_2_115, mw_1_2, mw_2_116, rfl, ⟨by decide +kernel, by decide +kernel⟩, by decide +kernel, by decide, (RX2, TX2, 5), rfl, rfl⟩
theorem mw_2_117 : (Cond.methodLink "QuotaRegister" (134 : Nat) ({ cls := "QuotaRegister$Shares", name := "groupWouldPassCap", desc := "(III)Z" } : Jvm.MethodName)) ∈ lw_tbl := tb_2 (List.mem_of_getElem? (i := 117) rfl)
theorem mw_2_118 : (Cond.instanceMethod ({ cls := "QuotaRegister$Shares", name := "groupWouldPassCap", desc := "(III)Z" } : Jvm.MethodName)) ∈ lw_tbl := tb_2 (List.mem_of_getElem? (i := 118) rfl)
theorem mw_2_119 : (Cond.selects "QuotaRegister$Shares" ({ cls := "QuotaRegister$Shares", name := "groupWouldPassCap", desc := "(III)Z" } : Jvm.MethodName) ({ cls := "QuotaRegister$Shares", name := "groupWouldPassCap", desc := "(III)Z" } : Jvm.MethodName)) ∈ lw_tbl := tb_2 (List.mem_of_getElem? (i := 119) rfl)
theorem ml_X3_134 : ax_lvr RX3 134 M_X2_groupWouldPassCap 3 2 := ⟨mw_2_117, mw_2_118, mw_2_119, mw_1_2, mw_2_120, rfl, ⟨by decide +kernel, by decide +kernel⟩, by decide +kernel, by decide, (RX2, TX2, 5), rfl, rfl⟩
theorem mw_2_122 : (Cond.methodLink "QuotaRegister" (139 : Nat) ({ cls := "QuotaRegister$Shares", name := "addParts", desc := "(III)I" } : Jvm.MethodName)) ∈ lw_tbl := tb_2 (List.mem_of_getElem? (i := 122) rfl)
theorem mw_2_123 : (Cond.instanceMethod ({ cls := "QuotaRegister$Shares", name := "addParts", desc := "(III)I" } : Jvm.MethodName)) ∈ lw_tbl := tb_2 (List.mem_of_getElem? (i := 123) rfl)
theorem mw_2_124 : (Cond.selects "QuotaRegister$Shares" ({ cls := "QuotaRegister$Shares", name := "addParts", desc := "(III)I" } : Jvm.MethodName) ({ cls := "QuotaRegister$Shares", name := "addParts", desc := "(III)I" } : Jvm.MethodName)) ∈ lw_tbl := tb_2 (List.mem_of_getElem? (i := 124) rfl)
theorem ml_X3_139 : ax_lvr RX3 139 M_X2_addParts 3 2 := ⟨mw_2_122, mw_2_123, mw_2_124, mw_1_2, mw_2_125, rfl, ⟨by decide +kernel, by decide +kernel⟩, by decide +kernel, by decide, (RX2, TX2, 5), rfl, rfl⟩
theorem mw_2_126 : (Cond.methodLink "QuotaRegisterLaw" (116 : Nat) ({ cls := "QuotaRegisterLaw", name := "sell", desc := "(LQuotaRegister;IIII)I" } : Jvm.MethodName)) ∈ lw_tbl := tb_2 (List.mem_of_getElem? (i := 126) rfl)
theorem mw_2_127 : (Cond.static ({ cls := "QuotaRegisterLaw", name := "sell", desc := "(LQuotaRegister;IIII)I" } : Jvm.MethodName)) ∈ lw_tbl := tb_2 (List.mem_of_getElem? (i := 127) rfl)
theorem ml_L_116 : ax_lks RL 116 M_L_sell 5 := ⟨mw_2_126, mw_2_127, mw_1_0, mw_2_128, ⟨by decide +kernel, by decide +kernel⟩, by decide +kernel, by decide⟩
theorem mw_2_129 : (Cond.methodLink "QuotaRegisterLaw" (34 : Nat) ({ cls := "QuotaRegister", name := "sell", desc := "(IIII)V" } : Jvm.MethodName)) ∈ lw_tbl := tb_2 (List.mem_of_getElem? (i := 129) rfl)
theorem mw_2_130 : (Cond.instanceMethod ({ cls := "QuotaRegister", name := "sell", desc := "(IIII)V" } : Jvm.MethodName)) ∈ lw_tbl := tb_2 (List.mem_of_getElem? (i := 130) rfl)
theorem mw_2_131 : (Cond.selects "QuotaRegister" ({ cls := "QuotaRegister", name := "sell", desc := "(IIII)V" } : Jvm.MethodName) ({ cls := "QuotaRegister", name := "sell", desc := "(IIII)V" } : Jvm.MethodName)) ∈ lw_tbl := tb_2 (List.mem_of_getElem? (i := 131) rfl)
theorem ml_L_34 : ax_lvr RL 34 M_X3_sell 4 3 := ⟨mw_2_129, mw_2_130, mw_2_131, mw_1_1, mw_2_132, rfl, ⟨by decide +kernel, by decide +kernel⟩, by decide +kernel, by decide, (RX3, TX3, 8), rfl, rfl⟩
theorem mw_2_134 : (Cond.methodLink "QuotaRegister" (145 : Nat) ({ cls := "QuotaRegister$Shares", name := "freeParts", desc := "(II)I" } : Jvm.MethodName)) ∈ lw_tbl := tb_2 (List.mem_of_getElem? (i := 134) rfl)
theorem mw_2_135 : (Cond.instanceMethod ({ cls := "QuotaRegister$Shares", name := "freeParts", desc := "(II)I" } : Jvm.MethodName)) ∈ lw_tbl := tb_2 (List.mem_of_getElem? (i := 135) rfl)
theorem mw_2_136 : (Cond.selects "QuotaRegister$Shares" ({ cls := "QuotaRegister$Shares", name := "freeParts", desc := "(II)I" } : Jvm.MethodName) ({ cls := "QuotaRegister$Shares", name := "freeParts", desc := "(II)I" } : Jvm.MethodName)) ∈ lw_tbl := tb_2 (List.mem_of_getElem? (i := 136) rfl)
theorem ml_X3_145 : ax_lvr RX3 145 M_X2_freeParts 2 2 := ⟨mw_2_134, mw_2_135, mw_2_136, mw_1_2, mw_2_137, rfl, ⟨by decide +kernel, by decide +kernel⟩, by decide +kernel, by decide, (RX2, TX2, 5), rfl, rfl⟩
theorem mw_2_139 : (Cond.methodLink "QuotaRegister" (151 : Nat) ({ cls := "QuotaRegister$Shares", name := "inOneGroup", desc := "(II)Z" } : Jvm.MethodName)) ∈ lw_tbl := tb_2 (List.mem_of_getElem? (i := 139) rfl)
theorem mw_2_140 : (Cond.instanceMethod ({ cls := "QuotaRegister$Shares", name := "inOneGroup", desc := "(II)Z" } : Jvm.MethodName)) ∈ lw_tbl := tb_2 (List.mem_of_getElem? (i := 140) rfl)
theorem mw_2_141 : (Cond.selects "QuotaRegister$Shares" ({ cls := "QuotaRegister$Shares", name := "inOneGroup", desc := "(II)Z" } : Jvm.MethodName) ({ cls := "QuotaRegister$Shares", name := "inOneGroup", desc := "(II)Z" } : Jvm.MethodName)) ∈ lw_tbl := tb_2 (List.mem_of_getElem? (i := 141) rfl)
theorem ml_X3_151 : ax_lvr RX3 151 M_X2_inOneGroup 2 2 := ⟨mw_2_139, mw_2_140, mw_2_141, mw_1_2, mw_2_142, rfl, ⟨by decide +kernel, by decide +kernel⟩, by decide +kernel, by decide, (RX2, TX2, 5), rfl, rfl⟩
theorem mw_2_144 : (Cond.methodLink "QuotaRegisterLaw" (120 : Nat) ({ cls := "QuotaRegisterLaw", name := "place", desc := "(LQuotaRegister;III[J)I" } : Jvm.MethodName)) ∈ lw_tbl := tb_2 (List.mem_of_getElem? (i := 144) rfl)
theorem mw_2_145 : (Cond.static ({ cls := "QuotaRegisterLaw", name := "place", desc := "(LQuotaRegister;III[J)I" } : Jvm.MethodName)) ∈ lw_tbl := tb_2 (List.mem_of_getElem? (i := 145) rfl)
theorem ml_L_120 : ax_lks RL 120 M_L_place 5 := ⟨mw_2_144, mw_2_145, mw_1_0, mw_2_146, ⟨by decide +kernel, by decide +kernel⟩, by decide +kernel, by decide⟩
theorem mw_2_147 : (Cond.methodLink "QuotaRegisterLaw" (38 : Nat) ({ cls := "QuotaRegister", name := "place", desc := "(III)I" } : Jvm.MethodName)) ∈ lw_tbl := tb_2 (List.mem_of_getElem? (i := 147) rfl)
theorem mw_2_148 : (Cond.instanceMethod ({ cls := "QuotaRegister", name := "place", desc := "(III)I" } : Jvm.MethodName)) ∈ lw_tbl := tb_2 (List.mem_of_getElem? (i := 148) rfl)
theorem mw_2_149 : (Cond.selects "QuotaRegister" ({ cls := "QuotaRegister", name := "place", desc := "(III)I" } : Jvm.MethodName) ({ cls := "QuotaRegister", name := "place", desc := "(III)I" } : Jvm.MethodName)) ∈ lw_tbl := tb_2 (List.mem_of_getElem? (i := 149) rfl)
theorem ml_L_38 : ax_lvr RL 38 M_X3_place 3 3 := ⟨mw_2_147, mw_2_148, mw_2_149, mw_1_1, mw_2_150, rfl, ⟨by decide +kernel, by decide +kernel⟩, by decide +kernel, by decide, (RX3, TX3, 8), rfl, rfl⟩
theorem mw_2_152 : (Cond.methodLink "QuotaRegister" (158 : Nat) ({ cls := "QuotaRegister$Shares", name := "ownerOf", desc := "(I)I" } : Jvm.MethodName)) ∈ lw_tbl := tb_2 (List.mem_of_getElem? (i := 152) rfl)
theorem mw_2_153 : (Cond.instanceMethod ({ cls := "QuotaRegister$Shares", name := "ownerOf", desc := "(I)I" } : Jvm.MethodName)) ∈ lw_tbl := tb_2 (List.mem_of_getElem? (i := 153) rfl)
theorem mw_2_154 : (Cond.selects "QuotaRegister$Shares" ({ cls := "QuotaRegister$Shares", name := "ownerOf", desc := "(I)I" } : Jvm.MethodName) ({ cls := "QuotaRegister$Shares", name := "ownerOf", desc := "(I)I" } : Jvm.MethodName)) ∈ lw_tbl := tb_2 (List.mem_of_getElem? (i := 154) rfl)
theorem ml_X3_158 : ax_lvr RX3 158 M_X2_ownerOf 1 2 := ⟨mw_2_152, mw_2_153, mw_2_154, mw_1_2, mw_2_155, rfl, ⟨by decide +kernel, by decide +kernel⟩, by decide +kernel, by decide, (RX2, TX2, 5), rfl, rfl⟩
theorem mw_2_156 : (Cond.methodLink "QuotaRegister" (161 : Nat) ({ cls := "QuotaRegister$Shares", name := "placedOn", desc := "(II)I" } : Jvm.MethodName)) ∈ lw_tbl := tb_2 (List.mem_of_getElem? (i := 156) rfl)
theorem ml_X3_161 : ax_lvr RX3 161 M_X2_placedOn 2 2 := ⟨mw_2_156, mw_2_45, mw_2_46, mw_1_2, mw_2_47, rfl, ⟨by decide +kernel, by decide +kernel⟩, by decide +kernel, by decide, (RX2, TX2, 5), rfl, rfl⟩
theorem mw_2_158 : (Cond.methodLink "QuotaRegister" (166 : Nat) ({ cls := "QuotaRegister$Shares", name := "addPlaced", desc := "(III)I" } : Jvm.MethodName)) ∈ lw_tbl := tb_2 (List.mem_of_getElem? (i := 158) rfl)
theorem mw_2_159 : (Cond.instanceMethod ({ cls := "QuotaRegister$Shares", name := "addPlaced", desc := "(III)I" } : Jvm.MethodName)) ∈ lw_tbl := tb_2 (List.mem_of_getElem? (i := 159) rfl)
theorem mw_2_160 : (Cond.selects "QuotaRegister$Shares" ({ cls := "QuotaRegister$Shares", name := "addPlaced", desc := "(III)I" } : Jvm.MethodName) ({ cls := "QuotaRegister$Shares", name := "addPlaced", desc := "(III)I" } : Jvm.MethodName)) ∈ lw_tbl := tb_2 (List.mem_of_getElem? (i := 160) rfl)
theorem ml_X3_166 : ax_lvr RX3 166 M_X2_addPlaced 3 2 := ⟨mw_2_158, mw_2_159, mw_2_160, mw_1_2, mw_2_161, rfl, ⟨by decide +kernel, by decide +kernel⟩, by decide +kernel, by decide, (RX2, TX2, 5), rfl, rfl⟩
theorem mw_2_162 : (Cond.methodLink "QuotaRegisterLaw" (123 : Nat) ({ cls := "QuotaRegisterLaw", name := "open", desc := "(LQuotaRegister;IIII[J)I" } : Jvm.MethodName)) ∈ lw_tbl := tb_2 (List.mem_of_getElem? (i := 162) rfl)
theorem mw_2_163 : (Cond.static ({ cls := "QuotaRegisterLaw", name := "open", desc := "(LQuotaRegister;IIII[J)I" } : Jvm.MethodName)) ∈ lw_tbl := tb_2 (List.mem_of_getElem? (i := 163) rfl)
theorem ml_L_123 : ax_lks RL 123 M_L_open 6 := ⟨mw_2_162, mw_2_163, mw_1_0, mw_2_164, ⟨by decide +kernel, by decide +kernel⟩, by decide +kernel, by decide⟩
theorem mw_2_165 : (Cond.methodLink "QuotaRegisterLaw" (41 : Nat) ({ cls := "QuotaRegister", name := "open", desc := "(IIII)I" } : Jvm.MethodName)) ∈ lw_tbl := tb_2 (List.mem_of_getElem? (i := 165) rfl)
theorem mw_2_166 : (Cond.instanceMethod ({ cls := "QuotaRegister", name := "open", desc := "(IIII)I" } : Jvm.MethodName)) ∈ lw_tbl := tb_2 (List.mem_of_getElem? (i := 166) rfl)
theorem mw_2_167 : (Cond.selects "QuotaRegister" ({ cls := "QuotaRegister", name := "open", desc := "(IIII)I" } : Jvm.MethodName) ({ cls := "QuotaRegister", name := "open", desc := "(IIII)I" } : Jvm.MethodName)) ∈ lw_tbl := tb_2 (List.mem_of_getElem? (i := 167) rfl)
theorem ml_L_41 : ax_lvr RL 41 M_X3_open 4 3 := ⟨mw_2_165, mw_2_166, mw_2_167, mw_1_1, mw_2_168, rfl, ⟨by decide +kernel, by decide +kernel⟩, by decide +kernel, by decide, (RX3, TX3, 8), rfl, rfl⟩
theorem mw_2_169 : (Cond.methodLink "QuotaRegister" (169 : Nat) ({ cls := "QuotaRegister", name := "isLimit", desc := "(I)Z" } : Jvm.MethodName)) ∈ lw_tbl := tb_2 (List.mem_of_getElem? (i := 169) rfl)
theorem mw_2_170 : (Cond.static ({ cls := "QuotaRegister", name := "isLimit", desc := "(I)Z" } : Jvm.MethodName)) ∈ lw_tbl := tb_2 (List.mem_of_getElem? (i := 170) rfl)
theorem ml_X3_169 : ax_lks RX3 169 M_X3_isLimit 1 := ⟨mw_2_169, mw_2_170, mw_1_1, mw_2_171, ⟨by decide +kernel, by decide +kernel⟩, by decide +kernel, by decide⟩
theorem mw_2_174 : (Cond.methodLink "QuotaRegister" (176 : Nat) ({ cls := "QuotaRegister$Accounts", name := "allot", desc := "(IIILQuotaRegister$Shares;)V" } : Jvm.MethodName)) ∈ lw_tbl := tb_2 (List.mem_of_getElem? (i := 174) rfl)
theorem mw_2_175 : (Cond.instanceMethod ({ cls := "QuotaRegister$Accounts", name := "allot", desc := "(IIILQuotaRegister$Shares;)V" } : Jvm.MethodName)) ∈ lw_tbl := tb_2 (List.mem_of_getElem? (i := 175) rfl)
theorem mw_2_176 : (Cond.selects "QuotaRegister$Accounts" ({ cls := "QuotaRegister$Accounts", name := "allot", desc := "(IIILQuotaRegister$Shares;)V" } : Jvm.MethodName) ({ cls := "QuotaRegister$Accounts", name := "allot", desc := "(IIILQuotaRegister$Shares;)V" } : Jvm.MethodName)) ∈ lw_tbl := tb_2 (List.mem_of_getElem? (i := 176) rfl)
theorem ml_X3_176 : ax_lvr RX3 176 M_X0_allot 4 0 := ⟨mw_2_174, mw_2_175, mw_2_176, mw_1_4, mw_2_177, rfl, ⟨by decide +kernel, by decide +kernel⟩, by decide +kernel, by decide, (RX0, TX0, 10), rfl, rfl⟩
theorem mw_2_178 : (Cond.methodLink "QuotaRegister$Accounts" (42 : Nat) ({ cls := "QuotaRegister$Shares", name := "placedOn", desc := "(II)I" } : Jvm.MethodName)) ∈ lw_tbl := tb_2 (List.mem_of_getElem? (i := 178) rfl)
theorem ml_X0_42 : ax_lvr RX0 42 M_X2_placedOn 2 2 := ⟨mw_2_178, mw_2_45, mw_2_46, mw_1_2, mw_2_47, rfl, ⟨by decide +kernel, by decide +kernel⟩, by decide +kernel, by decide, (RX2, TX2, 5), rfl, rfl⟩
theorem mw_2_180 : (Cond.methodLink "QuotaRegister$Accounts" (50 : Nat) ({ cls := "QuotaRegister$Accounts", name := "row", desc := "(III)I" } : Jvm.MethodName)) ∈ lw_tbl := tb_2 (List.mem_of_getElem? (i := 180) rfl)
theorem mw_2_181 : (Cond.static ({ cls := "QuotaRegister$Accounts", name := "row", desc := "(III)I" } : Jvm.MethodName)) ∈ lw_tbl := tb_2 (List.mem_of_getElem? (i := 181) rfl)
theorem ml_X0_50 : ax_lks RX0 50 M_X0_row 3 := ⟨mw_2_180, mw_2_181, mw_1_4, mw_2_182, ⟨by decide +kernel, by decide +kernel⟩, by decide +kernel, by decide⟩
theorem mw_2_183 : (Cond.methodLink "QuotaRegister$Accounts" (54 : Nat) ({ cls := "QuotaRegister$Accounts", name := "greatestRemainder", desc := "()I" } : Jvm.MethodName)) ∈ lw_tbl := tb_2 (List.mem_of_getElem? (i := 183) rfl)
theorem mw_2_185 : (Cond.instanceMethod ({ cls := "QuotaRegister$Accounts", name := "greatestRemainder", desc := "()I" } : Jvm.MethodName)) ∈ lw_tbl := tb_2 (List.mem_of_getElem? (i := 185) rfl)
theorem sp_X0_greatestRemainder : Cond.selects "QuotaRegister$Accounts" ⟨"QuotaRegister$Accounts", "greatestRemainder", "()I"⟩ ⟨"QuotaRegister$Accounts", "greatestRemainder", "()I"⟩ ∈ lw_tbl := List.mem_append_left _ (List.mem_of_getElem? (i := 1) rfl)
theorem ml_X0_54 : ax_lvr RX0 54 M_X0_greatestRemainder 0 0 := ⟨mw_2_183, mw_2_185, sp_X0_greatestRemainder, mw_1_4, mw_2_186, rfl, ⟨by decide +kernel, by decide +kernel⟩, by decide +kernel, by decide, (RX0, TX0, 10), rfl, rfl⟩
theorem mw_2_187 : (Cond.methodLink "QuotaRegister" (180 : Nat) ({ cls := "QuotaRegister$Accounts", name := "begin", desc := "(I)V" } : Jvm.MethodName)) ∈ lw_tbl := tb_2 (List.mem_of_getElem? (i := 187) rfl)
theorem mw_2_188 : (Cond.instanceMethod ({ cls := "QuotaRegister$Accounts", name := "begin", desc := "(I)V" } : Jvm.MethodName)) ∈ lw_tbl := tb_2 (List.mem_of_getElem? (i := 188) rfl)
theorem mw_2_189 : (Cond.selects "QuotaRegister$Accounts" ({ cls := "QuotaRegister$Accounts", name := "begin", desc := "(I)V" } : Jvm.MethodName) ({ cls := "QuotaRegister$Accounts", name := "begin", desc := "(I)V" } : Jvm.MethodName)) ∈ lw_tbl := tb_2 (List.mem_of_getElem? (i := 189) rfl)
theorem ml_X3_180 : ax_lvr RX3 180 M_X0_begin 1 0 := ⟨mw_2_187, mw_2_188, mw_2_189, mw_1_4, mw_2_190, rfl, ⟨by decide +kernel, by decide +kernel⟩, by decide +kernel, by decide, (RX0, TX0, 10), rfl, rfl⟩
theorem mw_2_191 : (Cond.methodLink "QuotaRegisterLaw" (127 : Nat) ({ cls := "QuotaRegisterLaw", name := "end", desc := "(LQuotaRegister;[J)I" } : Jvm.MethodName)) ∈ lw_tbl := tb_2 (List.mem_of_getElem? (i := 191) rfl)
theorem mw_2_192 : (Cond.static ({ cls := "QuotaRegisterLaw", name := "end", desc := "(LQuotaRegister;[J)I" } : Jvm.MethodName)) ∈ lw_tbl := tb_2 (List.mem_of_getElem? (i := 192) rfl)
theorem ml_L_127 : ax_lks RL 127 M_L_end 2 := ⟨mw_2_191, mw_2_192, mw_1_0, mw_2_193, ⟨by decide +kernel, by decide +kernel⟩, by decide +kernel, by decide⟩
theorem mw_2_194 : (Cond.methodLink "QuotaRegisterLaw" (45 : Nat) ({ cls := "QuotaRegister", name := "end", desc := "()I" } : Jvm.MethodName)) ∈ lw_tbl := tb_2 (List.mem_of_getElem? (i := 194) rfl)
theorem mw_2_195 : (Cond.instanceMethod ({ cls := "QuotaRegister", name := "end", desc := "()I" } : Jvm.MethodName)) ∈ lw_tbl := tb_2 (List.mem_of_getElem? (i := 195) rfl)
theorem mw_2_196 : (Cond.selects "QuotaRegister" ({ cls := "QuotaRegister", name := "end", desc := "()I" } : Jvm.MethodName) ({ cls := "QuotaRegister", name := "end", desc := "()I" } : Jvm.MethodName)) ∈ lw_tbl := tb_2 (List.mem_of_getElem? (i := 196) rfl)
theorem ml_L_45 : ax_lvr RL 45 M_X3_end 0 3 := ⟨mw_2_194, mw_2_195, mw_2_196, mw_1_1, mw_2_197, rfl, ⟨by decide +kernel, by decide +kernel⟩, by decide +kernel, by decide, (RX3, TX3, 8), rfl, rfl⟩
theorem mw_2_199 : (Cond.methodLink "QuotaRegister" (186 : Nat) ({ cls := "QuotaRegister$Accounts", name := "settle", desc := "(I)V" } : Jvm.MethodName)) ∈ lw_tbl := tb_2 (List.mem_of_getElem? (i := 199) rfl)
theorem mw_2_200 : (Cond.instanceMethod ({ cls := "QuotaRegister$Accounts", name := "settle", desc := "(I)V" } : Jvm.MethodName)) ∈ lw_tbl := tb_2 (List.mem_of_getElem? (i := 200) rfl)
theorem mw_2_201 : (Cond.selects "QuotaRegister$Accounts" ({ cls := "QuotaRegister$Accounts", name := "settle", desc := "(I)V" } : Jvm.MethodName) ({ cls := "QuotaRegister$Accounts", name := "settle", desc := "(I)V" } : Jvm.MethodName)) ∈ lw_tbl := tb_2 (List.mem_of_getElem? (i := 201) rfl)
theorem ml_X3_186 : ax_lvr RX3 186 M_X0_settle 1 0 := ⟨mw_2_199, mw_2_200, mw_2_201, mw_1_4, mw_2_202, rfl, ⟨by decide +kernel, by decide +kernel⟩, by decide +kernel, by decide, (RX0, TX0, 10), rfl, rfl⟩
theorem mw_2_203 : (Cond.methodLink "QuotaRegister$Accounts" (58 : Nat) ({ cls := "QuotaRegister$Accounts", name := "leftOn", desc := "(I)I" } : Jvm.MethodName)) ∈ lw_tbl := tb_2 (List.mem_of_getElem? (i := 203) rfl)
theorem mw_2_205 : (Cond.instanceMethod ({ cls := "QuotaRegister$Accounts", name := "leftOn", desc := "(I)I" } : Jvm.MethodName)) ∈ lw_tbl := tb_2 (List.mem_of_getElem? (i := 205) rfl)
theorem sp_X0_leftOn : Cond.selects "QuotaRegister$Accounts" ⟨"QuotaRegister$Accounts", "leftOn", "(I)I"⟩ ⟨"QuotaRegister$Accounts", "leftOn", "(I)I"⟩ ∈ lw_tbl := List.mem_append_left _ (List.mem_of_getElem? (i := 2) rfl)
theorem ml_X0_58 : ax_lvr RX0 58 M_X0_leftOn 1 0 := ⟨mw_2_203, mw_2_205, sp_X0_leftOn, mw_1_4, mw_2_206, rfl, ⟨by decide +kernel, by decide +kernel⟩, by decide +kernel, by decide, (RX0, TX0, 10), rfl, rfl⟩
theorem mw_2_207 : (Cond.methodLink "QuotaRegister$Accounts" (62 : Nat) ({ cls := "java/lang/Math", name := "max", desc := "(II)I" } : Jvm.MethodName)) ∈ lw_tbl := tb_2 (List.mem_of_getElem? (i := 207) rfl)
theorem mw_1_12 : (Cond.initialized "java/lang/Math") ∈ lw_tbl := tb_1 (List.mem_of_getElem? (i := 12) rfl)
theorem mw_2_208 : (Cond.static ({ cls := "java/lang/Math", name := "max", desc := "(II)I" } : Jvm.MethodName)) ∈ lw_tbl := tb_2 (List.mem_of_getElem? (i := 208) rfl)
theorem ml_X0_62 : ax_lks RX0 62 M_J9_max_7cf53 2 := ⟨mw_2_207, mw_2_208, mw_1_12, mw_2_209, ⟨by decide +kernel, by decide +kernel⟩, by decide +kernel, by decide⟩
theorem mw_2_210 : (Cond.methodLink "QuotaRegister$Accounts" (67 : Nat) ({ cls := "java/lang/Math", name := "min", desc := "(II)I" } : Jvm.MethodName)) ∈ lw_tbl := tb_2 (List.mem_of_getElem? (i := 210) rfl)
theorem mw_2_211 : (Cond.static ({ cls := "java/lang/Math", name := "min", desc := "(II)I" } : Jvm.MethodName)) ∈ lw_tbl := tb_2 (List.mem_of_getElem? (i := 211) rfl)
theorem ml_X0_67 : ax_lks RX0 67 M_J9_min_7cf53 2 := ⟨mw_2_210, mw_2_211, mw_1_12, mw_2_212, ⟨by decide +kernel, by decide +kernel⟩, by decide +kernel, by decide⟩
theorem mw_2_213 : (Cond.methodLink "QuotaRegister" (189 : Nat) ({ cls := "QuotaRegister$Accounts", name := "countLevied", desc := "(I)I" } : Jvm.MethodName)) ∈ lw_tbl := tb_2 (List.mem_of_getElem? (i := 213) rfl)
theorem mw_2_214 : (Cond.instanceMethod ({ cls := "QuotaRegister$Accounts", name := "countLevied", desc := "(I)I" } : Jvm.MethodName)) ∈ lw_tbl := tb_2 (List.mem_of_getElem? (i := 214) rfl)
theorem mw_2_215 : (Cond.selects "QuotaRegister$Accounts" ({ cls := "QuotaRegister$Accounts", name := "countLevied", desc := "(I)I" } : Jvm.MethodName) ({ cls := "QuotaRegister$Accounts", name := "countLevied", desc := "(I)I" } : Jvm.MethodName)) ∈ lw_tbl := tb_2 (List.mem_of_getElem? (i := 215) rfl)
theorem ml_X3_189 : ax_lvr RX3 189 M_X0_countLevied 1 0 := ⟨mw_2_213, mw_2_214, mw_2_215, mw_1_4, mw_2_216, rfl, ⟨by decide +kernel, by decide +kernel⟩, by decide +kernel, by decide, (RX0, TX0, 10), rfl, rfl⟩
theorem mw_2_217 : (Cond.methodLink "QuotaRegisterLaw" (131 : Nat) ({ cls := "QuotaRegisterLaw", name := "lease", desc := "(LQuotaRegister;IIII[J)I" } : Jvm.MethodName)) ∈ lw_tbl := tb_2 (List.mem_of_getElem? (i := 217) rfl)
theorem mw_2_218 : (Cond.static ({ cls := "QuotaRegisterLaw", name := "lease", desc := "(LQuotaRegister;IIII[J)I" } : Jvm.MethodName)) ∈ lw_tbl := tb_2 (List.mem_of_getElem? (i := 218) rfl)
theorem ml_L_131 : ax_lks RL 131 M_L_lease 6 := ⟨mw_2_217, mw_2_218, mw_1_0, mw_2_219, ⟨by decide +kernel, by decide +kernel⟩, by decide +kernel, by decide⟩
theorem mw_2_220 : (Cond.methodLink "QuotaRegisterLaw" (49 : Nat) ({ cls := "QuotaRegister", name := "lease", desc := "(IIII)I" } : Jvm.MethodName)) ∈ lw_tbl := tb_2 (List.mem_of_getElem? (i := 220) rfl)
theorem mw_2_221 : (Cond.instanceMethod ({ cls := "QuotaRegister", name := "lease", desc := "(IIII)I" } : Jvm.MethodName)) ∈ lw_tbl := tb_2 (List.mem_of_getElem? (i := 221) rfl)
theorem mw_2_222 : (Cond.selects "QuotaRegister" ({ cls := "QuotaRegister", name := "lease", desc := "(IIII)I" } : Jvm.MethodName) ({ cls := "QuotaRegister", name := "lease", desc := "(IIII)I" } : Jvm.MethodName)) ∈ lw_tbl := tb_2 (List.mem_of_getElem? (i := 222) rfl)
theorem ml_L_49 : ax_lvr RL 49 M_X3_lease 4 3 := ⟨mw_2_220, mw_2_221, mw_2_222, mw_1_1, mw_2_223, rfl, ⟨by decide +kernel, by decide +kernel⟩, by decide +kernel, by decide, (RX3, TX3, 8), rfl, rfl⟩
theorem mw_2_224 : (Cond.methodLink "QuotaRegister" (192 : Nat) ({ cls := "QuotaRegister", name := "areTwoVessels", desc := "(II)Z" } : Jvm.MethodName)) ∈ lw_tbl := tb_2 (List.mem_of_getElem? (i := 224) rfl)
theorem mw_2_225 : (Cond.static ({ cls := "QuotaRegister", name := "areTwoVessels", desc := "(II)Z" } : Jvm.MethodName)) ∈ lw_tbl := tb_2 (List.mem_of_getElem? (i := 225) rfl)
theorem ml_X3_192 : ax_lks RX3 192 M_X3_areTwoVessels 2 := ⟨mw_2_224, mw_2_225, mw_1_1, mw_2_226, ⟨by decide +kernel, by decide +kernel⟩, by decide +kernel, by decide⟩
theorem mw_2_228 : (Cond.methodLink "QuotaRegister" (197 : Nat) ({ cls := "QuotaRegister$Events", name := "areFull", desc := "()Z" } : Jvm.MethodName)) ∈ lw_tbl := tb_2 (List.mem_of_getElem? (i := 228) rfl)
theorem mw_2_229 : (Cond.instanceMethod ({ cls := "QuotaRegister$Events", name := "areFull", desc := "()Z" } : Jvm.MethodName)) ∈ lw_tbl := tb_2 (List.mem_of_getElem? (i := 229) rfl)
theorem mw_2_230 : (Cond.selects "QuotaRegister$Events" ({ cls := "QuotaRegister$Events", name := "areFull", desc := "()Z" } : Jvm.MethodName) ({ cls := "QuotaRegister$Events", name := "areFull", desc := "()Z" } : Jvm.MethodName)) ∈ lw_tbl := tb_2 (List.mem_of_getElem? (i := 230) rfl)
theorem ml_X3_197 : ax_lvr RX3 197 M_X1_areFull 0 1 := ⟨mw_2_228, mw_2_229, mw_2_230, mw_1_5, mw_2_231, rfl, ⟨by decide +kernel, by decide +kernel⟩, by decide +kernel, by decide, (RX1, TX1, 10), rfl, rfl⟩
theorem mw_2_233 : (Cond.methodLink "QuotaRegister" (203 : Nat) ({ cls := "QuotaRegister$Accounts", name := "hasLeft", desc := "(IIII)Z" } : Jvm.MethodName)) ∈ lw_tbl := tb_2 (List.mem_of_getElem? (i := 233) rfl)
theorem mw_2_234 : (Cond.instanceMethod ({ cls := "QuotaRegister$Accounts", name := "hasLeft", desc := "(IIII)Z" } : Jvm.MethodName)) ∈ lw_tbl := tb_2 (List.mem_of_getElem? (i := 234) rfl)
theorem mw_2_235 : (Cond.selects "QuotaRegister$Accounts" ({ cls := "QuotaRegister$Accounts", name := "hasLeft", desc := "(IIII)Z" } : Jvm.MethodName) ({ cls := "QuotaRegister$Accounts", name := "hasLeft", desc := "(IIII)Z" } : Jvm.MethodName)) ∈ lw_tbl := tb_2 (List.mem_of_getElem? (i := 235) rfl)
theorem ml_X3_203 : ax_lvr RX3 203 M_X0_hasLeft 4 0 := ⟨mw_2_233, mw_2_234, mw_2_235, mw_1_4, mw_2_236, rfl, ⟨by decide +kernel, by decide +kernel⟩, by decide +kernel, by decide, (RX0, TX0, 10), rfl, rfl⟩
theorem mw_2_238 : (Cond.methodLink "QuotaRegister" (209 : Nat) ({ cls := "QuotaRegister$Events", name := "add", desc := "(IIIIIII)I" } : Jvm.MethodName)) ∈ lw_tbl := tb_2 (List.mem_of_getElem? (i := 238) rfl)
theorem mw_2_239 : (Cond.instanceMethod ({ cls := "QuotaRegister$Events", name := "add", desc := "(IIIIIII)I" } : Jvm.MethodName)) ∈ lw_tbl := tb_2 (List.mem_of_getElem? (i := 239) rfl)
theorem mw_3_0 : (Cond.selects "QuotaRegister$Events" ({ cls := "QuotaRegister$Events", name := "add", desc := "(IIIIIII)I" } : Jvm.MethodName) ({ cls := "QuotaRegister$Events", name := "add", desc := "(IIIIIII)I" } : Jvm.MethodName)) ∈ lw_tbl := tb_3 (List.mem_of_getElem? (i := 0) rfl)
theorem ml_X3_209 : ax_lvr RX3 209 M_X1_add 7 1 := ⟨mw_2_238, mw_2_239, mw_3_0, mw_1_5, mw_3_1, rfl, ⟨by decide +kernel, by decide +kernel⟩, by decide +kernel, by decide, (RX1, TX1, 10), rfl, rfl⟩
theorem mw_3_2 : (Cond.methodLink "QuotaRegister" (213 : Nat) ({ cls := "QuotaRegister$Events", name := "work", desc := "(ILQuotaRegister$Accounts;)V" } : Jvm.MethodName)) ∈ lw_tbl := tb_3 (List.mem_of_getElem? (i := 2) rfl)
theorem mw_3_3 : (Cond.instanceMethod ({ cls := "QuotaRegister$Events", name := "work", desc := "(ILQuotaRegister$Accounts;)V" } : Jvm.MethodName)) ∈ lw_tbl := tb_3 (List.mem_of_getElem? (i := 3) rfl)
theorem mw_3_4 : (Cond.selects "QuotaRegister$Events" ({ cls := "QuotaRegister$Events", name := "work", desc := "(ILQuotaRegister$Accounts;)V" } : Jvm.MethodName) ({ cls := "QuotaRegister$Events", name := "work", desc := "(ILQuotaRegister$Accounts;)V" } : Jvm.MethodName)) ∈ lw_tbl := tb_3 (List.mem_of_getElem? (i := 4) rfl)
theorem ml_X3_213 : ax_lvr RX3 213 M_X1_work 2 1 := ⟨mw_3_2, mw_3_3, mw_3_4, mw_1_5, mw_3_5, rfl, ⟨by decide +kernel, by decide +kernel⟩, by decide +kernel, by decide, (RX1, TX1, 10), rfl, rfl⟩
theorem mw_3_6 : (Cond.methodLink "QuotaRegister$Events" (52 : Nat) ({ cls := "QuotaRegister$Events", name := "workLease", desc := "(ILQuotaRegister$Accounts;)Z" } : Jvm.MethodName)) ∈ lw_tbl := tb_3 (List.mem_of_getElem? (i := 6) rfl)
theorem mw_3_8 : (Cond.instanceMethod ({ cls := "QuotaRegister$Events", name := "workLease", desc := "(ILQuotaRegister$Accounts;)Z" } : Jvm.MethodName)) ∈ lw_tbl := tb_3 (List.mem_of_getElem? (i := 8) rfl)
theorem sp_X1_workLease : Cond.selects "QuotaRegister$Events" ⟨"QuotaRegister$Events", "workLease", "(ILQuotaRegister$Accounts;)Z"⟩ ⟨"QuotaRegister$Events", "workLease", "(ILQuotaRegister$Accounts;)Z"⟩ ∈ lw_tbl := List.mem_append_left _ (List.mem_of_getElem? (i := 3) rfl)
theorem ml_X1_52 : ax_lvr RX1 52 M_X1_workLease 2 1 := ⟨mw_3_6, mw_3_8, sp_X1_workLease, mw_1_5, mw_3_9, rfl, ⟨by decide +kernel, by decide +kernel⟩, by decide +kernel, by decide, (RX1, TX1, 10), rfl, rfl⟩
theorem mw_3_10 : (Cond.methodLink "QuotaRegister$Events" (62 : Nat) ({ cls := "QuotaRegister$Accounts", name := "hasLeft", desc := "(IIII)Z" } : Jvm.MethodName)) ∈ lw_tbl := tb_3 (List.mem_of_getElem? (i := 10) rfl)
theorem ml_X1_62 : ax_lvr RX1 62 M_X0_hasLeft 4 0 := ⟨mw_3_10, mw_2_234, mw_2_235, mw_1_4, mw_2_236, rfl, ⟨by decide +kernel, by decide +kernel⟩, by decide +kernel, by decide, (RX0, TX0, 10), rfl, rfl⟩
theorem mw_3_11 : (Cond.methodLink "QuotaRegister$Events" (68 : Nat) ({ cls := "QuotaRegister$Accounts", name := "moveLeased", desc := "(IIIII)V" } : Jvm.MethodName)) ∈ lw_tbl := tb_3 (List.mem_of_getElem? (i := 11) rfl)
theorem mw_3_12 : (Cond.instanceMethod ({ cls := "QuotaRegister$Accounts", name := "moveLeased", desc := "(IIIII)V" } : Jvm.MethodName)) ∈ lw_tbl := tb_3 (List.mem_of_getElem? (i := 12) rfl)
theorem mw_3_13 : (Cond.selects "QuotaRegister$Accounts" ({ cls := "QuotaRegister$Accounts", name := "moveLeased", desc := "(IIIII)V" } : Jvm.MethodName) ({ cls := "QuotaRegister$Accounts", name := "moveLeased", desc := "(IIIII)V" } : Jvm.MethodName)) ∈ lw_tbl := tb_3 (List.mem_of_getElem? (i := 13) rfl)
theorem ml_X1_68 : ax_lvr RX1 68 M_X0_moveLeased 5 0 := ⟨mw_3_11, mw_3_12, mw_3_13, mw_1_4, mw_3_14, rfl, ⟨by decide +kernel, by decide +kernel⟩, by decide +kernel, by decide, (RX0, TX0, 10), rfl, rfl⟩
theorem mw_3_15 : (Cond.methodLink "QuotaRegister$Events" (56 : Nat) ({ cls := "QuotaRegister$Events", name := "workLanding", desc := "(ILQuotaRegister$Accounts;)Z" } : Jvm.MethodName)) ∈ lw_tbl := tb_3 (List.mem_of_getElem? (i := 15) rfl)
theorem mw_3_17 : (Cond.instanceMethod ({ cls := "QuotaRegister$Events", name := "workLanding", desc := "(ILQuotaRegister$Accounts;)Z" } : Jvm.MethodName)) ∈ lw_tbl := tb_3 (List.mem_of_getElem? (i := 17) rfl)
theorem sp_X1_workLanding : Cond.selects "QuotaRegister$Events" ⟨"QuotaRegister$Events", "workLanding", "(ILQuotaRegister$Accounts;)Z"⟩ ⟨"QuotaRegister$Events", "workLanding", "(ILQuotaRegister$Accounts;)Z"⟩ ∈ lw_tbl := List.mem_append_left _ (List.mem_of_getElem? (i := 4) rfl)
theorem ml_X1_56 : ax_lvr RX1 56 M_X1_workLanding 2 1 := ⟨mw_3_15, mw_3_17, sp_X1_workLanding, mw_1_5, mw_3_18, rfl, ⟨by decide +kernel, by decide +kernel⟩, by decide +kernel, by decide, (RX1, TX1, 10), rfl, rfl⟩
theorem mw_3_19 : (Cond.methodLink "QuotaRegister$Events" (72 : Nat) ({ cls := "QuotaRegister$Accounts", name := "charge", desc := "(IIII)V" } : Jvm.MethodName)) ∈ lw_tbl := tb_3 (List.mem_of_getElem? (i := 19) rfl)
theorem mw_3_20 : (Cond.instanceMethod ({ cls := "QuotaRegister$Accounts", name := "charge", desc := "(IIII)V" } : Jvm.MethodName)) ∈ lw_tbl := tb_3 (List.mem_of_getElem? (i := 20) rfl)
theorem mw_3_21 : (Cond.selects "QuotaRegister$Accounts" ({ cls := "QuotaRegister$Accounts", name := "charge", desc := "(IIII)V" } : Jvm.MethodName) ({ cls := "QuotaRegister$Accounts", name := "charge", desc := "(IIII)V" } : Jvm.MethodName)) ∈ lw_tbl := tb_3 (List.mem_of_getElem? (i := 21) rfl)
theorem ml_X1_72 : ax_lvr RX1 72 M_X0_charge 4 0 := ⟨mw_3_19, mw_3_20, mw_3_21, mw_1_4, mw_3_22, rfl, ⟨by decide +kernel, by decide +kernel⟩, by decide +kernel, by decide, (RX0, TX0, 10), rfl, rfl⟩
theorem mw_3_23 : (Cond.methodLink "QuotaRegister$Events" (59 : Nat) ({ cls := "QuotaRegister$Events", name := "workEquivalent", desc := "(ILQuotaRegister$Accounts;)Z" } : Jvm.MethodName)) ∈ lw_tbl := tb_3 (List.mem_of_getElem? (i := 23) rfl)
theorem mw_3_25 : (Cond.instanceMethod ({ cls := "QuotaRegister$Events", name := "workEquivalent", desc := "(ILQuotaRegister$Accounts;)Z" } : Jvm.MethodName)) ∈ lw_tbl := tb_3 (List.mem_of_getElem? (i := 25) rfl)
theorem sp_X1_workEquivalent : Cond.selects "QuotaRegister$Events" ⟨"QuotaRegister$Events", "workEquivalent", "(ILQuotaRegister$Accounts;)Z"⟩ ⟨"QuotaRegister$Events", "workEquivalent", "(ILQuotaRegister$Accounts;)Z"⟩ ∈ lw_tbl := List.mem_append_left _ (List.mem_of_getElem? (i := 5) rfl)
theorem ml_X1_59 : ax_lvr RX1 59 M_X1_workEquivalent 2 1 := ⟨mw_3_23, mw_3_25, sp_X1_workEquivalent, mw_1_5, mw_3_26, rfl, ⟨by decide +kernel, by decide +kernel⟩, by decide +kernel, by decide, (RX1, TX1, 10), rfl, rfl⟩
theorem mw_3_27 : (Cond.methodLink "QuotaRegister$Events" (76 : Nat) ({ cls := "QuotaRegister$Accounts", name := "canExchange", desc := "(IIIIII)Z" } : Jvm.MethodName)) ∈ lw_tbl := tb_3 (List.mem_of_getElem? (i := 27) rfl)
theorem mw_3_28 : (Cond.instanceMethod ({ cls := "QuotaRegister$Accounts", name := "canExchange", desc := "(IIIIII)Z" } : Jvm.MethodName)) ∈ lw_tbl := tb_3 (List.mem_of_getElem? (i := 28) rfl)
theorem mw_3_29 : (Cond.selects "QuotaRegister$Accounts" ({ cls := "QuotaRegister$Accounts", name := "canExchange", desc := "(IIIIII)Z" } : Jvm.MethodName) ({ cls := "QuotaRegister$Accounts", name := "canExchange", desc := "(IIIIII)Z" } : Jvm.MethodName)) ∈ lw_tbl := tb_3 (List.mem_of_getElem? (i := 29) rfl)
theorem ml_X1_76 : ax_lvr RX1 76 M_X0_canExchange 6 0 := ⟨mw_3_27, mw_3_28, mw_3_29, mw_1_4, mw_3_30, rfl, ⟨by decide +kernel, by decide +kernel⟩, by decide +kernel, by decide, (RX0, TX0, 10), rfl, rfl⟩
theorem mw_3_31 : (Cond.methodLink "QuotaRegister$Accounts" (70 : Nat) ({ cls := "QuotaRegister$Accounts", name := "hasLeft", desc := "(IIII)Z" } : Jvm.MethodName)) ∈ lw_tbl := tb_3 (List.mem_of_getElem? (i := 31) rfl)
theorem ml_X0_70 : ax_lvr RX0 70 M_X0_hasLeft 4 0 := ⟨mw_3_31, mw_2_234, mw_2_235, mw_1_4, mw_2_236, rfl, ⟨by decide +kernel, by decide +kernel⟩, by decide +kernel, by decide, (RX0, TX0, 10), rfl, rfl⟩
theorem mw_3_32 : (Cond.methodLink "QuotaRegister$Events" (80 : Nat) ({ cls := "QuotaRegister$Accounts", name := "exchange", desc := "(IIIIII)V" } : Jvm.MethodName)) ∈ lw_tbl := tb_3 (List.mem_of_getElem? (i := 32) rfl)
theorem mw_3_33 : (Cond.instanceMethod ({ cls := "QuotaRegister$Accounts", name := "exchange", desc := "(IIIIII)V" } : Jvm.MethodName)) ∈ lw_tbl := tb_3 (List.mem_of_getElem? (i := 33) rfl)
theorem mw_3_34 : (Cond.selects "QuotaRegister$Accounts" ({ cls := "QuotaRegister$Accounts", name := "exchange", desc := "(IIIIII)V" } : Jvm.MethodName) ({ cls := "QuotaRegister$Accounts", name := "exchange", desc := "(IIIIII)V" } : Jvm.MethodName)) ∈ lw_tbl := tb_3 (List.mem_of_getElem? (i := 34) rfl)
theorem ml_X1_80 : ax_lvr RX1 80 M_X0_exchange 6 0 := ⟨mw_3_32, mw_3_33, mw_3_34, mw_1_4, mw_3_35, rfl, ⟨by decide +kernel, by decide +kernel⟩, by decide +kernel, by decide, (RX0, TX0, 10), rfl, rfl⟩
theorem mw_3_36 : (Cond.methodLink "QuotaRegisterLaw" (134 : Nat) ({ cls := "QuotaRegisterLaw", name := "land", desc := "(LQuotaRegister;IIIIIZ[J)I" } : Jvm.MethodName)) ∈ lw_tbl := tb_3 (List.mem_of_getElem? (i := 36) rfl)
theorem mw_3_37 : (Cond.static ({ cls := "QuotaRegisterLaw", name := "land", desc := "(LQuotaRegister;IIIIIZ[J)I" } : Jvm.MethodName)) ∈ lw_tbl := tb_3 (List.mem_of_getElem? (i := 37) rfl)
theorem ml_L_134 : ax_lks RL 134 M_L_land 8 := ⟨mw_3_36, mw_3_37, mw_1_0, mw_3_38, ⟨by decide +kernel, by decide +kernel⟩, by decide +kernel, by decide⟩
theorem mw_3_39 : (Cond.methodLink "QuotaRegisterLaw" (52 : Nat) ({ cls := "QuotaRegister", name := "land", desc := "(IIIIIZ)I" } : Jvm.MethodName)) ∈ lw_tbl := tb_3 (List.mem_of_getElem? (i := 39) rfl)
theorem mw_3_40 : (Cond.instanceMethod ({ cls := "QuotaRegister", name := "land", desc := "(IIIIIZ)I" } : Jvm.MethodName)) ∈ lw_tbl := tb_3 (List.mem_of_getElem? (i := 40) rfl)
theorem mw_3_41 : (Cond.selects "QuotaRegister" ({ cls := "QuotaRegister", name := "land", desc := "(IIIIIZ)I" } : Jvm.MethodName) ({ cls := "QuotaRegister", name := "land", desc := "(IIIIIZ)I" } : Jvm.MethodName)) ∈ lw_tbl := tb_3 (List.mem_of_getElem? (i := 41) rfl)
theorem ml_L_52 : ax_lvr RL 52 M_X3_land 6 3 := ⟨mw_3_39, mw_3_40, mw_3_41, mw_1_1, mw_3_42, rfl, ⟨by decide +kernel, by decide +kernel⟩, by decide +kernel, by decide, (RX3, TX3, 8), rfl, rfl⟩
theorem mw_3_43 : (Cond.methodLink "QuotaRegister" (217 : Nat) ({ cls := "QuotaRegister", name := "wasOpened", desc := "(I)Z" } : Jvm.MethodName)) ∈ lw_tbl := tb_3 (List.mem_of_getElem? (i := 43) rfl)
theorem mw_3_45 : (Cond.instanceMethod ({ cls := "QuotaRegister", name := "wasOpened", desc := "(I)Z" } : Jvm.MethodName)) ∈ lw_tbl := tb_3 (List.mem_of_getElem? (i := 45) rfl)
theorem sp_X3_wasOpened : Cond.selects "QuotaRegister" ⟨"QuotaRegister", "wasOpened", "(I)Z"⟩ ⟨"QuotaRegister", "wasOpened", "(I)Z"⟩ ∈ lw_tbl := List.mem_append_left _ (List.mem_of_getElem? (i := 6) rfl)
theorem ml_X3_217 : ax_lvr RX3 217 M_X3_wasOpened 1 3 := ⟨mw_3_43, mw_3_45, sp_X3_wasOpened, mw_1_1, mw_3_46, rfl, ⟨by decide +kernel, by decide +kernel⟩, by decide +kernel, by decide, (RX3, TX3, 8), rfl, rfl⟩
theorem mw_3_49 : (Cond.methodLink "QuotaRegister" (224 : Nat) ({ cls := "QuotaRegister", name := "takesChanges", desc := "(I)Z" } : Jvm.MethodName)) ∈ lw_tbl := tb_3 (List.mem_of_getElem? (i := 49) rfl)
theorem mw_3_51 : (Cond.instanceMethod ({ cls := "QuotaRegister", name := "takesChanges", desc := "(I)Z" } : Jvm.MethodName)) ∈ lw_tbl := tb_3 (List.mem_of_getElem? (i := 51) rfl)
theorem sp_X3_takesChanges : Cond.selects "QuotaRegister" ⟨"QuotaRegister", "takesChanges", "(I)Z"⟩ ⟨"QuotaRegister", "takesChanges", "(I)Z"⟩ ∈ lw_tbl := List.mem_append_left _ (List.mem_of_getElem? (i := 7) rfl)
theorem ml_X3_224 : ax_lvr RX3 224 M_X3_takesChanges 1 3 := ⟨mw_3_49, mw_3_51, sp_X3_takesChanges, mw_1_1, mw_3_52, rfl, ⟨by decide +kernel, by decide +kernel⟩, by decide +kernel, by decide, (RX3, TX3, 8), rfl, rfl⟩
theorem mw_3_53 : (Cond.methodLink "QuotaRegister" (310 : Nat) ({ cls := "QuotaRegister", name := "isOpen", desc := "(I)Z" } : Jvm.MethodName)) ∈ lw_tbl := tb_3 (List.mem_of_getElem? (i := 53) rfl)
theorem mw_3_55 : (Cond.instanceMethod ({ cls := "QuotaRegister", name := "isOpen", desc := "(I)Z" } : Jvm.MethodName)) ∈ lw_tbl := tb_3 (List.mem_of_getElem? (i := 55) rfl)
theorem sp_X3_isOpen : Cond.selects "QuotaRegister" ⟨"QuotaRegister", "isOpen", "(I)Z"⟩ ⟨"QuotaRegister", "isOpen", "(I)Z"⟩ ∈ lw_tbl := List.mem_append_left _ (List.mem_of_getElem? (i := 8) rfl)
theorem ml_X3_310 : ax_lvr RX3 310 M_X3_isOpen 1 3 := ⟨mw_3_53, mw_3_55, sp_X3_isOpen, mw_1_1, mw_3_56, rfl, ⟨by decide +kernel, by decide +kernel⟩, by decide +kernel, by decide, (RX3, TX3, 8), rfl, rfl⟩
theorem mw_3_58 : (Cond.methodLink "QuotaRegister" (229 : Nat) ({ cls := "QuotaRegister", name := "liveWeight", desc := "(IIZ)I" } : Jvm.MethodName)) ∈ lw_tbl := tb_3 (List.mem_of_getElem? (i := 58) rfl)
theorem mw_3_59 : (Cond.static ({ cls := "QuotaRegister", name := "liveWeight", desc := "(IIZ)I" } : Jvm.MethodName)) ∈ lw_tbl := tb_3 (List.mem_of_getElem? (i := 59) rfl)
theorem ml_X3_229 : ax_lks RX3 229 M_X3_liveWeight 3 := ⟨mw_3_58, mw_3_59, mw_1_1, mw_3_60, ⟨by decide +kernel, by decide +kernel⟩, by decide +kernel, by decide⟩
theorem mw_3_63 : (Cond.methodLink "QuotaRegister" (233 : Nat) ({ cls := "QuotaRegister", name := "workAnew", desc := "(I)V" } : Jvm.MethodName)) ∈ lw_tbl := tb_3 (List.mem_of_getElem? (i := 63) rfl)
theorem mw_3_65 : (Cond.instanceMethod ({ cls := "QuotaRegister", name := "workAnew", desc := "(I)V" } : Jvm.MethodName)) ∈ lw_tbl := tb_3 (List.mem_of_getElem? (i := 65) rfl)
theorem sp_X3_workAnew : Cond.selects "QuotaRegister" ⟨"QuotaRegister", "workAnew", "(I)V"⟩ ⟨"QuotaRegister", "workAnew", "(I)V"⟩ ∈ lw_tbl := List.mem_append_left _ (List.mem_of_getElem? (i := 9) rfl)
theorem ml_X3_233 : ax_lvr RX3 233 M_X3_workAnew 1 3 := ⟨mw_3_63, mw_3_65, sp_X3_workAnew, mw_1_1, mw_3_66, rfl, ⟨by decide +kernel, by decide +kernel⟩, by decide +kernel, by decide, (RX3, TX3, 8), rfl, rfl⟩
theorem mw_3_67 : (Cond.methodLink "QuotaRegister" (317 : Nat) ({ cls := "QuotaRegister$Events", name := "workYear", desc := "(ILQuotaRegister$Accounts;)V" } : Jvm.MethodName)) ∈ lw_tbl := tb_3 (List.mem_of_getElem? (i := 67) rfl)
theorem mw_3_68 : (Cond.instanceMethod ({ cls := "QuotaRegister$Events", name := "workYear", desc := "(ILQuotaRegister$Accounts;)V" } : Jvm.MethodName)) ∈ lw_tbl := tb_3 (List.mem_of_getElem? (i := 68) rfl)
theorem mw_3_69 : (Cond.selects "QuotaRegister$Events" ({ cls := "QuotaRegister$Events", name := "workYear", desc := "(ILQuotaRegister$Accounts;)V" } : Jvm.MethodName) ({ cls := "QuotaRegister$Events", name := "workYear", desc := "(ILQuotaRegister$Accounts;)V" } : Jvm.MethodName)) ∈ lw_tbl := tb_3 (List.mem_of_getElem? (i := 69) rfl)
theorem ml_X3_317 : ax_lvr RX3 317 M_X1_workYear 2 1 := ⟨mw_3_67, mw_3_68, mw_3_69, mw_1_5, mw_3_70, rfl, ⟨by decide +kernel, by decide +kernel⟩, by decide +kernel, by decide, (RX1, TX1, 10), rfl, rfl⟩
theorem mw_3_71 : (Cond.methodLink "QuotaRegister$Events" (48 : Nat) ({ cls := "QuotaRegister$Events", name := "work", desc := "(ILQuotaRegister$Accounts;)V" } : Jvm.MethodName)) ∈ lw_tbl := tb_3 (List.mem_of_getElem? (i := 71) rfl)
theorem ml_X1_48 : ax_lvr RX1 48 M_X1_work 2 1 := ⟨mw_3_71, mw_3_3, mw_3_4, mw_1_5, mw_3_5, rfl, ⟨by decide +kernel, by decide +kernel⟩, by decide +kernel, by decide, (RX1, TX1, 10), rfl, rfl⟩
theorem mw_3_72 : (Cond.methodLink "QuotaRegisterLaw" (138 : Nat) ({ cls := "QuotaRegisterLaw", name := "equivalent", desc := "(LQuotaRegister;IIII[J)I" } : Jvm.MethodName)) ∈ lw_tbl := tb_3 (List.mem_of_getElem? (i := 72) rfl)
theorem mw_3_73 : (Cond.static ({ cls := "QuotaRegisterLaw", name := "equivalent", desc := "(LQuotaRegister;IIII[J)I" } : Jvm.MethodName)) ∈ lw_tbl := tb_3 (List.mem_of_getElem? (i := 73) rfl)
theorem ml_L_138 : ax_lks RL 138 M_L_equivalent 6 := ⟨mw_3_72, mw_3_73, mw_1_0, mw_3_74, ⟨by decide +kernel, by decide +kernel⟩, by decide +kernel, by decide⟩
theorem mw_3_75 : (Cond.methodLink "QuotaRegisterLaw" (56 : Nat) ({ cls := "QuotaRegister", name := "equivalent", desc := "(IIII)I" } : Jvm.MethodName)) ∈ lw_tbl := tb_3 (List.mem_of_getElem? (i := 75) rfl)
theorem mw_3_76 : (Cond.instanceMethod ({ cls := "QuotaRegister", name := "equivalent", desc := "(IIII)I" } : Jvm.MethodName)) ∈ lw_tbl := tb_3 (List.mem_of_getElem? (i := 76) rfl)
theorem mw_3_77 : (Cond.selects "QuotaRegister" ({ cls := "QuotaRegister", name := "equivalent", desc := "(IIII)I" } : Jvm.MethodName) ({ cls := "QuotaRegister", name := "equivalent", desc := "(IIII)I" } : Jvm.MethodName)) ∈ lw_tbl := tb_3 (List.mem_of_getElem? (i := 77) rfl)
theorem ml_L_56 : ax_lvr RL 56 M_X3_equivalent 4 3 := ⟨mw_3_75, mw_3_76, mw_3_77, mw_1_1, mw_3_78, rfl, ⟨by decide +kernel, by decide +kernel⟩, by decide +kernel, by decide, (RX3, TX3, 8), rfl, rfl⟩
theorem mw_3_79 : (Cond.methodLink "QuotaRegister" (236 : Nat) ({ cls := "QuotaRegister", name := "areTwoSpecies", desc := "(II)Z" } : Jvm.MethodName)) ∈ lw_tbl := tb_3 (List.mem_of_getElem? (i := 79) rfl)
theorem mw_3_80 : (Cond.static ({ cls := "QuotaRegister", name := "areTwoSpecies", desc := "(II)Z" } : Jvm.MethodName)) ∈ lw_tbl := tb_3 (List.mem_of_getElem? (i := 80) rfl)
theorem ml_X3_236 : ax_lks RX3 236 M_X3_areTwoSpecies 2 := ⟨mw_3_79, mw_3_80, mw_1_1, mw_3_81, ⟨by decide +kernel, by decide +kernel⟩, by decide +kernel, by decide⟩
theorem mw_3_83 : (Cond.methodLink "QuotaRegister" (241 : Nat) ({ cls := "QuotaRegister", name := "equalWeight", desc := "(III)I" } : Jvm.MethodName)) ∈ lw_tbl := tb_3 (List.mem_of_getElem? (i := 83) rfl)
theorem mw_3_84 : (Cond.static ({ cls := "QuotaRegister", name := "equalWeight", desc := "(III)I" } : Jvm.MethodName)) ∈ lw_tbl := tb_3 (List.mem_of_getElem? (i := 84) rfl)
theorem ml_X3_241 : ax_lks RX3 241 M_X3_equalWeight 3 := ⟨mw_3_83, mw_3_84, mw_1_1, mw_3_85, ⟨by decide +kernel, by decide +kernel⟩, by decide +kernel, by decide⟩
theorem mw_3_86 : (Cond.methodLink "QuotaRegister" (244 : Nat) ({ cls := "QuotaRegister$Accounts", name := "canExchange", desc := "(IIIIII)Z" } : Jvm.MethodName)) ∈ lw_tbl := tb_3 (List.mem_of_getElem? (i := 86) rfl)
theorem ml_X3_244 : ax_lvr RX3 244 M_X0_canExchange 6 0 := ⟨mw_3_86, mw_3_28, mw_3_29, mw_1_4, mw_3_30, rfl, ⟨by decide +kernel, by decide +kernel⟩, by decide +kernel, by decide, (RX0, TX0, 10), rfl, rfl⟩
theorem mw_3_88 : (Cond.methodLink "QuotaRegisterLaw" (141 : Nat) ({ cls := "QuotaRegisterLaw", name := "strike", desc := "(LQuotaRegister;I)I" } : Jvm.MethodName)) ∈ lw_tbl := tb_3 (List.mem_of_getElem? (i := 88) rfl)
theorem mw_3_89 : (Cond.static ({ cls := "QuotaRegisterLaw", name := "strike", desc := "(LQuotaRegister;I)I" } : Jvm.MethodName)) ∈ lw_tbl := tb_3 (List.mem_of_getElem? (i := 89) rfl)
theorem ml_L_141 : ax_lks RL 141 M_L_strike 2 := ⟨mw_3_88, mw_3_89, mw_1_0, mw_3_90, ⟨by decide +kernel, by decide +kernel⟩, by decide +kernel, by decide⟩
theorem mw_3_92 : (Cond.methodLink "QuotaRegisterLaw" (59 : Nat) ({ cls := "QuotaRegister", name := "strike", desc := "(I)V" } : Jvm.MethodName)) ∈ lw_tbl := tb_3 (List.mem_of_getElem? (i := 92) rfl)
theorem mw_3_93 : (Cond.instanceMethod ({ cls := "QuotaRegister", name := "strike", desc := "(I)V" } : Jvm.MethodName)) ∈ lw_tbl := tb_3 (List.mem_of_getElem? (i := 93) rfl)
theorem mw_3_94 : (Cond.selects "QuotaRegister" ({ cls := "QuotaRegister", name := "strike", desc := "(I)V" } : Jvm.MethodName) ({ cls := "QuotaRegister", name := "strike", desc := "(I)V" } : Jvm.MethodName)) ∈ lw_tbl := tb_3 (List.mem_of_getElem? (i := 94) rfl)
theorem ml_L_59 : ax_lvr RL 59 M_X3_strike 1 3 := ⟨mw_3_92, mw_3_93, mw_3_94, mw_1_1, mw_3_95, rfl, ⟨by decide +kernel, by decide +kernel⟩, by decide +kernel, by decide, (RX3, TX3, 8), rfl, rfl⟩
theorem mw_3_96 : (Cond.methodLink "QuotaRegister" (250 : Nat) ({ cls := "QuotaRegister$Events", name := "has", desc := "(I)Z" } : Jvm.MethodName)) ∈ lw_tbl := tb_3 (List.mem_of_getElem? (i := 96) rfl)
theorem mw_3_97 : (Cond.instanceMethod ({ cls := "QuotaRegister$Events", name := "has", desc := "(I)Z" } : Jvm.MethodName)) ∈ lw_tbl := tb_3 (List.mem_of_getElem? (i := 97) rfl)
theorem mw_3_98 : (Cond.selects "QuotaRegister$Events" ({ cls := "QuotaRegister$Events", name := "has", desc := "(I)Z" } : Jvm.MethodName) ({ cls := "QuotaRegister$Events", name := "has", desc := "(I)Z" } : Jvm.MethodName)) ∈ lw_tbl := tb_3 (List.mem_of_getElem? (i := 98) rfl)
theorem ml_X3_250 : ax_lvr RX3 250 M_X1_has 1 1 := ⟨mw_3_96, mw_3_97, mw_3_98, mw_1_5, mw_3_99, rfl, ⟨by decide +kernel, by decide +kernel⟩, by decide +kernel, by decide, (RX1, TX1, 10), rfl, rfl⟩
theorem mw_3_100 : (Cond.methodLinkNest "QuotaRegister$Events" (44 : Nat) ({ cls := "QuotaRegister", name := "isWithin", desc := "(III)Z" } : Jvm.MethodName) "QuotaRegister") ∈ lw_tbl := tb_3 (List.mem_of_getElem? (i := 100) rfl)
theorem mn_X1_44 : ax_ln RX1 44 "QuotaRegister" M_X3_isWithin 3 := ⟨mw_3_100, mw_1_1, mw_1_163, rfl, ⟨by decide +kernel, by decide +kernel⟩, by decide +kernel, by decide⟩
theorem mi_X1_44 : Cond.static M_X3_isWithin.1 ∈ lw_tbl := mw_1_162
theorem mw_3_117 : (Cond.methodLink "QuotaRegister" (258 : Nat) ({ cls := "QuotaRegister$Events", name := "canBeStruck", desc := "(I)Z" } : Jvm.MethodName)) ∈ lw_tbl := tb_3 (List.mem_of_getElem? (i := 117) rfl)
theorem mw_3_118 : (Cond.instanceMethod ({ cls := "QuotaRegister$Events", name := "canBeStruck", desc := "(I)Z" } : Jvm.MethodName)) ∈ lw_tbl := tb_3 (List.mem_of_getElem? (i := 118) rfl)
theorem mw_3_119 : (Cond.selects "QuotaRegister$Events" ({ cls := "QuotaRegister$Events", name := "canBeStruck", desc := "(I)Z" } : Jvm.MethodName) ({ cls := "QuotaRegister$Events", name := "canBeStruck", desc := "(I)Z" } : Jvm.MethodName)) ∈ lw_tbl := tb_3 (List.mem_of_getElem? (i := 119) rfl)
theorem ml_X3_258 : ax_lvr RX3 258 M_X1_canBeStruck 1 1 := ⟨mw_3_117, mw_3_118, mw_3_119, mw_1_5, mw_3_120, rfl, ⟨by decide +kernel, by decide +kernel⟩, by decide +kernel, by decide, (RX1, TX1, 10), rfl, rfl⟩
theorem mw_3_122 : (Cond.methodLink "QuotaRegister" (263 : Nat) ({ cls := "QuotaRegister$Events", name := "yearOf", desc := "(I)I" } : Jvm.MethodName)) ∈ lw_tbl := tb_3 (List.mem_of_getElem? (i := 122) rfl)
theorem mw_3_123 : (Cond.instanceMethod ({ cls := "QuotaRegister$Events", name := "yearOf", desc := "(I)I" } : Jvm.MethodName)) ∈ lw_tbl := tb_3 (List.mem_of_getElem? (i := 123) rfl)
theorem mw_3_124 : (Cond.selects "QuotaRegister$Events" ({ cls := "QuotaRegister$Events", name := "yearOf", desc := "(I)I" } : Jvm.MethodName) ({ cls := "QuotaRegister$Events", name := "yearOf", desc := "(I)I" } : Jvm.MethodName)) ∈ lw_tbl := tb_3 (List.mem_of_getElem? (i := 124) rfl)
theorem ml_X3_263 : ax_lvr RX3 263 M_X1_yearOf 1 1 := ⟨mw_3_122, mw_3_123, mw_3_124, mw_1_5, mw_3_125, rfl, ⟨by decide +kernel, by decide +kernel⟩, by decide +kernel, by decide, (RX1, TX1, 10), rfl, rfl⟩
theorem mw_3_127 : (Cond.methodLink "QuotaRegister" (268 : Nat) ({ cls := "QuotaRegister$Events", name := "markStruck", desc := "(I)V" } : Jvm.MethodName)) ∈ lw_tbl := tb_3 (List.mem_of_getElem? (i := 127) rfl)
theorem mw_3_128 : (Cond.instanceMethod ({ cls := "QuotaRegister$Events", name := "markStruck", desc := "(I)V" } : Jvm.MethodName)) ∈ lw_tbl := tb_3 (List.mem_of_getElem? (i := 128) rfl)
theorem mw_3_129 : (Cond.selects "QuotaRegister$Events" ({ cls := "QuotaRegister$Events", name := "markStruck", desc := "(I)V" } : Jvm.MethodName) ({ cls := "QuotaRegister$Events", name := "markStruck", desc := "(I)V" } : Jvm.MethodName)) ∈ lw_tbl := tb_3 (List.mem_of_getElem? (i := 129) rfl)
theorem ml_X3_268 : ax_lvr RX3 268 M_X1_markStruck 1 1 := ⟨mw_3_127, mw_3_128, mw_3_129, mw_1_5, mw_3_130, rfl, ⟨by decide +kernel, by decide +kernel⟩, by decide +kernel, by decide, (RX1, TX1, 10), rfl, rfl⟩
theorem mw_3_131 : (Cond.methodLink "QuotaRegisterLaw" (145 : Nat) ({ cls := "QuotaRegisterLaw", name := "reopen", desc := "(LQuotaRegister;I)I" } : Jvm.MethodName)) ∈ lw_tbl := tb_3 (List.mem_of_getElem? (i := 131) rfl)
theorem mw_3_132 : (Cond.static ({ cls := "QuotaRegisterLaw", name := "reopen", desc := "(LQuotaRegister;I)I" } : Jvm.MethodName)) ∈ lw_tbl := tb_3 (List.mem_of_getElem? (i := 132) rfl)
theorem ml_L_145 : ax_lks RL 145 M_L_reopen 2 := ⟨mw_3_131, mw_3_132, mw_1_0, mw_3_133, ⟨by decide +kernel, by decide +kernel⟩, by decide +kernel, by decide⟩
theorem mw_3_134 : (Cond.methodLink "QuotaRegisterLaw" (65 : Nat) ({ cls := "QuotaRegister", name := "reopen", desc := "(I)V" } : Jvm.MethodName)) ∈ lw_tbl := tb_3 (List.mem_of_getElem? (i := 134) rfl)
theorem mw_3_135 : (Cond.instanceMethod ({ cls := "QuotaRegister", name := "reopen", desc := "(I)V" } : Jvm.MethodName)) ∈ lw_tbl := tb_3 (List.mem_of_getElem? (i := 135) rfl)
theorem mw_3_136 : (Cond.selects "QuotaRegister" ({ cls := "QuotaRegister", name := "reopen", desc := "(I)V" } : Jvm.MethodName) ({ cls := "QuotaRegister", name := "reopen", desc := "(I)V" } : Jvm.MethodName)) ∈ lw_tbl := tb_3 (List.mem_of_getElem? (i := 136) rfl)
theorem ml_L_65 : ax_lvr RL 65 M_X3_reopen 1 3 := ⟨mw_3_134, mw_3_135, mw_3_136, mw_1_1, mw_3_137, rfl, ⟨by decide +kernel, by decide +kernel⟩, by decide +kernel, by decide, (RX3, TX3, 8), rfl, rfl⟩
theorem mw_3_140 : (Cond.methodLink "QuotaRegisterLaw" (148 : Nat) ({ cls := "QuotaRegisterLaw", name := "account", desc := "(LQuotaRegister;IIII[J)I" } : Jvm.MethodName)) ∈ lw_tbl := tb_3 (List.mem_of_getElem? (i := 140) rfl)
theorem mw_3_141 : (Cond.static ({ cls := "QuotaRegisterLaw", name := "account", desc := "(LQuotaRegister;IIII[J)I" } : Jvm.MethodName)) ∈ lw_tbl := tb_3 (List.mem_of_getElem? (i := 141) rfl)
theorem ml_L_148 : ax_lks RL 148 M_L_account 6 := ⟨mw_3_140, mw_3_141, mw_1_0, mw_3_142, ⟨by decide +kernel, by decide +kernel⟩, by decide +kernel, by decide⟩
theorem mw_3_143 : (Cond.methodLink "QuotaRegisterLaw" (68 : Nat) ({ cls := "QuotaRegister", name := "account", desc := "(IIII)I" } : Jvm.MethodName)) ∈ lw_tbl := tb_3 (List.mem_of_getElem? (i := 143) rfl)
theorem mw_3_144 : (Cond.instanceMethod ({ cls := "QuotaRegister", name := "account", desc := "(IIII)I" } : Jvm.MethodName)) ∈ lw_tbl := tb_3 (List.mem_of_getElem? (i := 144) rfl)
theorem mw_3_145 : (Cond.selects "QuotaRegister" ({ cls := "QuotaRegister", name := "account", desc := "(IIII)I" } : Jvm.MethodName) ({ cls := "QuotaRegister", name := "account", desc := "(IIII)I" } : Jvm.MethodName)) ∈ lw_tbl := tb_3 (List.mem_of_getElem? (i := 145) rfl)
theorem ml_L_68 : ax_lvr RL 68 M_X3_account 4 3 := ⟨mw_3_143, mw_3_144, mw_3_145, mw_1_1, mw_3_146, rfl, ⟨by decide +kernel, by decide +kernel⟩, by decide +kernel, by decide, (RX3, TX3, 8), rfl, rfl⟩
theorem mw_3_148 : (Cond.methodLink "QuotaRegister" (277 : Nat) ({ cls := "QuotaRegister$Accounts", name := "row", desc := "(III)I" } : Jvm.MethodName)) ∈ lw_tbl := tb_3 (List.mem_of_getElem? (i := 148) rfl)
theorem ml_X3_277 : ax_lks RX3 277 M_X0_row 3 := ⟨mw_3_148, mw_2_181, mw_1_4, mw_2_182, ⟨by decide +kernel, by decide +kernel⟩, by decide +kernel, by decide⟩
theorem mw_3_149 : (Cond.methodLink "QuotaRegister" (280 : Nat) ({ cls := "QuotaRegister$Accounts", name := "figure", desc := "(II)I" } : Jvm.MethodName)) ∈ lw_tbl := tb_3 (List.mem_of_getElem? (i := 149) rfl)
theorem mw_3_150 : (Cond.instanceMethod ({ cls := "QuotaRegister$Accounts", name := "figure", desc := "(II)I" } : Jvm.MethodName)) ∈ lw_tbl := tb_3 (List.mem_of_getElem? (i := 150) rfl)
theorem mw_3_151 : (Cond.selects "QuotaRegister$Accounts" ({ cls := "QuotaRegister$Accounts", name := "figure", desc := "(II)I" } : Jvm.MethodName) ({ cls := "QuotaRegister$Accounts", name := "figure", desc := "(II)I" } : Jvm.MethodName)) ∈ lw_tbl := tb_3 (List.mem_of_getElem? (i := 151) rfl)
theorem ml_X3_280 : ax_lvr RX3 280 M_X0_figure 2 0 := ⟨mw_3_149, mw_3_150, mw_3_151, mw_1_4, mw_3_152, rfl, ⟨by decide +kernel, by decide +kernel⟩, by decide +kernel, by decide, (RX0, TX0, 10), rfl, rfl⟩
theorem mw_3_153 : (Cond.methodLink "QuotaRegisterLaw" (151 : Nat) ({ cls := "QuotaRegisterLaw", name := "levy", desc := "(LQuotaRegister;II[J)I" } : Jvm.MethodName)) ∈ lw_tbl := tb_3 (List.mem_of_getElem? (i := 153) rfl)
theorem mw_3_154 : (Cond.static ({ cls := "QuotaRegisterLaw", name := "levy", desc := "(LQuotaRegister;II[J)I" } : Jvm.MethodName)) ∈ lw_tbl := tb_3 (List.mem_of_getElem? (i := 154) rfl)
theorem ml_L_151 : ax_lks RL 151 M_L_levy 4 := ⟨mw_3_153, mw_3_154, mw_1_0, mw_3_155, ⟨by decide +kernel, by decide +kernel⟩, by decide +kernel, by decide⟩
theorem mw_3_156 : (Cond.methodLink "QuotaRegisterLaw" (71 : Nat) ({ cls := "QuotaRegister", name := "levy", desc := "(II)J" } : Jvm.MethodName)) ∈ lw_tbl := tb_3 (List.mem_of_getElem? (i := 156) rfl)
theorem mw_3_157 : (Cond.instanceMethod ({ cls := "QuotaRegister", name := "levy", desc := "(II)J" } : Jvm.MethodName)) ∈ lw_tbl := tb_3 (List.mem_of_getElem? (i := 157) rfl)
theorem mw_3_158 : (Cond.selects "QuotaRegister" ({ cls := "QuotaRegister", name := "levy", desc := "(II)J" } : Jvm.MethodName) ({ cls := "QuotaRegister", name := "levy", desc := "(II)J" } : Jvm.MethodName)) ∈ lw_tbl := tb_3 (List.mem_of_getElem? (i := 158) rfl)
theorem ml_L_71 : ax_lvr RL 71 M_X3_levy 2 3 := ⟨mw_3_156, mw_3_157, mw_3_158, mw_1_1, mw_3_159, rfl, ⟨by decide +kernel, by decide +kernel⟩, by decide +kernel, by decide, (RX3, TX3, 8), rfl, rfl⟩
theorem mw_3_161 : (Cond.methodLink "QuotaRegister" (285 : Nat) ({ cls := "QuotaRegister", name := "levyOfVessel", desc := "(II)J" } : Jvm.MethodName)) ∈ lw_tbl := tb_3 (List.mem_of_getElem? (i := 161) rfl)
theorem mw_3_163 : (Cond.instanceMethod ({ cls := "QuotaRegister", name := "levyOfVessel", desc := "(II)J" } : Jvm.MethodName)) ∈ lw_tbl := tb_3 (List.mem_of_getElem? (i := 163) rfl)
theorem sp_X3_levyOfVessel : Cond.selects "QuotaRegister" ⟨"QuotaRegister", "levyOfVessel", "(II)J"⟩ ⟨"QuotaRegister", "levyOfVessel", "(II)J"⟩ ∈ lw_tbl := List.mem_append_left _ (List.mem_of_getElem? (i := 10) rfl)
theorem ml_X3_285 : ax_lvr RX3 285 M_X3_levyOfVessel 2 3 := ⟨mw_3_161, mw_3_163, sp_X3_levyOfVessel, mw_1_1, mw_3_164, rfl, ⟨by decide +kernel, by decide +kernel⟩, by decide +kernel, by decide, (RX3, TX3, 8), rfl, rfl⟩
theorem mw_3_165 : (Cond.methodLink "QuotaRegister" (320 : Nat) ({ cls := "QuotaRegister$Accounts", name := "leviedOn", desc := "(III)I" } : Jvm.MethodName)) ∈ lw_tbl := tb_3 (List.mem_of_getElem? (i := 165) rfl)
theorem mw_3_166 : (Cond.instanceMethod ({ cls := "QuotaRegister$Accounts", name := "leviedOn", desc := "(III)I" } : Jvm.MethodName)) ∈ lw_tbl := tb_3 (List.mem_of_getElem? (i := 166) rfl)
theorem mw_3_167 : (Cond.selects "QuotaRegister$Accounts" ({ cls := "QuotaRegister$Accounts", name := "leviedOn", desc := "(III)I" } : Jvm.MethodName) ({ cls := "QuotaRegister$Accounts", name := "leviedOn", desc := "(III)I" } : Jvm.MethodName)) ∈ lw_tbl := tb_3 (List.mem_of_getElem? (i := 167) rfl)
theorem ml_X3_320 : ax_lvr RX3 320 M_X0_leviedOn 3 0 := ⟨mw_3_165, mw_3_166, mw_3_167, mw_1_4, mw_3_168, rfl, ⟨by decide +kernel, by decide +kernel⟩, by decide +kernel, by decide, (RX0, TX0, 10), rfl, rfl⟩
theorem mw_3_169 : (Cond.methodLink "QuotaRegisterLaw" (155 : Nat) ({ cls := "QuotaRegisterLaw", name := "held", desc := "(LQuotaRegister;III[J)I" } : Jvm.MethodName)) ∈ lw_tbl := tb_3 (List.mem_of_getElem? (i := 169) rfl)
theorem mw_3_170 : (Cond.static ({ cls := "QuotaRegisterLaw", name := "held", desc := "(LQuotaRegister;III[J)I" } : Jvm.MethodName)) ∈ lw_tbl := tb_3 (List.mem_of_getElem? (i := 170) rfl)
theorem ml_L_155 : ax_lks RL 155 M_L_held 5 := ⟨mw_3_169, mw_3_170, mw_1_0, mw_3_171, ⟨by decide +kernel, by decide +kernel⟩, by decide +kernel, by decide⟩
theorem mw_3_172 : (Cond.methodLink "QuotaRegisterLaw" (75 : Nat) ({ cls := "QuotaRegister", name := "held", desc := "(III)I" } : Jvm.MethodName)) ∈ lw_tbl := tb_3 (List.mem_of_getElem? (i := 172) rfl)
theorem mw_3_173 : (Cond.instanceMethod ({ cls := "QuotaRegister", name := "held", desc := "(III)I" } : Jvm.MethodName)) ∈ lw_tbl := tb_3 (List.mem_of_getElem? (i := 173) rfl)
theorem mw_3_174 : (Cond.selects "QuotaRegister" ({ cls := "QuotaRegister", name := "held", desc := "(III)I" } : Jvm.MethodName) ({ cls := "QuotaRegister", name := "held", desc := "(III)I" } : Jvm.MethodName)) ∈ lw_tbl := tb_3 (List.mem_of_getElem? (i := 174) rfl)
theorem ml_L_75 : ax_lvr RL 75 M_X3_held 3 3 := ⟨mw_3_172, mw_3_173, mw_3_174, mw_1_1, mw_3_175, rfl, ⟨by decide +kernel, by decide +kernel⟩, by decide +kernel, by decide, (RX3, TX3, 8), rfl, rfl⟩
theorem mw_3_177 : (Cond.methodLink "QuotaRegister" (291 : Nat) ({ cls := "QuotaRegister$Shares", name := "partsOf", desc := "(II)I" } : Jvm.MethodName)) ∈ lw_tbl := tb_3 (List.mem_of_getElem? (i := 177) rfl)
theorem ml_X3_291 : ax_lvr RX3 291 M_X2_partsOf 2 2 := ⟨mw_3_177, mw_2_6, mw_2_7, mw_1_2, mw_2_8, rfl, ⟨by decide +kernel, by decide +kernel⟩, by decide +kernel, by decide, (RX2, TX2, 5), rfl, rfl⟩
theorem mw_3_178 : (Cond.methodLink "QuotaRegister" (294 : Nat) ({ cls := "QuotaRegister$Shares", name := "groupOf", desc := "(I)I" } : Jvm.MethodName)) ∈ lw_tbl := tb_3 (List.mem_of_getElem? (i := 178) rfl)
theorem ml_X3_294 : ax_lvr RX3 294 M_X2_groupOf 1 2 := ⟨mw_3_178, mw_1_238, mw_1_239, mw_1_2, mw_2_0, rfl, ⟨by decide +kernel, by decide +kernel⟩, by decide +kernel, by decide, (RX2, TX2, 5), rfl, rfl⟩
theorem mw_3_179 : (Cond.methodLink "QuotaRegister" (297 : Nat) ({ cls := "QuotaRegister$Shares", name := "partsOfGroup", desc := "(II)I" } : Jvm.MethodName)) ∈ lw_tbl := tb_3 (List.mem_of_getElem? (i := 179) rfl)
theorem ml_X3_297 : ax_lvr RX3 297 M_X2_partsOfGroup 2 2 := ⟨mw_3_179, mw_2_2, mw_2_3, mw_1_2, mw_2_4, rfl, ⟨by decide +kernel, by decide +kernel⟩, by decide +kernel, by decide, (RX2, TX2, 5), rfl, rfl⟩
theorem mw_3_180 : (Cond.methodLink "QuotaRegisterLaw" (158 : Nat) ({ cls := "QuotaRegisterLaw", name := "event", desc := "(LQuotaRegister;II[J)I" } : Jvm.MethodName)) ∈ lw_tbl := tb_3 (List.mem_of_getElem? (i := 180) rfl)
theorem mw_3_181 : (Cond.static ({ cls := "QuotaRegisterLaw", name := "event", desc := "(LQuotaRegister;II[J)I" } : Jvm.MethodName)) ∈ lw_tbl := tb_3 (List.mem_of_getElem? (i := 181) rfl)
theorem ml_L_158 : ax_lks RL 158 M_L_event 4 := ⟨mw_3_180, mw_3_181, mw_1_0, mw_3_182, ⟨by decide +kernel, by decide +kernel⟩, by decide +kernel, by decide⟩
theorem mw_3_183 : (Cond.methodLink "QuotaRegisterLaw" (78 : Nat) ({ cls := "QuotaRegister", name := "event", desc := "(II)I" } : Jvm.MethodName)) ∈ lw_tbl := tb_3 (List.mem_of_getElem? (i := 183) rfl)
theorem mw_3_184 : (Cond.instanceMethod ({ cls := "QuotaRegister", name := "event", desc := "(II)I" } : Jvm.MethodName)) ∈ lw_tbl := tb_3 (List.mem_of_getElem? (i := 184) rfl)
theorem mw_3_185 : (Cond.selects "QuotaRegister" ({ cls := "QuotaRegister", name := "event", desc := "(II)I" } : Jvm.MethodName) ({ cls := "QuotaRegister", name := "event", desc := "(II)I" } : Jvm.MethodName)) ∈ lw_tbl := tb_3 (List.mem_of_getElem? (i := 185) rfl)
theorem ml_L_78 : ax_lvr RL 78 M_X3_event 2 3 := ⟨mw_3_183, mw_3_184, mw_3_185, mw_1_1, mw_3_186, rfl, ⟨by decide +kernel, by decide +kernel⟩, by decide +kernel, by decide, (RX3, TX3, 8), rfl, rfl⟩
theorem mw_3_188 : (Cond.methodLink "QuotaRegister" (302 : Nat) ({ cls := "QuotaRegister$Events", name := "figure", desc := "(II)I" } : Jvm.MethodName)) ∈ lw_tbl := tb_3 (List.mem_of_getElem? (i := 188) rfl)
theorem mw_3_189 : (Cond.instanceMethod ({ cls := "QuotaRegister$Events", name := "figure", desc := "(II)I" } : Jvm.MethodName)) ∈ lw_tbl := tb_3 (List.mem_of_getElem? (i := 189) rfl)
theorem mw_3_190 : (Cond.selects "QuotaRegister$Events" ({ cls := "QuotaRegister$Events", name := "figure", desc := "(II)I" } : Jvm.MethodName) ({ cls := "QuotaRegister$Events", name := "figure", desc := "(II)I" } : Jvm.MethodName)) ∈ lw_tbl := tb_3 (List.mem_of_getElem? (i := 190) rfl)
theorem ml_X3_302 : ax_lvr RX3 302 M_X1_figure 2 1 := ⟨mw_3_188, mw_3_189, mw_3_190, mw_1_5, mw_3_191, rfl, ⟨by decide +kernel, by decide +kernel⟩, by decide +kernel, by decide, (RX1, TX1, 10), rfl, rfl⟩
theorem mw_3_192 : (Cond.methodLink "QuotaRegisterLaw" (161 : Nat) ({ cls := "QuotaRegisterLaw", name := "about", desc := "(LQuotaRegister;I[J)I" } : Jvm.MethodName)) ∈ lw_tbl := tb_3 (List.mem_of_getElem? (i := 192) rfl)
theorem mw_3_193 : (Cond.static ({ cls := "QuotaRegisterLaw", name := "about", desc := "(LQuotaRegister;I[J)I" } : Jvm.MethodName)) ∈ lw_tbl := tb_3 (List.mem_of_getElem? (i := 193) rfl)
theorem ml_L_161 : ax_lks RL 161 M_L_about 3 := ⟨mw_3_192, mw_3_193, mw_1_0, mw_3_194, ⟨by decide +kernel, by decide +kernel⟩, by decide +kernel, by decide⟩
theorem mw_3_195 : (Cond.methodLink "QuotaRegisterLaw" (82 : Nat) ({ cls := "QuotaRegister", name := "about", desc := "(I)I" } : Jvm.MethodName)) ∈ lw_tbl := tb_3 (List.mem_of_getElem? (i := 195) rfl)
theorem mw_3_196 : (Cond.instanceMethod ({ cls := "QuotaRegister", name := "about", desc := "(I)I" } : Jvm.MethodName)) ∈ lw_tbl := tb_3 (List.mem_of_getElem? (i := 196) rfl)
theorem mw_3_197 : (Cond.selects "QuotaRegister" ({ cls := "QuotaRegister", name := "about", desc := "(I)I" } : Jvm.MethodName) ({ cls := "QuotaRegister", name := "about", desc := "(I)I" } : Jvm.MethodName)) ∈ lw_tbl := tb_3 (List.mem_of_getElem? (i := 197) rfl)
theorem ml_L_82 : ax_lvr RL 82 M_X3_about 1 3 := ⟨mw_3_195, mw_3_196, mw_3_197, mw_1_1, mw_3_198, rfl, ⟨by decide +kernel, by decide +kernel⟩, by decide +kernel, by decide, (RX3, TX3, 8), rfl, rfl⟩
theorem mw_3_199 : (Cond.methodLink "QuotaRegister" (303 : Nat) ({ cls := "QuotaRegister$Events", name := "size", desc := "()I" } : Jvm.MethodName)) ∈ lw_tbl := tb_3 (List.mem_of_getElem? (i := 199) rfl)
theorem mw_3_200 : (Cond.instanceMethod ({ cls := "QuotaRegister$Events", name := "size", desc := "()I" } : Jvm.MethodName)) ∈ lw_tbl := tb_3 (List.mem_of_getElem? (i := 200) rfl)
theorem mw_3_201 : (Cond.selects "QuotaRegister$Events" ({ cls := "QuotaRegister$Events", name := "size", desc := "()I" } : Jvm.MethodName) ({ cls := "QuotaRegister$Events", name := "size", desc := "()I" } : Jvm.MethodName)) ∈ lw_tbl := tb_3 (List.mem_of_getElem? (i := 201) rfl)
theorem ml_X3_303 : ax_lvr RX3 303 M_X1_size 0 1 := ⟨mw_3_199, mw_3_200, mw_3_201, mw_1_5, mw_3_202, rfl, ⟨by decide +kernel, by decide +kernel⟩, by decide +kernel, by decide, (RX1, TX1, 10), rfl, rfl⟩
theorem mw_3_203 : (Cond.methodLink "QuotaRegister" (307 : Nat) ({ cls := "QuotaRegister$Events", name := "countCounting", desc := "()I" } : Jvm.MethodName)) ∈ lw_tbl := tb_3 (List.mem_of_getElem? (i := 203) rfl)
theorem mw_3_204 : (Cond.instanceMethod ({ cls := "QuotaRegister$Events", name := "countCounting", desc := "()I" } : Jvm.MethodName)) ∈ lw_tbl := tb_3 (List.mem_of_getElem? (i := 204) rfl)
theorem mw_3_205 : (Cond.selects "QuotaRegister$Events" ({ cls := "QuotaRegister$Events", name := "countCounting", desc := "()I" } : Jvm.MethodName) ({ cls := "QuotaRegister$Events", name := "countCounting", desc := "()I" } : Jvm.MethodName)) ∈ lw_tbl := tb_3 (List.mem_of_getElem? (i := 205) rfl)
theorem ml_X3_307 : ax_lvr RX3 307 M_X1_countCounting 0 1 := ⟨mw_3_203, mw_3_204, mw_3_205, mw_1_5, mw_3_206, rfl, ⟨by decide +kernel, by decide +kernel⟩, by decide +kernel, by decide, (RX1, TX1, 10), rfl, rfl⟩
theorem mw_3_209 : (Cond.methodLink "QuotaRegisterLaw" (89 : Nat) ({ cls := "QuotaRegisterModel", name := "<init>", desc := "()V" } : Jvm.MethodName)) ∈ lw_tbl := tb_3 (List.mem_of_getElem? (i := 209) rfl)
theorem mw_1_6 : (Cond.initialized "QuotaRegisterModel") ∈ lw_tbl := tb_1 (List.mem_of_getElem? (i := 6) rfl)
theorem mw_3_210 : (Cond.instanceMethod ({ cls := "QuotaRegisterModel", name := "<init>", desc := "()V" } : Jvm.MethodName)) ∈ lw_tbl := tb_3 (List.mem_of_getElem? (i := 210) rfl)
theorem ml_L_89 : ax_li RL 89 M_X4_init 0 := ⟨mw_3_209, mw_3_210, mw_1_6, mw_3_211, rfl, ⟨by decide +kernel, by decide +kernel⟩, by decide +kernel, by decide, rfl, rfl⟩
theorem mw_3_212 : (Cond.methodLink "QuotaRegisterModel" (1 : Nat) ({ cls := "java/lang/Object", name := "<init>", desc := "()V" } : Jvm.MethodName)) ∈ lw_tbl := tb_3 (List.mem_of_getElem? (i := 212) rfl)
theorem oi_X4 : Cond.methodLink RX4 1 objectInit ∈ lw_tbl := mw_3_212
theorem mw_4_69 : (Cond.methodLink "QuotaRegisterLaw" (96 : Nat) ({ cls := "QuotaRegisterModel", name := "thrown", desc := "()I" } : Jvm.MethodName)) ∈ lw_tbl := tb_4 (List.mem_of_getElem? (i := 69) rfl)
theorem mw_4_70 : (Cond.instanceMethod ({ cls := "QuotaRegisterModel", name := "thrown", desc := "()I" } : Jvm.MethodName)) ∈ lw_tbl := tb_4 (List.mem_of_getElem? (i := 70) rfl)
theorem mw_4_71 : (Cond.selects "QuotaRegisterModel" ({ cls := "QuotaRegisterModel", name := "thrown", desc := "()I" } : Jvm.MethodName) ({ cls := "QuotaRegisterModel", name := "thrown", desc := "()I" } : Jvm.MethodName)) ∈ lw_tbl := tb_4 (List.mem_of_getElem? (i := 71) rfl)
theorem ml_L_96 : ax_lvr RL 96 M_X4_thrown 0 4 := ⟨mw_4_69, mw_4_70, mw_4_71, mw_1_6, mw_4_72, rfl, ⟨by decide +kernel, by decide +kernel⟩, by decide +kernel, by decide, (RX4, TX4, 31), rfl, rfl⟩
theorem mw_4_73 : (Cond.methodLink "QuotaRegisterLaw" (95 : Nat) ({ cls := "QuotaRegisterModel", name := "species", desc := "(III)V" } : Jvm.MethodName)) ∈ lw_tbl := tb_4 (List.mem_of_getElem? (i := 73) rfl)
theorem mw_4_74 : (Cond.instanceMethod ({ cls := "QuotaRegisterModel", name := "species", desc := "(III)V" } : Jvm.MethodName)) ∈ lw_tbl := tb_4 (List.mem_of_getElem? (i := 74) rfl)
theorem mw_4_75 : (Cond.selects "QuotaRegisterModel" ({ cls := "QuotaRegisterModel", name := "species", desc := "(III)V" } : Jvm.MethodName) ({ cls := "QuotaRegisterModel", name := "species", desc := "(III)V" } : Jvm.MethodName)) ∈ lw_tbl := tb_4 (List.mem_of_getElem? (i := 75) rfl)
theorem ml_L_95 : ax_lvr RL 95 M_X4_species 3 4 := ⟨mw_4_73, mw_4_74, mw_4_75, mw_1_6, mw_4_76, rfl, ⟨by decide +kernel, by decide +kernel⟩, by decide +kernel, by decide, (RX4, TX4, 31), rfl, rfl⟩
theorem mw_4_77 : (Cond.methodLink "QuotaRegisterModel" (114 : Nat) ({ cls := "QuotaRegisterModel", name := "isSpecies", desc := "(I)Z" } : Jvm.MethodName)) ∈ lw_tbl := tb_4 (List.mem_of_getElem? (i := 77) rfl)
theorem mw_4_78 : (Cond.static ({ cls := "QuotaRegisterModel", name := "isSpecies", desc := "(I)Z" } : Jvm.MethodName)) ∈ lw_tbl := tb_4 (List.mem_of_getElem? (i := 78) rfl)
theorem ml_X4_114 : ax_lks RX4 114 M_X4_isSpecies 1 := ⟨mw_4_77, mw_4_78, mw_1_6, mw_4_79, ⟨by decide +kernel, by decide +kernel⟩, by decide +kernel, by decide⟩
theorem mw_4_81 : (Cond.methodLink "QuotaRegisterModel" (100 : Nat) ({ cls := "QuotaRegisterModel", name := "in", desc := "(JJJ)Z" } : Jvm.MethodName)) ∈ lw_tbl := tb_4 (List.mem_of_getElem? (i := 81) rfl)
theorem mw_4_82 : (Cond.static ({ cls := "QuotaRegisterModel", name := "in", desc := "(JJJ)Z" } : Jvm.MethodName)) ∈ lw_tbl := tb_4 (List.mem_of_getElem? (i := 82) rfl)
theorem ml_X4_100 : ax_lks RX4 100 M_X4_in 3 := ⟨mw_4_81, mw_4_82, mw_1_6, mw_4_83, ⟨by decide +kernel, by decide +kernel⟩, by decide +kernel, by decide⟩
theorem mw_4_86 : (Cond.methodLink "QuotaRegisterModel" (122 : Nat) ({ cls := "QuotaRegisterModel", name := "fits", desc := "(II)Z" } : Jvm.MethodName)) ∈ lw_tbl := tb_4 (List.mem_of_getElem? (i := 86) rfl)
theorem mw_4_88 : (Cond.instanceMethod ({ cls := "QuotaRegisterModel", name := "fits", desc := "(II)Z" } : Jvm.MethodName)) ∈ lw_tbl := tb_4 (List.mem_of_getElem? (i := 88) rfl)
theorem sp_X4_fits : Cond.selects "QuotaRegisterModel" ⟨"QuotaRegisterModel", "fits", "(II)Z"⟩ ⟨"QuotaRegisterModel", "fits", "(II)Z"⟩ ∈ lw_tbl := List.mem_append_left _ (List.mem_of_getElem? (i := 11) rfl)
theorem ml_X4_122 : ax_lvr RX4 122 M_X4_fits 2 4 := ⟨mw_4_86, mw_4_88, sp_X4_fits, mw_1_6, mw_4_89, rfl, ⟨by decide +kernel, by decide +kernel⟩, by decide +kernel, by decide, (RX4, TX4, 31), rfl, rfl⟩
theorem mw_4_90 : (Cond.methodLink "QuotaRegisterModel" (110 : Nat) ({ cls := "QuotaRegisterModel", name := "ofGroup", desc := "(II)I" } : Jvm.MethodName)) ∈ lw_tbl := tb_4 (List.mem_of_getElem? (i := 90) rfl)
theorem mw_4_92 : (Cond.instanceMethod ({ cls := "QuotaRegisterModel", name := "ofGroup", desc := "(II)I" } : Jvm.MethodName)) ∈ lw_tbl := tb_4 (List.mem_of_getElem? (i := 92) rfl)
theorem sp_X4_ofGroup : Cond.selects "QuotaRegisterModel" ⟨"QuotaRegisterModel", "ofGroup", "(II)I"⟩ ⟨"QuotaRegisterModel", "ofGroup", "(II)I"⟩ ∈ lw_tbl := List.mem_append_left _ (List.mem_of_getElem? (i := 12) rfl)
theorem ml_X4_110 : ax_lvr RX4 110 M_X4_ofGroup 2 4 := ⟨mw_4_90, mw_4_92, sp_X4_ofGroup, mw_1_6, mw_4_93, rfl, ⟨by decide +kernel, by decide +kernel⟩, by decide +kernel, by decide, (RX4, TX4, 31), rfl, rfl⟩
theorem mw_4_94 : (Cond.methodLink "QuotaRegisterModel" (106 : Nat) ({ cls := "QuotaRegisterModel", name := "gather", desc := "(I)V" } : Jvm.MethodName)) ∈ lw_tbl := tb_4 (List.mem_of_getElem? (i := 94) rfl)
theorem mw_4_96 : (Cond.instanceMethod ({ cls := "QuotaRegisterModel", name := "gather", desc := "(I)V" } : Jvm.MethodName)) ∈ lw_tbl := tb_4 (List.mem_of_getElem? (i := 96) rfl)
theorem sp_X4_gather : Cond.selects "QuotaRegisterModel" ⟨"QuotaRegisterModel", "gather", "(I)V"⟩ ⟨"QuotaRegisterModel", "gather", "(I)V"⟩ ∈ lw_tbl := List.mem_append_left _ (List.mem_of_getElem? (i := 13) rfl)
theorem ml_X4_106 : ax_lvr RX4 106 M_X4_gather 1 4 := ⟨mw_4_94, mw_4_96, sp_X4_gather, mw_1_6, mw_4_97, rfl, ⟨by decide +kernel, by decide +kernel⟩, by decide +kernel, by decide, (RX4, TX4, 31), rfl, rfl⟩
theorem mw_4_98 : (Cond.methodLink "QuotaRegisterModel" (126 : Nat) ({ cls := "QuotaRegisterModel", name := "refuse", desc := "(ZZ)Z" } : Jvm.MethodName)) ∈ lw_tbl := tb_4 (List.mem_of_getElem? (i := 98) rfl)
theorem mw_4_100 : (Cond.instanceMethod ({ cls := "QuotaRegisterModel", name := "refuse", desc := "(ZZ)Z" } : Jvm.MethodName)) ∈ lw_tbl := tb_4 (List.mem_of_getElem? (i := 100) rfl)
theorem sp_X4_refuse : Cond.selects "QuotaRegisterModel" ⟨"QuotaRegisterModel", "refuse", "(ZZ)Z"⟩ ⟨"QuotaRegisterModel", "refuse", "(ZZ)Z"⟩ ∈ lw_tbl := List.mem_append_left _ (List.mem_of_getElem? (i := 14) rfl)
theorem ml_X4_126 : ax_lvr RX4 126 M_X4_refuse 2 4 := ⟨mw_4_98, mw_4_100, sp_X4_refuse, mw_1_6, mw_4_101, rfl, ⟨by decide +kernel, by decide +kernel⟩, by decide +kernel, by decide, (RX4, TX4, 31), rfl, rfl⟩
theorem mw_4_102 : (Cond.methodLink "QuotaRegisterLaw" (101 : Nat) ({ cls := "QuotaRegisterModel", name := "factor", desc := "(III)V" } : Jvm.MethodName)) ∈ lw_tbl := tb_4 (List.mem_of_getElem? (i := 102) rfl)
theorem mw_4_103 : (Cond.instanceMethod ({ cls := "QuotaRegisterModel", name := "factor", desc := "(III)V" } : Jvm.MethodName)) ∈ lw_tbl := tb_4 (List.mem_of_getElem? (i := 103) rfl)
theorem mw_4_104 : (Cond.selects "QuotaRegisterModel" ({ cls := "QuotaRegisterModel", name := "factor", desc := "(III)V" } : Jvm.MethodName) ({ cls := "QuotaRegisterModel", name := "factor", desc := "(III)V" } : Jvm.MethodName)) ∈ lw_tbl := tb_4 (List.mem_of_getElem? (i := 104) rfl)
theorem ml_L_101 : ax_lvr RL 101 M_X4_factor 3 4 := ⟨mw_4_102, mw_4_103, mw_4_104, mw_1_6, mw_4_105, rfl, ⟨by decide +kernel, by decide +kernel⟩, by decide +kernel, by decide, (RX4, TX4, 31), rfl, rfl⟩
theorem mw_4_108 : (Cond.methodLink "QuotaRegisterLaw" (105 : Nat) ({ cls := "QuotaRegisterModel", name := "vessel", desc := "(II)V" } : Jvm.MethodName)) ∈ lw_tbl := tb_4 (List.mem_of_getElem? (i := 108) rfl)
theorem mw_4_109 : (Cond.instanceMethod ({ cls := "QuotaRegisterModel", name := "vessel", desc := "(II)V" } : Jvm.MethodName)) ∈ lw_tbl := tb_4 (List.mem_of_getElem? (i := 109) rfl)
theorem mw_4_110 : (Cond.selects "QuotaRegisterModel" ({ cls := "QuotaRegisterModel", name := "vessel", desc := "(II)V" } : Jvm.MethodName) ({ cls := "QuotaRegisterModel", name := "vessel", desc := "(II)V" } : Jvm.MethodName)) ∈ lw_tbl := tb_4 (List.mem_of_getElem? (i := 110) rfl)
theorem ml_L_105 : ax_lvr RL 105 M_X4_vessel 2 4 := ⟨mw_4_108, mw_4_109, mw_4_110, mw_1_6, mw_4_111, rfl, ⟨by decide +kernel, by decide +kernel⟩, by decide +kernel, by decide, (RX4, TX4, 31), rfl, rfl⟩
theorem mw_4_112 : (Cond.methodLink "QuotaRegisterModel" (134 : Nat) ({ cls := "QuotaRegisterModel", name := "isOne", desc := "(I)Z" } : Jvm.MethodName)) ∈ lw_tbl := tb_4 (List.mem_of_getElem? (i := 112) rfl)
theorem mw_4_113 : (Cond.static ({ cls := "QuotaRegisterModel", name := "isOne", desc := "(I)Z" } : Jvm.MethodName)) ∈ lw_tbl := tb_4 (List.mem_of_getElem? (i := 113) rfl)
theorem ml_X4_134 : ax_lks RX4 134 M_X4_isOne 1 := ⟨mw_4_112, mw_4_113, mw_1_6, mw_4_114, ⟨by decide +kernel, by decide +kernel⟩, by decide +kernel, by decide⟩
theorem mw_4_116 : (Cond.methodLink "QuotaRegisterLaw" (108 : Nat) ({ cls := "QuotaRegisterModel", name := "link", desc := "(II)V" } : Jvm.MethodName)) ∈ lw_tbl := tb_4 (List.mem_of_getElem? (i := 116) rfl)
theorem mw_4_117 : (Cond.instanceMethod ({ cls := "QuotaRegisterModel", name := "link", desc := "(II)V" } : Jvm.MethodName)) ∈ lw_tbl := tb_4 (List.mem_of_getElem? (i := 117) rfl)
theorem mw_4_118 : (Cond.selects "QuotaRegisterModel" ({ cls := "QuotaRegisterModel", name := "link", desc := "(II)V" } : Jvm.MethodName) ({ cls := "QuotaRegisterModel", name := "link", desc := "(II)V" } : Jvm.MethodName)) ∈ lw_tbl := tb_4 (List.mem_of_getElem? (i := 118) rfl)
theorem ml_L_108 : ax_lvr RL 108 M_X4_link 2 4 := ⟨mw_4_116, mw_4_117, mw_4_118, mw_1_6, mw_4_119, rfl, ⟨by decide +kernel, by decide +kernel⟩, by decide +kernel, by decide, (RX4, TX4, 31), rfl, rfl⟩
theorem mw_4_120 : (Cond.methodLink "QuotaRegisterModel" (137 : Nat) ({ cls := "QuotaRegisterModel", name := "setLink", desc := "(IIZ)V" } : Jvm.MethodName)) ∈ lw_tbl := tb_4 (List.mem_of_getElem? (i := 120) rfl)
theorem mw_4_122 : (Cond.instanceMethod ({ cls := "QuotaRegisterModel", name := "setLink", desc := "(IIZ)V" } : Jvm.MethodName)) ∈ lw_tbl := tb_4 (List.mem_of_getElem? (i := 122) rfl)
theorem sp_X4_setLink : Cond.selects "QuotaRegisterModel" ⟨"QuotaRegisterModel", "setLink", "(IIZ)V"⟩ ⟨"QuotaRegisterModel", "setLink", "(IIZ)V"⟩ ∈ lw_tbl := List.mem_append_left _ (List.mem_of_getElem? (i := 15) rfl)
theorem ml_X4_137 : ax_lvr RX4 137 M_X4_setLink 3 4 := ⟨mw_4_120, mw_4_122, sp_X4_setLink, mw_1_6, mw_4_123, rfl, ⟨by decide +kernel, by decide +kernel⟩, by decide +kernel, by decide, (RX4, TX4, 31), rfl, rfl⟩
theorem mw_4_124 : (Cond.methodLink "QuotaRegisterLaw" (111 : Nat) ({ cls := "QuotaRegisterModel", name := "unlink", desc := "(II)V" } : Jvm.MethodName)) ∈ lw_tbl := tb_4 (List.mem_of_getElem? (i := 124) rfl)
theorem mw_4_125 : (Cond.instanceMethod ({ cls := "QuotaRegisterModel", name := "unlink", desc := "(II)V" } : Jvm.MethodName)) ∈ lw_tbl := tb_4 (List.mem_of_getElem? (i := 125) rfl)
theorem mw_4_126 : (Cond.selects "QuotaRegisterModel" ({ cls := "QuotaRegisterModel", name := "unlink", desc := "(II)V" } : Jvm.MethodName) ({ cls := "QuotaRegisterModel", name := "unlink", desc := "(II)V" } : Jvm.MethodName)) ∈ lw_tbl := tb_4 (List.mem_of_getElem? (i := 126) rfl)
theorem ml_L_111 : ax_lvr RL 111 M_X4_unlink 2 4 := ⟨mw_4_124, mw_4_125, mw_4_126, mw_1_6, mw_4_127, rfl, ⟨by decide +kernel, by decide +kernel⟩, by decide +kernel, by decide, (RX4, TX4, 31), rfl, rfl⟩
theorem mw_4_128 : (Cond.methodLink "QuotaRegisterLaw" (115 : Nat) ({ cls := "QuotaRegisterModel", name := "issue", desc := "(III)I" } : Jvm.MethodName)) ∈ lw_tbl := tb_4 (List.mem_of_getElem? (i := 128) rfl)
theorem mw_4_129 : (Cond.instanceMethod ({ cls := "QuotaRegisterModel", name := "issue", desc := "(III)I" } : Jvm.MethodName)) ∈ lw_tbl := tb_4 (List.mem_of_getElem? (i := 129) rfl)
theorem mw_4_130 : (Cond.selects "QuotaRegisterModel" ({ cls := "QuotaRegisterModel", name := "issue", desc := "(III)I" } : Jvm.MethodName) ({ cls := "QuotaRegisterModel", name := "issue", desc := "(III)I" } : Jvm.MethodName)) ∈ lw_tbl := tb_4 (List.mem_of_getElem? (i := 130) rfl)
theorem ml_L_115 : ax_lvr RL 115 M_X4_issue 3 4 := ⟨mw_4_128, mw_4_129, mw_4_130, mw_1_6, mw_4_131, rfl, ⟨by decide +kernel, by decide +kernel⟩, by decide +kernel, by decide, (RX4, TX4, 31), rfl, rfl⟩
theorem mw_4_132 : (Cond.methodLink "QuotaRegisterLaw" (119 : Nat) ({ cls := "QuotaRegisterModel", name := "sell", desc := "(IIII)V" } : Jvm.MethodName)) ∈ lw_tbl := tb_4 (List.mem_of_getElem? (i := 132) rfl)
theorem mw_4_133 : (Cond.instanceMethod ({ cls := "QuotaRegisterModel", name := "sell", desc := "(IIII)V" } : Jvm.MethodName)) ∈ lw_tbl := tb_4 (List.mem_of_getElem? (i := 133) rfl)
theorem mw_4_134 : (Cond.selects "QuotaRegisterModel" ({ cls := "QuotaRegisterModel", name := "sell", desc := "(IIII)V" } : Jvm.MethodName) ({ cls := "QuotaRegisterModel", name := "sell", desc := "(IIII)V" } : Jvm.MethodName)) ∈ lw_tbl := tb_4 (List.mem_of_getElem? (i := 134) rfl)
theorem ml_L_119 : ax_lvr RL 119 M_X4_sell 4 4 := ⟨mw_4_132, mw_4_133, mw_4_134, mw_1_6, mw_4_135, rfl, ⟨by decide +kernel, by decide +kernel⟩, by decide +kernel, by decide, (RX4, TX4, 31), rfl, rfl⟩
theorem mw_4_136 : (Cond.methodLink "QuotaRegisterModel" (144 : Nat) ({ cls := "QuotaRegisterModel", name := "free", desc := "(II)I" } : Jvm.MethodName)) ∈ lw_tbl := tb_4 (List.mem_of_getElem? (i := 136) rfl)
theorem mw_4_138 : (Cond.instanceMethod ({ cls := "QuotaRegisterModel", name := "free", desc := "(II)I" } : Jvm.MethodName)) ∈ lw_tbl := tb_4 (List.mem_of_getElem? (i := 138) rfl)
theorem sp_X4_free : Cond.selects "QuotaRegisterModel" ⟨"QuotaRegisterModel", "free", "(II)I"⟩ ⟨"QuotaRegisterModel", "free", "(II)I"⟩ ∈ lw_tbl := List.mem_append_left _ (List.mem_of_getElem? (i := 16) rfl)
theorem ml_X4_144 : ax_lvr RX4 144 M_X4_free 2 4 := ⟨mw_4_136, mw_4_138, sp_X4_free, mw_1_6, mw_4_139, rfl, ⟨by decide +kernel, by decide +kernel⟩, by decide +kernel, by decide, (RX4, TX4, 31), rfl, rfl⟩
theorem mw_4_140 : (Cond.methodLink "QuotaRegisterLaw" (122 : Nat) ({ cls := "QuotaRegisterModel", name := "place", desc := "(III)I" } : Jvm.MethodName)) ∈ lw_tbl := tb_4 (List.mem_of_getElem? (i := 140) rfl)
theorem mw_4_141 : (Cond.instanceMethod ({ cls := "QuotaRegisterModel", name := "place", desc := "(III)I" } : Jvm.MethodName)) ∈ lw_tbl := tb_4 (List.mem_of_getElem? (i := 141) rfl)
theorem mw_4_142 : (Cond.selects "QuotaRegisterModel" ({ cls := "QuotaRegisterModel", name := "place", desc := "(III)I" } : Jvm.MethodName) ({ cls := "QuotaRegisterModel", name := "place", desc := "(III)I" } : Jvm.MethodName)) ∈ lw_tbl := tb_4 (List.mem_of_getElem? (i := 142) rfl)
theorem ml_L_122 : ax_lvr RL 122 M_X4_place 3 4 := ⟨mw_4_140, mw_4_141, mw_4_142, mw_1_6, mw_4_143, rfl, ⟨by decide +kernel, by decide +kernel⟩, by decide +kernel, by decide, (RX4, TX4, 31), rfl, rfl⟩
theorem mw_4_144 : (Cond.methodLink "QuotaRegisterLaw" (126 : Nat) ({ cls := "QuotaRegisterModel", name := "open", desc := "(IIII)I" } : Jvm.MethodName)) ∈ lw_tbl := tb_4 (List.mem_of_getElem? (i := 144) rfl)
theorem mw_4_145 : (Cond.instanceMethod ({ cls := "QuotaRegisterModel", name := "open", desc := "(IIII)I" } : Jvm.MethodName)) ∈ lw_tbl := tb_4 (List.mem_of_getElem? (i := 145) rfl)
theorem mw_4_146 : (Cond.selects "QuotaRegisterModel" ({ cls := "QuotaRegisterModel", name := "open", desc := "(IIII)I" } : Jvm.MethodName) ({ cls := "QuotaRegisterModel", name := "open", desc := "(IIII)I" } : Jvm.MethodName)) ∈ lw_tbl := tb_4 (List.mem_of_getElem? (i := 146) rfl)
theorem ml_L_126 : ax_lvr RL 126 M_X4_open 4 4 := ⟨mw_4_144, mw_4_145, mw_4_146, mw_1_6, mw_4_147, rfl, ⟨by decide +kernel, by decide +kernel⟩, by decide +kernel, by decide, (RX4, TX4, 31), rfl, rfl⟩
theorem mw_4_148 : (Cond.methodLink "QuotaRegisterModel" (180 : Nat) ({ cls := "QuotaRegisterModel", name := "allot", desc := "(III)V" } : Jvm.MethodName)) ∈ lw_tbl := tb_4 (List.mem_of_getElem? (i := 148) rfl)
theorem mw_4_150 : (Cond.instanceMethod ({ cls := "QuotaRegisterModel", name := "allot", desc := "(III)V" } : Jvm.MethodName)) ∈ lw_tbl := tb_4 (List.mem_of_getElem? (i := 150) rfl)
theorem sp_X4_allot : Cond.selects "QuotaRegisterModel" ⟨"QuotaRegisterModel", "allot", "(III)V"⟩ ⟨"QuotaRegisterModel", "allot", "(III)V"⟩ ∈ lw_tbl := List.mem_append_left _ (List.mem_of_getElem? (i := 17) rfl)
theorem ml_X4_180 : ax_lvr RX4 180 M_X4_allot 3 4 := ⟨mw_4_148, mw_4_150, sp_X4_allot, mw_1_6, mw_4_151, rfl, ⟨by decide +kernel, by decide +kernel⟩, by decide +kernel, by decide, (RX4, TX4, 31), rfl, rfl⟩
theorem mw_4_152 : (Cond.methodLink "QuotaRegisterModel" (147 : Nat) ({ cls := "QuotaRegisterModel", name := "at", desc := "(III)I" } : Jvm.MethodName)) ∈ lw_tbl := tb_4 (List.mem_of_getElem? (i := 152) rfl)
theorem mw_4_153 : (Cond.static ({ cls := "QuotaRegisterModel", name := "at", desc := "(III)I" } : Jvm.MethodName)) ∈ lw_tbl := tb_4 (List.mem_of_getElem? (i := 153) rfl)
theorem ml_X4_147 : ax_lks RX4 147 M_X4_at 3 := ⟨mw_4_152, mw_4_153, mw_1_6, mw_4_154, ⟨by decide +kernel, by decide +kernel⟩, by decide +kernel, by decide⟩
theorem mw_4_156 : (Cond.methodLink "QuotaRegisterModel" (184 : Nat) ({ cls := "QuotaRegisterModel", name := "work", desc := "()V" } : Jvm.MethodName)) ∈ lw_tbl := tb_4 (List.mem_of_getElem? (i := 156) rfl)
theorem mw_4_158 : (Cond.instanceMethod ({ cls := "QuotaRegisterModel", name := "work", desc := "()V" } : Jvm.MethodName)) ∈ lw_tbl := tb_4 (List.mem_of_getElem? (i := 158) rfl)
theorem sp_X4_work : Cond.selects "QuotaRegisterModel" ⟨"QuotaRegisterModel", "work", "()V"⟩ ⟨"QuotaRegisterModel", "work", "()V"⟩ ∈ lw_tbl := List.mem_append_left _ (List.mem_of_getElem? (i := 18) rfl)
theorem ml_X4_184 : ax_lvr RX4 184 M_X4_work 0 4 := ⟨mw_4_156, mw_4_158, sp_X4_work, mw_1_6, mw_4_159, rfl, ⟨by decide +kernel, by decide +kernel⟩, by decide +kernel, by decide, (RX4, TX4, 31), rfl, rfl⟩
theorem mw_4_160 : (Cond.methodLink "QuotaRegisterModel" (167 : Nat) ({ cls := "QuotaRegisterModel", name := "may", desc := "(I)Z" } : Jvm.MethodName)) ∈ lw_tbl := tb_4 (List.mem_of_getElem? (i := 160) rfl)
theorem mw_4_162 : (Cond.instanceMethod ({ cls := "QuotaRegisterModel", name := "may", desc := "(I)Z" } : Jvm.MethodName)) ∈ lw_tbl := tb_4 (List.mem_of_getElem? (i := 162) rfl)
theorem sp_X4_may : Cond.selects "QuotaRegisterModel" ⟨"QuotaRegisterModel", "may", "(I)Z"⟩ ⟨"QuotaRegisterModel", "may", "(I)Z"⟩ ∈ lw_tbl := List.mem_append_left _ (List.mem_of_getElem? (i := 19) rfl)
theorem ml_X4_167 : ax_lvr RX4 167 M_X4_may 1 4 := ⟨mw_4_160, mw_4_162, sp_X4_may, mw_1_6, mw_4_163, rfl, ⟨by decide +kernel, by decide +kernel⟩, by decide +kernel, by decide, (RX4, TX4, 31), rfl, rfl⟩
theorem mw_4_164 : (Cond.methodLink "QuotaRegisterModel" (153 : Nat) ({ cls := "QuotaRegisterModel", name := "left", desc := "(I)I" } : Jvm.MethodName)) ∈ lw_tbl := tb_4 (List.mem_of_getElem? (i := 164) rfl)
theorem mw_4_166 : (Cond.instanceMethod ({ cls := "QuotaRegisterModel", name := "left", desc := "(I)I" } : Jvm.MethodName)) ∈ lw_tbl := tb_4 (List.mem_of_getElem? (i := 166) rfl)
theorem sp_X4_left : Cond.selects "QuotaRegisterModel" ⟨"QuotaRegisterModel", "left", "(I)I"⟩ ⟨"QuotaRegisterModel", "left", "(I)I"⟩ ∈ lw_tbl := List.mem_append_left _ (List.mem_of_getElem? (i := 20) rfl)
theorem ml_X4_153 : ax_lvr RX4 153 M_X4_left 1 4 := ⟨mw_4_164, mw_4_166, sp_X4_left, mw_1_6, mw_4_167, rfl, ⟨by decide +kernel, by decide +kernel⟩, by decide +kernel, by decide, (RX4, TX4, 31), rfl, rfl⟩
theorem mw_4_168 : (Cond.methodLink "QuotaRegisterModel" (157 : Nat) ({ cls := "QuotaRegisterModel", name := "moved", desc := "(III)I" } : Jvm.MethodName)) ∈ lw_tbl := tb_4 (List.mem_of_getElem? (i := 168) rfl)
theorem mw_4_170 : (Cond.instanceMethod ({ cls := "QuotaRegisterModel", name := "moved", desc := "(III)I" } : Jvm.MethodName)) ∈ lw_tbl := tb_4 (List.mem_of_getElem? (i := 170) rfl)
theorem sp_X4_moved : Cond.selects "QuotaRegisterModel" ⟨"QuotaRegisterModel", "moved", "(III)I"⟩ ⟨"QuotaRegisterModel", "moved", "(III)I"⟩ ∈ lw_tbl := List.mem_append_left _ (List.mem_of_getElem? (i := 21) rfl)
theorem ml_X4_157 : ax_lvr RX4 157 M_X4_moved 3 4 := ⟨mw_4_168, mw_4_170, sp_X4_moved, mw_1_6, mw_4_171, rfl, ⟨by decide +kernel, by decide +kernel⟩, by decide +kernel, by decide, (RX4, TX4, 31), rfl, rfl⟩
theorem mw_4_172 : (Cond.methodLink "QuotaRegisterModel" (170 : Nat) ({ cls := "QuotaRegisterModel", name := "act", desc := "(I)V" } : Jvm.MethodName)) ∈ lw_tbl := tb_4 (List.mem_of_getElem? (i := 172) rfl)
theorem mw_4_174 : (Cond.instanceMethod ({ cls := "QuotaRegisterModel", name := "act", desc := "(I)V" } : Jvm.MethodName)) ∈ lw_tbl := tb_4 (List.mem_of_getElem? (i := 174) rfl)
theorem sp_X4_act : Cond.selects "QuotaRegisterModel" ⟨"QuotaRegisterModel", "act", "(I)V"⟩ ⟨"QuotaRegisterModel", "act", "(I)V"⟩ ∈ lw_tbl := List.mem_append_left _ (List.mem_of_getElem? (i := 22) rfl)
theorem ml_X4_170 : ax_lvr RX4 170 M_X4_act 1 4 := ⟨mw_4_172, mw_4_174, sp_X4_act, mw_1_6, mw_4_175, rfl, ⟨by decide +kernel, by decide +kernel⟩, by decide +kernel, by decide, (RX4, TX4, 31), rfl, rfl⟩
theorem mw_4_176 : (Cond.methodLink "QuotaRegisterModel" (177 : Nat) ({ cls := "QuotaRegisterModel", name := "close", desc := "(I)V" } : Jvm.MethodName)) ∈ lw_tbl := tb_4 (List.mem_of_getElem? (i := 176) rfl)
theorem mw_4_178 : (Cond.instanceMethod ({ cls := "QuotaRegisterModel", name := "close", desc := "(I)V" } : Jvm.MethodName)) ∈ lw_tbl := tb_4 (List.mem_of_getElem? (i := 178) rfl)
theorem sp_X4_close : Cond.selects "QuotaRegisterModel" ⟨"QuotaRegisterModel", "close", "(I)V"⟩ ⟨"QuotaRegisterModel", "close", "(I)V"⟩ ∈ lw_tbl := List.mem_append_left _ (List.mem_of_getElem? (i := 23) rfl)
theorem ml_X4_177 : ax_lvr RX4 177 M_X4_close 1 4 := ⟨mw_4_176, mw_4_178, sp_X4_close, mw_1_6, mw_4_179, rfl, ⟨by decide +kernel, by decide +kernel⟩, by decide +kernel, by decide, (RX4, TX4, 31), rfl, rfl⟩
theorem mw_4_182 : (Cond.methodLink "QuotaRegisterLaw" (130 : Nat) ({ cls := "QuotaRegisterModel", name := "end", desc := "()I" } : Jvm.MethodName)) ∈ lw_tbl := tb_4 (List.mem_of_getElem? (i := 182) rfl)
theorem mw_4_183 : (Cond.instanceMethod ({ cls := "QuotaRegisterModel", name := "end", desc := "()I" } : Jvm.MethodName)) ∈ lw_tbl := tb_4 (List.mem_of_getElem? (i := 183) rfl)
theorem mw_4_184 : (Cond.selects "QuotaRegisterModel" ({ cls := "QuotaRegisterModel", name := "end", desc := "()I" } : Jvm.MethodName) ({ cls := "QuotaRegisterModel", name := "end", desc := "()I" } : Jvm.MethodName)) ∈ lw_tbl := tb_4 (List.mem_of_getElem? (i := 184) rfl)
theorem ml_L_130 : ax_lvr RL 130 M_X4_end 0 4 := ⟨mw_4_182, mw_4_183, mw_4_184, mw_1_6, mw_4_185, rfl, ⟨by decide +kernel, by decide +kernel⟩, by decide +kernel, by decide, (RX4, TX4, 31), rfl, rfl⟩
theorem mw_4_186 : (Cond.methodLink "QuotaRegisterLaw" (133 : Nat) ({ cls := "QuotaRegisterModel", name := "lease", desc := "(IIII)I" } : Jvm.MethodName)) ∈ lw_tbl := tb_4 (List.mem_of_getElem? (i := 186) rfl)
theorem mw_4_187 : (Cond.instanceMethod ({ cls := "QuotaRegisterModel", name := "lease", desc := "(IIII)I" } : Jvm.MethodName)) ∈ lw_tbl := tb_4 (List.mem_of_getElem? (i := 187) rfl)
theorem mw_4_188 : (Cond.selects "QuotaRegisterModel" ({ cls := "QuotaRegisterModel", name := "lease", desc := "(IIII)I" } : Jvm.MethodName) ({ cls := "QuotaRegisterModel", name := "lease", desc := "(IIII)I" } : Jvm.MethodName)) ∈ lw_tbl := tb_4 (List.mem_of_getElem? (i := 188) rfl)
theorem ml_L_133 : ax_lvr RL 133 M_X4_lease 4 4 := ⟨mw_4_186, mw_4_187, mw_4_188, mw_1_6, mw_4_189, rfl, ⟨by decide +kernel, by decide +kernel⟩, by decide +kernel, by decide, (RX4, TX4, 31), rfl, rfl⟩
theorem mw_4_190 : (Cond.methodLink "QuotaRegisterModel" (187 : Nat) ({ cls := "QuotaRegisterModel", name := "tell", desc := "(IIIIIII)V" } : Jvm.MethodName)) ∈ lw_tbl := tb_4 (List.mem_of_getElem? (i := 190) rfl)
theorem mw_4_192 : (Cond.instanceMethod ({ cls := "QuotaRegisterModel", name := "tell", desc := "(IIIIIII)V" } : Jvm.MethodName)) ∈ lw_tbl := tb_4 (List.mem_of_getElem? (i := 192) rfl)
theorem sp_X4_tell : Cond.selects "QuotaRegisterModel" ⟨"QuotaRegisterModel", "tell", "(IIIIIII)V"⟩ ⟨"QuotaRegisterModel", "tell", "(IIIIIII)V"⟩ ∈ lw_tbl := List.mem_append_left _ (List.mem_of_getElem? (i := 24) rfl)
theorem ml_X4_187 : ax_lvr RX4 187 M_X4_tell 7 4 := ⟨mw_4_190, mw_4_192, sp_X4_tell, mw_1_6, mw_4_193, rfl, ⟨by decide +kernel, by decide +kernel⟩, by decide +kernel, by decide, (RX4, TX4, 31), rfl, rfl⟩
theorem mw_4_194 : (Cond.methodLink "QuotaRegisterModel" (191 : Nat) ({ cls := "QuotaRegisterModel", name := "put", desc := "()I" } : Jvm.MethodName)) ∈ lw_tbl := tb_4 (List.mem_of_getElem? (i := 194) rfl)
theorem mw_4_196 : (Cond.instanceMethod ({ cls := "QuotaRegisterModel", name := "put", desc := "()I" } : Jvm.MethodName)) ∈ lw_tbl := tb_4 (List.mem_of_getElem? (i := 196) rfl)
theorem sp_X4_put : Cond.selects "QuotaRegisterModel" ⟨"QuotaRegisterModel", "put", "()I"⟩ ⟨"QuotaRegisterModel", "put", "()I"⟩ ∈ lw_tbl := List.mem_append_left _ (List.mem_of_getElem? (i := 25) rfl)
theorem ml_X4_191 : ax_lvr RX4 191 M_X4_put 0 4 := ⟨mw_4_194, mw_4_196, sp_X4_put, mw_1_6, mw_4_197, rfl, ⟨by decide +kernel, by decide +kernel⟩, by decide +kernel, by decide, (RX4, TX4, 31), rfl, rfl⟩
theorem mw_4_198 : (Cond.methodLink "QuotaRegisterLaw" (137 : Nat) ({ cls := "QuotaRegisterModel", name := "land", desc := "(IIIIIZ)I" } : Jvm.MethodName)) ∈ lw_tbl := tb_4 (List.mem_of_getElem? (i := 198) rfl)
theorem mw_4_199 : (Cond.instanceMethod ({ cls := "QuotaRegisterModel", name := "land", desc := "(IIIIIZ)I" } : Jvm.MethodName)) ∈ lw_tbl := tb_4 (List.mem_of_getElem? (i := 199) rfl)
theorem mw_4_200 : (Cond.selects "QuotaRegisterModel" ({ cls := "QuotaRegisterModel", name := "land", desc := "(IIIIIZ)I" } : Jvm.MethodName) ({ cls := "QuotaRegisterModel", name := "land", desc := "(IIIIIZ)I" } : Jvm.MethodName)) ∈ lw_tbl := tb_4 (List.mem_of_getElem? (i := 200) rfl)
theorem ml_L_137 : ax_lvr RL 137 M_X4_land 6 4 := ⟨mw_4_198, mw_4_199, mw_4_200, mw_1_6, mw_4_201, rfl, ⟨by decide +kernel, by decide +kernel⟩, by decide +kernel, by decide, (RX4, TX4, 31), rfl, rfl⟩
theorem mw_4_202 : (Cond.methodLink "QuotaRegisterModel" (195 : Nat) ({ cls := "QuotaRegisterModel", name := "wasYear", desc := "(I)Z" } : Jvm.MethodName)) ∈ lw_tbl := tb_4 (List.mem_of_getElem? (i := 202) rfl)
theorem mw_4_204 : (Cond.instanceMethod ({ cls := "QuotaRegisterModel", name := "wasYear", desc := "(I)Z" } : Jvm.MethodName)) ∈ lw_tbl := tb_4 (List.mem_of_getElem? (i := 204) rfl)
theorem sp_X4_wasYear : Cond.selects "QuotaRegisterModel" ⟨"QuotaRegisterModel", "wasYear", "(I)Z"⟩ ⟨"QuotaRegisterModel", "wasYear", "(I)Z"⟩ ∈ lw_tbl := List.mem_append_left _ (List.mem_of_getElem? (i := 26) rfl)
theorem ml_X4_195 : ax_lvr RX4 195 M_X4_wasYear 1 4 := ⟨mw_4_202, mw_4_204, sp_X4_wasYear, mw_1_6, mw_4_205, rfl, ⟨by decide +kernel, by decide +kernel⟩, by decide +kernel, by decide, (RX4, TX4, 31), rfl, rfl⟩
theorem mw_4_206 : (Cond.methodLink "QuotaRegisterModel" (198 : Nat) ({ cls := "QuotaRegisterModel", name := "takes", desc := "(I)Z" } : Jvm.MethodName)) ∈ lw_tbl := tb_4 (List.mem_of_getElem? (i := 206) rfl)
theorem mw_4_208 : (Cond.instanceMethod ({ cls := "QuotaRegisterModel", name := "takes", desc := "(I)Z" } : Jvm.MethodName)) ∈ lw_tbl := tb_4 (List.mem_of_getElem? (i := 208) rfl)
theorem sp_X4_takes : Cond.selects "QuotaRegisterModel" ⟨"QuotaRegisterModel", "takes", "(I)Z"⟩ ⟨"QuotaRegisterModel", "takes", "(I)Z"⟩ ∈ lw_tbl := List.mem_append_left _ (List.mem_of_getElem? (i := 27) rfl)
theorem ml_X4_198 : ax_lvr RX4 198 M_X4_takes 1 4 := ⟨mw_4_206, mw_4_208, sp_X4_takes, mw_1_6, mw_4_209, rfl, ⟨by decide +kernel, by decide +kernel⟩, by decide +kernel, by decide, (RX4, TX4, 31), rfl, rfl⟩
theorem mw_4_211 : (Cond.methodLink "QuotaRegisterLaw" (140 : Nat) ({ cls := "QuotaRegisterModel", name := "equivalent", desc := "(IIII)I" } : Jvm.MethodName)) ∈ lw_tbl := tb_4 (List.mem_of_getElem? (i := 211) rfl)
theorem mw_4_212 : (Cond.instanceMethod ({ cls := "QuotaRegisterModel", name := "equivalent", desc := "(IIII)I" } : Jvm.MethodName)) ∈ lw_tbl := tb_4 (List.mem_of_getElem? (i := 212) rfl)
theorem mw_4_213 : (Cond.selects "QuotaRegisterModel" ({ cls := "QuotaRegisterModel", name := "equivalent", desc := "(IIII)I" } : Jvm.MethodName) ({ cls := "QuotaRegisterModel", name := "equivalent", desc := "(IIII)I" } : Jvm.MethodName)) ∈ lw_tbl := tb_4 (List.mem_of_getElem? (i := 213) rfl)
theorem ml_L_140 : ax_lvr RL 140 M_X4_equivalent 4 4 := ⟨mw_4_211, mw_4_212, mw_4_213, mw_1_6, mw_4_214, rfl, ⟨by decide +kernel, by decide +kernel⟩, by decide +kernel, by decide, (RX4, TX4, 31), rfl, rfl⟩
theorem mw_4_215 : (Cond.methodLink "QuotaRegisterLaw" (144 : Nat) ({ cls := "QuotaRegisterModel", name := "strike", desc := "(I)V" } : Jvm.MethodName)) ∈ lw_tbl := tb_4 (List.mem_of_getElem? (i := 215) rfl)
theorem mw_4_216 : (Cond.instanceMethod ({ cls := "QuotaRegisterModel", name := "strike", desc := "(I)V" } : Jvm.MethodName)) ∈ lw_tbl := tb_4 (List.mem_of_getElem? (i := 216) rfl)
theorem mw_4_217 : (Cond.selects "QuotaRegisterModel" ({ cls := "QuotaRegisterModel", name := "strike", desc := "(I)V" } : Jvm.MethodName) ({ cls := "QuotaRegisterModel", name := "strike", desc := "(I)V" } : Jvm.MethodName)) ∈ lw_tbl := tb_4 (List.mem_of_getElem? (i := 217) rfl)
theorem ml_L_144 : ax_lvr RL 144 M_X4_strike 1 4 := ⟨mw_4_215, mw_4_216, mw_4_217, mw_1_6, mw_4_218, rfl, ⟨by decide +kernel, by decide +kernel⟩, by decide +kernel, by decide, (RX4, TX4, 31), rfl, rfl⟩
theorem mw_4_219 : (Cond.methodLink "QuotaRegisterLaw" (147 : Nat) ({ cls := "QuotaRegisterModel", name := "reopen", desc := "(I)V" } : Jvm.MethodName)) ∈ lw_tbl := tb_4 (List.mem_of_getElem? (i := 219) rfl)
theorem mw_4_220 : (Cond.instanceMethod ({ cls := "QuotaRegisterModel", name := "reopen", desc := "(I)V" } : Jvm.MethodName)) ∈ lw_tbl := tb_4 (List.mem_of_getElem? (i := 220) rfl)
theorem mw_4_221 : (Cond.selects "QuotaRegisterModel" ({ cls := "QuotaRegisterModel", name := "reopen", desc := "(I)V" } : Jvm.MethodName) ({ cls := "QuotaRegisterModel", name := "reopen", desc := "(I)V" } : Jvm.MethodName)) ∈ lw_tbl := tb_4 (List.mem_of_getElem? (i := 221) rfl)
theorem ml_L_147 : ax_lvr RL 147 M_X4_reopen 1 4 := ⟨mw_4_219, mw_4_220, mw_4_221, mw_1_6, mw_4_222, rfl, ⟨by decide +kernel, by decide +kernel⟩, by decide +kernel, by decide, (RX4, TX4, 31), rfl, rfl⟩
theorem mw_4_223 : (Cond.methodLink "QuotaRegisterLaw" (150 : Nat) ({ cls := "QuotaRegisterModel", name := "account", desc := "(IIII)I" } : Jvm.MethodName)) ∈ lw_tbl := tb_4 (List.mem_of_getElem? (i := 223) rfl)
theorem mw_4_224 : (Cond.instanceMethod ({ cls := "QuotaRegisterModel", name := "account", desc := "(IIII)I" } : Jvm.MethodName)) ∈ lw_tbl := tb_4 (List.mem_of_getElem? (i := 224) rfl)
theorem mw_4_225 : (Cond.selects "QuotaRegisterModel" ({ cls := "QuotaRegisterModel", name := "account", desc := "(IIII)I" } : Jvm.MethodName) ({ cls := "QuotaRegisterModel", name := "account", desc := "(IIII)I" } : Jvm.MethodName)) ∈ lw_tbl := tb_4 (List.mem_of_getElem? (i := 225) rfl)
theorem ml_L_150 : ax_lvr RL 150 M_X4_account 4 4 := ⟨mw_4_223, mw_4_224, mw_4_225, mw_1_6, mw_4_226, rfl, ⟨by decide +kernel, by decide +kernel⟩, by decide +kernel, by decide, (RX4, TX4, 31), rfl, rfl⟩
theorem mw_4_228 : (Cond.methodLink "QuotaRegisterLaw" (154 : Nat) ({ cls := "QuotaRegisterModel", name := "levy", desc := "(II)J" } : Jvm.MethodName)) ∈ lw_tbl := tb_4 (List.mem_of_getElem? (i := 228) rfl)
theorem mw_4_229 : (Cond.instanceMethod ({ cls := "QuotaRegisterModel", name := "levy", desc := "(II)J" } : Jvm.MethodName)) ∈ lw_tbl := tb_4 (List.mem_of_getElem? (i := 229) rfl)
theorem mw_4_230 : (Cond.selects "QuotaRegisterModel" ({ cls := "QuotaRegisterModel", name := "levy", desc := "(II)J" } : Jvm.MethodName) ({ cls := "QuotaRegisterModel", name := "levy", desc := "(II)J" } : Jvm.MethodName)) ∈ lw_tbl := tb_4 (List.mem_of_getElem? (i := 230) rfl)
theorem ml_L_154 : ax_lvr RL 154 M_X4_levy 2 4 := ⟨mw_4_228, mw_4_229, mw_4_230, mw_1_6, mw_4_231, rfl, ⟨by decide +kernel, by decide +kernel⟩, by decide +kernel, by decide, (RX4, TX4, 31), rfl, rfl⟩
theorem mw_4_232 : (Cond.methodLink "QuotaRegisterLaw" (157 : Nat) ({ cls := "QuotaRegisterModel", name := "held", desc := "(III)I" } : Jvm.MethodName)) ∈ lw_tbl := tb_4 (List.mem_of_getElem? (i := 232) rfl)
theorem mw_4_233 : (Cond.instanceMethod ({ cls := "QuotaRegisterModel", name := "held", desc := "(III)I" } : Jvm.MethodName)) ∈ lw_tbl := tb_4 (List.mem_of_getElem? (i := 233) rfl)
theorem mw_4_234 : (Cond.selects "QuotaRegisterModel" ({ cls := "QuotaRegisterModel", name := "held", desc := "(III)I" } : Jvm.MethodName) ({ cls := "QuotaRegisterModel", name := "held", desc := "(III)I" } : Jvm.MethodName)) ∈ lw_tbl := tb_4 (List.mem_of_getElem? (i := 234) rfl)
theorem ml_L_157 : ax_lvr RL 157 M_X4_held 3 4 := ⟨mw_4_232, mw_4_233, mw_4_234, mw_1_6, mw_4_235, rfl, ⟨by decide +kernel, by decide +kernel⟩, by decide +kernel, by decide, (RX4, TX4, 31), rfl, rfl⟩
theorem mw_4_236 : (Cond.methodLink "QuotaRegisterLaw" (160 : Nat) ({ cls := "QuotaRegisterModel", name := "event", desc := "(II)I" } : Jvm.MethodName)) ∈ lw_tbl := tb_4 (List.mem_of_getElem? (i := 236) rfl)
theorem mw_4_237 : (Cond.instanceMethod ({ cls := "QuotaRegisterModel", name := "event", desc := "(II)I" } : Jvm.MethodName)) ∈ lw_tbl := tb_4 (List.mem_of_getElem? (i := 237) rfl)
theorem mw_4_238 : (Cond.selects "QuotaRegisterModel" ({ cls := "QuotaRegisterModel", name := "event", desc := "(II)I" } : Jvm.MethodName) ({ cls := "QuotaRegisterModel", name := "event", desc := "(II)I" } : Jvm.MethodName)) ∈ lw_tbl := tb_4 (List.mem_of_getElem? (i := 238) rfl)
theorem ml_L_160 : ax_lvr RL 160 M_X4_event 2 4 := ⟨mw_4_236, mw_4_237, mw_4_238, mw_1_6, mw_4_239, rfl, ⟨by decide +kernel, by decide +kernel⟩, by decide +kernel, by decide, (RX4, TX4, 31), rfl, rfl⟩
theorem mw_5_0 : (Cond.methodLink "QuotaRegisterLaw" (164 : Nat) ({ cls := "QuotaRegisterModel", name := "about", desc := "(I)I" } : Jvm.MethodName)) ∈ lw_tbl := tb_5 (List.mem_of_getElem? (i := 0) rfl)
theorem mw_5_1 : (Cond.instanceMethod ({ cls := "QuotaRegisterModel", name := "about", desc := "(I)I" } : Jvm.MethodName)) ∈ lw_tbl := tb_5 (List.mem_of_getElem? (i := 1) rfl)
theorem mw_5_2 : (Cond.selects "QuotaRegisterModel" ({ cls := "QuotaRegisterModel", name := "about", desc := "(I)I" } : Jvm.MethodName) ({ cls := "QuotaRegisterModel", name := "about", desc := "(I)I" } : Jvm.MethodName)) ∈ lw_tbl := tb_5 (List.mem_of_getElem? (i := 2) rfl)
theorem ml_L_164 : ax_lvr RL 164 M_X4_about 1 4 := ⟨mw_5_0, mw_5_1, mw_5_2, mw_1_6, mw_5_3, rfl, ⟨by decide +kernel, by decide +kernel⟩, by decide +kernel, by decide, (RX4, TX4, 31), rfl, rfl⟩
theorem mw_1_20 : (Cond.instanceMethod ({ cls := "java/lang/Object", name := "<init>", desc := "()V" } : Jvm.MethodName)) ∈ lw_tbl := tb_1 (List.mem_of_getElem? (i := 20) rfl)
theorem oi_im : Cond.instanceMethod objectInit ∈ lw_tbl := mw_1_20
theorem mw_1_21 : (Cond.code ({ cls := "java/lang/Object", name := "<init>", desc := "()V" } : Jvm.MethodName) object_method_1_code (1 : Nat) (Option.none : Option FieldType)) ∈ lw_tbl := tb_1 (List.mem_of_getElem? (i := 21) rfl)
theorem oi_cd : Cond.code objectInit ⟨#[0xb1]⟩ 1 none ∈ lw_tbl := mw_1_21
theorem mw_1_15 : (Cond.instantiable "QuotaRegister" (8 : Nat)) ∈ lw_tbl := tb_1 (List.mem_of_getElem? (i := 15) rfl)
abbrev fs0_X3 : List Value := [.null, .null, .null, .null, .null, .null, .int 0, .int 0]
theorem mw_1_14 : (Cond.classLink "QuotaRegisterLaw" (8 : Nat) "QuotaRegister") ∈ lw_tbl := tb_1 (List.mem_of_getElem? (i := 14) rfl)
theorem nw_L_8 : ax_nw RL 8 3 8 fs0_X3 := ⟨RX3, TX3, tyX3, rfl, uw_X3, tyX3_ok, mw_1_14, mw_1_15, mw_1_1, by decide +kernel, fun _ => rfl, fun _ => by simp [fs0_X3, ax_sok, ax_vok]⟩
theorem mw_1_23 : (Cond.instantiable "QuotaRegister$Shares" (5 : Nat)) ∈ lw_tbl := tb_1 (List.mem_of_getElem? (i := 23) rfl)
abbrev fs0_X2 : List Value := [.null, .null, .null, .null, .null]
theorem mw_1_22 : (Cond.classLink "QuotaRegister" (16 : Nat) "QuotaRegister$Shares") ∈ lw_tbl := tb_1 (List.mem_of_getElem? (i := 22) rfl)
theorem nw_X3_16 : ax_nw RX3 16 2 5 fs0_X2 := ⟨RX2, TX2, tyX2, rfl, uw_X2, tyX2_ok, mw_1_22, mw_1_23, mw_1_2, by decide +kernel, fun _ => rfl, fun _ => by simp [fs0_X2, ax_sok, ax_vok]⟩
theorem mw_1_28 : (Cond.constant "QuotaRegister$Shares" (27 : Nat) (1000000 : Int32)) ∈ lw_tbl := tb_1 (List.mem_of_getElem? (i := 28) rfl)
theorem ci_X2_27 : Cond.constant RX2 27 (1000000) ∈ lw_tbl := mw_1_28
theorem mw_1_48 : (Cond.arrayClass FieldType.int) ∈ lw_tbl := tb_1 (List.mem_of_getElem? (i := 48) rfl)
theorem aw_int : Cond.arrayClass .int ∈ lw_tbl := mw_1_48
theorem mw_1_50 : (Cond.instantiable "QuotaRegister$Accounts" (10 : Nat)) ∈ lw_tbl := tb_1 (List.mem_of_getElem? (i := 50) rfl)
abbrev fs0_X0 : List Value := [.null, .null, .null, .null, .null, .null, .null, .null, .null, .null]
theorem mw_1_49 : (Cond.classLink "QuotaRegister" (23 : Nat) "QuotaRegister$Accounts") ∈ lw_tbl := tb_1 (List.mem_of_getElem? (i := 49) rfl)
theorem nw_X3_23 : ax_nw RX3 23 0 10 fs0_X0 := ⟨RX0, TX0, tyX0, rfl, uw_X0, tyX0_ok, mw_1_49, mw_1_50, mw_1_4, by decide +kernel, fun _ => rfl, fun _ => by simp [fs0_X0, ax_sok, ax_vok]⟩
theorem mw_1_87 : (Cond.instantiable "QuotaRegister$Events" (10 : Nat)) ∈ lw_tbl := tb_1 (List.mem_of_getElem? (i := 87) rfl)
abbrev fs0_X1 : List Value := [.null, .null, .null, .null, .null, .null, .null, .null, .null, .int 0]
theorem mw_1_86 : (Cond.classLink "QuotaRegister" (30 : Nat) "QuotaRegister$Events") ∈ lw_tbl := tb_1 (List.mem_of_getElem? (i := 86) rfl)
theorem nw_X3_30 : ax_nw RX3 30 1 10 fs0_X1 := ⟨RX1, TX1, tyX1, rfl, uw_X1, tyX1_ok, mw_1_86, mw_1_87, mw_1_5, by decide +kernel, fun _ => rfl, fun _ => by simp [fs0_X1, ax_sok, ax_vok]⟩
theorem mw_1_123 : (Cond.arrayClass FieldType.boolean) ∈ lw_tbl := tb_1 (List.mem_of_getElem? (i := 123) rfl)
theorem aw_boolean : Cond.arrayClass .boolean ∈ lw_tbl := mw_1_123
theorem mw_1_153 : (Cond.classLink "QuotaRegisterLaw" (13 : Nat) "java/lang/IllegalArgumentException") ∈ lw_tbl := tb_1 (List.mem_of_getElem? (i := 153) rfl)
theorem cl_L_13 : Cond.classLink RL 13 "java/lang/IllegalArgumentException" ∈ lw_tbl := mw_1_153
theorem mw_1_164 : (Cond.constant "QuotaRegister" (63 : Nat) (1000000 : Int32)) ∈ lw_tbl := tb_1 (List.mem_of_getElem? (i := 164) rfl)
theorem ci_X3_63 : Cond.constant RX3 63 (1000000) ∈ lw_tbl := mw_1_164
theorem mw_1_165 : (Cond.classLink "QuotaRegister" (64 : Nat) "java/lang/IllegalArgumentException") ∈ lw_tbl := tb_1 (List.mem_of_getElem? (i := 165) rfl)
theorem cl_X3_64 : Cond.classLink RX3 64 "java/lang/IllegalArgumentException" ∈ lw_tbl := mw_1_165
theorem mw_1_167 : (Cond.castable "java/lang/IllegalArgumentException" "java/lang/IllegalArgumentException") ∈ lw_tbl := tb_1 (List.mem_of_getElem? (i := 167) rfl)
theorem ca_IllegalArgumentException : Cond.castable "java/lang/IllegalArgumentException" "java/lang/IllegalArgumentException" ∈ lw_tbl := mw_1_167
theorem mw_1_232 : (Cond.arrayClass FieldType.byte) ∈ lw_tbl := tb_1 (List.mem_of_getElem? (i := 232) rfl)
theorem aw_byte : Cond.arrayClass .byte ∈ lw_tbl := mw_1_232
theorem mw_2_28 : (Cond.classLink "QuotaRegisterLaw" (22 : Nat) "java/lang/IllegalStateException") ∈ lw_tbl := tb_2 (List.mem_of_getElem? (i := 28) rfl)
theorem cl_L_22 : Cond.classLink RL 22 "java/lang/IllegalStateException" ∈ lw_tbl := mw_2_28
theorem mw_2_48 : (Cond.classLink "QuotaRegister" (97 : Nat) "java/lang/IllegalStateException") ∈ lw_tbl := tb_2 (List.mem_of_getElem? (i := 48) rfl)
theorem cl_X3_97 : Cond.classLink RX3 97 "java/lang/IllegalStateException" ∈ lw_tbl := mw_2_48
theorem mw_2_50 : (Cond.castable "java/lang/IllegalStateException" "java/lang/IllegalStateException") ∈ lw_tbl := tb_2 (List.mem_of_getElem? (i := 50) rfl)
theorem ca_IllegalStateException : Cond.castable "java/lang/IllegalStateException" "java/lang/IllegalStateException" ∈ lw_tbl := mw_2_50
theorem mw_2_179 : (Cond.constantLong "QuotaRegister$Accounts" (48 : Nat) (1000000 : Int64)) ∈ lw_tbl := tb_2 (List.mem_of_getElem? (i := 179) rfl)
theorem cj_X0_48 : Cond.constantLong RX0 48 (1000000) ∈ lw_tbl := mw_2_179
theorem mw_3_61 : (Cond.constantLong "QuotaRegister" (313 : Nat) (500 : Int64)) ∈ lw_tbl := tb_3 (List.mem_of_getElem? (i := 61) rfl)
theorem cj_X3_313 : Cond.constantLong RX3 313 (500) ∈ lw_tbl := mw_3_61
theorem mw_3_62 : (Cond.constantLong "QuotaRegister" (315 : Nat) (1000 : Int64)) ∈ lw_tbl := tb_3 (List.mem_of_getElem? (i := 62) rfl)
theorem cj_X3_315 : Cond.constantLong RX3 315 (1000) ∈ lw_tbl := mw_3_62
theorem mw_3_91 : (Cond.classLink "QuotaRegisterLaw" (63 : Nat) "java/lang/IndexOutOfBoundsException") ∈ lw_tbl := tb_3 (List.mem_of_getElem? (i := 91) rfl)
theorem cl_L_63 : Cond.classLink RL 63 "java/lang/IndexOutOfBoundsException" ∈ lw_tbl := mw_3_91
theorem mw_3_101 : (Cond.classLink "QuotaRegister" (253 : Nat) "java/lang/IndexOutOfBoundsException") ∈ lw_tbl := tb_3 (List.mem_of_getElem? (i := 101) rfl)
theorem cl_X3_253 : Cond.classLink RX3 253 "java/lang/IndexOutOfBoundsException" ∈ lw_tbl := mw_3_101
theorem mw_3_103 : (Cond.castable "java/lang/IndexOutOfBoundsException" "java/lang/IndexOutOfBoundsException") ∈ lw_tbl := tb_3 (List.mem_of_getElem? (i := 103) rfl)
theorem ca_IndexOutOfBoundsException : Cond.castable "java/lang/IndexOutOfBoundsException" "java/lang/IndexOutOfBoundsException" ∈ lw_tbl := mw_3_103
theorem mw_3_208 : (Cond.instantiable "QuotaRegisterModel" (31 : Nat)) ∈ lw_tbl := tb_3 (List.mem_of_getElem? (i := 208) rfl)
abbrev fs0_X4 : List Value := [.int 0, .null, .null, .null, .null, .null, .null, .null, .null, .int 0, .int 0, .null, .null, .null, .null, .null, .null, .null, .null, .null, .int 0, .null, .null, .null, .null, .null, .null, .null, .null, .null, .null]
theorem mw_3_207 : (Cond.classLink "QuotaRegisterLaw" (87 : Nat) "QuotaRegisterModel") ∈ lw_tbl := tb_3 (List.mem_of_getElem? (i := 207) rfl)
theorem nw_L_87 : ax_nw RL 87 4 31 fs0_X4 := ⟨RX4, TX4, tyX4, rfl, uw_X4, tyX4_ok, mw_3_207, mw_3_208, mw_1_6, by decide +kernel, fun _ => rfl, fun _ => by simp [fs0_X4, ax_sok, ax_vok]⟩
theorem mw_3_213 : (Cond.constant "QuotaRegisterModel" (93 : Nat) (1000000 : Int32)) ∈ lw_tbl := tb_3 (List.mem_of_getElem? (i := 213) rfl)
theorem ci_X4_93 : Cond.constant RX4 93 (1000000) ∈ lw_tbl := mw_3_213
theorem mw_4_68 : (Cond.arrayClass FieldType.long) ∈ lw_tbl := tb_4 (List.mem_of_getElem? (i := 68) rfl)
theorem aw_long : Cond.arrayClass .long ∈ lw_tbl := mw_4_68
theorem mw_4_80 : (Cond.constantLong "QuotaRegisterModel" (98 : Nat) (3 : Int64)) ∈ lw_tbl := tb_4 (List.mem_of_getElem? (i := 80) rfl)
theorem cj_X4_98 : Cond.constantLong RX4 98 (3) ∈ lw_tbl := mw_4_80
theorem mw_4_84 : (Cond.constantLong "QuotaRegisterModel" (118 : Nat) (1000 : Int64)) ∈ lw_tbl := tb_4 (List.mem_of_getElem? (i := 84) rfl)
theorem cj_X4_118 : Cond.constantLong RX4 118 (1000) ∈ lw_tbl := mw_4_84
theorem mw_4_85 : (Cond.constantLong "QuotaRegisterModel" (120 : Nat) (1000000 : Int64)) ∈ lw_tbl := tb_4 (List.mem_of_getElem? (i := 85) rfl)
theorem cj_X4_120 : Cond.constantLong RX4 120 (1000000) ∈ lw_tbl := mw_4_85
theorem mw_4_106 : (Cond.constantLong "QuotaRegisterModel" (130 : Nat) (2 : Int64)) ∈ lw_tbl := tb_4 (List.mem_of_getElem? (i := 106) rfl)
theorem cj_X4_130 : Cond.constantLong RX4 130 (2) ∈ lw_tbl := mw_4_106
theorem mw_4_107 : (Cond.constantLong "QuotaRegisterModel" (132 : Nat) (5000 : Int64)) ∈ lw_tbl := tb_4 (List.mem_of_getElem? (i := 107) rfl)
theorem cj_X4_132 : Cond.constantLong RX4 132 (5000) ∈ lw_tbl := mw_4_107
theorem mw_4_115 : (Cond.constantLong "QuotaRegisterModel" (104 : Nat) (5 : Int64)) ∈ lw_tbl := tb_4 (List.mem_of_getElem? (i := 115) rfl)
theorem cj_X4_104 : Cond.constantLong RX4 104 (5) ∈ lw_tbl := mw_4_115
theorem mw_4_155 : (Cond.constantLong "QuotaRegisterModel" (151 : Nat) (-1 : Int64)) ∈ lw_tbl := tb_4 (List.mem_of_getElem? (i := 155) rfl)
theorem cj_X4_151 : Cond.constantLong RX4 151 (-1) ∈ lw_tbl := mw_4_155
theorem mw_4_180 : (Cond.constantLong "QuotaRegisterModel" (160 : Nat) (15 : Int64)) ∈ lw_tbl := tb_4 (List.mem_of_getElem? (i := 180) rfl)
theorem cj_X4_160 : Cond.constantLong RX4 160 (15) ∈ lw_tbl := mw_4_180
theorem mw_4_181 : (Cond.constantLong "QuotaRegisterModel" (162 : Nat) (100 : Int64)) ∈ lw_tbl := tb_4 (List.mem_of_getElem? (i := 181) rfl)
theorem cj_X4_162 : Cond.constantLong RX4 162 (100) ∈ lw_tbl := mw_4_181
theorem mw_4_210 : (Cond.constantLong "QuotaRegisterModel" (201 : Nat) (500 : Int64)) ∈ lw_tbl := tb_4 (List.mem_of_getElem? (i := 210) rfl)
theorem cj_X4_201 : Cond.constantLong RX4 201 (500) ∈ lw_tbl := mw_4_210
theorem mw_4_227 : (Cond.constantLong "QuotaRegisterModel" (203 : Nat) (8 : Int64)) ∈ lw_tbl := tb_4 (List.mem_of_getElem? (i := 227) rfl)
theorem cj_X4_203 : Cond.constantLong RX4 203 (8) ∈ lw_tbl := mw_4_227
theorem mw_1_206 : (Cond.stringRef "QuotaRegister" (66 : Nat) "no such species, value or cap") ∈ lw_tbl := tb_1 (List.mem_of_getElem? (i := 206) rfl)
theorem mw_2_9 : (Cond.stringRef "QuotaRegister" (75 : Nat) "a group holds more than the cap") ∈ lw_tbl := tb_2 (List.mem_of_getElem? (i := 9) rfl)
theorem mw_2_24 : (Cond.stringRef "QuotaRegister" (84 : Nat) "no such species, form or factor") ∈ lw_tbl := tb_2 (List.mem_of_getElem? (i := 24) rfl)
theorem mw_2_39 : (Cond.stringRef "QuotaRegister" (92 : Nat) "no such vessel or owner") ∈ lw_tbl := tb_2 (List.mem_of_getElem? (i := 39) rfl)
theorem mw_2_57 : (Cond.stringRef "QuotaRegister" (99 : Nat) "parts are placed on the vessel") ∈ lw_tbl := tb_2 (List.mem_of_getElem? (i := 57) rfl)
theorem mw_2_78 : (Cond.stringRef "QuotaRegister" (108 : Nat) "not two owners") ∈ lw_tbl := tb_2 (List.mem_of_getElem? (i := 78) rfl)
theorem mw_2_83 : (Cond.stringRef "QuotaRegister" (113 : Nat) "a group would pass a cap") ∈ lw_tbl := tb_2 (List.mem_of_getElem? (i := 83) rfl)
theorem mw_2_99 : (Cond.stringRef "QuotaRegister" (121 : Nat) "they are not linked with each other") ∈ lw_tbl := tb_2 (List.mem_of_getElem? (i := 99) rfl)
theorem mw_2_111 : (Cond.stringRef "QuotaRegister" (126 : Nat) "no such species, owner or parts") ∈ lw_tbl := tb_2 (List.mem_of_getElem? (i := 111) rfl)
theorem mw_2_112 : (Cond.stringRef "QuotaRegister" (128 : Nat) "a year was opened") ∈ lw_tbl := tb_2 (List.mem_of_getElem? (i := 112) rfl)
theorem mw_2_121 : (Cond.stringRef "QuotaRegister" (137 : Nat) "too many parts") ∈ lw_tbl := tb_2 (List.mem_of_getElem? (i := 121) rfl)
theorem mw_2_133 : (Cond.stringRef "QuotaRegister" (143 : Nat) "no such species, owners or parts") ∈ lw_tbl := tb_2 (List.mem_of_getElem? (i := 133) rfl)
theorem mw_2_138 : (Cond.stringRef "QuotaRegister" (149 : Nat) "so many are not free") ∈ lw_tbl := tb_2 (List.mem_of_getElem? (i := 138) rfl)
theorem mw_2_143 : (Cond.stringRef "QuotaRegister" (154 : Nat) "a cap would be passed") ∈ lw_tbl := tb_2 (List.mem_of_getElem? (i := 143) rfl)
theorem mw_2_151 : (Cond.stringRef "QuotaRegister" (156 : Nat) "no such species or vessel") ∈ lw_tbl := tb_2 (List.mem_of_getElem? (i := 151) rfl)
theorem mw_2_157 : (Cond.stringRef "QuotaRegister" (164 : Nat) "so many are not placed there") ∈ lw_tbl := tb_2 (List.mem_of_getElem? (i := 157) rfl)
theorem mw_2_172 : (Cond.stringRef "QuotaRegister" (172 : Nat) "no such limit") ∈ lw_tbl := tb_2 (List.mem_of_getElem? (i := 172) rfl)
theorem mw_2_173 : (Cond.stringRef "QuotaRegister" (174 : Nat) "a year is open, or eight were") ∈ lw_tbl := tb_2 (List.mem_of_getElem? (i := 173) rfl)
theorem mw_2_198 : (Cond.stringRef "QuotaRegister" (184 : Nat) "no year is open") ∈ lw_tbl := tb_2 (List.mem_of_getElem? (i := 198) rfl)
theorem mw_2_227 : (Cond.stringRef "QuotaRegister" (195 : Nat) "no such species, vessels or kilograms") ∈ lw_tbl := tb_2 (List.mem_of_getElem? (i := 227) rfl)
theorem mw_2_232 : (Cond.stringRef "QuotaRegister" (201 : Nat) "no year is open, or there are 200 events") ∈ lw_tbl := tb_2 (List.mem_of_getElem? (i := 232) rfl)
theorem mw_2_237 : (Cond.stringRef "QuotaRegister" (207 : Nat) "so many are not left") ∈ lw_tbl := tb_2 (List.mem_of_getElem? (i := 237) rfl)
theorem mw_3_47 : (Cond.stringRef "QuotaRegister" (220 : Nat) "no such year, vessel, species, form or kilograms") ∈ lw_tbl := tb_3 (List.mem_of_getElem? (i := 47) rfl)
theorem mw_3_48 : (Cond.stringRef "QuotaRegister" (222 : Nat) "there is no factor") ∈ lw_tbl := tb_3 (List.mem_of_getElem? (i := 48) rfl)
theorem mw_3_57 : (Cond.stringRef "QuotaRegister" (227 : Nat) "the year is neither open nor reopened, or there are 200 events") ∈ lw_tbl := tb_3 (List.mem_of_getElem? (i := 57) rfl)
theorem mw_3_82 : (Cond.stringRef "QuotaRegister" (239 : Nat) "no such vessel, species or kilograms") ∈ lw_tbl := tb_3 (List.mem_of_getElem? (i := 82) rfl)
theorem mw_3_87 : (Cond.stringRef "QuotaRegister" (248 : Nat) "it would not count") ∈ lw_tbl := tb_3 (List.mem_of_getElem? (i := 87) rfl)
theorem mw_3_110 : (Cond.stringRef "QuotaRegister" (255 : Nat) "no such event") ∈ lw_tbl := tb_3 (List.mem_of_getElem? (i := 110) rfl)
theorem mw_3_121 : (Cond.stringRef "QuotaRegister" (261 : Nat) "it is no landing, or was struck before") ∈ lw_tbl := tb_3 (List.mem_of_getElem? (i := 121) rfl)
theorem mw_3_126 : (Cond.stringRef "QuotaRegister" (266 : Nat) "its year is neither open nor reopened") ∈ lw_tbl := tb_3 (List.mem_of_getElem? (i := 126) rfl)
theorem mw_3_138 : (Cond.stringRef "QuotaRegister" (271 : Nat) "no such year") ∈ lw_tbl := tb_3 (List.mem_of_getElem? (i := 138) rfl)
theorem mw_3_139 : (Cond.stringRef "QuotaRegister" (273 : Nat) "the year is open or reopened") ∈ lw_tbl := tb_3 (List.mem_of_getElem? (i := 139) rfl)
theorem mw_3_147 : (Cond.stringRef "QuotaRegister" (275 : Nat) "no such year, vessel, species or what") ∈ lw_tbl := tb_3 (List.mem_of_getElem? (i := 147) rfl)
theorem mw_3_160 : (Cond.stringRef "QuotaRegister" (283 : Nat) "no such owner or year") ∈ lw_tbl := tb_3 (List.mem_of_getElem? (i := 160) rfl)
theorem mw_3_176 : (Cond.stringRef "QuotaRegister" (289 : Nat) "no such species, owner or what") ∈ lw_tbl := tb_3 (List.mem_of_getElem? (i := 176) rfl)
theorem mw_3_187 : (Cond.stringRef "QuotaRegister" (300 : Nat) "no such what") ∈ lw_tbl := tb_3 (List.mem_of_getElem? (i := 187) rfl)
theorem mw_1_10 : (Cond.initialized "java/lang/IllegalArgumentException") ∈ lw_tbl := tb_1 (List.mem_of_getElem? (i := 10) rfl)
theorem ta_X3_64_68 : ∀ x ∈ vx_atS RX3 68 "java/lang/IllegalArgumentException" ["java/lang/RuntimeException", "java/lang/Exception"], x ∈ lw_tbl ∧ ax_kw x = true := by
  have h : ∀ x ∈ vx_atS RX3 68 "java/lang/IllegalArgumentException" ["java/lang/RuntimeException", "java/lang/Exception"], x ∈ lw_tbl := by decide +kernel
  have h2 : (vx_atS RX3 68 "java/lang/IllegalArgumentException" ["java/lang/RuntimeException", "java/lang/Exception"]).all ax_kw = true := by decide +kernel
  exact fun x hx => ⟨h x hx, List.all_eq_true.mp h2 x hx⟩
theorem to_X3_64_68 : ∀ x ∈ Cond.classLink RX3 64 "java/lang/IllegalArgumentException" :: Cond.initialized "java/lang/IllegalArgumentException" :: vx_atS RX3 68 "java/lang/IllegalArgumentException" ["java/lang/RuntimeException", "java/lang/Exception"], vx_ot x = true := fun x hx => List.all_eq_true.mp (show (Cond.classLink RX3 64 "java/lang/IllegalArgumentException" :: Cond.initialized "java/lang/IllegalArgumentException" :: vx_atS RX3 68 "java/lang/IllegalArgumentException" ["java/lang/RuntimeException", "java/lang/Exception"]).all vx_ot = true by decide +kernel) x hx
theorem th_X3_66_64 : ax_th RX3 64 66 68 "java/lang/IllegalArgumentException" "no such species, value or cap" := ⟨["java/lang/RuntimeException", "java/lang/Exception"], rfl, by decide +kernel, by decide +kernel, mw_1_165, mw_1_10, mw_1_206, ta_X3_64_68, to_X3_64_68⟩
theorem th_X3_75_64 : ax_th RX3 64 75 68 "java/lang/IllegalArgumentException" "a group holds more than the cap" := ⟨["java/lang/RuntimeException", "java/lang/Exception"], rfl, by decide +kernel, by decide +kernel, mw_1_165, mw_1_10, mw_2_9, ta_X3_64_68, to_X3_64_68⟩
theorem th_X3_84_64 : ax_th RX3 64 84 68 "java/lang/IllegalArgumentException" "no such species, form or factor" := ⟨["java/lang/RuntimeException", "java/lang/Exception"], rfl, by decide +kernel, by decide +kernel, mw_1_165, mw_1_10, mw_2_24, ta_X3_64_68, to_X3_64_68⟩
theorem th_X3_92_64 : ax_th RX3 64 92 68 "java/lang/IllegalArgumentException" "no such vessel or owner" := ⟨["java/lang/RuntimeException", "java/lang/Exception"], rfl, by decide +kernel, by decide +kernel, mw_1_165, mw_1_10, mw_2_39, ta_X3_64_68, to_X3_64_68⟩
theorem mw_1_11 : (Cond.initialized "java/lang/IllegalStateException") ∈ lw_tbl := tb_1 (List.mem_of_getElem? (i := 11) rfl)
theorem ta_X3_97_101 : ∀ x ∈ vx_atS RX3 101 "java/lang/IllegalStateException" ["java/lang/RuntimeException", "java/lang/Exception"], x ∈ lw_tbl ∧ ax_kw x = true := by
  have h : ∀ x ∈ vx_atS RX3 101 "java/lang/IllegalStateException" ["java/lang/RuntimeException", "java/lang/Exception"], x ∈ lw_tbl := by decide +kernel
  have h2 : (vx_atS RX3 101 "java/lang/IllegalStateException" ["java/lang/RuntimeException", "java/lang/Exception"]).all ax_kw = true := by decide +kernel
  exact fun x hx => ⟨h x hx, List.all_eq_true.mp h2 x hx⟩
theorem to_X3_97_101 : ∀ x ∈ Cond.classLink RX3 97 "java/lang/IllegalStateException" :: Cond.initialized "java/lang/IllegalStateException" :: vx_atS RX3 101 "java/lang/IllegalStateException" ["java/lang/RuntimeException", "java/lang/Exception"], vx_ot x = true := fun x hx => List.all_eq_true.mp (show (Cond.classLink RX3 97 "java/lang/IllegalStateException" :: Cond.initialized "java/lang/IllegalStateException" :: vx_atS RX3 101 "java/lang/IllegalStateException" ["java/lang/RuntimeException", "java/lang/Exception"]).all vx_ot = true by decide +kernel) x hx
theorem th_X3_99_97 : ax_th RX3 97 99 101 "java/lang/IllegalStateException" "parts are placed on the vessel" := ⟨["java/lang/RuntimeException", "java/lang/Exception"], rfl, by decide +kernel, by decide +kernel, mw_2_48, mw_1_11, mw_2_57, ta_X3_97_101, to_X3_97_101⟩
theorem th_X3_108_64 : ax_th RX3 64 108 68 "java/lang/IllegalArgumentException" "not two owners" := ⟨["java/lang/RuntimeException", "java/lang/Exception"], rfl, by decide +kernel, by decide +kernel, mw_1_165, mw_1_10, mw_2_78, ta_X3_64_68, to_X3_64_68⟩
theorem th_X3_113_97 : ax_th RX3 97 113 101 "java/lang/IllegalStateException" "a group would pass a cap" := ⟨["java/lang/RuntimeException", "java/lang/Exception"], rfl, by decide +kernel, by decide +kernel, mw_2_48, mw_1_11, mw_2_83, ta_X3_97_101, to_X3_97_101⟩
theorem th_X3_121_97 : ax_th RX3 97 121 101 "java/lang/IllegalStateException" "they are not linked with each other" := ⟨["java/lang/RuntimeException", "java/lang/Exception"], rfl, by decide +kernel, by decide +kernel, mw_2_48, mw_1_11, mw_2_99, ta_X3_97_101, to_X3_97_101⟩
theorem th_X3_126_64 : ax_th RX3 64 126 68 "java/lang/IllegalArgumentException" "no such species, owner or parts" := ⟨["java/lang/RuntimeException", "java/lang/Exception"], rfl, by decide +kernel, by decide +kernel, mw_1_165, mw_1_10, mw_2_111, ta_X3_64_68, to_X3_64_68⟩
theorem th_X3_128_97 : ax_th RX3 97 128 101 "java/lang/IllegalStateException" "a year was opened" := ⟨["java/lang/RuntimeException", "java/lang/Exception"], rfl, by decide +kernel, by decide +kernel, mw_2_48, mw_1_11, mw_2_112, ta_X3_97_101, to_X3_97_101⟩
theorem th_X3_137_97 : ax_th RX3 97 137 101 "java/lang/IllegalStateException" "too many parts" := ⟨["java/lang/RuntimeException", "java/lang/Exception"], rfl, by decide +kernel, by decide +kernel, mw_2_48, mw_1_11, mw_2_121, ta_X3_97_101, to_X3_97_101⟩
theorem th_X3_143_64 : ax_th RX3 64 143 68 "java/lang/IllegalArgumentException" "no such species, owners or parts" := ⟨["java/lang/RuntimeException", "java/lang/Exception"], rfl, by decide +kernel, by decide +kernel, mw_1_165, mw_1_10, mw_2_133, ta_X3_64_68, to_X3_64_68⟩
theorem th_X3_149_97 : ax_th RX3 97 149 101 "java/lang/IllegalStateException" "so many are not free" := ⟨["java/lang/RuntimeException", "java/lang/Exception"], rfl, by decide +kernel, by decide +kernel, mw_2_48, mw_1_11, mw_2_138, ta_X3_97_101, to_X3_97_101⟩
theorem th_X3_154_97 : ax_th RX3 97 154 101 "java/lang/IllegalStateException" "a cap would be passed" := ⟨["java/lang/RuntimeException", "java/lang/Exception"], rfl, by decide +kernel, by decide +kernel, mw_2_48, mw_1_11, mw_2_143, ta_X3_97_101, to_X3_97_101⟩
theorem th_X3_156_64 : ax_th RX3 64 156 68 "java/lang/IllegalArgumentException" "no such species or vessel" := ⟨["java/lang/RuntimeException", "java/lang/Exception"], rfl, by decide +kernel, by decide +kernel, mw_1_165, mw_1_10, mw_2_151, ta_X3_64_68, to_X3_64_68⟩
theorem th_X3_164_97 : ax_th RX3 97 164 101 "java/lang/IllegalStateException" "so many are not placed there" := ⟨["java/lang/RuntimeException", "java/lang/Exception"], rfl, by decide +kernel, by decide +kernel, mw_2_48, mw_1_11, mw_2_157, ta_X3_97_101, to_X3_97_101⟩
theorem th_X3_172_64 : ax_th RX3 64 172 68 "java/lang/IllegalArgumentException" "no such limit" := ⟨["java/lang/RuntimeException", "java/lang/Exception"], rfl, by decide +kernel, by decide +kernel, mw_1_165, mw_1_10, mw_2_172, ta_X3_64_68, to_X3_64_68⟩
theorem th_X3_174_97 : ax_th RX3 97 174 101 "java/lang/IllegalStateException" "a year is open, or eight were" := ⟨["java/lang/RuntimeException", "java/lang/Exception"], rfl, by decide +kernel, by decide +kernel, mw_2_48, mw_1_11, mw_2_173, ta_X3_97_101, to_X3_97_101⟩
theorem th_X3_184_97 : ax_th RX3 97 184 101 "java/lang/IllegalStateException" "no year is open" := ⟨["java/lang/RuntimeException", "java/lang/Exception"], rfl, by decide +kernel, by decide +kernel, mw_2_48, mw_1_11, mw_2_198, ta_X3_97_101, to_X3_97_101⟩
theorem th_X3_195_64 : ax_th RX3 64 195 68 "java/lang/IllegalArgumentException" "no such species, vessels or kilograms" := ⟨["java/lang/RuntimeException", "java/lang/Exception"], rfl, by decide +kernel, by decide +kernel, mw_1_165, mw_1_10, mw_2_227, ta_X3_64_68, to_X3_64_68⟩
theorem th_X3_201_97 : ax_th RX3 97 201 101 "java/lang/IllegalStateException" "no year is open, or there are 200 events" := ⟨["java/lang/RuntimeException", "java/lang/Exception"], rfl, by decide +kernel, by decide +kernel, mw_2_48, mw_1_11, mw_2_232, ta_X3_97_101, to_X3_97_101⟩
theorem th_X3_207_97 : ax_th RX3 97 207 101 "java/lang/IllegalStateException" "so many are not left" := ⟨["java/lang/RuntimeException", "java/lang/Exception"], rfl, by decide +kernel, by decide +kernel, mw_2_48, mw_1_11, mw_2_237, ta_X3_97_101, to_X3_97_101⟩
theorem th_X3_220_64 : ax_th RX3 64 220 68 "java/lang/IllegalArgumentException" "no such year, vessel, species, form or kilograms" := ⟨["java/lang/RuntimeException", "java/lang/Exception"], rfl, by decide +kernel, by decide +kernel, mw_1_165, mw_1_10, mw_3_47, ta_X3_64_68, to_X3_64_68⟩
theorem th_X3_222_64 : ax_th RX3 64 222 68 "java/lang/IllegalArgumentException" "there is no factor" := ⟨["java/lang/RuntimeException", "java/lang/Exception"], rfl, by decide +kernel, by decide +kernel, mw_1_165, mw_1_10, mw_3_48, ta_X3_64_68, to_X3_64_68⟩
theorem th_X3_227_97 : ax_th RX3 97 227 101 "java/lang/IllegalStateException" "the year is neither open nor reopened, or there are 200 events" := ⟨["java/lang/RuntimeException", "java/lang/Exception"], rfl, by decide +kernel, by decide +kernel, mw_2_48, mw_1_11, mw_3_57, ta_X3_97_101, to_X3_97_101⟩
theorem th_X3_239_64 : ax_th RX3 64 239 68 "java/lang/IllegalArgumentException" "no such vessel, species or kilograms" := ⟨["java/lang/RuntimeException", "java/lang/Exception"], rfl, by decide +kernel, by decide +kernel, mw_1_165, mw_1_10, mw_3_82, ta_X3_64_68, to_X3_64_68⟩
theorem th_X3_248_97 : ax_th RX3 97 248 101 "java/lang/IllegalStateException" "it would not count" := ⟨["java/lang/RuntimeException", "java/lang/Exception"], rfl, by decide +kernel, by decide +kernel, mw_2_48, mw_1_11, mw_3_87, ta_X3_97_101, to_X3_97_101⟩
theorem mw_1_13 : (Cond.initialized "java/lang/IndexOutOfBoundsException") ∈ lw_tbl := tb_1 (List.mem_of_getElem? (i := 13) rfl)
theorem ta_X3_253_257 : ∀ x ∈ vx_atS RX3 257 "java/lang/IndexOutOfBoundsException" ["java/lang/RuntimeException", "java/lang/Exception"], x ∈ lw_tbl ∧ ax_kw x = true := by
  have h : ∀ x ∈ vx_atS RX3 257 "java/lang/IndexOutOfBoundsException" ["java/lang/RuntimeException", "java/lang/Exception"], x ∈ lw_tbl := by decide +kernel
  have h2 : (vx_atS RX3 257 "java/lang/IndexOutOfBoundsException" ["java/lang/RuntimeException", "java/lang/Exception"]).all ax_kw = true := by decide +kernel
  exact fun x hx => ⟨h x hx, List.all_eq_true.mp h2 x hx⟩
theorem to_X3_253_257 : ∀ x ∈ Cond.classLink RX3 253 "java/lang/IndexOutOfBoundsException" :: Cond.initialized "java/lang/IndexOutOfBoundsException" :: vx_atS RX3 257 "java/lang/IndexOutOfBoundsException" ["java/lang/RuntimeException", "java/lang/Exception"], vx_ot x = true := fun x hx => List.all_eq_true.mp (show (Cond.classLink RX3 253 "java/lang/IndexOutOfBoundsException" :: Cond.initialized "java/lang/IndexOutOfBoundsException" :: vx_atS RX3 257 "java/lang/IndexOutOfBoundsException" ["java/lang/RuntimeException", "java/lang/Exception"]).all vx_ot = true by decide +kernel) x hx
theorem th_X3_255_253 : ax_th RX3 253 255 257 "java/lang/IndexOutOfBoundsException" "no such event" := ⟨["java/lang/RuntimeException", "java/lang/Exception"], rfl, by decide +kernel, by decide +kernel, mw_3_101, mw_1_13, mw_3_110, ta_X3_253_257, to_X3_253_257⟩
theorem th_X3_261_97 : ax_th RX3 97 261 101 "java/lang/IllegalStateException" "it is no landing, or was struck before" := ⟨["java/lang/RuntimeException", "java/lang/Exception"], rfl, by decide +kernel, by decide +kernel, mw_2_48, mw_1_11, mw_3_121, ta_X3_97_101, to_X3_97_101⟩
theorem th_X3_266_97 : ax_th RX3 97 266 101 "java/lang/IllegalStateException" "its year is neither open nor reopened" := ⟨["java/lang/RuntimeException", "java/lang/Exception"], rfl, by decide +kernel, by decide +kernel, mw_2_48, mw_1_11, mw_3_126, ta_X3_97_101, to_X3_97_101⟩
theorem th_X3_271_64 : ax_th RX3 64 271 68 "java/lang/IllegalArgumentException" "no such year" := ⟨["java/lang/RuntimeException", "java/lang/Exception"], rfl, by decide +kernel, by decide +kernel, mw_1_165, mw_1_10, mw_3_138, ta_X3_64_68, to_X3_64_68⟩
theorem th_X3_273_97 : ax_th RX3 97 273 101 "java/lang/IllegalStateException" "the year is open or reopened" := ⟨["java/lang/RuntimeException", "java/lang/Exception"], rfl, by decide +kernel, by decide +kernel, mw_2_48, mw_1_11, mw_3_139, ta_X3_97_101, to_X3_97_101⟩
theorem th_X3_275_64 : ax_th RX3 64 275 68 "java/lang/IllegalArgumentException" "no such year, vessel, species or what" := ⟨["java/lang/RuntimeException", "java/lang/Exception"], rfl, by decide +kernel, by decide +kernel, mw_1_165, mw_1_10, mw_3_147, ta_X3_64_68, to_X3_64_68⟩
theorem th_X3_283_64 : ax_th RX3 64 283 68 "java/lang/IllegalArgumentException" "no such owner or year" := ⟨["java/lang/RuntimeException", "java/lang/Exception"], rfl, by decide +kernel, by decide +kernel, mw_1_165, mw_1_10, mw_3_160, ta_X3_64_68, to_X3_64_68⟩
theorem th_X3_289_64 : ax_th RX3 64 289 68 "java/lang/IllegalArgumentException" "no such species, owner or what" := ⟨["java/lang/RuntimeException", "java/lang/Exception"], rfl, by decide +kernel, by decide +kernel, mw_1_165, mw_1_10, mw_3_176, ta_X3_64_68, to_X3_64_68⟩
theorem th_X3_300_64 : ax_th RX3 64 300 68 "java/lang/IllegalArgumentException" "no such what" := ⟨["java/lang/RuntimeException", "java/lang/Exception"], rfl, by decide +kernel, by decide +kernel, mw_1_165, mw_1_10, mw_3_187, ta_X3_64_68, to_X3_64_68⟩
