theorem bg_1 {w : Cond} {i : Nat} (h : tables_1_1[i]? = some w) (g : goodWord w = true) : w ∈ big := List.mem_filter.mpr ⟨List.mem_append_right _ (List.mem_append_left _ (List.mem_of_getElem? h)), g⟩
theorem bg_2 {w : Cond} {i : Nat} (h : tables_1_2[i]? = some w) (g : goodWord w = true) : w ∈ big := List.mem_filter.mpr ⟨List.mem_append_right _ (List.mem_append_right _ (List.mem_append_left _ (List.mem_of_getElem? h))), g⟩
theorem bg_3 {w : Cond} {i : Nat} (h : tables_1_3[i]? = some w) (g : goodWord w = true) : w ∈ big := List.mem_filter.mpr ⟨List.mem_append_right _ (List.mem_append_right _ (List.mem_append_right _ (List.mem_append_left _ (List.mem_of_getElem? h)))), g⟩
theorem bg_4 {w : Cond} {i : Nat} (h : tables_1_4[i]? = some w) (g : goodWord w = true) : w ∈ big := List.mem_filter.mpr ⟨List.mem_append_right _ (List.mem_append_right _ (List.mem_append_right _ (List.mem_append_right _ (List.mem_of_getElem? h)))), g⟩
theorem mw_0 : (Cond.initialized "ListForgeLaw") ∈ big := bg_1 (i := 0) rfl rfl
theorem mw_1 : (Cond.initialized "ListForge") ∈ big := bg_1 (i := 1) rfl rfl
theorem mw_2 : (Cond.initialized "ListForge$MailingList") ∈ big := bg_1 (i := 2) rfl rfl
theorem mw_3 : (Cond.initialized "ListForge$Subscription") ∈ big := bg_1 (i := 3) rfl rfl
theorem mw_4 : (Cond.initialized "ListForge$Post") ∈ big := bg_1 (i := 4) rfl rfl
theorem mw_5 : (Cond.initialized "ListForge$Outbox") ∈ big := bg_1 (i := 5) rfl rfl
theorem mw_6 : (Cond.initialized "ListForgeModel") ∈ big := bg_1 (i := 6) rfl rfl
theorem mw_10 : (Cond.initialized "java/lang/IllegalArgumentException") ∈ big := bg_1 (i := 10) rfl rfl
theorem mw_11 : (Cond.initialized "java/lang/IllegalStateException") ∈ big := bg_1 (i := 11) rfl rfl
theorem mw_12 : (Cond.initialized "java/lang/UnsupportedOperationException") ∈ big := bg_1 (i := 12) rfl rfl
theorem mw_13 : (Cond.initialized "java/util/NoSuchElementException") ∈ big := bg_1 (i := 13) rfl rfl
theorem mw_14 : (Cond.initialized "java/lang/IndexOutOfBoundsException") ∈ big := bg_1 (i := 14) rfl rfl
theorem mw_15 : (Cond.classLink "ListForgeLaw" 8 "ListForge") ∈ big := bg_1 (i := 15) rfl rfl
theorem mw_16 : (Cond.instantiable "ListForge" 6) ∈ big := bg_1 (i := 16) rfl rfl
theorem mw_17 : (Cond.methodLink "ListForgeLaw" 75 ({ cls := "ListForge", name := "<init>", desc := "()V" } : MethodName)) ∈ big := bg_1 (i := 17) rfl rfl
theorem mw_18 : (Cond.instanceMethod ({ cls := "ListForge", name := "<init>", desc := "()V" } : MethodName)) ∈ big := bg_1 (i := 18) rfl rfl
theorem mw_19 : (Cond.code ({ cls := "ListForge", name := "<init>", desc := "()V" } : MethodName) prog_1_method_1_code 2 (Option.none : Option FieldType)) ∈ big := bg_1 (i := 19) rfl rfl
theorem mw_20 : (Cond.methodLink "ListForge" 1 ({ cls := "java/lang/Object", name := "<init>", desc := "()V" } : MethodName)) ∈ big := bg_1 (i := 20) rfl rfl
theorem mw_21 : (Cond.instanceMethod ({ cls := "java/lang/Object", name := "<init>", desc := "()V" } : MethodName)) ∈ big := bg_1 (i := 21) rfl rfl
theorem mw_22 : (Cond.code ({ cls := "java/lang/Object", name := "<init>", desc := "()V" } : MethodName) object_method_1_code 1 (Option.none : Option FieldType)) ∈ big := bg_1 (i := 22) rfl rfl
theorem mw_23 : (Cond.classLink "ListForge" 9 "ListForge$MailingList") ∈ big := bg_1 (i := 23) rfl rfl
theorem mw_25 : (Cond.instantiable "ListForge$MailingList" 12) ∈ big := bg_1 (i := 25) rfl rfl
theorem mw_26 : (Cond.methodLink "ListForge" 15 ({ cls := "ListForge$MailingList", name := "<init>", desc := "(I)V" } : MethodName)) ∈ big := bg_1 (i := 26) rfl rfl
theorem mw_27 : (Cond.instanceMethod ({ cls := "ListForge$MailingList", name := "<init>", desc := "(I)V" } : MethodName)) ∈ big := bg_1 (i := 27) rfl rfl
theorem mw_28 : (Cond.code ({ cls := "ListForge$MailingList", name := "<init>", desc := "(I)V" } : MethodName) prog_2_method_1_code 3 (Option.none : Option FieldType)) ∈ big := bg_1 (i := 28) rfl rfl
theorem mw_29 : (Cond.methodLink "ListForge$MailingList" 3 ({ cls := "java/lang/Object", name := "<init>", desc := "()V" } : MethodName)) ∈ big := bg_1 (i := 29) rfl rfl
theorem mw_30 : (Cond.classLink "ListForge$MailingList" 15 "ListForge$Subscription") ∈ big := bg_1 (i := 30) rfl rfl
theorem mw_32 : (Cond.instantiable "ListForge$Subscription" 8) ∈ big := bg_1 (i := 32) rfl rfl
theorem mw_33 : (Cond.methodLink "ListForge$MailingList" 21 ({ cls := "ListForge$Subscription", name := "<init>", desc := "()V" } : MethodName)) ∈ big := bg_1 (i := 33) rfl rfl
theorem mw_34 : (Cond.instanceMethod ({ cls := "ListForge$Subscription", name := "<init>", desc := "()V" } : MethodName)) ∈ big := bg_1 (i := 34) rfl rfl
theorem mw_35 : (Cond.code ({ cls := "ListForge$Subscription", name := "<init>", desc := "()V" } : MethodName) prog_5_method_1_code 1 (Option.none : Option FieldType)) ∈ big := bg_1 (i := 35) rfl rfl
theorem mw_36 : (Cond.methodLink "ListForge$Subscription" 3 ({ cls := "java/lang/Object", name := "<init>", desc := "()V" } : MethodName)) ∈ big := bg_1 (i := 36) rfl rfl
theorem mw_37 : (Cond.fieldLink "ListForge$Subscription" 9 "ListForge$Subscription" "state" "I") ∈ big := bg_1 (i := 37) rfl rfl
theorem mw_38 : (Cond.fieldLink "ListForge" 48 "ListForge$Subscription" "state" "I") ∈ big := bg_1 (i := 38) rfl rfl
theorem mw_39 : (Cond.fieldLink "ListForge$MailingList" 48 "ListForge$Subscription" "state" "I") ∈ big := bg_1 (i := 39) rfl rfl
theorem mw_40 : (Cond.fieldLink "ListForge$Subscription" 15 "ListForge$Subscription" "way" "I") ∈ big := bg_1 (i := 40) rfl rfl
theorem mw_41 : (Cond.fieldLink "ListForge" 102 "ListForge$Subscription" "way" "I") ∈ big := bg_1 (i := 41) rfl rfl
theorem mw_42 : (Cond.fieldLink "ListForge$Subscription" 18 "ListForge$Subscription" "code" "I") ∈ big := bg_1 (i := 42) rfl rfl
theorem mw_43 : (Cond.fieldLink "ListForge" 84 "ListForge$Subscription" "code" "I") ∈ big := bg_1 (i := 43) rfl rfl
theorem mw_44 : (Cond.fieldLink "ListForge$Subscription" 21 "ListForge$Subscription" "since" "I") ∈ big := bg_1 (i := 44) rfl rfl
theorem mw_45 : (Cond.fieldLink "ListForge" 201 "ListForge$Subscription" "since" "I") ∈ big := bg_1 (i := 45) rfl rfl
theorem mw_46 : (Cond.fieldLink "ListForge$MailingList" 93 "ListForge$Subscription" "since" "I") ∈ big := bg_1 (i := 46) rfl rfl
theorem mw_47 : (Cond.fieldLink "ListForge$Subscription" 24 "ListForge$Subscription" "warning" "I") ∈ big := bg_1 (i := 47) rfl rfl
theorem mw_48 : (Cond.fieldLink "ListForge" 193 "ListForge$Subscription" "warning" "I") ∈ big := bg_1 (i := 48) rfl rfl
theorem mw_49 : (Cond.fieldLink "ListForge$MailingList" 107 "ListForge$Subscription" "warning" "I") ∈ big := bg_1 (i := 49) rfl rfl
theorem mw_50 : (Cond.fieldLink "ListForge$Subscription" 27 "ListForge$Subscription" "bounceDay" "I") ∈ big := bg_1 (i := 50) rfl rfl
theorem mw_51 : (Cond.fieldLink "ListForge" 180 "ListForge$Subscription" "bounceDay" "I") ∈ big := bg_1 (i := 51) rfl rfl
theorem mw_52 : (Cond.fieldLink "ListForge$Subscription" 34 "ListForge$Subscription" "moderates" "Z") ∈ big := bg_1 (i := 52) rfl rfl
theorem mw_53 : (Cond.fieldLink "ListForge" 107 "ListForge$Subscription" "moderates" "Z") ∈ big := bg_1 (i := 53) rfl rfl
theorem mw_54 : (Cond.fieldLink "ListForge$MailingList" 51 "ListForge$Subscription" "moderates" "Z") ∈ big := bg_1 (i := 54) rfl rfl
theorem mw_55 : (Cond.fieldLink "ListForge$Subscription" 30 "ListForge$Subscription" "score" "D") ∈ big := bg_1 (i := 55) rfl rfl
theorem mw_56 : (Cond.fieldLink "ListForge" 183 "ListForge$Subscription" "score" "D") ∈ big := bg_1 (i := 56) rfl rfl
theorem mw_74 : (Cond.constantDouble "ListForge$MailingList" 35 (4613937818241073152 : UInt64)) ∈ big := bg_1 (i := 74) rfl rfl
theorem mw_75 : (Cond.fieldLink "ListForge$MailingList" 9 "ListForge$MailingList" "number" "I") ∈ big := bg_1 (i := 75) rfl rfl
theorem mw_76 : (Cond.fieldLink "ListForge$MailingList" 17 "ListForge$MailingList" "subscriptions" "[LListForge$Subscription;") ∈ big := bg_1 (i := 76) rfl rfl
theorem mw_77 : (Cond.fieldLink "ListForge" 44 "ListForge$MailingList" "subscriptions" "[LListForge$Subscription;") ∈ big := bg_1 (i := 77) rfl rfl
theorem mw_78 : (Cond.fieldLink "ListForge$MailingList" 22 "ListForge$MailingList" "banned" "[Z") ∈ big := bg_1 (i := 78) rfl rfl
theorem mw_79 : (Cond.fieldLink "ListForge" 61 "ListForge$MailingList" "banned" "[Z") ∈ big := bg_1 (i := 79) rfl rfl
theorem mw_80 : (Cond.fieldLink "ListForge$MailingList" 26 "ListForge$MailingList" "barred" "[Z") ∈ big := bg_1 (i := 80) rfl rfl
theorem mw_81 : (Cond.fieldLink "ListForge$MailingList" 41 "ListForge$MailingList" "open" "Z") ∈ big := bg_1 (i := 81) rfl rfl
theorem mw_82 : (Cond.fieldLink "ListForge$MailingList" 45 "ListForge$MailingList" "watched" "Z") ∈ big := bg_1 (i := 82) rfl rfl
theorem mw_83 : (Cond.fieldLink "ListForge$MailingList" 29 "ListForge$MailingList" "greatest" "I") ∈ big := bg_1 (i := 83) rfl rfl
theorem mw_84 : (Cond.fieldLink "ListForge$MailingList" 32 "ListForge$MailingList" "full" "I") ∈ big := bg_1 (i := 84) rfl rfl
theorem mw_85 : (Cond.fieldLink "ListForge$MailingList" 37 "ListForge$MailingList" "best" "D") ∈ big := bg_1 (i := 85) rfl rfl
theorem mw_86 : (Cond.fieldLink "ListForge" 187 "ListForge$MailingList" "best" "D") ∈ big := bg_1 (i := 86) rfl rfl
theorem mw_87 : (Cond.fieldLink "ListForge$MailingList" 83 "ListForge$MailingList" "bundlePosts" "I") ∈ big := bg_1 (i := 87) rfl rfl
theorem mw_88 : (Cond.fieldLink "ListForge" 238 "ListForge$MailingList" "bundlePosts" "I") ∈ big := bg_1 (i := 88) rfl rfl
theorem mw_89 : (Cond.fieldLink "ListForge$MailingList" 76 "ListForge$MailingList" "bundleSizes" "I") ∈ big := bg_1 (i := 89) rfl rfl
theorem mw_90 : (Cond.fieldLink "ListForge" 241 "ListForge$MailingList" "bundleSizes" "I") ∈ big := bg_1 (i := 90) rfl rfl
theorem mw_91 : (Cond.fieldLink "ListForge$MailingList" 86 "ListForge$MailingList" "bundleSince" "I") ∈ big := bg_1 (i := 91) rfl rfl
theorem mw_117 : (Cond.arrayClass FieldType.boolean) ∈ big := bg_1 (i := 117) rfl rfl
theorem mw_118 : (Cond.classLink "ListForge" 18 "ListForge$Post") ∈ big := bg_1 (i := 118) rfl rfl
theorem mw_120 : (Cond.instantiable "ListForge$Post" 4) ∈ big := bg_1 (i := 120) rfl rfl
theorem mw_122 : (Cond.instanceMethod ({ cls := "ListForge$Post", name := "<init>", desc := "()V" } : MethodName)) ∈ big := bg_1 (i := 122) rfl rfl
theorem mw_123 : (Cond.code ({ cls := "ListForge$Post", name := "<init>", desc := "()V" } : MethodName) prog_4_method_1_code 1 (Option.none : Option FieldType)) ∈ big := bg_1 (i := 123) rfl rfl
theorem mw_124 : (Cond.methodLink "ListForge$Post" 3 ({ cls := "java/lang/Object", name := "<init>", desc := "()V" } : MethodName)) ∈ big := bg_1 (i := 124) rfl rfl
theorem mw_125 : (Cond.fieldLink "ListForge$Post" 9 "ListForge$Post" "list" "I") ∈ big := bg_1 (i := 125) rfl rfl
theorem mw_126 : (Cond.fieldLink "ListForge" 166 "ListForge$Post" "list" "I") ∈ big := bg_1 (i := 126) rfl rfl
theorem mw_127 : (Cond.fieldLink "ListForge$Post" 15 "ListForge$Post" "sender" "I") ∈ big := bg_1 (i := 127) rfl rfl
theorem mw_128 : (Cond.fieldLink "ListForge" 171 "ListForge$Post" "sender" "I") ∈ big := bg_1 (i := 128) rfl rfl
theorem mw_129 : (Cond.fieldLink "ListForge$MailingList" 64 "ListForge$Post" "sender" "I") ∈ big := bg_1 (i := 129) rfl rfl
theorem mw_130 : (Cond.fieldLink "ListForge$Post" 18 "ListForge$Post" "size" "I") ∈ big := bg_1 (i := 130) rfl rfl
theorem mw_131 : (Cond.fieldLink "ListForge$MailingList" 69 "ListForge$Post" "size" "I") ∈ big := bg_1 (i := 131) rfl rfl
theorem mw_132 : (Cond.fieldLink "ListForge$Post" 21 "ListForge$Post" "fate" "I") ∈ big := bg_1 (i := 132) rfl rfl
theorem mw_133 : (Cond.fieldLink "ListForge" 161 "ListForge$Post" "fate" "I") ∈ big := bg_1 (i := 133) rfl rfl
theorem mw_143 : (Cond.classLink "ListForge" 25 "ListForge$Outbox") ∈ big := bg_1 (i := 143) rfl rfl
theorem mw_144 : (Cond.instantiable "ListForge$Outbox" 6) ∈ big := bg_1 (i := 144) rfl rfl
theorem mw_145 : (Cond.methodLink "ListForge" 27 ({ cls := "ListForge$Outbox", name := "<init>", desc := "()V" } : MethodName)) ∈ big := bg_1 (i := 145) rfl rfl
theorem mw_146 : (Cond.instanceMethod ({ cls := "ListForge$Outbox", name := "<init>", desc := "()V" } : MethodName)) ∈ big := bg_1 (i := 146) rfl rfl
theorem mw_147 : (Cond.code ({ cls := "ListForge$Outbox", name := "<init>", desc := "()V" } : MethodName) prog_3_method_1_code 1 (Option.none : Option FieldType)) ∈ big := bg_1 (i := 147) rfl rfl
theorem mw_148 : (Cond.methodLink "ListForge$Outbox" 1 ({ cls := "java/lang/Object", name := "<init>", desc := "()V" } : MethodName)) ∈ big := bg_1 (i := 148) rfl rfl
theorem mw_149 : (Cond.fieldLink "ListForge$Outbox" 9 "ListForge$Outbox" "addresses" "[I") ∈ big := bg_1 (i := 149) rfl rfl
theorem mw_150 : (Cond.fieldLink "ListForge" 212 "ListForge$Outbox" "addresses" "[I") ∈ big := bg_1 (i := 150) rfl rfl
theorem mw_151 : (Cond.fieldLink "ListForge$Outbox" 13 "ListForge$Outbox" "lists" "[I") ∈ big := bg_1 (i := 151) rfl rfl
theorem mw_152 : (Cond.fieldLink "ListForge" 216 "ListForge$Outbox" "lists" "[I") ∈ big := bg_1 (i := 152) rfl rfl
theorem mw_153 : (Cond.fieldLink "ListForge$Outbox" 16 "ListForge$Outbox" "sorts" "[I") ∈ big := bg_1 (i := 153) rfl rfl
theorem mw_154 : (Cond.fieldLink "ListForge" 218 "ListForge$Outbox" "sorts" "[I") ∈ big := bg_1 (i := 154) rfl rfl
theorem mw_155 : (Cond.fieldLink "ListForge$Outbox" 19 "ListForge$Outbox" "numbers" "[I") ∈ big := bg_1 (i := 155) rfl rfl
theorem mw_156 : (Cond.fieldLink "ListForge" 221 "ListForge$Outbox" "numbers" "[I") ∈ big := bg_1 (i := 156) rfl rfl
theorem mw_157 : (Cond.fieldLink "ListForge$Outbox" 26 "ListForge$Outbox" "kept" "I") ∈ big := bg_1 (i := 157) rfl rfl
theorem mw_158 : (Cond.fieldLink "ListForge" 204 "ListForge$Outbox" "kept" "I") ∈ big := bg_1 (i := 158) rfl rfl
theorem mw_159 : (Cond.fieldLink "ListForge$Outbox" 22 "ListForge$Outbox" "total" "I") ∈ big := bg_1 (i := 159) rfl rfl
theorem mw_160 : (Cond.fieldLink "ListForge" 224 "ListForge$Outbox" "total" "I") ∈ big := bg_1 (i := 160) rfl rfl
theorem mw_174 : (Cond.arrayClass FieldType.int) ∈ big := bg_1 (i := 174) rfl rfl
theorem mw_175 : (Cond.fieldLink "ListForge" 11 "ListForge" "lists" "[LListForge$MailingList;") ∈ big := bg_1 (i := 175) rfl rfl
theorem mw_176 : (Cond.fieldLink "ListForge" 20 "ListForge" "posts" "[LListForge$Post;") ∈ big := bg_1 (i := 176) rfl rfl
theorem mw_177 : (Cond.fieldLink "ListForge" 28 "ListForge" "outbox" "LListForge$Outbox;") ∈ big := bg_1 (i := 177) rfl rfl
theorem mw_178 : (Cond.fieldLink "ListForge" 137 "ListForge" "postCount" "I") ∈ big := bg_1 (i := 178) rfl rfl
theorem mw_179 : (Cond.fieldLink "ListForge" 70 "ListForge" "askedBefore" "I") ∈ big := bg_1 (i := 179) rfl rfl
theorem mw_180 : (Cond.fieldLink "ListForge" 73 "ListForge" "today" "I") ∈ big := bg_1 (i := 180) rfl rfl
theorem mw_194 : (Cond.methodLink "ListForgeLaw" 79 ({ cls := "ListForgeLaw", name := "ask", desc := "(LListForge;III[J)I" } : MethodName)) ∈ big := bg_1 (i := 194) rfl rfl
theorem mw_195 : (Cond.static ({ cls := "ListForgeLaw", name := "ask", desc := "(LListForge;III[J)I" } : MethodName)) ∈ big := bg_1 (i := 195) rfl rfl
theorem mw_196 : (Cond.codeWith ({ cls := "ListForgeLaw", name := "ask", desc := "(LListForge;III[J)I" } : MethodName) method_3_code 6 (Option.some FieldType.int) [(0, 12, 15, 13), (0, 12, 19, 15), (0, 12, 23, 17)]) ∈ big := bg_1 (i := 196) rfl rfl
theorem mw_197 : (Cond.classLink "ListForgeLaw" 13 "java/lang/IllegalArgumentException") ∈ big := bg_1 (i := 197) rfl rfl
theorem mw_198 : (Cond.classLink "ListForgeLaw" 15 "java/lang/IllegalStateException") ∈ big := bg_1 (i := 198) rfl rfl
theorem mw_199 : (Cond.classLink "ListForgeLaw" 17 "java/lang/UnsupportedOperationException") ∈ big := bg_1 (i := 199) rfl rfl
theorem mw_200 : (Cond.methodLink "ListForgeLaw" 7 ({ cls := "ListForge", name := "ask", desc := "(III)I" } : MethodName)) ∈ big := bg_1 (i := 200) rfl rfl
theorem mw_201 : (Cond.instanceMethod ({ cls := "ListForge", name := "ask", desc := "(III)I" } : MethodName)) ∈ big := bg_1 (i := 201) rfl rfl
theorem mw_202 : (Cond.selects "ListForge" ({ cls := "ListForge", name := "ask", desc := "(III)I" } : MethodName) ({ cls := "ListForge", name := "ask", desc := "(III)I" } : MethodName)) ∈ big := bg_1 (i := 202) rfl rfl
theorem mw_203 : (Cond.code ({ cls := "ListForge", name := "ask", desc := "(III)I" } : MethodName) prog_1_method_2_code 7 (Option.some FieldType.int)) ∈ big := bg_1 (i := 203) rfl rfl
theorem mw_204 : (Cond.methodLink "ListForge" 32 ({ cls := "ListForge", name := "requirePlace", desc := "(II)V" } : MethodName)) ∈ big := bg_1 (i := 204) rfl rfl
theorem mw_205 : (Cond.static ({ cls := "ListForge", name := "requirePlace", desc := "(II)V" } : MethodName)) ∈ big := bg_1 (i := 205) rfl rfl
theorem mw_206 : (Cond.code ({ cls := "ListForge", name := "requirePlace", desc := "(II)V" } : MethodName) prog_1_method_22_code 2 (Option.none : Option FieldType)) ∈ big := bg_1 (i := 206) rfl rfl
theorem mw_207 : (Cond.methodLink "ListForge" 36 ({ cls := "ListForge", name := "isWithin", desc := "(III)Z" } : MethodName)) ∈ big := bg_1 (i := 207) rfl rfl
theorem mw_208 : (Cond.static ({ cls := "ListForge", name := "isWithin", desc := "(III)Z" } : MethodName)) ∈ big := bg_1 (i := 208) rfl rfl
theorem mw_209 : (Cond.code ({ cls := "ListForge", name := "isWithin", desc := "(III)Z" } : MethodName) prog_1_method_24_code 3 (Option.some FieldType.boolean)) ∈ big := bg_1 (i := 209) rfl rfl
theorem mw_210 : (Cond.methodLink "ListForge" 40 ({ cls := "ListForge", name := "require", desc := "(Z)V" } : MethodName)) ∈ big := bg_1 (i := 210) rfl rfl
theorem mw_211 : (Cond.static ({ cls := "ListForge", name := "require", desc := "(Z)V" } : MethodName)) ∈ big := bg_1 (i := 211) rfl rfl
theorem mw_212 : (Cond.code ({ cls := "ListForge", name := "require", desc := "(Z)V" } : MethodName) prog_1_method_23_code 1 (Option.none : Option FieldType)) ∈ big := bg_1 (i := 212) rfl rfl
theorem mw_213 : (Cond.classLink "ListForge" 250 "java/lang/IllegalArgumentException") ∈ big := bg_1 (i := 213) rfl rfl
theorem mw_283 : (Cond.classLink "ListForge" 54 "java/lang/IllegalStateException") ∈ big := bg_2 (i := 43) rfl rfl
theorem mw_299 : (Cond.classLink "ListForge" 65 "java/lang/UnsupportedOperationException") ∈ big := bg_2 (i := 59) rfl rfl
theorem mw_315 : (Cond.methodLink "ListForge" 76 ({ cls := "ListForge$Subscription", name := "begin", desc := "(III)V" } : MethodName)) ∈ big := bg_2 (i := 75) rfl rfl
theorem mw_316 : (Cond.instanceMethod ({ cls := "ListForge$Subscription", name := "begin", desc := "(III)V" } : MethodName)) ∈ big := bg_2 (i := 76) rfl rfl
theorem mw_317 : (Cond.selects "ListForge$Subscription" ({ cls := "ListForge$Subscription", name := "begin", desc := "(III)V" } : MethodName) ({ cls := "ListForge$Subscription", name := "begin", desc := "(III)V" } : MethodName)) ∈ big := bg_2 (i := 77) rfl rfl
theorem mw_318 : (Cond.code ({ cls := "ListForge$Subscription", name := "begin", desc := "(III)V" } : MethodName) prog_5_method_2_code 4 (Option.none : Option FieldType)) ∈ big := bg_2 (i := 78) rfl rfl
theorem mw_319 : (Cond.methodLink "ListForge" 80 ({ cls := "ListForge$Outbox", name := "add", desc := "(IIII)V" } : MethodName)) ∈ big := bg_2 (i := 79) rfl rfl
theorem mw_320 : (Cond.instanceMethod ({ cls := "ListForge$Outbox", name := "add", desc := "(IIII)V" } : MethodName)) ∈ big := bg_2 (i := 80) rfl rfl
theorem mw_321 : (Cond.selects "ListForge$Outbox" ({ cls := "ListForge$Outbox", name := "add", desc := "(IIII)V" } : MethodName) ({ cls := "ListForge$Outbox", name := "add", desc := "(IIII)V" } : MethodName)) ∈ big := bg_2 (i := 81) rfl rfl
theorem mw_322 : (Cond.code ({ cls := "ListForge$Outbox", name := "add", desc := "(IIII)V" } : MethodName) prog_3_method_2_code 5 (Option.none : Option FieldType)) ∈ big := bg_2 (i := 82) rfl rfl
theorem mw_323 : (Cond.methodLink "ListForgeLaw" 85 ({ cls := "ListForgeLaw", name := "confirm", desc := "(LListForge;I[J)I" } : MethodName)) ∈ big := bg_2 (i := 83) rfl rfl
theorem mw_324 : (Cond.static ({ cls := "ListForgeLaw", name := "confirm", desc := "(LListForge;I[J)I" } : MethodName)) ∈ big := bg_2 (i := 84) rfl rfl
theorem mw_325 : (Cond.codeWith ({ cls := "ListForgeLaw", name := "confirm", desc := "(LListForge;I[J)I" } : MethodName) method_4_code 4 (Option.some FieldType.int) [(0, 9, 12, 23)]) ∈ big := bg_2 (i := 85) rfl rfl
theorem mw_326 : (Cond.classLink "ListForgeLaw" 23 "java/util/NoSuchElementException") ∈ big := bg_2 (i := 86) rfl rfl
theorem mw_327 : (Cond.methodLink "ListForgeLaw" 19 ({ cls := "ListForge", name := "confirm", desc := "(I)I" } : MethodName)) ∈ big := bg_2 (i := 87) rfl rfl
theorem mw_328 : (Cond.instanceMethod ({ cls := "ListForge", name := "confirm", desc := "(I)I" } : MethodName)) ∈ big := bg_2 (i := 88) rfl rfl
theorem mw_329 : (Cond.selects "ListForge" ({ cls := "ListForge", name := "confirm", desc := "(I)I" } : MethodName) ({ cls := "ListForge", name := "confirm", desc := "(I)I" } : MethodName)) ∈ big := bg_2 (i := 89) rfl rfl
theorem mw_330 : (Cond.code ({ cls := "ListForge", name := "confirm", desc := "(I)I" } : MethodName) prog_1_method_3_code 5 (Option.some FieldType.int)) ∈ big := bg_2 (i := 90) rfl rfl
theorem mw_331 : (Cond.methodLink "ListForge" 87 ({ cls := "ListForge$Subscription", name := "becomeLive", desc := "(I)V" } : MethodName)) ∈ big := bg_2 (i := 91) rfl rfl
theorem mw_332 : (Cond.instanceMethod ({ cls := "ListForge$Subscription", name := "becomeLive", desc := "(I)V" } : MethodName)) ∈ big := bg_2 (i := 92) rfl rfl
theorem mw_333 : (Cond.selects "ListForge$Subscription" ({ cls := "ListForge$Subscription", name := "becomeLive", desc := "(I)V" } : MethodName) ({ cls := "ListForge$Subscription", name := "becomeLive", desc := "(I)V" } : MethodName)) ∈ big := bg_2 (i := 93) rfl rfl
theorem mw_334 : (Cond.code ({ cls := "ListForge$Subscription", name := "becomeLive", desc := "(I)V" } : MethodName) prog_5_method_3_code 2 (Option.none : Option FieldType)) ∈ big := bg_2 (i := 94) rfl rfl
theorem mw_335 : (Cond.classLink "ListForge" 90 "java/util/NoSuchElementException") ∈ big := bg_2 (i := 95) rfl rfl
theorem mw_351 : (Cond.methodLink "ListForgeLaw" 89 ({ cls := "ListForgeLaw", name := "leave", desc := "(LListForge;II[J)I" } : MethodName)) ∈ big := bg_2 (i := 111) rfl rfl
theorem mw_352 : (Cond.static ({ cls := "ListForgeLaw", name := "leave", desc := "(LListForge;II[J)I" } : MethodName)) ∈ big := bg_2 (i := 112) rfl rfl
theorem mw_353 : (Cond.codeWith ({ cls := "ListForgeLaw", name := "leave", desc := "(LListForge;II[J)I" } : MethodName) method_5_code 5 (Option.some FieldType.int) [(0, 10, 13, 13), (0, 10, 17, 23)]) ∈ big := bg_2 (i := 113) rfl rfl
theorem mw_354 : (Cond.methodLink "ListForgeLaw" 25 ({ cls := "ListForge", name := "leave", desc := "(II)I" } : MethodName)) ∈ big := bg_2 (i := 114) rfl rfl
theorem mw_355 : (Cond.instanceMethod ({ cls := "ListForge", name := "leave", desc := "(II)I" } : MethodName)) ∈ big := bg_2 (i := 115) rfl rfl
theorem mw_356 : (Cond.selects "ListForge" ({ cls := "ListForge", name := "leave", desc := "(II)I" } : MethodName) ({ cls := "ListForge", name := "leave", desc := "(II)I" } : MethodName)) ∈ big := bg_2 (i := 116) rfl rfl
theorem mw_357 : (Cond.code ({ cls := "ListForge", name := "leave", desc := "(II)I" } : MethodName) prog_1_method_4_code 5 (Option.some FieldType.int)) ∈ big := bg_2 (i := 117) rfl rfl
theorem mw_358 : (Cond.methodLink "ListForge" 95 ({ cls := "ListForge", name := "existing", desc := "(II)LListForge$Subscription;" } : MethodName)) ∈ big := bg_2 (i := 118) rfl rfl
theorem mw_360 : (Cond.instanceMethod ({ cls := "ListForge", name := "existing", desc := "(II)LListForge$Subscription;" } : MethodName)) ∈ big := bg_2 (i := 120) rfl rfl
theorem mw_361 : (Cond.code ({ cls := "ListForge", name := "existing", desc := "(II)LListForge$Subscription;" } : MethodName) prog_1_method_21_code 4 (Option.some (FieldType.object "ListForge$Subscription"))) ∈ big := bg_2 (i := 121) rfl rfl
theorem mw_363 : (Cond.methodLink "ListForge" 99 ({ cls := "ListForge$Subscription", name := "end", desc := "()V" } : MethodName)) ∈ big := bg_2 (i := 123) rfl rfl
theorem mw_364 : (Cond.instanceMethod ({ cls := "ListForge$Subscription", name := "end", desc := "()V" } : MethodName)) ∈ big := bg_2 (i := 124) rfl rfl
theorem mw_365 : (Cond.selects "ListForge$Subscription" ({ cls := "ListForge$Subscription", name := "end", desc := "()V" } : MethodName) ({ cls := "ListForge$Subscription", name := "end", desc := "()V" } : MethodName)) ∈ big := bg_2 (i := 125) rfl rfl
theorem mw_366 : (Cond.code ({ cls := "ListForge$Subscription", name := "end", desc := "()V" } : MethodName) prog_5_method_5_code 1 (Option.none : Option FieldType)) ∈ big := bg_2 (i := 126) rfl rfl
theorem mw_367 : (Cond.methodLink "ListForgeLaw" 93 ({ cls := "ListForgeLaw", name := "way", desc := "(LListForge;III[J)I" } : MethodName)) ∈ big := bg_2 (i := 127) rfl rfl
theorem mw_368 : (Cond.static ({ cls := "ListForgeLaw", name := "way", desc := "(LListForge;III[J)I" } : MethodName)) ∈ big := bg_2 (i := 128) rfl rfl
theorem mw_369 : (Cond.codeWith ({ cls := "ListForgeLaw", name := "way", desc := "(LListForge;III[J)I" } : MethodName) method_6_code 6 (Option.some FieldType.int) [(0, 12, 15, 13), (0, 12, 19, 23)]) ∈ big := bg_2 (i := 129) rfl rfl
theorem mw_370 : (Cond.methodLink "ListForgeLaw" 29 ({ cls := "ListForge", name := "way", desc := "(III)I" } : MethodName)) ∈ big := bg_2 (i := 130) rfl rfl
theorem mw_371 : (Cond.instanceMethod ({ cls := "ListForge", name := "way", desc := "(III)I" } : MethodName)) ∈ big := bg_2 (i := 131) rfl rfl
theorem mw_372 : (Cond.selects "ListForge" ({ cls := "ListForge", name := "way", desc := "(III)I" } : MethodName) ({ cls := "ListForge", name := "way", desc := "(III)I" } : MethodName)) ∈ big := bg_2 (i := 132) rfl rfl
theorem mw_373 : (Cond.code ({ cls := "ListForge", name := "way", desc := "(III)I" } : MethodName) prog_1_method_5_code 6 (Option.some FieldType.int)) ∈ big := bg_2 (i := 133) rfl rfl
theorem mw_374 : (Cond.methodLink "ListForgeLaw" 96 ({ cls := "ListForgeLaw", name := "moderator", desc := "(LListForge;IIZ[J)I" } : MethodName)) ∈ big := bg_2 (i := 134) rfl rfl
theorem mw_375 : (Cond.static ({ cls := "ListForgeLaw", name := "moderator", desc := "(LListForge;IIZ[J)I" } : MethodName)) ∈ big := bg_2 (i := 135) rfl rfl
theorem mw_376 : (Cond.codeWith ({ cls := "ListForgeLaw", name := "moderator", desc := "(LListForge;IIZ[J)I" } : MethodName) method_7_code 6 (Option.some FieldType.int) [(0, 19, 22, 13), (0, 19, 26, 23), (0, 19, 30, 15)]) ∈ big := bg_2 (i := 136) rfl rfl
theorem mw_377 : (Cond.methodLink "ListForgeLaw" 32 ({ cls := "ListForge", name := "moderator", desc := "(IIZ)Z" } : MethodName)) ∈ big := bg_2 (i := 137) rfl rfl
theorem mw_378 : (Cond.instanceMethod ({ cls := "ListForge", name := "moderator", desc := "(IIZ)Z" } : MethodName)) ∈ big := bg_2 (i := 138) rfl rfl
theorem mw_379 : (Cond.selects "ListForge" ({ cls := "ListForge", name := "moderator", desc := "(IIZ)Z" } : MethodName) ({ cls := "ListForge", name := "moderator", desc := "(IIZ)Z" } : MethodName)) ∈ big := bg_2 (i := 139) rfl rfl
theorem mw_380 : (Cond.code ({ cls := "ListForge", name := "moderator", desc := "(IIZ)Z" } : MethodName) prog_1_method_6_code 6 (Option.some FieldType.boolean)) ∈ big := bg_2 (i := 140) rfl rfl
theorem mw_382 : (Cond.methodLink "ListForgeLaw" 100 ({ cls := "ListForgeLaw", name := "ban", desc := "(LListForge;IIZ[J)I" } : MethodName)) ∈ big := bg_2 (i := 142) rfl rfl
theorem mw_383 : (Cond.static ({ cls := "ListForgeLaw", name := "ban", desc := "(LListForge;IIZ[J)I" } : MethodName)) ∈ big := bg_2 (i := 143) rfl rfl
theorem mw_384 : (Cond.codeWith ({ cls := "ListForgeLaw", name := "ban", desc := "(LListForge;IIZ[J)I" } : MethodName) method_8_code 6 (Option.some FieldType.int) [(0, 19, 22, 13)]) ∈ big := bg_2 (i := 144) rfl rfl
theorem mw_385 : (Cond.methodLink "ListForgeLaw" 36 ({ cls := "ListForge", name := "ban", desc := "(IIZ)Z" } : MethodName)) ∈ big := bg_2 (i := 145) rfl rfl
theorem mw_386 : (Cond.instanceMethod ({ cls := "ListForge", name := "ban", desc := "(IIZ)Z" } : MethodName)) ∈ big := bg_2 (i := 146) rfl rfl
theorem mw_387 : (Cond.selects "ListForge" ({ cls := "ListForge", name := "ban", desc := "(IIZ)Z" } : MethodName) ({ cls := "ListForge", name := "ban", desc := "(IIZ)Z" } : MethodName)) ∈ big := bg_2 (i := 147) rfl rfl
theorem mw_388 : (Cond.code ({ cls := "ListForge", name := "ban", desc := "(IIZ)Z" } : MethodName) prog_1_method_7_code 6 (Option.some FieldType.boolean)) ∈ big := bg_2 (i := 148) rfl rfl
theorem mw_389 : (Cond.methodLink "ListForgeLaw" 105 ({ cls := "ListForgeLaw", name := "setting", desc := "(LListForge;IID[D)I" } : MethodName)) ∈ big := bg_2 (i := 149) rfl rfl
theorem mw_390 : (Cond.static ({ cls := "ListForgeLaw", name := "setting", desc := "(LListForge;IID[D)I" } : MethodName)) ∈ big := bg_2 (i := 150) rfl rfl
theorem mw_391 : (Cond.codeWith ({ cls := "ListForgeLaw", name := "setting", desc := "(LListForge;IID[D)I" } : MethodName) method_9_code 7 (Option.some FieldType.int) [(0, 11, 14, 13)]) ∈ big := bg_2 (i := 151) rfl rfl
theorem mw_392 : (Cond.methodLink "ListForgeLaw" 39 ({ cls := "ListForge", name := "setting", desc := "(IID)D" } : MethodName)) ∈ big := bg_2 (i := 152) rfl rfl
theorem mw_393 : (Cond.instanceMethod ({ cls := "ListForge", name := "setting", desc := "(IID)D" } : MethodName)) ∈ big := bg_2 (i := 153) rfl rfl
theorem mw_394 : (Cond.selects "ListForge" ({ cls := "ListForge", name := "setting", desc := "(IID)D" } : MethodName) ({ cls := "ListForge", name := "setting", desc := "(IID)D" } : MethodName)) ∈ big := bg_2 (i := 154) rfl rfl
theorem mw_395 : (Cond.code ({ cls := "ListForge", name := "setting", desc := "(IID)D" } : MethodName) prog_1_method_8_code 6 (Option.some FieldType.double)) ∈ big := bg_2 (i := 155) rfl rfl
theorem mw_396 : (Cond.methodLink "ListForge" 111 ({ cls := "ListForge$MailingList", name := "changeOpen", desc := "(Z)D" } : MethodName)) ∈ big := bg_2 (i := 156) rfl rfl
theorem mw_397 : (Cond.instanceMethod ({ cls := "ListForge$MailingList", name := "changeOpen", desc := "(Z)D" } : MethodName)) ∈ big := bg_2 (i := 157) rfl rfl
theorem mw_398 : (Cond.selects "ListForge$MailingList" ({ cls := "ListForge$MailingList", name := "changeOpen", desc := "(Z)D" } : MethodName) ({ cls := "ListForge$MailingList", name := "changeOpen", desc := "(Z)D" } : MethodName)) ∈ big := bg_2 (i := 158) rfl rfl
theorem mw_399 : (Cond.code ({ cls := "ListForge$MailingList", name := "changeOpen", desc := "(Z)D" } : MethodName) prog_2_method_2_code 4 (Option.some FieldType.double)) ∈ big := bg_2 (i := 159) rfl rfl
theorem mw_400 : (Cond.methodLink "ListForge" 115 ({ cls := "ListForge$MailingList", name := "changeWatched", desc := "(Z)D" } : MethodName)) ∈ big := bg_2 (i := 160) rfl rfl
theorem mw_401 : (Cond.instanceMethod ({ cls := "ListForge$MailingList", name := "changeWatched", desc := "(Z)D" } : MethodName)) ∈ big := bg_2 (i := 161) rfl rfl
theorem mw_402 : (Cond.selects "ListForge$MailingList" ({ cls := "ListForge$MailingList", name := "changeWatched", desc := "(Z)D" } : MethodName) ({ cls := "ListForge$MailingList", name := "changeWatched", desc := "(Z)D" } : MethodName)) ∈ big := bg_2 (i := 162) rfl rfl
theorem mw_403 : (Cond.code ({ cls := "ListForge$MailingList", name := "changeWatched", desc := "(Z)D" } : MethodName) prog_2_method_3_code 4 (Option.some FieldType.double)) ∈ big := bg_2 (i := 163) rfl rfl
theorem mw_404 : (Cond.methodLink "ListForge" 118 ({ cls := "ListForge$MailingList", name := "changeGreatest", desc := "(I)D" } : MethodName)) ∈ big := bg_2 (i := 164) rfl rfl
theorem mw_405 : (Cond.instanceMethod ({ cls := "ListForge$MailingList", name := "changeGreatest", desc := "(I)D" } : MethodName)) ∈ big := bg_2 (i := 165) rfl rfl
theorem mw_406 : (Cond.selects "ListForge$MailingList" ({ cls := "ListForge$MailingList", name := "changeGreatest", desc := "(I)D" } : MethodName) ({ cls := "ListForge$MailingList", name := "changeGreatest", desc := "(I)D" } : MethodName)) ∈ big := bg_2 (i := 166) rfl rfl
theorem mw_407 : (Cond.code ({ cls := "ListForge$MailingList", name := "changeGreatest", desc := "(I)D" } : MethodName) prog_2_method_4_code 4 (Option.some FieldType.double)) ∈ big := bg_2 (i := 167) rfl rfl
theorem mw_408 : (Cond.methodLink "ListForge" 122 ({ cls := "ListForge$MailingList", name := "changeFull", desc := "(I)D" } : MethodName)) ∈ big := bg_2 (i := 168) rfl rfl
theorem mw_409 : (Cond.instanceMethod ({ cls := "ListForge$MailingList", name := "changeFull", desc := "(I)D" } : MethodName)) ∈ big := bg_2 (i := 169) rfl rfl
theorem mw_410 : (Cond.selects "ListForge$MailingList" ({ cls := "ListForge$MailingList", name := "changeFull", desc := "(I)D" } : MethodName) ({ cls := "ListForge$MailingList", name := "changeFull", desc := "(I)D" } : MethodName)) ∈ big := bg_2 (i := 170) rfl rfl
theorem mw_411 : (Cond.code ({ cls := "ListForge$MailingList", name := "changeFull", desc := "(I)D" } : MethodName) prog_2_method_5_code 4 (Option.some FieldType.double)) ∈ big := bg_2 (i := 171) rfl rfl
theorem mw_412 : (Cond.constantDouble "ListForge" 125 (4602678819172646912 : UInt64)) ∈ big := bg_2 (i := 172) rfl rfl
theorem mw_413 : (Cond.constantDouble "ListForge" 127 (4621819117588971520 : UInt64)) ∈ big := bg_2 (i := 173) rfl rfl
theorem mw_414 : (Cond.methodLink "ListForge" 129 ({ cls := "ListForge$MailingList", name := "changeBest", desc := "(D)D" } : MethodName)) ∈ big := bg_2 (i := 174) rfl rfl
theorem mw_415 : (Cond.instanceMethod ({ cls := "ListForge$MailingList", name := "changeBest", desc := "(D)D" } : MethodName)) ∈ big := bg_2 (i := 175) rfl rfl
theorem mw_416 : (Cond.selects "ListForge$MailingList" ({ cls := "ListForge$MailingList", name := "changeBest", desc := "(D)D" } : MethodName) ({ cls := "ListForge$MailingList", name := "changeBest", desc := "(D)D" } : MethodName)) ∈ big := bg_2 (i := 176) rfl rfl
theorem mw_417 : (Cond.code ({ cls := "ListForge$MailingList", name := "changeBest", desc := "(D)D" } : MethodName) prog_2_method_6_code 5 (Option.some FieldType.double)) ∈ big := bg_2 (i := 177) rfl rfl
theorem mw_418 : (Cond.methodLink "ListForge" 133 ({ cls := "ListForge$MailingList", name := "changeBarred", desc := "(IZ)D" } : MethodName)) ∈ big := bg_2 (i := 178) rfl rfl
theorem mw_419 : (Cond.instanceMethod ({ cls := "ListForge$MailingList", name := "changeBarred", desc := "(IZ)D" } : MethodName)) ∈ big := bg_2 (i := 179) rfl rfl
theorem mw_420 : (Cond.selects "ListForge$MailingList" ({ cls := "ListForge$MailingList", name := "changeBarred", desc := "(IZ)D" } : MethodName) ({ cls := "ListForge$MailingList", name := "changeBarred", desc := "(IZ)D" } : MethodName)) ∈ big := bg_2 (i := 180) rfl rfl
theorem mw_421 : (Cond.code ({ cls := "ListForge$MailingList", name := "changeBarred", desc := "(IZ)D" } : MethodName) prog_2_method_7_code 5 (Option.some FieldType.double)) ∈ big := bg_2 (i := 181) rfl rfl
theorem mw_422 : (Cond.methodLink "ListForgeLaw" 109 ({ cls := "ListForgeLaw", name := "post", desc := "(LListForge;IIII[J)I" } : MethodName)) ∈ big := bg_2 (i := 182) rfl rfl
theorem mw_423 : (Cond.static ({ cls := "ListForgeLaw", name := "post", desc := "(LListForge;IIII[J)I" } : MethodName)) ∈ big := bg_2 (i := 183) rfl rfl
theorem mw_424 : (Cond.codeWith ({ cls := "ListForgeLaw", name := "post", desc := "(LListForge;IIII[J)I" } : MethodName) method_10_code 7 (Option.some FieldType.int) [(0, 14, 17, 13), (0, 14, 21, 15), (0, 14, 25, 17)]) ∈ big := bg_2 (i := 184) rfl rfl
theorem mw_425 : (Cond.methodLink "ListForgeLaw" 43 ({ cls := "ListForge", name := "post", desc := "(IIII)I" } : MethodName)) ∈ big := bg_2 (i := 185) rfl rfl
theorem mw_426 : (Cond.instanceMethod ({ cls := "ListForge", name := "post", desc := "(IIII)I" } : MethodName)) ∈ big := bg_2 (i := 186) rfl rfl
theorem mw_427 : (Cond.selects "ListForge" ({ cls := "ListForge", name := "post", desc := "(IIII)I" } : MethodName) ({ cls := "ListForge", name := "post", desc := "(IIII)I" } : MethodName)) ∈ big := bg_2 (i := 187) rfl rfl
theorem mw_428 : (Cond.code ({ cls := "ListForge", name := "post", desc := "(IIII)I" } : MethodName) prog_1_method_9_code 7 (Option.some FieldType.int)) ∈ big := bg_2 (i := 188) rfl rfl
theorem mw_430 : (Cond.methodLink "ListForge" 142 ({ cls := "ListForge$MailingList", name := "refusesSender", desc := "(I)Z" } : MethodName)) ∈ big := bg_2 (i := 190) rfl rfl
theorem mw_431 : (Cond.instanceMethod ({ cls := "ListForge$MailingList", name := "refusesSender", desc := "(I)Z" } : MethodName)) ∈ big := bg_2 (i := 191) rfl rfl
theorem mw_432 : (Cond.selects "ListForge$MailingList" ({ cls := "ListForge$MailingList", name := "refusesSender", desc := "(I)Z" } : MethodName) ({ cls := "ListForge$MailingList", name := "refusesSender", desc := "(I)Z" } : MethodName)) ∈ big := bg_2 (i := 192) rfl rfl
theorem mw_433 : (Cond.code ({ cls := "ListForge$MailingList", name := "refusesSender", desc := "(I)Z" } : MethodName) prog_2_method_10_code 2 (Option.some FieldType.boolean)) ∈ big := bg_2 (i := 193) rfl rfl
theorem mw_435 : (Cond.methodLink "ListForge" 148 ({ cls := "ListForge$Post", name := "comeIn", desc := "(III)V" } : MethodName)) ∈ big := bg_2 (i := 195) rfl rfl
theorem mw_436 : (Cond.instanceMethod ({ cls := "ListForge$Post", name := "comeIn", desc := "(III)V" } : MethodName)) ∈ big := bg_2 (i := 196) rfl rfl
theorem mw_437 : (Cond.selects "ListForge$Post" ({ cls := "ListForge$Post", name := "comeIn", desc := "(III)V" } : MethodName) ({ cls := "ListForge$Post", name := "comeIn", desc := "(III)V" } : MethodName)) ∈ big := bg_2 (i := 197) rfl rfl
theorem mw_438 : (Cond.code ({ cls := "ListForge$Post", name := "comeIn", desc := "(III)V" } : MethodName) prog_4_method_2_code 4 (Option.none : Option FieldType)) ∈ big := bg_2 (i := 198) rfl rfl
theorem mw_439 : (Cond.methodLink "ListForge" 151 ({ cls := "ListForge$MailingList", name := "holdsBack", desc := "(III)Z" } : MethodName)) ∈ big := bg_2 (i := 199) rfl rfl
theorem mw_440 : (Cond.instanceMethod ({ cls := "ListForge$MailingList", name := "holdsBack", desc := "(III)Z" } : MethodName)) ∈ big := bg_2 (i := 200) rfl rfl
theorem mw_441 : (Cond.selects "ListForge$MailingList" ({ cls := "ListForge$MailingList", name := "holdsBack", desc := "(III)Z" } : MethodName) ({ cls := "ListForge$MailingList", name := "holdsBack", desc := "(III)Z" } : MethodName)) ∈ big := bg_2 (i := 201) rfl rfl
theorem mw_442 : (Cond.code ({ cls := "ListForge$MailingList", name := "holdsBack", desc := "(III)Z" } : MethodName) prog_2_method_11_code 4 (Option.some FieldType.boolean)) ∈ big := bg_2 (i := 202) rfl rfl
theorem mw_443 : (Cond.methodLink "ListForge" 154 ({ cls := "ListForge$MailingList", name := "tellModerators", desc := "(ILListForge$Outbox;)V" } : MethodName)) ∈ big := bg_2 (i := 203) rfl rfl
theorem mw_444 : (Cond.instanceMethod ({ cls := "ListForge$MailingList", name := "tellModerators", desc := "(ILListForge$Outbox;)V" } : MethodName)) ∈ big := bg_2 (i := 204) rfl rfl
theorem mw_445 : (Cond.selects "ListForge$MailingList" ({ cls := "ListForge$MailingList", name := "tellModerators", desc := "(ILListForge$Outbox;)V" } : MethodName) ({ cls := "ListForge$MailingList", name := "tellModerators", desc := "(ILListForge$Outbox;)V" } : MethodName)) ∈ big := bg_2 (i := 205) rfl rfl
theorem mw_446 : (Cond.code ({ cls := "ListForge$MailingList", name := "tellModerators", desc := "(ILListForge$Outbox;)V" } : MethodName) prog_2_method_12_code 4 (Option.none : Option FieldType)) ∈ big := bg_2 (i := 206) rfl rfl
theorem mw_447 : (Cond.methodLink "ListForge$MailingList" 54 ({ cls := "ListForge$Outbox", name := "add", desc := "(IIII)V" } : MethodName)) ∈ big := bg_2 (i := 207) rfl rfl
theorem mw_448 : (Cond.methodLink "ListForge" 158 ({ cls := "ListForge", name := "letThrough", desc := "(I)V" } : MethodName)) ∈ big := bg_2 (i := 208) rfl rfl
theorem mw_450 : (Cond.instanceMethod ({ cls := "ListForge", name := "letThrough", desc := "(I)V" } : MethodName)) ∈ big := bg_2 (i := 210) rfl rfl
theorem mw_451 : (Cond.code ({ cls := "ListForge", name := "letThrough", desc := "(I)V" } : MethodName) prog_1_method_20_code 3 (Option.none : Option FieldType)) ∈ big := bg_2 (i := 211) rfl rfl
theorem mw_452 : (Cond.methodLink "ListForge" 244 ({ cls := "ListForge$MailingList", name := "deliver", desc := "(ILListForge$Post;ILListForge$Outbox;)V" } : MethodName)) ∈ big := bg_2 (i := 212) rfl rfl
theorem mw_453 : (Cond.instanceMethod ({ cls := "ListForge$MailingList", name := "deliver", desc := "(ILListForge$Post;ILListForge$Outbox;)V" } : MethodName)) ∈ big := bg_2 (i := 213) rfl rfl
theorem mw_454 : (Cond.selects "ListForge$MailingList" ({ cls := "ListForge$MailingList", name := "deliver", desc := "(ILListForge$Post;ILListForge$Outbox;)V" } : MethodName) ({ cls := "ListForge$MailingList", name := "deliver", desc := "(ILListForge$Post;ILListForge$Outbox;)V" } : MethodName)) ∈ big := bg_2 (i := 214) rfl rfl
theorem mw_455 : (Cond.code ({ cls := "ListForge$MailingList", name := "deliver", desc := "(ILListForge$Post;ILListForge$Outbox;)V" } : MethodName) prog_2_method_13_code 7 (Option.none : Option FieldType)) ∈ big := bg_2 (i := 215) rfl rfl
theorem mw_456 : (Cond.methodLink "ListForge$MailingList" 60 ({ cls := "ListForge$Subscription", name := "takes", desc := "(I)Z" } : MethodName)) ∈ big := bg_2 (i := 216) rfl rfl
theorem mw_457 : (Cond.instanceMethod ({ cls := "ListForge$Subscription", name := "takes", desc := "(I)Z" } : MethodName)) ∈ big := bg_2 (i := 217) rfl rfl
theorem mw_458 : (Cond.selects "ListForge$Subscription" ({ cls := "ListForge$Subscription", name := "takes", desc := "(I)Z" } : MethodName) ({ cls := "ListForge$Subscription", name := "takes", desc := "(I)Z" } : MethodName)) ∈ big := bg_2 (i := 218) rfl rfl
theorem mw_459 : (Cond.code ({ cls := "ListForge$Subscription", name := "takes", desc := "(I)Z" } : MethodName) prog_5_method_6_code 2 (Option.some FieldType.boolean)) ∈ big := bg_2 (i := 219) rfl rfl
theorem mw_460 : (Cond.methodLink "ListForge$MailingList" 72 ({ cls := "ListForge$MailingList", name := "addToBundle", desc := "(II)V" } : MethodName)) ∈ big := bg_2 (i := 220) rfl rfl
theorem mw_461 : (Cond.instanceMethod ({ cls := "ListForge$MailingList", name := "addToBundle", desc := "(II)V" } : MethodName)) ∈ big := bg_2 (i := 221) rfl rfl
theorem mw_462 : (Cond.selects "ListForge$MailingList" ({ cls := "ListForge$MailingList", name := "addToBundle", desc := "(II)V" } : MethodName) ({ cls := "ListForge$MailingList", name := "addToBundle", desc := "(II)V" } : MethodName)) ∈ big := bg_2 (i := 222) rfl rfl
theorem mw_463 : (Cond.code ({ cls := "ListForge$MailingList", name := "addToBundle", desc := "(II)V" } : MethodName) prog_2_method_14_code 3 (Option.none : Option FieldType)) ∈ big := bg_2 (i := 223) rfl rfl
theorem mw_464 : (Cond.methodLink "ListForge$MailingList" 79 ({ cls := "ListForge$MailingList", name := "sendBundle", desc := "(LListForge$Outbox;)V" } : MethodName)) ∈ big := bg_2 (i := 224) rfl rfl
theorem mw_465 : (Cond.instanceMethod ({ cls := "ListForge$MailingList", name := "sendBundle", desc := "(LListForge$Outbox;)V" } : MethodName)) ∈ big := bg_2 (i := 225) rfl rfl
theorem mw_466 : (Cond.selects "ListForge$MailingList" ({ cls := "ListForge$MailingList", name := "sendBundle", desc := "(LListForge$Outbox;)V" } : MethodName) ({ cls := "ListForge$MailingList", name := "sendBundle", desc := "(LListForge$Outbox;)V" } : MethodName)) ∈ big := bg_2 (i := 226) rfl rfl
theorem mw_467 : (Cond.code ({ cls := "ListForge$MailingList", name := "sendBundle", desc := "(LListForge$Outbox;)V" } : MethodName) prog_2_method_15_code 3 (Option.none : Option FieldType)) ∈ big := bg_2 (i := 227) rfl rfl
theorem mw_468 : (Cond.methodLink "ListForgeLaw" 113 ({ cls := "ListForgeLaw", name := "judge", desc := "(LListForge;III[J)I" } : MethodName)) ∈ big := bg_2 (i := 228) rfl rfl
theorem mw_469 : (Cond.static ({ cls := "ListForgeLaw", name := "judge", desc := "(LListForge;III[J)I" } : MethodName)) ∈ big := bg_2 (i := 229) rfl rfl
theorem mw_470 : (Cond.codeWith ({ cls := "ListForgeLaw", name := "judge", desc := "(LListForge;III[J)I" } : MethodName) method_11_code 6 (Option.some FieldType.int) [(0, 12, 15, 13), (0, 12, 19, 23), (0, 12, 23, 17)]) ∈ big := bg_2 (i := 230) rfl rfl
theorem mw_471 : (Cond.methodLink "ListForgeLaw" 47 ({ cls := "ListForge", name := "judge", desc := "(III)I" } : MethodName)) ∈ big := bg_2 (i := 231) rfl rfl
theorem mw_472 : (Cond.instanceMethod ({ cls := "ListForge", name := "judge", desc := "(III)I" } : MethodName)) ∈ big := bg_2 (i := 232) rfl rfl
theorem mw_473 : (Cond.selects "ListForge" ({ cls := "ListForge", name := "judge", desc := "(III)I" } : MethodName) ({ cls := "ListForge", name := "judge", desc := "(III)I" } : MethodName)) ∈ big := bg_2 (i := 233) rfl rfl
theorem mw_474 : (Cond.code ({ cls := "ListForge", name := "judge", desc := "(III)I" } : MethodName) prog_1_method_10_code 5 (Option.some FieldType.int)) ∈ big := bg_2 (i := 234) rfl rfl
theorem mw_477 : (Cond.methodLink "ListForge" 174 ({ cls := "ListForge", name := "postsThatAre", desc := "(I)I" } : MethodName)) ∈ big := bg_2 (i := 237) rfl rfl
theorem mw_479 : (Cond.instanceMethod ({ cls := "ListForge", name := "postsThatAre", desc := "(I)I" } : MethodName)) ∈ big := bg_2 (i := 239) rfl rfl
theorem mw_480 : (Cond.code ({ cls := "ListForge", name := "postsThatAre", desc := "(I)I" } : MethodName) prog_1_method_19_code 4 (Option.some FieldType.int)) ∈ big := bg_3 (i := 0) rfl rfl
theorem mw_481 : (Cond.methodLink "ListForgeLaw" 116 ({ cls := "ListForgeLaw", name := "bounce", desc := "(LListForge;IIZ[D)I" } : MethodName)) ∈ big := bg_3 (i := 1) rfl rfl
theorem mw_482 : (Cond.static ({ cls := "ListForgeLaw", name := "bounce", desc := "(LListForge;IIZ[D)I" } : MethodName)) ∈ big := bg_3 (i := 2) rfl rfl
theorem mw_483 : (Cond.codeWith ({ cls := "ListForgeLaw", name := "bounce", desc := "(LListForge;IIZ[D)I" } : MethodName) method_12_code 6 (Option.some FieldType.int) [(0, 11, 14, 13), (0, 11, 18, 23), (0, 11, 22, 15)]) ∈ big := bg_3 (i := 3) rfl rfl
theorem mw_484 : (Cond.methodLink "ListForgeLaw" 50 ({ cls := "ListForge", name := "bounce", desc := "(IIZ)D" } : MethodName)) ∈ big := bg_3 (i := 4) rfl rfl
theorem mw_485 : (Cond.instanceMethod ({ cls := "ListForge", name := "bounce", desc := "(IIZ)D" } : MethodName)) ∈ big := bg_3 (i := 5) rfl rfl
theorem mw_486 : (Cond.selects "ListForge" ({ cls := "ListForge", name := "bounce", desc := "(IIZ)D" } : MethodName) ({ cls := "ListForge", name := "bounce", desc := "(IIZ)D" } : MethodName)) ∈ big := bg_3 (i := 6) rfl rfl
theorem mw_487 : (Cond.code ({ cls := "ListForge", name := "bounce", desc := "(IIZ)D" } : MethodName) prog_1_method_11_code 5 (Option.some FieldType.double)) ∈ big := bg_3 (i := 7) rfl rfl
theorem mw_489 : (Cond.methodLink "ListForge" 190 ({ cls := "ListForge$Subscription", name := "stop", desc := "(I)V" } : MethodName)) ∈ big := bg_3 (i := 9) rfl rfl
theorem mw_490 : (Cond.instanceMethod ({ cls := "ListForge$Subscription", name := "stop", desc := "(I)V" } : MethodName)) ∈ big := bg_3 (i := 10) rfl rfl
theorem mw_491 : (Cond.selects "ListForge$Subscription" ({ cls := "ListForge$Subscription", name := "stop", desc := "(I)V" } : MethodName) ({ cls := "ListForge$Subscription", name := "stop", desc := "(I)V" } : MethodName)) ∈ big := bg_3 (i := 11) rfl rfl
theorem mw_492 : (Cond.code ({ cls := "ListForge$Subscription", name := "stop", desc := "(I)V" } : MethodName) prog_5_method_4_code 2 (Option.none : Option FieldType)) ∈ big := bg_3 (i := 12) rfl rfl
theorem mw_493 : (Cond.methodLink "ListForgeLaw" 120 ({ cls := "ListForgeLaw", name := "renew", desc := "(LListForge;II[J)I" } : MethodName)) ∈ big := bg_3 (i := 13) rfl rfl
theorem mw_494 : (Cond.static ({ cls := "ListForgeLaw", name := "renew", desc := "(LListForge;II[J)I" } : MethodName)) ∈ big := bg_3 (i := 14) rfl rfl
theorem mw_495 : (Cond.codeWith ({ cls := "ListForgeLaw", name := "renew", desc := "(LListForge;II[J)I" } : MethodName) method_13_code 5 (Option.some FieldType.int) [(0, 10, 13, 13), (0, 10, 17, 23), (0, 10, 21, 15)]) ∈ big := bg_3 (i := 15) rfl rfl
theorem mw_496 : (Cond.methodLink "ListForgeLaw" 54 ({ cls := "ListForge", name := "renew", desc := "(II)I" } : MethodName)) ∈ big := bg_3 (i := 16) rfl rfl
theorem mw_497 : (Cond.instanceMethod ({ cls := "ListForge", name := "renew", desc := "(II)I" } : MethodName)) ∈ big := bg_3 (i := 17) rfl rfl
theorem mw_498 : (Cond.selects "ListForge" ({ cls := "ListForge", name := "renew", desc := "(II)I" } : MethodName) ({ cls := "ListForge", name := "renew", desc := "(II)I" } : MethodName)) ∈ big := bg_3 (i := 18) rfl rfl
theorem mw_499 : (Cond.code ({ cls := "ListForge", name := "renew", desc := "(II)I" } : MethodName) prog_1_method_12_code 5 (Option.some FieldType.int)) ∈ big := bg_3 (i := 19) rfl rfl
theorem mw_501 : (Cond.methodLink "ListForgeLaw" 123 ({ cls := "ListForgeLaw", name := "tick", desc := "(LListForge;I[J)I" } : MethodName)) ∈ big := bg_3 (i := 21) rfl rfl
theorem mw_502 : (Cond.static ({ cls := "ListForgeLaw", name := "tick", desc := "(LListForge;I[J)I" } : MethodName)) ∈ big := bg_3 (i := 22) rfl rfl
theorem mw_503 : (Cond.codeWith ({ cls := "ListForgeLaw", name := "tick", desc := "(LListForge;I[J)I" } : MethodName) method_14_code 4 (Option.some FieldType.int) [(0, 9, 12, 13)]) ∈ big := bg_3 (i := 23) rfl rfl
theorem mw_504 : (Cond.methodLink "ListForgeLaw" 57 ({ cls := "ListForge", name := "tick", desc := "(I)I" } : MethodName)) ∈ big := bg_3 (i := 24) rfl rfl
theorem mw_505 : (Cond.instanceMethod ({ cls := "ListForge", name := "tick", desc := "(I)I" } : MethodName)) ∈ big := bg_3 (i := 25) rfl rfl
theorem mw_506 : (Cond.selects "ListForge" ({ cls := "ListForge", name := "tick", desc := "(I)I" } : MethodName) ({ cls := "ListForge", name := "tick", desc := "(I)I" } : MethodName)) ∈ big := bg_3 (i := 26) rfl rfl
theorem mw_507 : (Cond.code ({ cls := "ListForge", name := "tick", desc := "(I)I" } : MethodName) prog_1_method_13_code 4 (Option.some FieldType.int)) ∈ big := bg_3 (i := 27) rfl rfl
theorem mw_508 : (Cond.methodLink "ListForge" 198 ({ cls := "ListForge$MailingList", name := "beginDay", desc := "(ILListForge$Outbox;)V" } : MethodName)) ∈ big := bg_3 (i := 28) rfl rfl
theorem mw_509 : (Cond.instanceMethod ({ cls := "ListForge$MailingList", name := "beginDay", desc := "(ILListForge$Outbox;)V" } : MethodName)) ∈ big := bg_3 (i := 29) rfl rfl
theorem mw_510 : (Cond.selects "ListForge$MailingList" ({ cls := "ListForge$MailingList", name := "beginDay", desc := "(ILListForge$Outbox;)V" } : MethodName) ({ cls := "ListForge$MailingList", name := "beginDay", desc := "(ILListForge$Outbox;)V" } : MethodName)) ∈ big := bg_3 (i := 30) rfl rfl
theorem mw_511 : (Cond.code ({ cls := "ListForge$MailingList", name := "beginDay", desc := "(ILListForge$Outbox;)V" } : MethodName) prog_2_method_16_code 4 (Option.none : Option FieldType)) ∈ big := bg_3 (i := 31) rfl rfl
theorem mw_512 : (Cond.methodLink "ListForge$MailingList" 89 ({ cls := "ListForge$MailingList", name := "beginDayOf", desc := "(IILListForge$Outbox;)V" } : MethodName)) ∈ big := bg_3 (i := 32) rfl rfl
theorem mw_513 : (Cond.instanceMethod ({ cls := "ListForge$MailingList", name := "beginDayOf", desc := "(IILListForge$Outbox;)V" } : MethodName)) ∈ big := bg_3 (i := 33) rfl rfl
theorem mw_514 : (Cond.selects "ListForge$MailingList" ({ cls := "ListForge$MailingList", name := "beginDayOf", desc := "(IILListForge$Outbox;)V" } : MethodName) ({ cls := "ListForge$MailingList", name := "beginDayOf", desc := "(IILListForge$Outbox;)V" } : MethodName)) ∈ big := bg_3 (i := 34) rfl rfl
theorem mw_515 : (Cond.code ({ cls := "ListForge$MailingList", name := "beginDayOf", desc := "(IILListForge$Outbox;)V" } : MethodName) prog_2_method_17_code 6 (Option.none : Option FieldType)) ∈ big := bg_3 (i := 35) rfl rfl
theorem mw_516 : (Cond.methodLink "ListForge$MailingList" 96 ({ cls := "ListForge$Subscription", name := "fade", desc := "(I)V" } : MethodName)) ∈ big := bg_3 (i := 36) rfl rfl
theorem mw_517 : (Cond.instanceMethod ({ cls := "ListForge$Subscription", name := "fade", desc := "(I)V" } : MethodName)) ∈ big := bg_3 (i := 37) rfl rfl
theorem mw_518 : (Cond.selects "ListForge$Subscription" ({ cls := "ListForge$Subscription", name := "fade", desc := "(I)V" } : MethodName) ({ cls := "ListForge$Subscription", name := "fade", desc := "(I)V" } : MethodName)) ∈ big := bg_3 (i := 38) rfl rfl
theorem mw_519 : (Cond.code ({ cls := "ListForge$Subscription", name := "fade", desc := "(I)V" } : MethodName) prog_5_method_7_code 4 (Option.none : Option FieldType)) ∈ big := bg_3 (i := 39) rfl rfl
theorem mw_520 : (Cond.constantDouble "ListForge$Subscription" 38 (4606056518893174784 : UInt64)) ∈ big := bg_3 (i := 40) rfl rfl
theorem mw_521 : (Cond.constantDouble "ListForge$Subscription" 40 (4598175219545276416 : UInt64)) ∈ big := bg_3 (i := 41) rfl rfl
theorem mw_522 : (Cond.methodLink "ListForge$MailingList" 100 ({ cls := "ListForge$MailingList", name := "warnAgain", desc := "(ILListForge$Outbox;)V" } : MethodName)) ∈ big := bg_3 (i := 42) rfl rfl
theorem mw_523 : (Cond.instanceMethod ({ cls := "ListForge$MailingList", name := "warnAgain", desc := "(ILListForge$Outbox;)V" } : MethodName)) ∈ big := bg_3 (i := 43) rfl rfl
theorem mw_524 : (Cond.selects "ListForge$MailingList" ({ cls := "ListForge$MailingList", name := "warnAgain", desc := "(ILListForge$Outbox;)V" } : MethodName) ({ cls := "ListForge$MailingList", name := "warnAgain", desc := "(ILListForge$Outbox;)V" } : MethodName)) ∈ big := bg_3 (i := 44) rfl rfl
theorem mw_525 : (Cond.code ({ cls := "ListForge$MailingList", name := "warnAgain", desc := "(ILListForge$Outbox;)V" } : MethodName) prog_2_method_18_code 4 (Option.none : Option FieldType)) ∈ big := bg_3 (i := 45) rfl rfl
theorem mw_526 : (Cond.methodLink "ListForge$MailingList" 104 ({ cls := "ListForge$Subscription", name := "end", desc := "()V" } : MethodName)) ∈ big := bg_3 (i := 46) rfl rfl
theorem mw_527 : (Cond.methodLink "ListForgeLaw" 126 ({ cls := "ListForgeLaw", name := "told", desc := "(LListForge;III[J)I" } : MethodName)) ∈ big := bg_3 (i := 47) rfl rfl
theorem mw_528 : (Cond.static ({ cls := "ListForgeLaw", name := "told", desc := "(LListForge;III[J)I" } : MethodName)) ∈ big := bg_3 (i := 48) rfl rfl
theorem mw_529 : (Cond.codeWith ({ cls := "ListForgeLaw", name := "told", desc := "(LListForge;III[J)I" } : MethodName) method_15_code 6 (Option.some FieldType.int) [(0, 12, 15, 13), (0, 12, 19, 23)]) ∈ big := bg_3 (i := 49) rfl rfl
theorem mw_530 : (Cond.methodLink "ListForgeLaw" 60 ({ cls := "ListForge", name := "told", desc := "(III)I" } : MethodName)) ∈ big := bg_3 (i := 50) rfl rfl
theorem mw_531 : (Cond.instanceMethod ({ cls := "ListForge", name := "told", desc := "(III)I" } : MethodName)) ∈ big := bg_3 (i := 51) rfl rfl
theorem mw_532 : (Cond.selects "ListForge" ({ cls := "ListForge", name := "told", desc := "(III)I" } : MethodName) ({ cls := "ListForge", name := "told", desc := "(III)I" } : MethodName)) ∈ big := bg_3 (i := 52) rfl rfl
theorem mw_533 : (Cond.code ({ cls := "ListForge", name := "told", desc := "(III)I" } : MethodName) prog_1_method_14_code 5 (Option.some FieldType.int)) ∈ big := bg_3 (i := 53) rfl rfl
theorem mw_534 : (Cond.methodLink "ListForgeLaw" 129 ({ cls := "ListForgeLaw", name := "score", desc := "(LListForge;II[D)I" } : MethodName)) ∈ big := bg_3 (i := 54) rfl rfl
theorem mw_535 : (Cond.static ({ cls := "ListForgeLaw", name := "score", desc := "(LListForge;II[D)I" } : MethodName)) ∈ big := bg_3 (i := 55) rfl rfl
theorem mw_536 : (Cond.codeWith ({ cls := "ListForgeLaw", name := "score", desc := "(LListForge;II[D)I" } : MethodName) method_16_code 5 (Option.some FieldType.int) [(0, 9, 12, 13), (0, 9, 16, 23)]) ∈ big := bg_3 (i := 56) rfl rfl
theorem mw_537 : (Cond.methodLink "ListForgeLaw" 63 ({ cls := "ListForge", name := "score", desc := "(II)D" } : MethodName)) ∈ big := bg_3 (i := 57) rfl rfl
theorem mw_538 : (Cond.instanceMethod ({ cls := "ListForge", name := "score", desc := "(II)D" } : MethodName)) ∈ big := bg_3 (i := 58) rfl rfl
theorem mw_539 : (Cond.selects "ListForge" ({ cls := "ListForge", name := "score", desc := "(II)D" } : MethodName) ({ cls := "ListForge", name := "score", desc := "(II)D" } : MethodName)) ∈ big := bg_3 (i := 59) rfl rfl
theorem mw_540 : (Cond.code ({ cls := "ListForge", name := "score", desc := "(II)D" } : MethodName) prog_1_method_15_code 3 (Option.some FieldType.double)) ∈ big := bg_3 (i := 60) rfl rfl
theorem mw_541 : (Cond.methodLink "ListForgeLaw" 137 ({ cls := "ListForgeLaw", name := "sent", desc := "(LListForge;II[J)I" } : MethodName)) ∈ big := bg_3 (i := 61) rfl rfl
theorem mw_542 : (Cond.static ({ cls := "ListForgeLaw", name := "sent", desc := "(LListForge;II[J)I" } : MethodName)) ∈ big := bg_3 (i := 62) rfl rfl
theorem mw_543 : (Cond.codeWith ({ cls := "ListForgeLaw", name := "sent", desc := "(LListForge;II[J)I" } : MethodName) method_17_code 5 (Option.some FieldType.int) [(0, 10, 13, 13), (0, 10, 17, 70)]) ∈ big := bg_3 (i := 63) rfl rfl
theorem mw_544 : (Cond.classLink "ListForgeLaw" 70 "java/lang/IndexOutOfBoundsException") ∈ big := bg_3 (i := 64) rfl rfl
theorem mw_545 : (Cond.methodLink "ListForgeLaw" 67 ({ cls := "ListForge", name := "sent", desc := "(II)I" } : MethodName)) ∈ big := bg_3 (i := 65) rfl rfl
theorem mw_546 : (Cond.instanceMethod ({ cls := "ListForge", name := "sent", desc := "(II)I" } : MethodName)) ∈ big := bg_3 (i := 66) rfl rfl
theorem mw_547 : (Cond.selects "ListForge" ({ cls := "ListForge", name := "sent", desc := "(II)I" } : MethodName) ({ cls := "ListForge", name := "sent", desc := "(II)I" } : MethodName)) ∈ big := bg_3 (i := 67) rfl rfl
theorem mw_548 : (Cond.code ({ cls := "ListForge", name := "sent", desc := "(II)I" } : MethodName) prog_1_method_16_code 3 (Option.some FieldType.int)) ∈ big := bg_3 (i := 68) rfl rfl
theorem mw_549 : (Cond.classLink "ListForge" 207 "java/lang/IndexOutOfBoundsException") ∈ big := bg_3 (i := 69) rfl rfl
theorem mw_565 : (Cond.methodLink "ListForgeLaw" 140 ({ cls := "ListForgeLaw", name := "count", desc := "(LListForge;I[J)I" } : MethodName)) ∈ big := bg_3 (i := 85) rfl rfl
theorem mw_566 : (Cond.static ({ cls := "ListForgeLaw", name := "count", desc := "(LListForge;I[J)I" } : MethodName)) ∈ big := bg_3 (i := 86) rfl rfl
theorem mw_567 : (Cond.codeWith ({ cls := "ListForgeLaw", name := "count", desc := "(LListForge;I[J)I" } : MethodName) method_18_code 4 (Option.some FieldType.int) [(0, 9, 12, 13)]) ∈ big := bg_3 (i := 87) rfl rfl
theorem mw_568 : (Cond.methodLink "ListForgeLaw" 72 ({ cls := "ListForge", name := "count", desc := "(I)I" } : MethodName)) ∈ big := bg_3 (i := 88) rfl rfl
theorem mw_569 : (Cond.instanceMethod ({ cls := "ListForge", name := "count", desc := "(I)I" } : MethodName)) ∈ big := bg_3 (i := 89) rfl rfl
theorem mw_570 : (Cond.selects "ListForge" ({ cls := "ListForge", name := "count", desc := "(I)I" } : MethodName) ({ cls := "ListForge", name := "count", desc := "(I)I" } : MethodName)) ∈ big := bg_3 (i := 90) rfl rfl
theorem mw_571 : (Cond.code ({ cls := "ListForge", name := "count", desc := "(I)I" } : MethodName) prog_1_method_17_code 2 (Option.some FieldType.int)) ∈ big := bg_3 (i := 91) rfl rfl
theorem mw_572 : (Cond.methodLink "ListForge" 227 ({ cls := "ListForge", name := "countOfList", desc := "(LListForge$MailingList;I)I" } : MethodName)) ∈ big := bg_3 (i := 92) rfl rfl
theorem mw_573 : (Cond.static ({ cls := "ListForge", name := "countOfList", desc := "(LListForge$MailingList;I)I" } : MethodName)) ∈ big := bg_3 (i := 93) rfl rfl
theorem mw_574 : (Cond.code ({ cls := "ListForge", name := "countOfList", desc := "(LListForge$MailingList;I)I" } : MethodName) prog_1_method_18_code 2 (Option.some FieldType.int)) ∈ big := bg_3 (i := 94) rfl rfl
theorem mw_575 : (Cond.methodLink "ListForge" 231 ({ cls := "ListForge$MailingList", name := "subscriptionCount", desc := "()I" } : MethodName)) ∈ big := bg_3 (i := 95) rfl rfl
theorem mw_576 : (Cond.instanceMethod ({ cls := "ListForge$MailingList", name := "subscriptionCount", desc := "()I" } : MethodName)) ∈ big := bg_3 (i := 96) rfl rfl
theorem mw_577 : (Cond.selects "ListForge$MailingList" ({ cls := "ListForge$MailingList", name := "subscriptionCount", desc := "()I" } : MethodName) ({ cls := "ListForge$MailingList", name := "subscriptionCount", desc := "()I" } : MethodName)) ∈ big := bg_3 (i := 97) rfl rfl
theorem mw_578 : (Cond.code ({ cls := "ListForge$MailingList", name := "subscriptionCount", desc := "()I" } : MethodName) prog_2_method_8_code 3 (Option.some FieldType.int)) ∈ big := bg_3 (i := 98) rfl rfl
theorem mw_579 : (Cond.methodLink "ListForge" 235 ({ cls := "ListForge$MailingList", name := "liveCount", desc := "()I" } : MethodName)) ∈ big := bg_3 (i := 99) rfl rfl
theorem mw_580 : (Cond.instanceMethod ({ cls := "ListForge$MailingList", name := "liveCount", desc := "()I" } : MethodName)) ∈ big := bg_3 (i := 100) rfl rfl
theorem mw_581 : (Cond.selects "ListForge$MailingList" ({ cls := "ListForge$MailingList", name := "liveCount", desc := "()I" } : MethodName) ({ cls := "ListForge$MailingList", name := "liveCount", desc := "()I" } : MethodName)) ∈ big := bg_3 (i := 101) rfl rfl
theorem mw_582 : (Cond.code ({ cls := "ListForge$MailingList", name := "liveCount", desc := "()I" } : MethodName) prog_2_method_9_code 3 (Option.some FieldType.int)) ∈ big := bg_3 (i := 102) rfl rfl
theorem mw_583 : (Cond.classLink "ListForgeLaw" 76 "ListForgeModel") ∈ big := bg_3 (i := 103) rfl rfl
theorem mw_584 : (Cond.instantiable "ListForgeModel" 31) ∈ big := bg_3 (i := 104) rfl rfl
theorem mw_585 : (Cond.methodLink "ListForgeLaw" 78 ({ cls := "ListForgeModel", name := "<init>", desc := "()V" } : MethodName)) ∈ big := bg_3 (i := 105) rfl rfl
theorem mw_586 : (Cond.instanceMethod ({ cls := "ListForgeModel", name := "<init>", desc := "()V" } : MethodName)) ∈ big := bg_3 (i := 106) rfl rfl
theorem mw_587 : (Cond.code ({ cls := "ListForgeModel", name := "<init>", desc := "()V" } : MethodName) prog_7_method_1_code 2 (Option.none : Option FieldType)) ∈ big := bg_3 (i := 107) rfl rfl
theorem mw_588 : (Cond.methodLink "ListForgeModel" 1 ({ cls := "java/lang/Object", name := "<init>", desc := "()V" } : MethodName)) ∈ big := bg_3 (i := 108) rfl rfl
theorem mw_589 : (Cond.constantDouble "ListForgeModel" 54 (4613937818241073152 : UInt64)) ∈ big := bg_3 (i := 109) rfl rfl
theorem mw_590 : (Cond.fieldLink "ListForgeModel" 92 "ListForgeModel" "thrown" "I") ∈ big := bg_3 (i := 110) rfl rfl
theorem mw_591 : (Cond.fieldLink "ListForgeModel" 111 "ListForgeModel" "today" "I") ∈ big := bg_3 (i := 111) rfl rfl
theorem mw_592 : (Cond.fieldLink "ListForgeModel" 114 "ListForgeModel" "asked" "I") ∈ big := bg_3 (i := 112) rfl rfl
theorem mw_593 : (Cond.fieldLink "ListForgeModel" 125 "ListForgeModel" "posts" "I") ∈ big := bg_3 (i := 113) rfl rfl
theorem mw_594 : (Cond.fieldLink "ListForgeModel" 100 "ListForgeModel" "sentMany" "I") ∈ big := bg_3 (i := 114) rfl rfl
theorem mw_595 : (Cond.fieldLink "ListForgeModel" 7 "ListForgeModel" "state" "[I") ∈ big := bg_3 (i := 115) rfl rfl
theorem mw_596 : (Cond.fieldLink "ListForgeModel" 13 "ListForgeModel" "way" "[I") ∈ big := bg_3 (i := 116) rfl rfl
theorem mw_597 : (Cond.fieldLink "ListForgeModel" 16 "ListForgeModel" "since" "[I") ∈ big := bg_3 (i := 117) rfl rfl
theorem mw_598 : (Cond.fieldLink "ListForgeModel" 19 "ListForgeModel" "code" "[I") ∈ big := bg_3 (i := 118) rfl rfl
theorem mw_599 : (Cond.fieldLink "ListForgeModel" 22 "ListForgeModel" "warning" "[I") ∈ big := bg_3 (i := 119) rfl rfl
theorem mw_600 : (Cond.fieldLink "ListForgeModel" 25 "ListForgeModel" "bounced" "[I") ∈ big := bg_3 (i := 120) rfl rfl
theorem mw_601 : (Cond.fieldLink "ListForgeModel" 28 "ListForgeModel" "moderates" "[Z") ∈ big := bg_3 (i := 121) rfl rfl
theorem mw_602 : (Cond.fieldLink "ListForgeModel" 32 "ListForgeModel" "banned" "[Z") ∈ big := bg_3 (i := 122) rfl rfl
theorem mw_603 : (Cond.fieldLink "ListForgeModel" 35 "ListForgeModel" "score" "[D") ∈ big := bg_3 (i := 123) rfl rfl
theorem mw_604 : (Cond.fieldLink "ListForgeModel" 39 "ListForgeModel" "open" "[Z") ∈ big := bg_3 (i := 124) rfl rfl
theorem mw_605 : (Cond.fieldLink "ListForgeModel" 42 "ListForgeModel" "watched" "[Z") ∈ big := bg_3 (i := 125) rfl rfl
theorem mw_606 : (Cond.fieldLink "ListForgeModel" 45 "ListForgeModel" "barred" "[Z") ∈ big := bg_3 (i := 126) rfl rfl
theorem mw_607 : (Cond.fieldLink "ListForgeModel" 48 "ListForgeModel" "greatest" "[I") ∈ big := bg_3 (i := 127) rfl rfl
theorem mw_608 : (Cond.fieldLink "ListForgeModel" 51 "ListForgeModel" "full" "[I") ∈ big := bg_3 (i := 128) rfl rfl
theorem mw_609 : (Cond.fieldLink "ListForgeModel" 56 "ListForgeModel" "best" "[D") ∈ big := bg_3 (i := 129) rfl rfl
theorem mw_610 : (Cond.fieldLink "ListForgeModel" 59 "ListForgeModel" "pList" "[I") ∈ big := bg_3 (i := 130) rfl rfl
theorem mw_611 : (Cond.fieldLink "ListForgeModel" 62 "ListForgeModel" "pFrom" "[I") ∈ big := bg_3 (i := 131) rfl rfl
theorem mw_612 : (Cond.fieldLink "ListForgeModel" 65 "ListForgeModel" "pSize" "[I") ∈ big := bg_3 (i := 132) rfl rfl
theorem mw_613 : (Cond.fieldLink "ListForgeModel" 68 "ListForgeModel" "pState" "[I") ∈ big := bg_3 (i := 133) rfl rfl
theorem mw_614 : (Cond.fieldLink "ListForgeModel" 71 "ListForgeModel" "bundle" "[I") ∈ big := bg_3 (i := 134) rfl rfl
theorem mw_615 : (Cond.fieldLink "ListForgeModel" 74 "ListForgeModel" "bSize" "[I") ∈ big := bg_3 (i := 135) rfl rfl
theorem mw_616 : (Cond.fieldLink "ListForgeModel" 77 "ListForgeModel" "bDay" "[I") ∈ big := bg_3 (i := 136) rfl rfl
theorem mw_617 : (Cond.fieldLink "ListForgeModel" 80 "ListForgeModel" "outTo" "[I") ∈ big := bg_3 (i := 137) rfl rfl
theorem mw_618 : (Cond.fieldLink "ListForgeModel" 83 "ListForgeModel" "outList" "[I") ∈ big := bg_3 (i := 138) rfl rfl
theorem mw_619 : (Cond.fieldLink "ListForgeModel" 86 "ListForgeModel" "outSort" "[I") ∈ big := bg_3 (i := 139) rfl rfl
theorem mw_620 : (Cond.fieldLink "ListForgeModel" 89 "ListForgeModel" "outNumber" "[I") ∈ big := bg_3 (i := 140) rfl rfl
theorem mw_684 : (Cond.arrayClass FieldType.double) ∈ big := bg_3 (i := 204) rfl rfl
theorem mw_685 : (Cond.methodLink "ListForgeLaw" 133 ({ cls := "ListForgeModel", name := "thrown", desc := "()I" } : MethodName)) ∈ big := bg_3 (i := 205) rfl rfl
theorem mw_686 : (Cond.instanceMethod ({ cls := "ListForgeModel", name := "thrown", desc := "()I" } : MethodName)) ∈ big := bg_3 (i := 206) rfl rfl
theorem mw_687 : (Cond.selects "ListForgeModel" ({ cls := "ListForgeModel", name := "thrown", desc := "()I" } : MethodName) ({ cls := "ListForgeModel", name := "thrown", desc := "()I" } : MethodName)) ∈ big := bg_3 (i := 207) rfl rfl
theorem mw_688 : (Cond.code ({ cls := "ListForgeModel", name := "thrown", desc := "()I" } : MethodName) prog_7_method_2_code 1 (Option.some FieldType.int)) ∈ big := bg_3 (i := 208) rfl rfl
theorem mw_689 : (Cond.methodLink "ListForgeLaw" 84 ({ cls := "ListForgeModel", name := "ask", desc := "(III)I" } : MethodName)) ∈ big := bg_3 (i := 209) rfl rfl
theorem mw_690 : (Cond.instanceMethod ({ cls := "ListForgeModel", name := "ask", desc := "(III)I" } : MethodName)) ∈ big := bg_3 (i := 210) rfl rfl
theorem mw_691 : (Cond.selects "ListForgeModel" ({ cls := "ListForgeModel", name := "ask", desc := "(III)I" } : MethodName) ({ cls := "ListForgeModel", name := "ask", desc := "(III)I" } : MethodName)) ∈ big := bg_3 (i := 211) rfl rfl
theorem mw_692 : (Cond.code ({ cls := "ListForgeModel", name := "ask", desc := "(III)I" } : MethodName) prog_7_method_7_code 5 (Option.some FieldType.int)) ∈ big := bg_3 (i := 212) rfl rfl
theorem mw_693 : (Cond.methodLink "ListForgeModel" 103 ({ cls := "ListForgeModel", name := "isPlace", desc := "(II)Z" } : MethodName)) ∈ big := bg_3 (i := 213) rfl rfl
theorem mw_694 : (Cond.static ({ cls := "ListForgeModel", name := "isPlace", desc := "(II)Z" } : MethodName)) ∈ big := bg_3 (i := 214) rfl rfl
theorem mw_695 : (Cond.code ({ cls := "ListForgeModel", name := "isPlace", desc := "(II)Z" } : MethodName) prog_7_method_4_code 2 (Option.some FieldType.boolean)) ∈ big := bg_3 (i := 215) rfl rfl
theorem mw_696 : (Cond.methodLink "ListForgeModel" 96 ({ cls := "ListForgeModel", name := "in", desc := "(III)Z" } : MethodName)) ∈ big := bg_3 (i := 216) rfl rfl
theorem mw_697 : (Cond.static ({ cls := "ListForgeModel", name := "in", desc := "(III)Z" } : MethodName)) ∈ big := bg_3 (i := 217) rfl rfl
theorem mw_698 : (Cond.code ({ cls := "ListForgeModel", name := "in", desc := "(III)Z" } : MethodName) prog_7_method_3_code 3 (Option.some FieldType.boolean)) ∈ big := bg_3 (i := 218) rfl rfl
theorem mw_699 : (Cond.methodLink "ListForgeModel" 107 ({ cls := "ListForgeModel", name := "refuse", desc := "(I)I" } : MethodName)) ∈ big := bg_3 (i := 219) rfl rfl
theorem mw_701 : (Cond.instanceMethod ({ cls := "ListForgeModel", name := "refuse", desc := "(I)I" } : MethodName)) ∈ big := bg_3 (i := 221) rfl rfl
theorem mw_702 : (Cond.code ({ cls := "ListForgeModel", name := "refuse", desc := "(I)I" } : MethodName) prog_7_method_5_code 2 (Option.some FieldType.int)) ∈ big := bg_3 (i := 222) rfl rfl
theorem mw_703 : (Cond.methodLink "ListForgeModel" 117 ({ cls := "ListForgeModel", name := "send", desc := "(IIII)V" } : MethodName)) ∈ big := bg_3 (i := 223) rfl rfl
theorem mw_705 : (Cond.instanceMethod ({ cls := "ListForgeModel", name := "send", desc := "(IIII)V" } : MethodName)) ∈ big := bg_3 (i := 225) rfl rfl
theorem mw_706 : (Cond.code ({ cls := "ListForgeModel", name := "send", desc := "(IIII)V" } : MethodName) prog_7_method_6_code 5 (Option.none : Option FieldType)) ∈ big := bg_3 (i := 226) rfl rfl
theorem mw_707 : (Cond.methodLink "ListForgeLaw" 88 ({ cls := "ListForgeModel", name := "confirm", desc := "(I)I" } : MethodName)) ∈ big := bg_3 (i := 227) rfl rfl
theorem mw_708 : (Cond.instanceMethod ({ cls := "ListForgeModel", name := "confirm", desc := "(I)I" } : MethodName)) ∈ big := bg_3 (i := 228) rfl rfl
theorem mw_709 : (Cond.selects "ListForgeModel" ({ cls := "ListForgeModel", name := "confirm", desc := "(I)I" } : MethodName) ({ cls := "ListForgeModel", name := "confirm", desc := "(I)I" } : MethodName)) ∈ big := bg_3 (i := 229) rfl rfl
theorem mw_710 : (Cond.code ({ cls := "ListForgeModel", name := "confirm", desc := "(I)I" } : MethodName) prog_7_method_8_code 3 (Option.some FieldType.int)) ∈ big := bg_3 (i := 230) rfl rfl
theorem mw_711 : (Cond.methodLink "ListForgeLaw" 92 ({ cls := "ListForgeModel", name := "leave", desc := "(II)I" } : MethodName)) ∈ big := bg_3 (i := 231) rfl rfl
theorem mw_712 : (Cond.instanceMethod ({ cls := "ListForgeModel", name := "leave", desc := "(II)I" } : MethodName)) ∈ big := bg_3 (i := 232) rfl rfl
theorem mw_713 : (Cond.selects "ListForgeModel" ({ cls := "ListForgeModel", name := "leave", desc := "(II)I" } : MethodName) ({ cls := "ListForgeModel", name := "leave", desc := "(II)I" } : MethodName)) ∈ big := bg_3 (i := 233) rfl rfl
theorem mw_714 : (Cond.code ({ cls := "ListForgeModel", name := "leave", desc := "(II)I" } : MethodName) prog_7_method_9_code 5 (Option.some FieldType.int)) ∈ big := bg_3 (i := 234) rfl rfl
theorem mw_715 : (Cond.methodLink "ListForgeLaw" 95 ({ cls := "ListForgeModel", name := "way", desc := "(III)I" } : MethodName)) ∈ big := bg_3 (i := 235) rfl rfl
theorem mw_716 : (Cond.instanceMethod ({ cls := "ListForgeModel", name := "way", desc := "(III)I" } : MethodName)) ∈ big := bg_3 (i := 236) rfl rfl
theorem mw_717 : (Cond.selects "ListForgeModel" ({ cls := "ListForgeModel", name := "way", desc := "(III)I" } : MethodName) ({ cls := "ListForgeModel", name := "way", desc := "(III)I" } : MethodName)) ∈ big := bg_3 (i := 237) rfl rfl
theorem mw_718 : (Cond.code ({ cls := "ListForgeModel", name := "way", desc := "(III)I" } : MethodName) prog_7_method_10_code 6 (Option.some FieldType.int)) ∈ big := bg_3 (i := 238) rfl rfl
theorem mw_719 : (Cond.methodLink "ListForgeLaw" 99 ({ cls := "ListForgeModel", name := "moderator", desc := "(IIZ)Z" } : MethodName)) ∈ big := bg_3 (i := 239) rfl rfl
theorem mw_720 : (Cond.instanceMethod ({ cls := "ListForgeModel", name := "moderator", desc := "(IIZ)Z" } : MethodName)) ∈ big := bg_4 (i := 0) rfl rfl
theorem mw_721 : (Cond.selects "ListForgeModel" ({ cls := "ListForgeModel", name := "moderator", desc := "(IIZ)Z" } : MethodName) ({ cls := "ListForgeModel", name := "moderator", desc := "(IIZ)Z" } : MethodName)) ∈ big := bg_4 (i := 1) rfl rfl
theorem mw_722 : (Cond.code ({ cls := "ListForgeModel", name := "moderator", desc := "(IIZ)Z" } : MethodName) prog_7_method_11_code 6 (Option.some FieldType.boolean)) ∈ big := bg_4 (i := 2) rfl rfl
theorem mw_723 : (Cond.methodLink "ListForgeLaw" 102 ({ cls := "ListForgeModel", name := "ban", desc := "(IIZ)Z" } : MethodName)) ∈ big := bg_4 (i := 3) rfl rfl
theorem mw_724 : (Cond.instanceMethod ({ cls := "ListForgeModel", name := "ban", desc := "(IIZ)Z" } : MethodName)) ∈ big := bg_4 (i := 4) rfl rfl
theorem mw_725 : (Cond.selects "ListForgeModel" ({ cls := "ListForgeModel", name := "ban", desc := "(IIZ)Z" } : MethodName) ({ cls := "ListForgeModel", name := "ban", desc := "(IIZ)Z" } : MethodName)) ∈ big := bg_4 (i := 5) rfl rfl
theorem mw_726 : (Cond.code ({ cls := "ListForgeModel", name := "ban", desc := "(IIZ)Z" } : MethodName) prog_7_method_12_code 6 (Option.some FieldType.boolean)) ∈ big := bg_4 (i := 6) rfl rfl
theorem mw_727 : (Cond.methodLink "ListForgeLaw" 108 ({ cls := "ListForgeModel", name := "setting", desc := "(IID)D" } : MethodName)) ∈ big := bg_4 (i := 7) rfl rfl
theorem mw_728 : (Cond.instanceMethod ({ cls := "ListForgeModel", name := "setting", desc := "(IID)D" } : MethodName)) ∈ big := bg_4 (i := 8) rfl rfl
theorem mw_729 : (Cond.selects "ListForgeModel" ({ cls := "ListForgeModel", name := "setting", desc := "(IID)D" } : MethodName) ({ cls := "ListForgeModel", name := "setting", desc := "(IID)D" } : MethodName)) ∈ big := bg_4 (i := 9) rfl rfl
theorem mw_730 : (Cond.code ({ cls := "ListForgeModel", name := "setting", desc := "(IID)D" } : MethodName) prog_7_method_13_code 9 (Option.some FieldType.double)) ∈ big := bg_4 (i := 10) rfl rfl
theorem mw_731 : (Cond.constantDouble "ListForgeModel" 121 (4602678819172646912 : UInt64)) ∈ big := bg_4 (i := 11) rfl rfl
theorem mw_732 : (Cond.constantDouble "ListForgeModel" 123 (4621819117588971520 : UInt64)) ∈ big := bg_4 (i := 12) rfl rfl
theorem mw_733 : (Cond.methodLink "ListForgeLaw" 112 ({ cls := "ListForgeModel", name := "post", desc := "(IIII)I" } : MethodName)) ∈ big := bg_4 (i := 13) rfl rfl
theorem mw_734 : (Cond.instanceMethod ({ cls := "ListForgeModel", name := "post", desc := "(IIII)I" } : MethodName)) ∈ big := bg_4 (i := 14) rfl rfl
theorem mw_735 : (Cond.selects "ListForgeModel" ({ cls := "ListForgeModel", name := "post", desc := "(IIII)I" } : MethodName) ({ cls := "ListForgeModel", name := "post", desc := "(IIII)I" } : MethodName)) ∈ big := bg_4 (i := 15) rfl rfl
theorem mw_736 : (Cond.code ({ cls := "ListForgeModel", name := "post", desc := "(IIII)I" } : MethodName) prog_7_method_14_code 10 (Option.some FieldType.int)) ∈ big := bg_4 (i := 16) rfl rfl
theorem mw_737 : (Cond.methodLink "ListForgeModel" 128 ({ cls := "ListForgeModel", name := "pass", desc := "(I)V" } : MethodName)) ∈ big := bg_4 (i := 17) rfl rfl
theorem mw_739 : (Cond.instanceMethod ({ cls := "ListForgeModel", name := "pass", desc := "(I)V" } : MethodName)) ∈ big := bg_4 (i := 19) rfl rfl
theorem mw_740 : (Cond.code ({ cls := "ListForgeModel", name := "pass", desc := "(I)V" } : MethodName) prog_7_method_16_code 6 (Option.none : Option FieldType)) ∈ big := bg_4 (i := 20) rfl rfl
theorem mw_741 : (Cond.methodLink "ListForgeModel" 132 ({ cls := "ListForgeModel", name := "isLive", desc := "(III)Z" } : MethodName)) ∈ big := bg_4 (i := 21) rfl rfl
theorem mw_743 : (Cond.instanceMethod ({ cls := "ListForgeModel", name := "isLive", desc := "(III)Z" } : MethodName)) ∈ big := bg_4 (i := 23) rfl rfl
theorem mw_744 : (Cond.code ({ cls := "ListForgeModel", name := "isLive", desc := "(III)Z" } : MethodName) prog_7_method_15_code 5 (Option.some FieldType.boolean)) ∈ big := bg_4 (i := 24) rfl rfl
theorem mw_745 : (Cond.methodLink "ListForgeModel" 135 ({ cls := "ListForgeModel", name := "digest", desc := "(I)V" } : MethodName)) ∈ big := bg_4 (i := 25) rfl rfl
theorem mw_747 : (Cond.instanceMethod ({ cls := "ListForgeModel", name := "digest", desc := "(I)V" } : MethodName)) ∈ big := bg_4 (i := 27) rfl rfl
theorem mw_748 : (Cond.code ({ cls := "ListForgeModel", name := "digest", desc := "(I)V" } : MethodName) prog_7_method_17_code 3 (Option.none : Option FieldType)) ∈ big := bg_4 (i := 28) rfl rfl
theorem mw_749 : (Cond.methodLink "ListForgeLaw" 115 ({ cls := "ListForgeModel", name := "judge", desc := "(III)I" } : MethodName)) ∈ big := bg_4 (i := 29) rfl rfl
theorem mw_750 : (Cond.instanceMethod ({ cls := "ListForgeModel", name := "judge", desc := "(III)I" } : MethodName)) ∈ big := bg_4 (i := 30) rfl rfl
theorem mw_751 : (Cond.selects "ListForgeModel" ({ cls := "ListForgeModel", name := "judge", desc := "(III)I" } : MethodName) ({ cls := "ListForgeModel", name := "judge", desc := "(III)I" } : MethodName)) ∈ big := bg_4 (i := 31) rfl rfl
theorem mw_752 : (Cond.code ({ cls := "ListForgeModel", name := "judge", desc := "(III)I" } : MethodName) prog_7_method_19_code 5 (Option.some FieldType.int)) ∈ big := bg_4 (i := 32) rfl rfl
theorem mw_753 : (Cond.methodLink "ListForgeModel" 138 ({ cls := "ListForgeModel", name := "waiting", desc := "(I)I" } : MethodName)) ∈ big := bg_4 (i := 33) rfl rfl
theorem mw_755 : (Cond.instanceMethod ({ cls := "ListForgeModel", name := "waiting", desc := "(I)I" } : MethodName)) ∈ big := bg_4 (i := 35) rfl rfl
theorem mw_756 : (Cond.code ({ cls := "ListForgeModel", name := "waiting", desc := "(I)I" } : MethodName) prog_7_method_18_code 4 (Option.some FieldType.int)) ∈ big := bg_4 (i := 36) rfl rfl
theorem mw_757 : (Cond.methodLink "ListForgeLaw" 119 ({ cls := "ListForgeModel", name := "bounce", desc := "(IIZ)D" } : MethodName)) ∈ big := bg_4 (i := 37) rfl rfl
theorem mw_758 : (Cond.instanceMethod ({ cls := "ListForgeModel", name := "bounce", desc := "(IIZ)D" } : MethodName)) ∈ big := bg_4 (i := 38) rfl rfl
theorem mw_759 : (Cond.selects "ListForgeModel" ({ cls := "ListForgeModel", name := "bounce", desc := "(IIZ)D" } : MethodName) ({ cls := "ListForgeModel", name := "bounce", desc := "(IIZ)D" } : MethodName)) ∈ big := bg_4 (i := 39) rfl rfl
theorem mw_760 : (Cond.code ({ cls := "ListForgeModel", name := "bounce", desc := "(IIZ)D" } : MethodName) prog_7_method_20_code 5 (Option.some FieldType.double)) ∈ big := bg_4 (i := 40) rfl rfl
theorem mw_761 : (Cond.methodLink "ListForgeLaw" 122 ({ cls := "ListForgeModel", name := "renew", desc := "(II)I" } : MethodName)) ∈ big := bg_4 (i := 41) rfl rfl
theorem mw_762 : (Cond.instanceMethod ({ cls := "ListForgeModel", name := "renew", desc := "(II)I" } : MethodName)) ∈ big := bg_4 (i := 42) rfl rfl
theorem mw_763 : (Cond.selects "ListForgeModel" ({ cls := "ListForgeModel", name := "renew", desc := "(II)I" } : MethodName) ({ cls := "ListForgeModel", name := "renew", desc := "(II)I" } : MethodName)) ∈ big := bg_4 (i := 43) rfl rfl
theorem mw_764 : (Cond.code ({ cls := "ListForgeModel", name := "renew", desc := "(II)I" } : MethodName) prog_7_method_21_code 4 (Option.some FieldType.int)) ∈ big := bg_4 (i := 44) rfl rfl
theorem mw_765 : (Cond.methodLink "ListForgeLaw" 125 ({ cls := "ListForgeModel", name := "tick", desc := "(I)I" } : MethodName)) ∈ big := bg_4 (i := 45) rfl rfl
theorem mw_766 : (Cond.instanceMethod ({ cls := "ListForgeModel", name := "tick", desc := "(I)I" } : MethodName)) ∈ big := bg_4 (i := 46) rfl rfl
theorem mw_767 : (Cond.selects "ListForgeModel" ({ cls := "ListForgeModel", name := "tick", desc := "(I)I" } : MethodName) ({ cls := "ListForgeModel", name := "tick", desc := "(I)I" } : MethodName)) ∈ big := bg_4 (i := 47) rfl rfl
theorem mw_768 : (Cond.code ({ cls := "ListForgeModel", name := "tick", desc := "(I)I" } : MethodName) prog_7_method_23_code 5 (Option.some FieldType.int)) ∈ big := bg_4 (i := 48) rfl rfl
theorem mw_769 : (Cond.methodLink "ListForgeModel" 145 ({ cls := "ListForgeModel", name := "day", desc := "(II)V" } : MethodName)) ∈ big := bg_4 (i := 49) rfl rfl
theorem mw_771 : (Cond.instanceMethod ({ cls := "ListForgeModel", name := "day", desc := "(II)V" } : MethodName)) ∈ big := bg_4 (i := 51) rfl rfl
theorem mw_772 : (Cond.code ({ cls := "ListForgeModel", name := "day", desc := "(II)V" } : MethodName) prog_7_method_22_code 4 (Option.none : Option FieldType)) ∈ big := bg_4 (i := 52) rfl rfl
theorem mw_773 : (Cond.constantDouble "ListForgeModel" 141 (4606056518893174784 : UInt64)) ∈ big := bg_4 (i := 53) rfl rfl
theorem mw_774 : (Cond.constantDouble "ListForgeModel" 143 (4598175219545276416 : UInt64)) ∈ big := bg_4 (i := 54) rfl rfl
theorem mw_775 : (Cond.methodLink "ListForgeLaw" 128 ({ cls := "ListForgeModel", name := "told", desc := "(III)I" } : MethodName)) ∈ big := bg_4 (i := 55) rfl rfl
theorem mw_776 : (Cond.instanceMethod ({ cls := "ListForgeModel", name := "told", desc := "(III)I" } : MethodName)) ∈ big := bg_4 (i := 56) rfl rfl
theorem mw_777 : (Cond.selects "ListForgeModel" ({ cls := "ListForgeModel", name := "told", desc := "(III)I" } : MethodName) ({ cls := "ListForgeModel", name := "told", desc := "(III)I" } : MethodName)) ∈ big := bg_4 (i := 57) rfl rfl
theorem mw_778 : (Cond.code ({ cls := "ListForgeModel", name := "told", desc := "(III)I" } : MethodName) prog_7_method_24_code 5 (Option.some FieldType.int)) ∈ big := bg_4 (i := 58) rfl rfl
theorem mw_779 : (Cond.methodLink "ListForgeLaw" 132 ({ cls := "ListForgeModel", name := "score", desc := "(II)D" } : MethodName)) ∈ big := bg_4 (i := 59) rfl rfl
theorem mw_780 : (Cond.instanceMethod ({ cls := "ListForgeModel", name := "score", desc := "(II)D" } : MethodName)) ∈ big := bg_4 (i := 60) rfl rfl
theorem mw_781 : (Cond.selects "ListForgeModel" ({ cls := "ListForgeModel", name := "score", desc := "(II)D" } : MethodName) ({ cls := "ListForgeModel", name := "score", desc := "(II)D" } : MethodName)) ∈ big := bg_4 (i := 61) rfl rfl
theorem mw_782 : (Cond.code ({ cls := "ListForgeModel", name := "score", desc := "(II)D" } : MethodName) prog_7_method_25_code 4 (Option.some FieldType.double)) ∈ big := bg_4 (i := 62) rfl rfl
theorem mw_783 : (Cond.methodLink "ListForgeLaw" 139 ({ cls := "ListForgeModel", name := "sent", desc := "(II)I" } : MethodName)) ∈ big := bg_4 (i := 63) rfl rfl
theorem mw_784 : (Cond.instanceMethod ({ cls := "ListForgeModel", name := "sent", desc := "(II)I" } : MethodName)) ∈ big := bg_4 (i := 64) rfl rfl
theorem mw_785 : (Cond.selects "ListForgeModel" ({ cls := "ListForgeModel", name := "sent", desc := "(II)I" } : MethodName) ({ cls := "ListForgeModel", name := "sent", desc := "(II)I" } : MethodName)) ∈ big := bg_4 (i := 65) rfl rfl
theorem mw_786 : (Cond.code ({ cls := "ListForgeModel", name := "sent", desc := "(II)I" } : MethodName) prog_7_method_26_code 3 (Option.some FieldType.int)) ∈ big := bg_4 (i := 66) rfl rfl
theorem mw_787 : (Cond.methodLink "ListForgeLaw" 142 ({ cls := "ListForgeModel", name := "count", desc := "(I)I" } : MethodName)) ∈ big := bg_4 (i := 67) rfl rfl
theorem mw_788 : (Cond.instanceMethod ({ cls := "ListForgeModel", name := "count", desc := "(I)I" } : MethodName)) ∈ big := bg_4 (i := 68) rfl rfl
theorem mw_789 : (Cond.selects "ListForgeModel" ({ cls := "ListForgeModel", name := "count", desc := "(I)I" } : MethodName) ({ cls := "ListForgeModel", name := "count", desc := "(I)I" } : MethodName)) ∈ big := bg_4 (i := 69) rfl rfl
theorem mw_790 : (Cond.code ({ cls := "ListForgeModel", name := "count", desc := "(I)I" } : MethodName) prog_7_method_27_code 5 (Option.some FieldType.int)) ∈ big := bg_4 (i := 70) rfl rfl
theorem mw_791 : (Cond.constantDouble "ListForgeLaw" 103 (4593671619917905920 : UInt64)) ∈ big := bg_4 (i := 71) rfl rfl
theorem mw_792 : (Cond.arrayClass FieldType.long) ∈ big := bg_4 (i := 72) rfl rfl
