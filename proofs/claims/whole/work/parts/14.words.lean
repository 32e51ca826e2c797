/-! Part 03: which words are in the table, and where. -/
set_option maxRecDepth 100000 in
theorem m_ini_L : (Cond.initialized R_L) ∈ kT := kT_of 22 rfl rfl
set_option maxRecDepth 100000 in
theorem m_ini_K : (Cond.initialized R_K) ∈ kT := kT_of 23 rfl rfl
set_option maxRecDepth 100000 in
theorem m_ini_S : (Cond.initialized R_S) ∈ kT := kT_of 24 rfl rfl
set_option maxRecDepth 100000 in
theorem m_ini_M : (Cond.initialized R_M) ∈ kT := kT_of 25 rfl rfl
set_option maxRecDepth 100000 in
theorem m_ini_Exception : (Cond.initialized "java/lang/Exception") ∈ kT := kT_of 27 rfl rfl
set_option maxRecDepth 100000 in
theorem m_ini_RuntimeException : (Cond.initialized "java/lang/RuntimeException") ∈ kT := kT_of 28 rfl rfl
set_option maxRecDepth 100000 in
theorem m_ini_IllegalArgumentException : (Cond.initialized "java/lang/IllegalArgumentException") ∈ kT := kT_of 29 rfl rfl
set_option maxRecDepth 100000 in
theorem m_ini_IllegalStateException : (Cond.initialized "java/lang/IllegalStateException") ∈ kT := kT_of 30 rfl rfl
set_option maxRecDepth 100000 in
theorem m_ini_T : (Cond.initialized R_T) ∈ kT := kT_of 31 rfl rfl
set_option maxRecDepth 100000 in
theorem m_ini_NoSuchElementException : (Cond.initialized "java/util/NoSuchElementException") ∈ kT := kT_of 32 rfl rfl
set_option maxRecDepth 100000 in
theorem m_L_8 : (Cond.classLink R_L 8 "WillKeeper") ∈ kT := kT_of 33 rfl rfl
set_option maxRecDepth 100000 in
theorem m_ins_K : (Cond.instantiable R_K 12) ∈ kT := kT_of 34 rfl rfl
set_option maxRecDepth 100000 in
theorem m_L_42 : (Cond.methodLink R_L 42 y_K_init) ∈ kT := kT_of 35 rfl rfl
set_option maxRecDepth 100000 in
theorem m_im_K_init : (Cond.instanceMethod y_K_init) ∈ kT := kT_of 36 rfl rfl
set_option maxRecDepth 100000 in
theorem m_code_K_init : k_K_init ∈ kT := kT_of 37 rfl rfl
set_option maxRecDepth 100000 in
theorem m_K_1 : (Cond.methodLink R_K 1 objectInit) ∈ kT := kT_of 38 rfl rfl
set_option maxRecDepth 100000 in
theorem m_im_obj : (Cond.instanceMethod objectInit) ∈ kT := kT_of 39 rfl rfl
set_option maxRecDepth 100000 in
theorem m_code_obj : (Cond.code objectInit ⟨#[0xb1]⟩ 1 none) ∈ kT := kT_of 40 rfl rfl
set_option maxRecDepth 100000 in
theorem m_K_9 : (Cond.classLink R_K 9 "WillKeeper$Thing") ∈ kT := kT_of 41 rfl rfl
set_option maxRecDepth 100000 in
theorem m_K_22 : (Cond.classLink R_K 22 "WillKeeper$Search") ∈ kT := kT_of 43 rfl rfl
set_option maxRecDepth 100000 in
theorem m_ins_S : (Cond.instantiable R_S 3) ∈ kT := kT_of 44 rfl rfl
set_option maxRecDepth 100000 in
theorem m_K_24 : (Cond.methodLink R_K 24 y_S_init) ∈ kT := kT_of 45 rfl rfl
set_option maxRecDepth 100000 in
theorem m_im_S_init : (Cond.instanceMethod y_S_init) ∈ kT := kT_of 46 rfl rfl
set_option maxRecDepth 100000 in
theorem m_code_S_init : k_S_init ∈ kT := kT_of 47 rfl rfl
set_option maxRecDepth 100000 in
theorem m_S_3 : (Cond.methodLink R_S 3 objectInit) ∈ kT := kT_of 48 rfl rfl
set_option maxRecDepth 100000 in
theorem m_S_9 : (Cond.fieldLink R_S 9 "WillKeeper$Search" "found" "[Z") ∈ kT := kT_of 49 rfl rfl
set_option maxRecDepth 100000 in
theorem m_S_15 : (Cond.fieldLink R_S 15 "WillKeeper$Search" "order" "[I") ∈ kT := kT_of 50 rfl rfl
set_option maxRecDepth 100000 in
theorem m_S_19 : (Cond.fieldLink R_S 19 "WillKeeper$Search" "size" "I") ∈ kT := kT_of 51 rfl rfl
set_option maxRecDepth 100000 in
theorem m_K_125 : (Cond.fieldLink R_K 125 "WillKeeper$Search" "size" "I") ∈ kT := kT_of 52 rfl rfl
set_option maxRecDepth 100000 in
theorem m_arr_int : (Cond.arrayClass .int) ∈ kT := kT_of 60 rfl rfl
set_option maxRecDepth 100000 in
theorem m_arr_boolean : (Cond.arrayClass .boolean) ∈ kT := kT_of 61 rfl rfl
set_option maxRecDepth 100000 in
theorem m_K_11 : (Cond.fieldLink R_K 11 "WillKeeper" "things" "[LWillKeeper$Thing;") ∈ kT := kT_of 62 rfl rfl
set_option maxRecDepth 100000 in
theorem m_K_15 : (Cond.fieldLink R_K 15 "WillKeeper" "roots" "[I") ∈ kT := kT_of 63 rfl rfl
set_option maxRecDepth 100000 in
theorem m_K_19 : (Cond.fieldLink R_K 19 "WillKeeper" "queue" "[I") ∈ kT := kT_of 64 rfl rfl
set_option maxRecDepth 100000 in
theorem m_K_95 : (Cond.fieldLink R_K 95 "WillKeeper" "queueStart" "I") ∈ kT := kT_of 65 rfl rfl
set_option maxRecDepth 100000 in
theorem m_K_143 : (Cond.fieldLink R_K 143 "WillKeeper" "queueEnd" "I") ∈ kT := kT_of 66 rfl rfl
set_option maxRecDepth 100000 in
theorem m_K_25 : (Cond.fieldLink R_K 25 "WillKeeper" "before" "LWillKeeper$Search;") ∈ kT := kT_of 67 rfl rfl
set_option maxRecDepth 100000 in
theorem m_K_29 : (Cond.fieldLink R_K 29 "WillKeeper" "now" "LWillKeeper$Search;") ∈ kT := kT_of 68 rfl rfl
set_option maxRecDepth 100000 in
theorem m_K_43 : (Cond.fieldLink R_K 43 "WillKeeper" "made" "I") ∈ kT := kT_of 69 rfl rfl
set_option maxRecDepth 100000 in
theorem m_K_55 : (Cond.fieldLink R_K 55 "WillKeeper" "present" "I") ∈ kT := kT_of 70 rfl rfl
set_option maxRecDepth 100000 in
theorem m_K_131 : (Cond.fieldLink R_K 131 "WillKeeper" "forgotten" "I") ∈ kT := kT_of 71 rfl rfl
set_option maxRecDepth 100000 in
theorem m_K_85 : (Cond.fieldLink R_K 85 "WillKeeper" "clearings" "I") ∈ kT := kT_of 72 rfl rfl
set_option maxRecDepth 100000 in
theorem m_K_120 : (Cond.fieldLink R_K 120 "WillKeeper" "identities" "I") ∈ kT := kT_of 73 rfl rfl
set_option maxRecDepth 100000 in
theorem m_L_66 : (Cond.methodLink R_L 66 y_K_clear) ∈ kT := kT_of 99 rfl rfl
set_option maxRecDepth 100000 in
theorem m_im_K_clear : (Cond.instanceMethod y_K_clear) ∈ kT := kT_of 100 rfl rfl
set_option maxRecDepth 100000 in
theorem m_sel_K_clear : (Cond.selects R_K y_K_clear y_K_clear) ∈ kT := kT_of 101 rfl rfl
set_option maxRecDepth 100000 in
theorem m_code_K_clear : k_K_clear ∈ kT := kT_of 102 rfl rfl
set_option maxRecDepth 100000 in
theorem m_K_74 : (Cond.methodLink R_K 74 y_K_searchReached) ∈ kT := kT_of 103 rfl rfl
set_option maxRecDepth 100000 in
theorem m_im_K_searchReached : (Cond.instanceMethod y_K_searchReached) ∈ kT := kT_of 105 rfl rfl
set_option maxRecDepth 100000 in
theorem m_code_K_searchReached : k_K_searchReached ∈ kT := kT_of 106 rfl rfl
set_option maxRecDepth 100000 in
theorem m_K_154 : (Cond.methodLink R_K 154 y_S_forgetAll) ∈ kT := kT_of 107 rfl rfl
set_option maxRecDepth 100000 in
theorem m_im_S_forgetAll : (Cond.instanceMethod y_S_forgetAll) ∈ kT := kT_of 108 rfl rfl
set_option maxRecDepth 100000 in
theorem m_sel_S_forgetAll : (Cond.selects R_S y_S_forgetAll y_S_forgetAll) ∈ kT := kT_of 109 rfl rfl
set_option maxRecDepth 100000 in
theorem m_code_S_forgetAll : k_S_forgetAll ∈ kT := kT_of 110 rfl rfl
set_option maxRecDepth 100000 in
theorem m_K_157 : (Cond.methodLink R_K 157 y_K_addRootsAndQueue) ∈ kT := kT_of 111 rfl rfl
set_option maxRecDepth 100000 in
theorem m_im_K_addRootsAndQueue : (Cond.instanceMethod y_K_addRootsAndQueue) ∈ kT := kT_of 113 rfl rfl
set_option maxRecDepth 100000 in
theorem m_code_K_addRootsAndQueue : k_K_addRootsAndQueue ∈ kT := kT_of 114 rfl rfl
set_option maxRecDepth 100000 in
theorem m_K_164 : (Cond.methodLink R_K 164 y_S_add) ∈ kT := kT_of 115 rfl rfl
set_option maxRecDepth 100000 in
theorem m_im_S_add : (Cond.instanceMethod y_S_add) ∈ kT := kT_of 116 rfl rfl
set_option maxRecDepth 100000 in
theorem m_sel_S_add : (Cond.selects R_S y_S_add y_S_add) ∈ kT := kT_of 117 rfl rfl
set_option maxRecDepth 100000 in
theorem m_code_S_add : k_S_add ∈ kT := kT_of 118 rfl rfl
set_option maxRecDepth 100000 in
theorem m_K_88 : (Cond.methodLink R_K 88 y_K_queueSize) ∈ kT := kT_of 119 rfl rfl
set_option maxRecDepth 100000 in
theorem m_im_K_queueSize : (Cond.instanceMethod y_K_queueSize) ∈ kT := kT_of 121 rfl rfl
set_option maxRecDepth 100000 in
theorem m_code_K_queueSize : k_K_queueSize ∈ kT := kT_of 122 rfl rfl
set_option maxRecDepth 100000 in
theorem m_K_91 : (Cond.methodLink R_K 91 y_K_queuePlace) ∈ kT := kT_of 123 rfl rfl
set_option maxRecDepth 100000 in
theorem m_im_K_queuePlace : (Cond.instanceMethod y_K_queuePlace) ∈ kT := kT_of 125 rfl rfl
set_option maxRecDepth 100000 in
theorem m_code_K_queuePlace : k_K_queuePlace ∈ kT := kT_of 126 rfl rfl
set_option maxRecDepth 100000 in
theorem m_K_160 : (Cond.methodLink R_K 160 y_K_followFields) ∈ kT := kT_of 127 rfl rfl
set_option maxRecDepth 100000 in
theorem m_im_K_followFields : (Cond.instanceMethod y_K_followFields) ∈ kT := kT_of 129 rfl rfl
set_option maxRecDepth 100000 in
theorem m_code_K_followFields : k_K_followFields ∈ kT := kT_of 130 rfl rfl
set_option maxRecDepth 100000 in
theorem m_K_167 : (Cond.methodLink R_K 167 y_S_at) ∈ kT := kT_of 131 rfl rfl
set_option maxRecDepth 100000 in
theorem m_im_S_at : (Cond.instanceMethod y_S_at) ∈ kT := kT_of 132 rfl rfl
set_option maxRecDepth 100000 in
theorem m_sel_S_at : (Cond.selects R_S y_S_at y_S_at) ∈ kT := kT_of 133 rfl rfl
set_option maxRecDepth 100000 in
theorem m_code_S_at : k_S_at ∈ kT := kT_of 134 rfl rfl
set_option maxRecDepth 100000 in
theorem m_K_98 : (Cond.methodLink R_K 98 y_K_thingOrNull) ∈ kT := kT_of 135 rfl rfl
set_option maxRecDepth 100000 in
theorem m_im_K_thingOrNull : (Cond.instanceMethod y_K_thingOrNull) ∈ kT := kT_of 137 rfl rfl
set_option maxRecDepth 100000 in
theorem m_code_K_thingOrNull : k_K_thingOrNull ∈ kT := kT_of 138 rfl rfl
set_option maxRecDepth 100000 in
theorem m_K_170 : (Cond.methodLink R_K 170 y_T_hasWeakField) ∈ kT := kT_of 139 rfl rfl
set_option maxRecDepth 100000 in
theorem m_im_T_hasWeakField : (Cond.instanceMethod y_T_hasWeakField) ∈ kT := kT_of 140 rfl rfl
set_option maxRecDepth 100000 in
theorem m_sel_T_hasWeakField : (Cond.selects R_T y_T_hasWeakField y_T_hasWeakField) ∈ kT := kT_of 141 rfl rfl
set_option maxRecDepth 100000 in
theorem m_code_T_hasWeakField : k_T_hasWeakField ∈ kT := kT_of 142 rfl rfl
set_option maxRecDepth 100000 in
theorem m_T_26 : (Cond.methodLink R_T 26 y_T_hasField) ∈ kT := kT_of 143 rfl rfl
set_option maxRecDepth 100000 in
theorem m_im_T_hasField : (Cond.instanceMethod y_T_hasField) ∈ kT := kT_of 144 rfl rfl
set_option maxRecDepth 100000 in
theorem m_sel_T_hasField : (Cond.selects R_T y_T_hasField y_T_hasField) ∈ kT := kT_of 145 rfl rfl
set_option maxRecDepth 100000 in
theorem m_code_T_hasField : k_T_hasField ∈ kT := kT_of 146 rfl rfl
set_option maxRecDepth 100000 in
theorem m_K_78 : (Cond.methodLink R_K 78 y_K_queueUnreached) ∈ kT := kT_of 147 rfl rfl
set_option maxRecDepth 100000 in
theorem m_im_K_queueUnreached : (Cond.instanceMethod y_K_queueUnreached) ∈ kT := kT_of 149 rfl rfl
set_option maxRecDepth 100000 in
theorem m_code_K_queueUnreached : k_K_queueUnreached ∈ kT := kT_of 150 rfl rfl
set_option maxRecDepth 100000 in
theorem m_K_150 : (Cond.methodLink R_K 150 y_T_waitsForQueue) ∈ kT := kT_of 151 rfl rfl
set_option maxRecDepth 100000 in
theorem m_im_T_waitsForQueue : (Cond.instanceMethod y_T_waitsForQueue) ∈ kT := kT_of 152 rfl rfl
set_option maxRecDepth 100000 in
theorem m_sel_T_waitsForQueue : (Cond.selects R_T y_T_waitsForQueue y_T_waitsForQueue) ∈ kT := kT_of 153 rfl rfl
set_option maxRecDepth 100000 in
theorem m_code_T_waitsForQueue : k_T_waitsForQueue ∈ kT := kT_of 154 rfl rfl
set_option maxRecDepth 100000 in
theorem m_K_110 : (Cond.methodLink R_K 110 y_S_has) ∈ kT := kT_of 155 rfl rfl
set_option maxRecDepth 100000 in
theorem m_im_S_has : (Cond.instanceMethod y_S_has) ∈ kT := kT_of 156 rfl rfl
set_option maxRecDepth 100000 in
theorem m_sel_S_has : (Cond.selects R_S y_S_has y_S_has) ∈ kT := kT_of 157 rfl rfl
set_option maxRecDepth 100000 in
theorem m_code_S_has : k_S_has ∈ kT := kT_of 158 rfl rfl
set_option maxRecDepth 100000 in
theorem m_K_173 : (Cond.methodLink R_K 173 y_K_putInQueue) ∈ kT := kT_of 159 rfl rfl
set_option maxRecDepth 100000 in
theorem m_im_K_putInQueue : (Cond.instanceMethod y_K_putInQueue) ∈ kT := kT_of 161 rfl rfl
set_option maxRecDepth 100000 in
theorem m_code_K_putInQueue : k_K_putInQueue ∈ kT := kT_of 162 rfl rfl
set_option maxRecDepth 100000 in
theorem m_K_82 : (Cond.methodLink R_K 82 y_K_forgetUnreached) ∈ kT := kT_of 163 rfl rfl
set_option maxRecDepth 100000 in
theorem m_im_K_forgetUnreached : (Cond.instanceMethod y_K_forgetUnreached) ∈ kT := kT_of 165 rfl rfl
set_option maxRecDepth 100000 in
theorem m_code_K_forgetUnreached : k_K_forgetUnreached ∈ kT := kT_of 166 rfl rfl
set_option maxRecDepth 100000 in
theorem m_L_70 : (Cond.methodLink R_L 70 y_K_take) ∈ kT := kT_of 167 rfl rfl
set_option maxRecDepth 100000 in
theorem m_im_K_take : (Cond.instanceMethod y_K_take) ∈ kT := kT_of 168 rfl rfl
set_option maxRecDepth 100000 in
theorem m_sel_K_take : (Cond.selects R_K y_K_take y_K_take) ∈ kT := kT_of 169 rfl rfl
set_option maxRecDepth 100000 in
theorem m_code_K_take : k_K_take ∈ kT := kT_of 170 rfl rfl
set_option maxRecDepth 100000 in
theorem m_L_78 : (Cond.methodLink R_L 78 y_K_sweep) ∈ kT := kT_of 171 rfl rfl
set_option maxRecDepth 100000 in
theorem m_im_K_sweep : (Cond.instanceMethod y_K_sweep) ∈ kT := kT_of 172 rfl rfl
set_option maxRecDepth 100000 in
theorem m_sel_K_sweep : (Cond.selects R_K y_K_sweep y_K_sweep) ∈ kT := kT_of 173 rfl rfl
set_option maxRecDepth 100000 in
theorem m_code_K_sweep : k_K_sweep ∈ kT := kT_of 174 rfl rfl
set_option maxRecDepth 100000 in
theorem m_K_107 : (Cond.methodLink R_K 107 y_K_searchKept) ∈ kT := kT_of 175 rfl rfl
set_option maxRecDepth 100000 in
theorem m_im_K_searchKept : (Cond.instanceMethod y_K_searchKept) ∈ kT := kT_of 177 rfl rfl
set_option maxRecDepth 100000 in
theorem m_code_K_searchKept : k_K_searchKept ∈ kT := kT_of 178 rfl rfl
set_option maxRecDepth 100000 in
theorem m_L_46 : (Cond.methodLink R_L 46 y_L_make) ∈ kT := kT_of 179 rfl rfl
set_option maxRecDepth 100000 in
theorem m_st_L_make : (Cond.static y_L_make) ∈ kT := kT_of 180 rfl rfl
set_option maxRecDepth 100000 in
theorem m_code_L_make : k_L_make ∈ kT := kT_of 181 rfl rfl
set_option maxRecDepth 100000 in
theorem m_L_13 : (Cond.classLink R_L 13 "java/lang/IllegalArgumentException") ∈ kT := kT_of 182 rfl rfl
set_option maxRecDepth 100000 in
theorem m_L_15 : (Cond.classLink R_L 15 "java/lang/IllegalStateException") ∈ kT := kT_of 183 rfl rfl
set_option maxRecDepth 100000 in
theorem m_L_7 : (Cond.methodLink R_L 7 y_K_make) ∈ kT := kT_of 184 rfl rfl
set_option maxRecDepth 100000 in
theorem m_im_K_make : (Cond.instanceMethod y_K_make) ∈ kT := kT_of 185 rfl rfl
set_option maxRecDepth 100000 in
theorem m_sel_K_make : (Cond.selects R_K y_K_make y_K_make) ∈ kT := kT_of 186 rfl rfl
set_option maxRecDepth 100000 in
theorem m_code_K_make : k_K_make ∈ kT := kT_of 187 rfl rfl
set_option maxRecDepth 100000 in
theorem m_K_32 : (Cond.classLink R_K 32 "java/lang/IllegalArgumentException") ∈ kT := kT_of 188 rfl rfl
set_option maxRecDepth 100000 in
theorem m_cast_IllegalArgumentException : (Cond.castable "java/lang/IllegalArgumentException" "java/lang/IllegalArgumentException") ∈ kNs := kN_of 190 rfl rfl
set_option maxRecDepth 100000 in
theorem m_str_K_34 : (Cond.stringRef R_K 34 "no such kind") ∈ kNs := kN_of 229 rfl rfl
set_option maxRecDepth 100000 in
theorem m_arr_byte : (Cond.arrayClass .byte) ∈ kT := kT_of 255 rfl rfl
set_option maxRecDepth 100000 in
theorem m_str_K_39 : (Cond.stringRef R_K 39 "no such number of fields") ∈ kNs := kN_of 256 rfl rfl
set_option maxRecDepth 100000 in
theorem m_str_K_41 : (Cond.stringRef R_K 41 "a weak object needs a field") ∈ kNs := kN_of 257 rfl rfl
set_option maxRecDepth 100000 in
theorem m_K_47 : (Cond.classLink R_K 47 "java/lang/IllegalStateException") ∈ kT := kT_of 258 rfl rfl
set_option maxRecDepth 100000 in
theorem m_cast_IllegalStateException : (Cond.castable "java/lang/IllegalStateException" "java/lang/IllegalStateException") ∈ kNs := kN_of 260 rfl rfl
set_option maxRecDepth 100000 in
theorem m_str_K_49 : (Cond.stringRef R_K 49 "no more objects can be made") ∈ kNs := kN_of 267 rfl rfl
set_option maxRecDepth 100000 in
theorem m_ins_T : (Cond.instantiable R_T 4) ∈ kT := kT_of 274 rfl rfl
set_option maxRecDepth 100000 in
theorem m_K_52 : (Cond.methodLink R_K 52 y_T_init) ∈ kT := kT_of 275 rfl rfl
set_option maxRecDepth 100000 in
theorem m_im_T_init : (Cond.instanceMethod y_T_init) ∈ kT := kT_of 276 rfl rfl
set_option maxRecDepth 100000 in
theorem m_code_T_init : k_T_init ∈ kT := kT_of 277 rfl rfl
set_option maxRecDepth 100000 in
theorem m_T_3 : (Cond.methodLink R_T 3 objectInit) ∈ kT := kT_of 278 rfl rfl
set_option maxRecDepth 100000 in
theorem m_T_15 : (Cond.fieldLink R_T 15 "WillKeeper$Thing" "fields" "[I") ∈ kT := kT_of 279 rfl rfl
set_option maxRecDepth 100000 in
theorem m_K_66 : (Cond.fieldLink R_K 66 "WillKeeper$Thing" "fields" "[I") ∈ kT := kT_of 280 rfl rfl
set_option maxRecDepth 100000 in
theorem m_T_9 : (Cond.fieldLink R_T 9 "WillKeeper$Thing" "kind" "I") ∈ kT := kT_of 281 rfl rfl
set_option maxRecDepth 100000 in
theorem m_K_102 : (Cond.fieldLink R_K 102 "WillKeeper$Thing" "kind" "I") ∈ kT := kT_of 282 rfl rfl
set_option maxRecDepth 100000 in
theorem m_T_19 : (Cond.fieldLink R_T 19 "WillKeeper$Thing" "everQueued" "Z") ∈ kT := kT_of 283 rfl rfl
set_option maxRecDepth 100000 in
theorem m_K_146 : (Cond.fieldLink R_K 146 "WillKeeper$Thing" "everQueued" "Z") ∈ kT := kT_of 284 rfl rfl
set_option maxRecDepth 100000 in
theorem m_T_23 : (Cond.fieldLink R_T 23 "WillKeeper$Thing" "identityNumber" "I") ∈ kT := kT_of 285 rfl rfl
set_option maxRecDepth 100000 in
theorem m_K_117 : (Cond.fieldLink R_K 117 "WillKeeper$Thing" "identityNumber" "I") ∈ kT := kT_of 286 rfl rfl
set_option maxRecDepth 100000 in
theorem m_L_56 : (Cond.methodLink R_L 56 y_L_set) ∈ kT := kT_of 296 rfl rfl
set_option maxRecDepth 100000 in
theorem m_st_L_set : (Cond.static y_L_set) ∈ kT := kT_of 297 rfl rfl
set_option maxRecDepth 100000 in
theorem m_code_L_set : k_L_set ∈ kT := kT_of 298 rfl rfl
set_option maxRecDepth 100000 in
theorem m_L_21 : (Cond.classLink R_L 21 "java/util/NoSuchElementException") ∈ kT := kT_of 299 rfl rfl
set_option maxRecDepth 100000 in
theorem m_L_17 : (Cond.methodLink R_L 17 y_K_set) ∈ kT := kT_of 300 rfl rfl
set_option maxRecDepth 100000 in
theorem m_im_K_set : (Cond.instanceMethod y_K_set) ∈ kT := kT_of 301 rfl rfl
set_option maxRecDepth 100000 in
theorem m_sel_K_set : (Cond.selects R_K y_K_set y_K_set) ∈ kT := kT_of 302 rfl rfl
set_option maxRecDepth 100000 in
theorem m_code_K_set : k_K_set ∈ kT := kT_of 303 rfl rfl
set_option maxRecDepth 100000 in
theorem m_K_58 : (Cond.methodLink R_K 58 y_K_thingWithField) ∈ kT := kT_of 304 rfl rfl
set_option maxRecDepth 100000 in
theorem m_im_K_thingWithField : (Cond.instanceMethod y_K_thingWithField) ∈ kT := kT_of 306 rfl rfl
set_option maxRecDepth 100000 in
theorem m_code_K_thingWithField : k_K_thingWithField ∈ kT := kT_of 307 rfl rfl
set_option maxRecDepth 100000 in
theorem m_K_114 : (Cond.methodLink R_K 114 y_K_thingThere) ∈ kT := kT_of 308 rfl rfl
set_option maxRecDepth 100000 in
theorem m_im_K_thingThere : (Cond.instanceMethod y_K_thingThere) ∈ kT := kT_of 310 rfl rfl
set_option maxRecDepth 100000 in
theorem m_code_K_thingThere : k_K_thingThere ∈ kT := kT_of 311 rfl rfl
set_option maxRecDepth 100000 in
theorem m_K_69 : (Cond.classLink R_K 69 "java/util/NoSuchElementException") ∈ kT := kT_of 312 rfl rfl
set_option maxRecDepth 100000 in
theorem m_cast_NoSuchElementException : (Cond.castable "java/util/NoSuchElementException" "java/util/NoSuchElementException") ∈ kNs := kN_of 314 rfl rfl
set_option maxRecDepth 100000 in
theorem m_str_K_136 : (Cond.stringRef R_K 136 "no such object") ∈ kNs := kN_of 321 rfl rfl
set_option maxRecDepth 100000 in
theorem m_K_138 : (Cond.methodLink R_K 138 y_T_hasField) ∈ kT := kT_of 328 rfl rfl
set_option maxRecDepth 100000 in
theorem m_str_K_141 : (Cond.stringRef R_K 141 "no such field") ∈ kNs := kN_of 329 rfl rfl
set_option maxRecDepth 100000 in
theorem m_K_62 : (Cond.methodLink R_K 62 y_K_needThingOrNone) ∈ kT := kT_of 330 rfl rfl
set_option maxRecDepth 100000 in
theorem m_im_K_needThingOrNone : (Cond.instanceMethod y_K_needThingOrNone) ∈ kT := kT_of 332 rfl rfl
set_option maxRecDepth 100000 in
theorem m_code_K_needThingOrNone : k_K_needThingOrNone ∈ kT := kT_of 333 rfl rfl
set_option maxRecDepth 100000 in
theorem m_L_60 : (Cond.methodLink R_L 60 y_L_get) ∈ kT := kT_of 334 rfl rfl
set_option maxRecDepth 100000 in
theorem m_st_L_get : (Cond.static y_L_get) ∈ kT := kT_of 335 rfl rfl
set_option maxRecDepth 100000 in
theorem m_code_L_get : k_L_get ∈ kT := kT_of 336 rfl rfl
set_option maxRecDepth 100000 in
theorem m_L_23 : (Cond.methodLink R_L 23 y_K_get) ∈ kT := kT_of 337 rfl rfl
set_option maxRecDepth 100000 in
theorem m_im_K_get : (Cond.instanceMethod y_K_get) ∈ kT := kT_of 338 rfl rfl
set_option maxRecDepth 100000 in
theorem m_sel_K_get : (Cond.selects R_K y_K_get y_K_get) ∈ kT := kT_of 339 rfl rfl
set_option maxRecDepth 100000 in
theorem m_code_K_get : k_K_get ∈ kT := kT_of 340 rfl rfl
set_option maxRecDepth 100000 in
theorem m_L_63 : (Cond.methodLink R_L 63 y_L_root) ∈ kT := kT_of 341 rfl rfl
set_option maxRecDepth 100000 in
theorem m_st_L_root : (Cond.static y_L_root) ∈ kT := kT_of 342 rfl rfl
set_option maxRecDepth 100000 in
theorem m_code_L_root : k_L_root ∈ kT := kT_of 343 rfl rfl
set_option maxRecDepth 100000 in
theorem m_L_26 : (Cond.methodLink R_L 26 y_K_root) ∈ kT := kT_of 344 rfl rfl
set_option maxRecDepth 100000 in
theorem m_im_K_root : (Cond.instanceMethod y_K_root) ∈ kT := kT_of 345 rfl rfl
set_option maxRecDepth 100000 in
theorem m_sel_K_root : (Cond.selects R_K y_K_root y_K_root) ∈ kT := kT_of 346 rfl rfl
set_option maxRecDepth 100000 in
theorem m_code_K_root : k_K_root ∈ kT := kT_of 347 rfl rfl
set_option maxRecDepth 100000 in
theorem m_str_K_71 : (Cond.stringRef R_K 71 "no such root") ∈ kNs := kN_of 348 rfl rfl
set_option maxRecDepth 100000 in
theorem m_L_74 : (Cond.methodLink R_L 74 y_L_queued) ∈ kT := kT_of 349 rfl rfl
set_option maxRecDepth 100000 in
theorem m_st_L_queued : (Cond.static y_L_queued) ∈ kT := kT_of 350 rfl rfl
set_option maxRecDepth 100000 in
theorem m_code_L_queued : k_L_queued ∈ kT := kT_of 351 rfl rfl
set_option maxRecDepth 100000 in
theorem m_L_29 : (Cond.methodLink R_L 29 y_K_queued) ∈ kT := kT_of 352 rfl rfl
set_option maxRecDepth 100000 in
theorem m_im_K_queued : (Cond.instanceMethod y_K_queued) ∈ kT := kT_of 353 rfl rfl
set_option maxRecDepth 100000 in
theorem m_sel_K_queued : (Cond.selects R_K y_K_queued y_K_queued) ∈ kT := kT_of 354 rfl rfl
set_option maxRecDepth 100000 in
theorem m_code_K_queued : k_K_queued ∈ kT := kT_of 355 rfl rfl
set_option maxRecDepth 100000 in
theorem m_str_K_105 : (Cond.stringRef R_K 105 "no such place in the queue") ∈ kNs := kN_of 356 rfl rfl
set_option maxRecDepth 100000 in
theorem m_L_82 : (Cond.methodLink R_L 82 y_L_identity) ∈ kT := kT_of 357 rfl rfl
set_option maxRecDepth 100000 in
theorem m_st_L_identity : (Cond.static y_L_identity) ∈ kT := kT_of 358 rfl rfl
set_option maxRecDepth 100000 in
theorem m_code_L_identity : k_L_identity ∈ kT := kT_of 359 rfl rfl
set_option maxRecDepth 100000 in
theorem m_L_33 : (Cond.methodLink R_L 33 y_K_identity) ∈ kT := kT_of 360 rfl rfl
set_option maxRecDepth 100000 in
theorem m_im_K_identity : (Cond.instanceMethod y_K_identity) ∈ kT := kT_of 361 rfl rfl
set_option maxRecDepth 100000 in
theorem m_sel_K_identity : (Cond.selects R_K y_K_identity y_K_identity) ∈ kT := kT_of 362 rfl rfl
set_option maxRecDepth 100000 in
theorem m_code_K_identity : k_K_identity ∈ kT := kT_of 363 rfl rfl
set_option maxRecDepth 100000 in
theorem m_L_85 : (Cond.methodLink R_L 85 y_L_about) ∈ kT := kT_of 364 rfl rfl
set_option maxRecDepth 100000 in
theorem m_st_L_about : (Cond.static y_L_about) ∈ kT := kT_of 365 rfl rfl
set_option maxRecDepth 100000 in
theorem m_code_L_about : k_L_about ∈ kT := kT_of 366 rfl rfl
set_option maxRecDepth 100000 in
theorem m_L_36 : (Cond.methodLink R_L 36 y_K_about) ∈ kT := kT_of 367 rfl rfl
set_option maxRecDepth 100000 in
theorem m_im_K_about : (Cond.instanceMethod y_K_about) ∈ kT := kT_of 368 rfl rfl
set_option maxRecDepth 100000 in
theorem m_sel_K_about : (Cond.selects R_K y_K_about y_K_about) ∈ kT := kT_of 369 rfl rfl
set_option maxRecDepth 100000 in
theorem m_code_K_about : k_K_about ∈ kT := kT_of 370 rfl rfl
set_option maxRecDepth 100000 in
theorem m_str_K_123 : (Cond.stringRef R_K 123 "nothing is told under this number") ∈ kNs := kN_of 371 rfl rfl
set_option maxRecDepth 100000 in
theorem m_L_88 : (Cond.methodLink R_L 88 y_L_count) ∈ kT := kT_of 372 rfl rfl
set_option maxRecDepth 100000 in
theorem m_st_L_count : (Cond.static y_L_count) ∈ kT := kT_of 373 rfl rfl
set_option maxRecDepth 100000 in
theorem m_code_L_count : k_L_count ∈ kT := kT_of 374 rfl rfl
set_option maxRecDepth 100000 in
theorem m_L_39 : (Cond.methodLink R_L 39 y_K_count) ∈ kT := kT_of 375 rfl rfl
set_option maxRecDepth 100000 in
theorem m_im_K_count : (Cond.instanceMethod y_K_count) ∈ kT := kT_of 376 rfl rfl
set_option maxRecDepth 100000 in
theorem m_sel_K_count : (Cond.selects R_K y_K_count y_K_count) ∈ kT := kT_of 377 rfl rfl
set_option maxRecDepth 100000 in
theorem m_code_K_count : k_K_count ∈ kT := kT_of 378 rfl rfl
set_option maxRecDepth 100000 in
theorem m_K_128 : (Cond.methodLink R_K 128 y_K_waitingFinals) ∈ kT := kT_of 379 rfl rfl
set_option maxRecDepth 100000 in
theorem m_im_K_waitingFinals : (Cond.instanceMethod y_K_waitingFinals) ∈ kT := kT_of 381 rfl rfl
set_option maxRecDepth 100000 in
theorem m_code_K_waitingFinals : k_K_waitingFinals ∈ kT := kT_of 382 rfl rfl
set_option maxRecDepth 100000 in
theorem m_str_K_134 : (Cond.stringRef R_K 134 "nothing is counted under this number") ∈ kNs := kN_of 383 rfl rfl
set_option maxRecDepth 100000 in
theorem m_L_43 : (Cond.classLink R_L 43 "WillKeeperModel") ∈ kT := kT_of 384 rfl rfl
set_option maxRecDepth 100000 in
theorem m_ins_M : (Cond.instantiable R_M 16) ∈ kT := kT_of 385 rfl rfl
set_option maxRecDepth 100000 in
theorem m_L_45 : (Cond.methodLink R_L 45 y_M_init) ∈ kT := kT_of 386 rfl rfl
set_option maxRecDepth 100000 in
theorem m_im_M_init : (Cond.instanceMethod y_M_init) ∈ kT := kT_of 387 rfl rfl
set_option maxRecDepth 100000 in
theorem m_code_M_init : k_M_init ∈ kT := kT_of 388 rfl rfl
set_option maxRecDepth 100000 in
theorem m_M_1 : (Cond.methodLink R_M 1 objectInit) ∈ kT := kT_of 389 rfl rfl
set_option maxRecDepth 100000 in
theorem m_M_41 : (Cond.fieldLink R_M 41 "WillKeeperModel" "thrown" "I") ∈ kT := kT_of 390 rfl rfl
set_option maxRecDepth 100000 in
theorem m_M_45 : (Cond.fieldLink R_M 45 "WillKeeperModel" "made" "I") ∈ kT := kT_of 391 rfl rfl
set_option maxRecDepth 100000 in
theorem m_M_7 : (Cond.fieldLink R_M 7 "WillKeeperModel" "there" "[Z") ∈ kT := kT_of 392 rfl rfl
set_option maxRecDepth 100000 in
theorem m_M_13 : (Cond.fieldLink R_M 13 "WillKeeperModel" "kinds" "[I") ∈ kT := kT_of 393 rfl rfl
set_option maxRecDepth 100000 in
theorem m_M_17 : (Cond.fieldLink R_M 17 "WillKeeperModel" "sizes" "[I") ∈ kT := kT_of 394 rfl rfl
set_option maxRecDepth 100000 in
theorem m_M_20 : (Cond.fieldLink R_M 20 "WillKeeperModel" "fields" "[I") ∈ kT := kT_of 395 rfl rfl
set_option maxRecDepth 100000 in
theorem m_M_23 : (Cond.fieldLink R_M 23 "WillKeeperModel" "identities" "[I") ∈ kT := kT_of 396 rfl rfl
set_option maxRecDepth 100000 in
theorem m_M_26 : (Cond.fieldLink R_M 26 "WillKeeperModel" "wasQueued" "[Z") ∈ kT := kT_of 397 rfl rfl
set_option maxRecDepth 100000 in
theorem m_M_29 : (Cond.fieldLink R_M 29 "WillKeeperModel" "roots" "[I") ∈ kT := kT_of 398 rfl rfl
set_option maxRecDepth 100000 in
theorem m_M_63 : (Cond.fieldLink R_M 63 "WillKeeperModel" "queued" "I") ∈ kT := kT_of 399 rfl rfl
set_option maxRecDepth 100000 in
theorem m_M_32 : (Cond.fieldLink R_M 32 "WillKeeperModel" "queue" "[I") ∈ kT := kT_of 400 rfl rfl
set_option maxRecDepth 100000 in
theorem m_M_66 : (Cond.fieldLink R_M 66 "WillKeeperModel" "clearings" "I") ∈ kT := kT_of 401 rfl rfl
set_option maxRecDepth 100000 in
theorem m_M_73 : (Cond.fieldLink R_M 73 "WillKeeperModel" "forgotten" "I") ∈ kT := kT_of 402 rfl rfl
set_option maxRecDepth 100000 in
theorem m_M_76 : (Cond.fieldLink R_M 76 "WillKeeperModel" "given" "I") ∈ kT := kT_of 403 rfl rfl
set_option maxRecDepth 100000 in
theorem m_M_35 : (Cond.fieldLink R_M 35 "WillKeeperModel" "found" "[Z") ∈ kT := kT_of 404 rfl rfl
set_option maxRecDepth 100000 in
theorem m_M_38 : (Cond.fieldLink R_M 38 "WillKeeperModel" "before" "[Z") ∈ kT := kT_of 405 rfl rfl
set_option maxRecDepth 100000 in
theorem m_L_52 : (Cond.methodLink R_L 52 y_M_thrown) ∈ kT := kT_of 439 rfl rfl
set_option maxRecDepth 100000 in
theorem m_im_M_thrown : (Cond.instanceMethod y_M_thrown) ∈ kT := kT_of 440 rfl rfl
set_option maxRecDepth 100000 in
theorem m_sel_M_thrown : (Cond.selects R_M y_M_thrown y_M_thrown) ∈ kT := kT_of 441 rfl rfl
set_option maxRecDepth 100000 in
theorem m_code_M_thrown : k_M_thrown ∈ kT := kT_of 442 rfl rfl
set_option maxRecDepth 100000 in
theorem m_L_51 : (Cond.methodLink R_L 51 y_M_make) ∈ kT := kT_of 443 rfl rfl
set_option maxRecDepth 100000 in
theorem m_im_M_make : (Cond.instanceMethod y_M_make) ∈ kT := kT_of 444 rfl rfl
set_option maxRecDepth 100000 in
theorem m_sel_M_make : (Cond.selects R_M y_M_make y_M_make) ∈ kT := kT_of 445 rfl rfl
set_option maxRecDepth 100000 in
theorem m_code_M_make : k_M_make ∈ kT := kT_of 446 rfl rfl
set_option maxRecDepth 100000 in
theorem m_M_52 : (Cond.methodLink R_M 52 y_M_goes) ∈ kT := kT_of 447 rfl rfl
set_option maxRecDepth 100000 in
theorem m_im_M_goes : (Cond.instanceMethod y_M_goes) ∈ kT := kT_of 449 rfl rfl
set_option maxRecDepth 100000 in
theorem m_code_M_goes : k_M_goes ∈ kT := kT_of 450 rfl rfl
set_option maxRecDepth 100000 in
theorem m_L_59 : (Cond.methodLink R_L 59 y_M_set) ∈ kT := kT_of 451 rfl rfl
set_option maxRecDepth 100000 in
theorem m_im_M_set : (Cond.instanceMethod y_M_set) ∈ kT := kT_of 452 rfl rfl
set_option maxRecDepth 100000 in
theorem m_sel_M_set : (Cond.selects R_M y_M_set y_M_set) ∈ kT := kT_of 453 rfl rfl
set_option maxRecDepth 100000 in
theorem m_code_M_set : k_M_set ∈ kT := kT_of 454 rfl rfl
set_option maxRecDepth 100000 in
theorem m_M_56 : (Cond.methodLink R_M 56 y_M_isField) ∈ kT := kT_of 455 rfl rfl
set_option maxRecDepth 100000 in
theorem m_im_M_isField : (Cond.instanceMethod y_M_isField) ∈ kT := kT_of 457 rfl rfl
set_option maxRecDepth 100000 in
theorem m_code_M_isField : k_M_isField ∈ kT := kT_of 458 rfl rfl
set_option maxRecDepth 100000 in
theorem m_M_48 : (Cond.methodLink R_M 48 y_M_isThere) ∈ kT := kT_of 459 rfl rfl
set_option maxRecDepth 100000 in
theorem m_im_M_isThere : (Cond.instanceMethod y_M_isThere) ∈ kT := kT_of 461 rfl rfl
set_option maxRecDepth 100000 in
theorem m_code_M_isThere : k_M_isThere ∈ kT := kT_of 462 rfl rfl
set_option maxRecDepth 100000 in
theorem m_M_60 : (Cond.methodLink R_M 60 y_M_isOrNone) ∈ kT := kT_of 463 rfl rfl
set_option maxRecDepth 100000 in
theorem m_im_M_isOrNone : (Cond.instanceMethod y_M_isOrNone) ∈ kT := kT_of 465 rfl rfl
set_option maxRecDepth 100000 in
theorem m_code_M_isOrNone : k_M_isOrNone ∈ kT := kT_of 466 rfl rfl
set_option maxRecDepth 100000 in
theorem m_L_62 : (Cond.methodLink R_L 62 y_M_get) ∈ kT := kT_of 467 rfl rfl
set_option maxRecDepth 100000 in
theorem m_im_M_get : (Cond.instanceMethod y_M_get) ∈ kT := kT_of 468 rfl rfl
set_option maxRecDepth 100000 in
theorem m_sel_M_get : (Cond.selects R_M y_M_get y_M_get) ∈ kT := kT_of 469 rfl rfl
set_option maxRecDepth 100000 in
theorem m_code_M_get : k_M_get ∈ kT := kT_of 470 rfl rfl
set_option maxRecDepth 100000 in
theorem m_L_65 : (Cond.methodLink R_L 65 y_M_root) ∈ kT := kT_of 471 rfl rfl
set_option maxRecDepth 100000 in
theorem m_im_M_root : (Cond.instanceMethod y_M_root) ∈ kT := kT_of 472 rfl rfl
set_option maxRecDepth 100000 in
theorem m_sel_M_root : (Cond.selects R_M y_M_root y_M_root) ∈ kT := kT_of 473 rfl rfl
set_option maxRecDepth 100000 in
theorem m_code_M_root : k_M_root ∈ kT := kT_of 474 rfl rfl
set_option maxRecDepth 100000 in
theorem m_L_69 : (Cond.methodLink R_L 69 y_M_clear) ∈ kT := kT_of 475 rfl rfl
set_option maxRecDepth 100000 in
theorem m_im_M_clear : (Cond.instanceMethod y_M_clear) ∈ kT := kT_of 476 rfl rfl
set_option maxRecDepth 100000 in
theorem m_sel_M_clear : (Cond.selects R_M y_M_clear y_M_clear) ∈ kT := kT_of 477 rfl rfl
set_option maxRecDepth 100000 in
theorem m_code_M_clear : k_M_clear ∈ kT := kT_of 478 rfl rfl
set_option maxRecDepth 100000 in
theorem m_M_69 : (Cond.methodLink R_M 69 y_M_find) ∈ kT := kT_of 479 rfl rfl
set_option maxRecDepth 100000 in
theorem m_im_M_find : (Cond.instanceMethod y_M_find) ∈ kT := kT_of 481 rfl rfl
set_option maxRecDepth 100000 in
theorem m_code_M_find : k_M_find ∈ kT := kT_of 482 rfl rfl
set_option maxRecDepth 100000 in
theorem m_L_73 : (Cond.methodLink R_L 73 y_M_take) ∈ kT := kT_of 483 rfl rfl
set_option maxRecDepth 100000 in
theorem m_im_M_take : (Cond.instanceMethod y_M_take) ∈ kT := kT_of 484 rfl rfl
set_option maxRecDepth 100000 in
theorem m_sel_M_take : (Cond.selects R_M y_M_take y_M_take) ∈ kT := kT_of 485 rfl rfl
set_option maxRecDepth 100000 in
theorem m_code_M_take : k_M_take ∈ kT := kT_of 486 rfl rfl
set_option maxRecDepth 100000 in
theorem m_L_77 : (Cond.methodLink R_L 77 y_M_queued) ∈ kT := kT_of 487 rfl rfl
set_option maxRecDepth 100000 in
theorem m_im_M_queued : (Cond.instanceMethod y_M_queued) ∈ kT := kT_of 488 rfl rfl
set_option maxRecDepth 100000 in
theorem m_sel_M_queued : (Cond.selects R_M y_M_queued y_M_queued) ∈ kT := kT_of 489 rfl rfl
set_option maxRecDepth 100000 in
theorem m_code_M_queued : k_M_queued ∈ kT := kT_of 490 rfl rfl
set_option maxRecDepth 100000 in
theorem m_L_81 : (Cond.methodLink R_L 81 y_M_sweep) ∈ kT := kT_of 491 rfl rfl
set_option maxRecDepth 100000 in
theorem m_im_M_sweep : (Cond.instanceMethod y_M_sweep) ∈ kT := kT_of 492 rfl rfl
set_option maxRecDepth 100000 in
theorem m_sel_M_sweep : (Cond.selects R_M y_M_sweep y_M_sweep) ∈ kT := kT_of 493 rfl rfl
set_option maxRecDepth 100000 in
theorem m_code_M_sweep : k_M_sweep ∈ kT := kT_of 494 rfl rfl
set_option maxRecDepth 100000 in
theorem m_L_84 : (Cond.methodLink R_L 84 y_M_identity) ∈ kT := kT_of 495 rfl rfl
set_option maxRecDepth 100000 in
theorem m_im_M_identity : (Cond.instanceMethod y_M_identity) ∈ kT := kT_of 496 rfl rfl
set_option maxRecDepth 100000 in
theorem m_sel_M_identity : (Cond.selects R_M y_M_identity y_M_identity) ∈ kT := kT_of 497 rfl rfl
set_option maxRecDepth 100000 in
theorem m_code_M_identity : k_M_identity ∈ kT := kT_of 498 rfl rfl
set_option maxRecDepth 100000 in
theorem m_L_87 : (Cond.methodLink R_L 87 y_M_about) ∈ kT := kT_of 499 rfl rfl
set_option maxRecDepth 100000 in
theorem m_im_M_about : (Cond.instanceMethod y_M_about) ∈ kT := kT_of 500 rfl rfl
set_option maxRecDepth 100000 in
theorem m_sel_M_about : (Cond.selects R_M y_M_about y_M_about) ∈ kT := kT_of 501 rfl rfl
set_option maxRecDepth 100000 in
theorem m_code_M_about : k_M_about ∈ kT := kT_of 502 rfl rfl
set_option maxRecDepth 100000 in
theorem m_L_90 : (Cond.methodLink R_L 90 y_M_count) ∈ kT := kT_of 503 rfl rfl
set_option maxRecDepth 100000 in
theorem m_im_M_count : (Cond.instanceMethod y_M_count) ∈ kT := kT_of 504 rfl rfl
set_option maxRecDepth 100000 in
theorem m_sel_M_count : (Cond.selects R_M y_M_count y_M_count) ∈ kT := kT_of 505 rfl rfl
set_option maxRecDepth 100000 in
theorem m_code_M_count : k_M_count ∈ kT := kT_of 506 rfl rfl
set_option maxRecDepth 100000 in
theorem m_M_79 : (Cond.methodLink R_M 79 y_M_many) ∈ kT := kT_of 507 rfl rfl
set_option maxRecDepth 100000 in
theorem m_im_M_many : (Cond.instanceMethod y_M_many) ∈ kT := kT_of 509 rfl rfl
set_option maxRecDepth 100000 in
theorem m_code_M_many : k_M_many ∈ kT := kT_of 510 rfl rfl
set_option maxRecDepth 100000 in
theorem m_M_83 : (Cond.methodLink R_M 83 y_M_waiting) ∈ kT := kT_of 511 rfl rfl
set_option maxRecDepth 100000 in
theorem m_im_M_waiting : (Cond.instanceMethod y_M_waiting) ∈ kT := kT_of 513 rfl rfl
set_option maxRecDepth 100000 in
theorem m_code_M_waiting : k_M_waiting ∈ kT := kT_of 514 rfl rfl
set_option maxRecDepth 100000 in
theorem m_arr_long : (Cond.arrayClass .long) ∈ kT := kT_of 515 rfl rfl
theorem m_sel_K_searchReached : (Cond.selects R_K y_K_searchReached y_K_searchReached) ∈ kT := kT_of 0 rfl rfl
theorem m_sel_K_addRootsAndQueue : (Cond.selects R_K y_K_addRootsAndQueue y_K_addRootsAndQueue) ∈ kT := kT_of 1 rfl rfl
theorem m_sel_K_queueSize : (Cond.selects R_K y_K_queueSize y_K_queueSize) ∈ kT := kT_of 2 rfl rfl
theorem m_sel_K_queuePlace : (Cond.selects R_K y_K_queuePlace y_K_queuePlace) ∈ kT := kT_of 3 rfl rfl
theorem m_sel_K_followFields : (Cond.selects R_K y_K_followFields y_K_followFields) ∈ kT := kT_of 4 rfl rfl
theorem m_sel_K_thingOrNull : (Cond.selects R_K y_K_thingOrNull y_K_thingOrNull) ∈ kT := kT_of 5 rfl rfl
theorem m_sel_K_queueUnreached : (Cond.selects R_K y_K_queueUnreached y_K_queueUnreached) ∈ kT := kT_of 6 rfl rfl
theorem m_sel_K_putInQueue : (Cond.selects R_K y_K_putInQueue y_K_putInQueue) ∈ kT := kT_of 7 rfl rfl
theorem m_sel_K_forgetUnreached : (Cond.selects R_K y_K_forgetUnreached y_K_forgetUnreached) ∈ kT := kT_of 8 rfl rfl
theorem m_sel_K_searchKept : (Cond.selects R_K y_K_searchKept y_K_searchKept) ∈ kT := kT_of 9 rfl rfl
theorem m_sel_K_thingWithField : (Cond.selects R_K y_K_thingWithField y_K_thingWithField) ∈ kT := kT_of 11 rfl rfl
theorem m_sel_K_thingThere : (Cond.selects R_K y_K_thingThere y_K_thingThere) ∈ kT := kT_of 12 rfl rfl
theorem m_sel_K_needThingOrNone : (Cond.selects R_K y_K_needThingOrNone y_K_needThingOrNone) ∈ kT := kT_of 13 rfl rfl
theorem m_sel_K_waitingFinals : (Cond.selects R_K y_K_waitingFinals y_K_waitingFinals) ∈ kT := kT_of 14 rfl rfl
theorem m_sel_M_goes : (Cond.selects R_M y_M_goes y_M_goes) ∈ kT := kT_of 15 rfl rfl
theorem m_sel_M_isField : (Cond.selects R_M y_M_isField y_M_isField) ∈ kT := kT_of 16 rfl rfl
theorem m_sel_M_isThere : (Cond.selects R_M y_M_isThere y_M_isThere) ∈ kT := kT_of 17 rfl rfl
theorem m_sel_M_isOrNone : (Cond.selects R_M y_M_isOrNone y_M_isOrNone) ∈ kT := kT_of 18 rfl rfl
theorem m_sel_M_find : (Cond.selects R_M y_M_find y_M_find) ∈ kT := kT_of 19 rfl rfl
theorem m_sel_M_many : (Cond.selects R_M y_M_many y_M_many) ∈ kT := kT_of 20 rfl rfl
theorem m_sel_M_waiting : (Cond.selects R_M y_M_waiting y_M_waiting) ∈ kT := kT_of 21 rfl rfl
set_option maxRecDepth 100000 in
theorem i_K : ∀ w ∈ u_ws R_K F_K 12, w ∈ kT := by
  intro w h
  obtain ⟨k, hk, rfl⟩ := List.mem_map.mp h
  have hk := List.mem_range.mp hk
  match k, hk with
  | 0, _ => exact kT_of 74 rfl rfl
  | 1, _ => exact kT_of 76 rfl rfl
  | 2, _ => exact kT_of 78 rfl rfl
  | 3, _ => exact kT_of 80 rfl rfl
  | 4, _ => exact kT_of 82 rfl rfl
  | 5, _ => exact kT_of 84 rfl rfl
  | 6, _ => exact kT_of 86 rfl rfl
  | 7, _ => exact kT_of 88 rfl rfl
  | 8, _ => exact kT_of 90 rfl rfl
  | 9, _ => exact kT_of 92 rfl rfl
  | 10, _ => exact kT_of 94 rfl rfl
  | 11, _ => exact kT_of 96 rfl rfl
  | n + 12, h => exact absurd h (by omega)
set_option maxRecDepth 100000 in
theorem i_S : ∀ w ∈ u_ws R_S F_S 3, w ∈ kT := by
  intro w h
  obtain ⟨k, hk, rfl⟩ := List.mem_map.mp h
  have hk := List.mem_range.mp hk
  match k, hk with
  | 0, _ => exact kT_of 53 rfl rfl
  | 1, _ => exact kT_of 55 rfl rfl
  | 2, _ => exact kT_of 57 rfl rfl
  | n + 3, h => exact absurd h (by omega)
set_option maxRecDepth 100000 in
theorem i_T : ∀ w ∈ u_ws R_T F_T 4, w ∈ kT := by
  intro w h
  obtain ⟨k, hk, rfl⟩ := List.mem_map.mp h
  have hk := List.mem_range.mp hk
  match k, hk with
  | 0, _ => exact kT_of 287 rfl rfl
  | 1, _ => exact kT_of 289 rfl rfl
  | 2, _ => exact kT_of 291 rfl rfl
  | 3, _ => exact kT_of 293 rfl rfl
  | n + 4, h => exact absurd h (by omega)
set_option maxRecDepth 100000 in
theorem i_M : ∀ w ∈ u_ws R_M F_M 16, w ∈ kT := by
  intro w h
  obtain ⟨k, hk, rfl⟩ := List.mem_map.mp h
  have hk := List.mem_range.mp hk
  match k, hk with
  | 0, _ => exact kT_of 406 rfl rfl
  | 1, _ => exact kT_of 408 rfl rfl
  | 2, _ => exact kT_of 410 rfl rfl
  | 3, _ => exact kT_of 412 rfl rfl
  | 4, _ => exact kT_of 414 rfl rfl
  | 5, _ => exact kT_of 416 rfl rfl
  | 6, _ => exact kT_of 418 rfl rfl
  | 7, _ => exact kT_of 420 rfl rfl
  | 8, _ => exact kT_of 422 rfl rfl
  | 9, _ => exact kT_of 424 rfl rfl
  | 10, _ => exact kT_of 426 rfl rfl
  | 11, _ => exact kT_of 428 rfl rfl
  | 12, _ => exact kT_of 430 rfl rfl
  | 13, _ => exact kT_of 432 rfl rfl
  | 14, _ => exact kT_of 434 rfl rfl
  | 15, _ => exact kT_of 436 rfl rfl
  | n + 16, h => exact absurd h (by omega)
abbrev w_K_init : List Cond := k_K_init :: kT
abbrev w_K_make : List Cond := k_K_make :: kT
abbrev w_K_set : List Cond := k_K_set :: kT
abbrev w_K_get : List Cond := k_K_get :: kT
abbrev w_K_root : List Cond := k_K_root :: kT
abbrev w_K_clear : List Cond := k_K_clear :: kT
abbrev w_K_take : List Cond := k_K_take :: kT
abbrev w_K_queued : List Cond := k_K_queued :: kT
abbrev w_K_sweep : List Cond := k_K_sweep :: kT
abbrev w_K_identity : List Cond := k_K_identity :: kT
abbrev w_K_about : List Cond := k_K_about :: kT
abbrev w_K_count : List Cond := k_K_count :: kT
abbrev w_K_thingOrNull : List Cond := k_K_thingOrNull :: kT
abbrev w_K_thingThere : List Cond := k_K_thingThere :: kT
abbrev w_K_thingWithField : List Cond := k_K_thingWithField :: kT
abbrev w_K_needThingOrNone : List Cond := k_K_needThingOrNone :: kT
abbrev w_K_queueSize : List Cond := k_K_queueSize :: kT
abbrev w_K_queuePlace : List Cond := k_K_queuePlace :: kT
abbrev w_K_putInQueue : List Cond := k_K_putInQueue :: kT
abbrev w_K_waitingFinals : List Cond := k_K_waitingFinals :: kT
abbrev w_K_searchReached : List Cond := k_K_searchReached :: kT
abbrev w_K_searchKept : List Cond := k_K_searchKept :: kT
abbrev w_K_addRootsAndQueue : List Cond := k_K_addRootsAndQueue :: kT
abbrev w_K_followFields : List Cond := k_K_followFields :: kT
abbrev w_K_queueUnreached : List Cond := k_K_queueUnreached :: kT
abbrev w_K_forgetUnreached : List Cond := k_K_forgetUnreached :: kT
abbrev w_T_init : List Cond := k_T_init :: kT
abbrev w_T_hasField : List Cond := k_T_hasField :: kT
abbrev w_T_hasWeakField : List Cond := k_T_hasWeakField :: kT
abbrev w_T_waitsForQueue : List Cond := k_T_waitsForQueue :: kT
abbrev w_S_init : List Cond := k_S_init :: kT
abbrev w_S_forgetAll : List Cond := k_S_forgetAll :: kT
abbrev w_S_add : List Cond := k_S_add :: kT
abbrev w_S_has : List Cond := k_S_has :: kT
abbrev w_S_at : List Cond := k_S_at :: kT
abbrev w_L_make : List Cond := k_L_make :: kT
abbrev w_L_set : List Cond := k_L_set :: kT
abbrev w_L_get : List Cond := k_L_get :: kT
abbrev w_L_root : List Cond := k_L_root :: kT
abbrev w_L_queued : List Cond := k_L_queued :: kT
abbrev w_L_identity : List Cond := k_L_identity :: kT
abbrev w_L_about : List Cond := k_L_about :: kT
abbrev w_L_count : List Cond := k_L_count :: kT
abbrev w_M_init : List Cond := k_M_init :: kT
abbrev w_M_thrown : List Cond := k_M_thrown :: kT
abbrev w_M_goes : List Cond := k_M_goes :: kT
abbrev w_M_isThere : List Cond := k_M_isThere :: kT
abbrev w_M_isOrNone : List Cond := k_M_isOrNone :: kT
abbrev w_M_isField : List Cond := k_M_isField :: kT
abbrev w_M_make : List Cond := k_M_make :: kT
abbrev w_M_set : List Cond := k_M_set :: kT
abbrev w_M_get : List Cond := k_M_get :: kT
abbrev w_M_root : List Cond := k_M_root :: kT
abbrev w_M_find : List Cond := k_M_find :: kT
abbrev w_M_clear : List Cond := k_M_clear :: kT
abbrev w_M_take : List Cond := k_M_take :: kT
abbrev w_M_queued : List Cond := k_M_queued :: kT
abbrev w_M_sweep : List Cond := k_M_sweep :: kT
abbrev w_M_identity : List Cond := k_M_identity :: kT
abbrev w_M_about : List Cond := k_M_about :: kT
abbrev w_M_many : List Cond := k_M_many :: kT
abbrev w_M_waiting : List Cond := k_M_waiting :: kT
abbrev w_M_count : List Cond := k_M_count :: kT
