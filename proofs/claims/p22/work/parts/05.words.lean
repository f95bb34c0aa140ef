/-! The words of the tables that the methods use, each once (by words.py) -/
theorem q_ini_L : Cond.initialized RL ∈ xTs := xTs_t 0 (by decide +kernel) (by decide +kernel)
theorem q_ini_X4 : Cond.initialized RX4 ∈ xTs := xTs_t 1 (by decide +kernel) (by decide +kernel)
theorem q_ini_Jxa1e45 : Cond.initialized RJxa1e45 ∈ xTs := xTs_t 2 (by decide +kernel) (by decide +kernel)
theorem q_ini_Jxc12de : Cond.initialized RJxc12de ∈ xTs := xTs_t 3 (by decide +kernel) (by decide +kernel)
theorem q_ini_Jx4a65c : Cond.initialized RJx4a65c ∈ xTs := xTs_t 4 (by decide +kernel) (by decide +kernel)
theorem q_ini_X2 : Cond.initialized RX2 ∈ xTs := xTs_t 5 (by decide +kernel) (by decide +kernel)
theorem q_ini_java_lang_Throwable : Cond.initialized "java/lang/Throwable" ∈ xTs := xTs_t 6 (by decide +kernel) (by decide +kernel)
theorem q_ini_java_lang_Exception : Cond.initialized "java/lang/Exception" ∈ xTs := xTs_t 7 (by decide +kernel) (by decide +kernel)
theorem q_ini_java_lang_RuntimeException : Cond.initialized "java/lang/RuntimeException" ∈ xTs := xTs_t 8 (by decide +kernel) (by decide +kernel)
theorem q_ini_java_lang_IllegalArgumentException : Cond.initialized "java/lang/IllegalArgumentException" ∈ xTs := xTs_t 9 (by decide +kernel) (by decide +kernel)
theorem q_ini_java_lang_IllegalStateException : Cond.initialized "java/lang/IllegalStateException" ∈ xTs := xTs_t 10 (by decide +kernel) (by decide +kernel)
theorem q_ini_X0 : Cond.initialized RX0 ∈ xTs := xTs_t 11 (by decide +kernel) (by decide +kernel)
theorem q_ini_X3 : Cond.initialized RX3 ∈ xTs := xTs_t 12 (by decide +kernel) (by decide +kernel)
theorem q_ini_J8 : Cond.initialized RJ8 ∈ xTs := xTs_t 13 (by decide +kernel) (by decide +kernel)
theorem q_ini_J9 : Cond.initialized RJ9 ∈ xTs := xTs_t 14 (by decide +kernel) (by decide +kernel)
theorem q_ini_J7 : Cond.initialized RJ7 ∈ xTs := xTs_t 15 (by decide +kernel) (by decide +kernel)
theorem q_ini_J10 : Cond.initialized RJ10 ∈ xTs := xTs_t 16 (by decide +kernel) (by decide +kernel)
theorem q_ini_java_lang_IndexOutOfBoundsException : Cond.initialized "java/lang/IndexOutOfBoundsException" ∈ xTs := xTs_t 17 (by decide +kernel) (by decide +kernel)
theorem q_ini_J15 : Cond.initialized RJ15 ∈ xTs := xTs_t 18 (by decide +kernel) (by decide +kernel)
theorem q_ini_J3 : Cond.initialized RJ3 ∈ xTs := xTs_t 19 (by decide +kernel) (by decide +kernel)
theorem q_ini_X1 : Cond.initialized RX1 ∈ xTs := xTs_t 20 (by decide +kernel) (by decide +kernel)
theorem q_ini_J6 : Cond.initialized RJ6 ∈ xTs := xTs_t 21 (by decide +kernel) (by decide +kernel)
theorem q_cl_L_21 : Cond.classLink RL 21 RX4 ∈ xTs := xTs_t 22 (by decide +kernel) (by decide +kernel)
theorem q_mk_X4 : Cond.instantiable RX4 11 ∈ xTs := xTs_t 23 (by decide +kernel) (by decide +kernel)
theorem q_ml_L_74 : Cond.methodLink RL 74 yX4_init ∈ xTs := xTs_t 24 (by decide +kernel) (by decide +kernel)
theorem q_im_X4_init : Cond.instanceMethod yX4_init ∈ xTs := xTs_t 25 (by decide +kernel) (by decide +kernel)
theorem q_ml_X4_1 : Cond.methodLink RX4 1 objectInit ∈ xTs := xTs_t 27 (by decide +kernel) (by decide +kernel)
theorem q_im_java_lang_Object__init_ : Cond.instanceMethod objectInit ∈ xTs := xTs_t 28 (by decide +kernel) (by decide +kernel)
theorem q_cl_X4_7 : Cond.classLink RX4 7 RJx4a65c ∈ xTs := xTs_t 30 (by decide +kernel) (by decide +kernel)
theorem q_mk_Jx4a65c : Cond.instantiable RJx4a65c 3 ∈ xTs := xTs_t 31 (by decide +kernel) (by decide +kernel)
theorem q_ml_X4_9 : Cond.methodLink RX4 9 yJx4a65c_init_da8c8 ∈ xTs := xTs_t 32 (by decide +kernel) (by decide +kernel)
theorem q_im_Jx4a65c_init_da8c8 : Cond.instanceMethod yJx4a65c_init_da8c8 ∈ xTs := xTs_t 33 (by decide +kernel) (by decide +kernel)
theorem q_ml_Jx4a65c_1 : Cond.methodLink RJx4a65c 1 yJxc12de_init_da8c8 ∈ xTs := xTs_t 35 (by decide +kernel) (by decide +kernel)
theorem q_im_Jxc12de_init_da8c8 : Cond.instanceMethod yJxc12de_init_da8c8 ∈ xTs := xTs_t 36 (by decide +kernel) (by decide +kernel)
theorem q_ml_Jxc12de_1 : Cond.methodLink RJxc12de 1 yJxa1e45_init_da8c8 ∈ xTs := xTs_t 38 (by decide +kernel) (by decide +kernel)
theorem q_im_Jxa1e45_init_da8c8 : Cond.instanceMethod yJxa1e45_init_da8c8 ∈ xTs := xTs_t 39 (by decide +kernel) (by decide +kernel)
theorem q_ml_Jxa1e45_1 : Cond.methodLink RJxa1e45 1 objectInit ∈ xTs := xTs_t 41 (by decide +kernel) (by decide +kernel)
theorem q_fl_Jx4a65c_39 : Cond.fieldLink RJx4a65c 39 "java/util/ArrayList" "DEFAULTCAPACITY_EMPTY_ELEMENTDATA" "[Ljava/lang/Object;" ∈ xTs := xTs_t 42 (by decide +kernel) (by decide +kernel)
theorem q_fl_Jx4a65c_9 : Cond.fieldLink RJx4a65c 9 "java/util/ArrayList" "elementData" "[Ljava/lang/Object;" ∈ xTs := xTs_t 44 (by decide +kernel) (by decide +kernel)
theorem q_fl_Jx4a65c_48 : Cond.fieldLink RJx4a65c 48 "java/util/ArrayList" "size" "I" ∈ xTs := xTs_t 45 (by decide +kernel) (by decide +kernel)
theorem q_fl_Jxc12de_7 : Cond.fieldLink RJxc12de 7 "java/util/AbstractList" "modCount" "I" ∈ xTs := xTs_t 46 (by decide +kernel) (by decide +kernel)
theorem q_fl_Jx4a65c_63 : Cond.fieldLink RJx4a65c 63 "java/util/ArrayList" "modCount" "I" ∈ xTs := xTs_t 47 (by decide +kernel) (by decide +kernel)
theorem q_sf_modCount : Cond.sameField "java/util/ArrayList" "java/util/AbstractList" "modCount" "I" ∈ xTs := xTs_t 48 (by decide +kernel) (by decide +kernel)
theorem q_cl_X4_19 : Cond.classLink RX4 19 RX2 ∈ xTs := xTs_t 56 (by decide +kernel) (by decide +kernel)
theorem q_mk_X2 : Cond.instantiable RX2 2 ∈ xTs := xTs_t 57 (by decide +kernel) (by decide +kernel)
theorem q_ml_X4_21 : Cond.methodLink RX4 21 yX2_init ∈ xTs := xTs_t 58 (by decide +kernel) (by decide +kernel)
theorem q_im_X2_init : Cond.instanceMethod yX2_init ∈ xTs := xTs_t 59 (by decide +kernel) (by decide +kernel)
theorem q_ml_X2_3 : Cond.methodLink RX2 3 objectInit ∈ xTs := xTs_t 61 (by decide +kernel) (by decide +kernel)
theorem q_fl_X2_11 : Cond.fieldLink RX2 11 "VendingRounds$Roads" "minutes" "[I" ∈ xTs := xTs_t 62 (by decide +kernel) (by decide +kernel)
theorem q_fl_X2_15 : Cond.fieldLink RX2 15 "VendingRounds$Roads" "homeward" "[I" ∈ xTs := xTs_t 63 (by decide +kernel) (by decide +kernel)
theorem q_ac_int : Cond.arrayClass .int ∈ xTs := xTs_t 69 (by decide +kernel) (by decide +kernel)
theorem q_fl_X4_10 : Cond.fieldLink RX4 10 "VendingRounds" "machineList" "Ljava/util/ArrayList;" ∈ xTs := xTs_t 70 (by decide +kernel) (by decide +kernel)
theorem q_fl_X4_16 : Cond.fieldLink RX4 16 "VendingRounds" "changes" "Ljava/util/ArrayList;" ∈ xTs := xTs_t 71 (by decide +kernel) (by decide +kernel)
theorem q_fl_X4_22 : Cond.fieldLink RX4 22 "VendingRounds" "roads" "LVendingRounds$Roads;" ∈ xTs := xTs_t 72 (by decide +kernel) (by decide +kernel)
theorem q_fl_X4_26 : Cond.fieldLink RX4 26 "VendingRounds" "visitTimes" "[I" ∈ xTs := xTs_t 73 (by decide +kernel) (by decide +kernel)
theorem q_fl_X4_30 : Cond.fieldLink RX4 30 "VendingRounds" "lacks" "[I" ∈ xTs := xTs_t 74 (by decide +kernel) (by decide +kernel)
theorem q_fl_X4_33 : Cond.fieldLink RX4 33 "VendingRounds" "gains" "[I" ∈ xTs := xTs_t 75 (by decide +kernel) (by decide +kernel)
theorem q_fl_X4_115 : Cond.fieldLink RX4 115 "VendingRounds" "day" "I" ∈ xTs := xTs_t 76 (by decide +kernel) (by decide +kernel)
theorem q_fl_X4_209 : Cond.fieldLink RX4 209 "VendingRounds" "coinsHome" "J" ∈ xTs := xTs_t 77 (by decide +kernel) (by decide +kernel)
theorem q_fl_X4_189 : Cond.fieldLink RX4 189 "VendingRounds" "minutesSpent" "J" ∈ xTs := xTs_t 78 (by decide +kernel) (by decide +kernel)
theorem q_fl_X4_212 : Cond.fieldLink RX4 212 "VendingRounds" "piecesFilled" "J" ∈ xTs := xTs_t 79 (by decide +kernel) (by decide +kernel)
theorem q_fl_X4_193 : Cond.fieldLink RX4 193 "VendingRounds" "roundsMade" "J" ∈ xTs := xTs_t 80 (by decide +kernel) (by decide +kernel)
theorem q_ml_L_64 : Cond.methodLink RL 64 yX4_machine ∈ xTs := xTs_t 104 (by decide +kernel) (by decide +kernel)
theorem q_im_X4_machine : Cond.instanceMethod yX4_machine ∈ xTs := xTs_t 105 (by decide +kernel) (by decide +kernel)
theorem q_sel_X4_X4_machine : Cond.selects RX4 yX4_machine yX4_machine ∈ xTs := xTs_t 106 (by decide +kernel) (by decide +kernel)
theorem q_ml_X4_138 : Cond.methodLink RX4 138 yX4_machineAt ∈ xTs := xTs_t 108 (by decide +kernel) (by decide +kernel)
theorem q_im_X4_machineAt : Cond.instanceMethod yX4_machineAt ∈ xTs := xTs_t 110 (by decide +kernel) (by decide +kernel)
theorem q_ml_X4_196 : Cond.methodLink RX4 196 yX4_isNoMachine ∈ xTs := xTs_t 112 (by decide +kernel) (by decide +kernel)
theorem q_im_X4_isNoMachine : Cond.instanceMethod yX4_isNoMachine ∈ xTs := xTs_t 114 (by decide +kernel) (by decide +kernel)
theorem q_ml_X4_48 : Cond.methodLink RX4 48 yJx4a65c_size_8abf5 ∈ xTs := xTs_t 116 (by decide +kernel) (by decide +kernel)
theorem q_im_Jx4a65c_size_8abf5 : Cond.instanceMethod yJx4a65c_size_8abf5 ∈ xTs := xTs_t 117 (by decide +kernel) (by decide +kernel)
theorem q_sel_Jx4a65c_Jx4a65c_size_8abf5 : Cond.selects RJx4a65c yJx4a65c_size_8abf5 yJx4a65c_size_8abf5 ∈ xTs := xTs_t 118 (by decide +kernel) (by decide +kernel)
theorem q_ml_X4_37 : Cond.methodLink RX4 37 yX4_outside ∈ xTs := xTs_t 120 (by decide +kernel) (by decide +kernel)
theorem q_st_X4_outside : Cond.static yX4_outside ∈ xTs := xTs_t 121 (by decide +kernel) (by decide +kernel)
theorem q_cl_X4_73 : Cond.classLink RX4 73 "java/lang/IndexOutOfBoundsException" ∈ xTs := xTs_t 123 (by decide +kernel) (by decide +kernel)
theorem q_mk_java_lang_IndexOutOfBoundsException : Cond.instantiable "java/lang/IndexOutOfBoundsException" 6 ∈ xTs := xTs_t 124 (by decide +kernel) (by decide +kernel)
theorem q_ca_java_lang_IndexOutOfBoundsException_java_lang_IndexOutOfBoundsException : Cond.castable "java/lang/IndexOutOfBoundsException" "java/lang/IndexOutOfBoundsException" ∈ xTs := xTs_t 125 (by decide +kernel) (by decide +kernel)
theorem q_de_java_lang_RuntimeException__init_ : Cond.declares ⟨"java/lang/RuntimeException", "<init>", "()V"⟩ ∈ xTs := xTs_t 126 (by decide +kernel) (by decide +kernel)
theorem q_de_java_lang_Exception__init_ : Cond.declares ⟨"java/lang/Exception", "<init>", "()V"⟩ ∈ xTs := xTs_t 128 (by decide +kernel) (by decide +kernel)
theorem q_de_java_lang_Throwable__init_ : Cond.declares ⟨"java/lang/Throwable", "<init>", "()V"⟩ ∈ xTs := xTs_t 130 (by decide +kernel) (by decide +kernel)
theorem q_sel_java_lang_IndexOutOfBoundsException_java_lang_Throwable_fillInStackTrace : Cond.selects "java/lang/IndexOutOfBoundsException" ⟨"java/lang/Throwable", "fillInStackTrace", "(I)Ljava/lang/Throwable;"⟩ ⟨"java/lang/Throwable", "fillInStackTrace", "(I)Ljava/lang/Throwable;"⟩ ∈ xTs := xTs_t 132 (by decide +kernel) (by decide +kernel)
theorem q_fl_java_lang_Throwable_198 : Cond.fieldLink "java/lang/Throwable" 198 "java/lang/Throwable" "backtrace" "Ljava/lang/Object;" ∈ xTs := xTs_t 144 (by decide +kernel) (by decide +kernel)
theorem q_im_java_lang_Throwable__init_ : Cond.instanceMethod ⟨"java/lang/Throwable", "<init>", "()V"⟩ ∈ xTs := xTs_t 146 (by decide +kernel) (by decide +kernel)
theorem q_ml_java_lang_Throwable_1 : Cond.methodLink "java/lang/Throwable" 1 objectInit ∈ xTs := xTs_t 148 (by decide +kernel) (by decide +kernel)
theorem q_fl_java_lang_Throwable_13 : Cond.fieldLink "java/lang/Throwable" 13 "java/lang/Throwable" "UNASSIGNED_STACK" "[Ljava/lang/StackTraceElement;" ∈ xTs := xTs_t 149 (by decide +kernel) (by decide +kernel)
theorem q_fl_java_lang_Throwable_20 : Cond.fieldLink "java/lang/Throwable" 20 "java/lang/Throwable" "SUPPRESSED_SENTINEL" "Ljava/util/List;" ∈ xTs := xTs_t 151 (by decide +kernel) (by decide +kernel)
theorem q_ml_java_lang_Throwable_27 : Cond.methodLink "java/lang/Throwable" 27 ⟨"java/lang/Throwable", "fillInStackTrace", "()Ljava/lang/Throwable;"⟩ ∈ xTs := xTs_t 153 (by decide +kernel) (by decide +kernel)
theorem q_im_java_lang_Throwable_fillInStackTrace : Cond.instanceMethod ⟨"java/lang/Throwable", "fillInStackTrace", "()Ljava/lang/Throwable;"⟩ ∈ xTs := xTs_t 154 (by decide +kernel) (by decide +kernel)
theorem q_sel_java_lang_IllegalArgumentException_java_lang_Throwable_fillInStackTrace : Cond.selects "java/lang/IllegalArgumentException" ⟨"java/lang/Throwable", "fillInStackTrace", "()Ljava/lang/Throwable;"⟩ ⟨"java/lang/Throwable", "fillInStackTrace", "()Ljava/lang/Throwable;"⟩ ∈ xTs := xTs_t 156 (by decide +kernel) (by decide +kernel)
theorem q_sel_java_lang_IllegalStateException_java_lang_Throwable_fillInStackTrace : Cond.selects "java/lang/IllegalStateException" ⟨"java/lang/Throwable", "fillInStackTrace", "()Ljava/lang/Throwable;"⟩ ⟨"java/lang/Throwable", "fillInStackTrace", "()Ljava/lang/Throwable;"⟩ ∈ xTs := xTs_t 157 (by decide +kernel) (by decide +kernel)
theorem q_ml_java_lang_Throwable_202 : Cond.methodLink "java/lang/Throwable" 202 ⟨"java/lang/Throwable", "fillInStackTrace", "(I)Ljava/lang/Throwable;"⟩ ∈ xTs := xTs_t 159 (by decide +kernel) (by decide +kernel)
theorem q_mk_java_lang_Throwable : Cond.instantiable "java/lang/Throwable" 6 ∈ xTs := xTs_t 162 (by decide +kernel) (by decide +kernel)
theorem q_na_java_lang_Throwable_fillInStackTrace : Cond.native ⟨"java/lang/Throwable", "fillInStackTrace", "(I)Ljava/lang/Throwable;"⟩ ∈ xTs := xTs_t 163 (by decide +kernel) (by decide +kernel)
theorem q_ml_X4_77 : Cond.methodLink RX4 77 ⟨"java/lang/IndexOutOfBoundsException", "<init>", "(Ljava/lang/String;)V"⟩ ∈ xTs := xTs_t 165 (by decide +kernel) (by decide +kernel)
theorem q_im_java_lang_IndexOutOfBoundsException__init_ : Cond.instanceMethod ⟨"java/lang/IndexOutOfBoundsException", "<init>", "(Ljava/lang/String;)V"⟩ ∈ xTs := xTs_t 166 (by decide +kernel) (by decide +kernel)
theorem q_ml_java_lang_IndexOutOfBoundsException_7 : Cond.methodLink "java/lang/IndexOutOfBoundsException" 7 ⟨"java/lang/RuntimeException", "<init>", "(Ljava/lang/String;)V"⟩ ∈ xTs := xTs_t 168 (by decide +kernel) (by decide +kernel)
theorem q_im_java_lang_RuntimeException__init_ : Cond.instanceMethod ⟨"java/lang/RuntimeException", "<init>", "(Ljava/lang/String;)V"⟩ ∈ xTs := xTs_t 169 (by decide +kernel) (by decide +kernel)
theorem q_ml_java_lang_RuntimeException_7 : Cond.methodLink "java/lang/RuntimeException" 7 ⟨"java/lang/Exception", "<init>", "(Ljava/lang/String;)V"⟩ ∈ xTs := xTs_t 171 (by decide +kernel) (by decide +kernel)
theorem q_im_java_lang_Exception__init_ : Cond.instanceMethod ⟨"java/lang/Exception", "<init>", "(Ljava/lang/String;)V"⟩ ∈ xTs := xTs_t 172 (by decide +kernel) (by decide +kernel)
theorem q_ml_java_lang_Exception_7 : Cond.methodLink "java/lang/Exception" 7 ⟨"java/lang/Throwable", "<init>", "(Ljava/lang/String;)V"⟩ ∈ xTs := xTs_t 174 (by decide +kernel) (by decide +kernel)
theorem q_fl_java_lang_Throwable_31 : Cond.fieldLink "java/lang/Throwable" 31 "java/lang/Throwable" "detailMessage" "Ljava/lang/String;" ∈ xTs := xTs_t 178 (by decide +kernel) (by decide +kernel)
theorem q_fl_java_lang_Throwable_7 : Cond.fieldLink "java/lang/Throwable" 7 "java/lang/Throwable" "cause" "Ljava/lang/Throwable;" ∈ xTs := xTs_t 179 (by decide +kernel) (by decide +kernel)
theorem q_fl_java_lang_Throwable_17 : Cond.fieldLink "java/lang/Throwable" 17 "java/lang/Throwable" "stackTrace" "[Ljava/lang/StackTraceElement;" ∈ xTs := xTs_t 180 (by decide +kernel) (by decide +kernel)
theorem q_fl_java_lang_Throwable_24 : Cond.fieldLink "java/lang/Throwable" 24 "java/lang/Throwable" "suppressedExceptions" "Ljava/util/List;" ∈ xTs := xTs_t 181 (by decide +kernel) (by decide +kernel)
theorem q_ac_byte : Cond.arrayClass .byte ∈ xTs := xTs_t 190 (by decide +kernel) (by decide +kernel)
theorem q_ml_X4_199 : Cond.methodLink RX4 199 yJx4a65c_get_915e3 ∈ xTs := xTs_t 191 (by decide +kernel) (by decide +kernel)
theorem q_im_Jx4a65c_get_915e3 : Cond.instanceMethod yJx4a65c_get_915e3 ∈ xTs := xTs_t 192 (by decide +kernel) (by decide +kernel)
theorem q_sel_Jx4a65c_Jx4a65c_get_915e3 : Cond.selects RJx4a65c yJx4a65c_get_915e3 yJx4a65c_get_915e3 ∈ xTs := xTs_t 193 (by decide +kernel) (by decide +kernel)
theorem q_ml_Jx4a65c_118 : Cond.methodLink RJx4a65c 118 yJ15_checkIndex_7cf53 ∈ xTs := xTs_t 195 (by decide +kernel) (by decide +kernel)
theorem q_st_J15_checkIndex_7cf53 : Cond.static yJ15_checkIndex_7cf53 ∈ xTs := xTs_t 196 (by decide +kernel) (by decide +kernel)
theorem q_ml_J15_105 : Cond.methodLink RJ15 105 yJ3_checkIndex_8e157 ∈ xTs := xTs_t 198 (by decide +kernel) (by decide +kernel)
theorem q_st_J3_checkIndex_8e157 : Cond.static yJ3_checkIndex_8e157 ∈ xTs := xTs_t 199 (by decide +kernel) (by decide +kernel)
theorem q_ml_Jx4a65c_123 : Cond.methodLink RJx4a65c 123 yJx4a65c_elementData_915e3 ∈ xTs := xTs_t 201 (by decide +kernel) (by decide +kernel)
theorem q_im_Jx4a65c_elementData_915e3 : Cond.instanceMethod yJx4a65c_elementData_915e3 ∈ xTs := xTs_t 202 (by decide +kernel) (by decide +kernel)
theorem q_sel_Jx4a65c_Jx4a65c_elementData_915e3 : Cond.selects RJx4a65c yJx4a65c_elementData_915e3 yJx4a65c_elementData_915e3 ∈ xTs := xTs_t 203 (by decide +kernel) (by decide +kernel)
theorem q_cl_X4_57 : Cond.classLink RX4 57 RX0 ∈ xTs := xTs_t 205 (by decide +kernel) (by decide +kernel)
theorem q_ml_X4_144 : Cond.methodLink RX4 144 yX0_fact ∈ xTs := xTs_t 207 (by decide +kernel) (by decide +kernel)
theorem q_im_X0_fact : Cond.instanceMethod yX0_fact ∈ xTs := xTs_t 208 (by decide +kernel) (by decide +kernel)
theorem q_sel_X0_X0_fact : Cond.selects RX0 yX0_fact yX0_fact ∈ xTs := xTs_t 209 (by decide +kernel) (by decide +kernel)
theorem q_ml_X0_32 : Cond.methodLink RX0 32 yX0_lacking ∈ xTs := xTs_t 211 (by decide +kernel) (by decide +kernel)
theorem q_im_X0_lacking : Cond.instanceMethod yX0_lacking ∈ xTs := xTs_t 212 (by decide +kernel) (by decide +kernel)
theorem q_sel_X0_X0_lacking : Cond.selects RX0 yX0_lacking yX0_lacking ∈ xTs := xTs_t 213 (by decide +kernel) (by decide +kernel)
theorem q_ml_X0_22 : Cond.methodLink RX0 22 yX3_lacking ∈ xTs := xTs_t 215 (by decide +kernel) (by decide +kernel)
theorem q_im_X3_lacking : Cond.instanceMethod yX3_lacking ∈ xTs := xTs_t 216 (by decide +kernel) (by decide +kernel)
theorem q_sel_X3_X3_lacking : Cond.selects RX3 yX3_lacking yX3_lacking ∈ xTs := xTs_t 217 (by decide +kernel) (by decide +kernel)
theorem q_ml_X0_33 : Cond.methodLink RX0 33 yX0_gain ∈ xTs := xTs_t 219 (by decide +kernel) (by decide +kernel)
theorem q_im_X0_gain : Cond.instanceMethod yX0_gain ∈ xTs := xTs_t 220 (by decide +kernel) (by decide +kernel)
theorem q_sel_X0_X0_gain : Cond.selects RX0 yX0_gain yX0_gain ∈ xTs := xTs_t 221 (by decide +kernel) (by decide +kernel)
theorem q_ml_L_98 : Cond.methodLink RL 98 yX4_pass ∈ xTs := xTs_t 223 (by decide +kernel) (by decide +kernel)
theorem q_im_X4_pass : Cond.instanceMethod yX4_pass ∈ xTs := xTs_t 224 (by decide +kernel) (by decide +kernel)
theorem q_sel_X4_X4_pass : Cond.selects RX4 yX4_pass yX4_pass ∈ xTs := xTs_t 225 (by decide +kernel) (by decide +kernel)
theorem q_cl_X4_41 : Cond.classLink RX4 41 "java/lang/IllegalArgumentException" ∈ xTs := xTs_t 227 (by decide +kernel) (by decide +kernel)
theorem q_mk_java_lang_IllegalArgumentException : Cond.instantiable "java/lang/IllegalArgumentException" 6 ∈ xTs := xTs_t 228 (by decide +kernel) (by decide +kernel)
theorem q_ca_java_lang_IllegalArgumentException_java_lang_IllegalArgumentException : Cond.castable "java/lang/IllegalArgumentException" "java/lang/IllegalArgumentException" ∈ xTs := xTs_t 229 (by decide +kernel) (by decide +kernel)
theorem q_ml_X4_45 : Cond.methodLink RX4 45 ⟨"java/lang/IllegalArgumentException", "<init>", "(Ljava/lang/String;)V"⟩ ∈ xTs := xTs_t 237 (by decide +kernel) (by decide +kernel)
theorem q_im_java_lang_IllegalArgumentException__init_ : Cond.instanceMethod ⟨"java/lang/IllegalArgumentException", "<init>", "(Ljava/lang/String;)V"⟩ ∈ xTs := xTs_t 238 (by decide +kernel) (by decide +kernel)
theorem q_ml_java_lang_IllegalArgumentException_7 : Cond.methodLink "java/lang/IllegalArgumentException" 7 ⟨"java/lang/RuntimeException", "<init>", "(Ljava/lang/String;)V"⟩ ∈ xTs := xTs_t 240 (by decide +kernel) (by decide +kernel)
theorem q_cl_X4_52 : Cond.classLink RX4 52 "java/lang/IllegalStateException" ∈ xTs := xTs_t 243 (by decide +kernel) (by decide +kernel)
theorem q_mk_java_lang_IllegalStateException : Cond.instantiable "java/lang/IllegalStateException" 6 ∈ xTs := xTs_t 244 (by decide +kernel) (by decide +kernel)
theorem q_ca_java_lang_IllegalStateException_java_lang_IllegalStateException : Cond.castable "java/lang/IllegalStateException" "java/lang/IllegalStateException" ∈ xTs := xTs_t 245 (by decide +kernel) (by decide +kernel)
theorem q_ml_X4_56 : Cond.methodLink RX4 56 ⟨"java/lang/IllegalStateException", "<init>", "(Ljava/lang/String;)V"⟩ ∈ xTs := xTs_t 253 (by decide +kernel) (by decide +kernel)
theorem q_im_java_lang_IllegalStateException__init_ : Cond.instanceMethod ⟨"java/lang/IllegalStateException", "<init>", "(Ljava/lang/String;)V"⟩ ∈ xTs := xTs_t 254 (by decide +kernel) (by decide +kernel)
theorem q_ml_java_lang_IllegalStateException_7 : Cond.methodLink "java/lang/IllegalStateException" 7 ⟨"java/lang/RuntimeException", "<init>", "(Ljava/lang/String;)V"⟩ ∈ xTs := xTs_t 256 (by decide +kernel) (by decide +kernel)
theorem q_ml_X4_149 : Cond.methodLink RX4 149 yX4_sellEverywhere ∈ xTs := xTs_t 259 (by decide +kernel) (by decide +kernel)
theorem q_im_X4_sellEverywhere : Cond.instanceMethod yX4_sellEverywhere ∈ xTs := xTs_t 261 (by decide +kernel) (by decide +kernel)
theorem q_ml_X4_241 : Cond.methodLink RX4 241 yX0_sellForADay ∈ xTs := xTs_t 263 (by decide +kernel) (by decide +kernel)
theorem q_im_X0_sellForADay : Cond.instanceMethod yX0_sellForADay ∈ xTs := xTs_t 264 (by decide +kernel) (by decide +kernel)
theorem q_sel_X0_X0_sellForADay : Cond.selects RX0 yX0_sellForADay yX0_sellForADay ∈ xTs := xTs_t 265 (by decide +kernel) (by decide +kernel)
theorem q_ml_X0_39 : Cond.methodLink RX0 39 yX0_sellFrom ∈ xTs := xTs_t 267 (by decide +kernel) (by decide +kernel)
theorem q_im_X0_sellFrom : Cond.instanceMethod yX0_sellFrom ∈ xTs := xTs_t 269 (by decide +kernel) (by decide +kernel)
theorem q_mk_X0 : Cond.instantiable RX0 4 ∈ xTs := xTs_t 270 (by decide +kernel) (by decide +kernel)
theorem q_ml_X4_152 : Cond.methodLink RX4 152 yX4_changePrices ∈ xTs := xTs_t 272 (by decide +kernel) (by decide +kernel)
theorem q_im_X4_changePrices : Cond.instanceMethod yX4_changePrices ∈ xTs := xTs_t 274 (by decide +kernel) (by decide +kernel)
theorem q_cl_X4_127 : Cond.classLink RX4 127 RX1 ∈ xTs := xTs_t 276 (by decide +kernel) (by decide +kernel)
theorem q_ml_X4_250 : Cond.methodLink RX4 250 yJx4a65c_remove_915e3 ∈ xTs := xTs_t 277 (by decide +kernel) (by decide +kernel)
theorem q_im_Jx4a65c_remove_915e3 : Cond.instanceMethod yJx4a65c_remove_915e3 ∈ xTs := xTs_t 278 (by decide +kernel) (by decide +kernel)
theorem q_sel_Jx4a65c_Jx4a65c_remove_915e3 : Cond.selects RJx4a65c yJx4a65c_remove_915e3 yJx4a65c_remove_915e3 ∈ xTs := xTs_t 279 (by decide +kernel) (by decide +kernel)
theorem q_ml_Jx4a65c_144 : Cond.methodLink RJx4a65c 144 yJx4a65c_fastRemove_b59b0 ∈ xTs := xTs_t 281 (by decide +kernel) (by decide +kernel)
theorem q_im_Jx4a65c_fastRemove_b59b0 : Cond.instanceMethod yJx4a65c_fastRemove_b59b0 ∈ xTs := xTs_t 283 (by decide +kernel) (by decide +kernel)
theorem q_ml_Jx4a65c_112 : Cond.methodLink RJx4a65c 112 arraycopyName ∈ xTs := xTs_t 285 (by decide +kernel) (by decide +kernel)
theorem q_st_java_lang_System_arraycopy : Cond.static arraycopyName ∈ xTs := xTs_t 286 (by decide +kernel) (by decide +kernel)
theorem q_na_java_lang_System_arraycopy : Cond.native arraycopyName ∈ xTs := xTs_t 287 (by decide +kernel) (by decide +kernel)
theorem q_ml_L_101 : Cond.methodLink RL 101 yX4_today ∈ xTs := xTs_t 288 (by decide +kernel) (by decide +kernel)
theorem q_im_X4_today : Cond.instanceMethod yX4_today ∈ xTs := xTs_t 289 (by decide +kernel) (by decide +kernel)
theorem q_sel_X4_X4_today : Cond.selects RX4 yX4_today yX4_today ∈ xTs := xTs_t 290 (by decide +kernel) (by decide +kernel)
theorem q_ml_L_88 : Cond.methodLink RL 88 yX4_drive ∈ xTs := xTs_t 292 (by decide +kernel) (by decide +kernel)
theorem q_im_X4_drive : Cond.instanceMethod yX4_drive ∈ xTs := xTs_t 293 (by decide +kernel) (by decide +kernel)
theorem q_sel_X4_X4_drive : Cond.selects RX4 yX4_drive yX4_drive ∈ xTs := xTs_t 294 (by decide +kernel) (by decide +kernel)
theorem q_ml_X4_155 : Cond.methodLink RX4 155 yX4_requireSet ∈ xTs := xTs_t 296 (by decide +kernel) (by decide +kernel)
theorem q_im_X4_requireSet : Cond.instanceMethod yX4_requireSet ∈ xTs := xTs_t 298 (by decide +kernel) (by decide +kernel)
theorem q_ml_X4_158 : Cond.methodLink RX4 158 yX2_leastFrom ∈ xTs := xTs_t 301 (by decide +kernel) (by decide +kernel)
theorem q_im_X2_leastFrom : Cond.instanceMethod yX2_leastFrom ∈ xTs := xTs_t 302 (by decide +kernel) (by decide +kernel)
theorem q_sel_X2_X2_leastFrom : Cond.selects RX2 yX2_leastFrom yX2_leastFrom ∈ xTs := xTs_t 303 (by decide +kernel) (by decide +kernel)
theorem q_ml_X2_29 : Cond.methodLink RX2 29 yX2_between ∈ xTs := xTs_t 305 (by decide +kernel) (by decide +kernel)
theorem q_im_X2_between : Cond.instanceMethod yX2_between ∈ xTs := xTs_t 306 (by decide +kernel) (by decide +kernel)
theorem q_sel_X2_X2_between : Cond.selects RX2 yX2_between yX2_between ∈ xTs := xTs_t 307 (by decide +kernel) (by decide +kernel)
theorem q_ml_X2_32 : Cond.methodLink RX2 32 yX2_nextStop ∈ xTs := xTs_t 309 (by decide +kernel) (by decide +kernel)
theorem q_im_X2_nextStop : Cond.instanceMethod yX2_nextStop ∈ xTs := xTs_t 310 (by decide +kernel) (by decide +kernel)
theorem q_sel_X2_X2_nextStop : Cond.selects RX2 yX2_nextStop yX2_nextStop ∈ xTs := xTs_t 311 (by decide +kernel) (by decide +kernel)
theorem q_mn_X2_18 : Cond.methodLinkNest RX2 18 yX4_contains RX4 ∈ xTs := xTs_t 313 (by decide +kernel) (by decide +kernel)
theorem q_st_X4_contains : Cond.static yX4_contains ∈ xTs := xTs_t 314 (by decide +kernel) (by decide +kernel)
theorem q_ml_X2_35 : Cond.methodLink RX2 35 yX2_leastBy ∈ xTs := xTs_t 316 (by decide +kernel) (by decide +kernel)
theorem q_im_X2_leastBy : Cond.instanceMethod yX2_leastBy ∈ xTs := xTs_t 318 (by decide +kernel) (by decide +kernel)
theorem q_ml_L_85 : Cond.methodLink RL 85 yX4_visit ∈ xTs := xTs_t 320 (by decide +kernel) (by decide +kernel)
theorem q_im_X4_visit : Cond.instanceMethod yX4_visit ∈ xTs := xTs_t 321 (by decide +kernel) (by decide +kernel)
theorem q_sel_X4_X4_visit : Cond.selects RX4 yX4_visit yX4_visit ∈ xTs := xTs_t 322 (by decide +kernel) (by decide +kernel)
theorem q_ml_X4_161 : Cond.methodLink RX4 161 yJ6_bitCount_0f7a4 ∈ xTs := xTs_t 324 (by decide +kernel) (by decide +kernel)
theorem q_st_J6_bitCount_0f7a4 : Cond.static yJ6_bitCount_0f7a4 ∈ xTs := xTs_t 325 (by decide +kernel) (by decide +kernel)
theorem q_ko_J6_265 : Cond.constant RJ6 265 (1431655765 : Int32) ∈ xTs := xTs_t 327 (by decide +kernel) (by decide +kernel)
theorem q_ko_J6_266 : Cond.constant RJ6 266 (858993459 : Int32) ∈ xTs := xTs_t 328 (by decide +kernel) (by decide +kernel)
theorem q_ko_J6_267 : Cond.constant RJ6 267 (252645135 : Int32) ∈ xTs := xTs_t 329 (by decide +kernel) (by decide +kernel)
theorem q_ml_X4_168 : Cond.methodLink RX4 168 yX2_nextStop ∈ xTs := xTs_t 331 (by decide +kernel) (by decide +kernel)
theorem q_ml_X4_171 : Cond.methodLink RX4 171 yX4_without ∈ xTs := xTs_t 332 (by decide +kernel) (by decide +kernel)
theorem q_st_X4_without : Cond.static yX4_without ∈ xTs := xTs_t 333 (by decide +kernel) (by decide +kernel)
theorem q_ml_L_82 : Cond.methodLink RL 82 yX4_minutes ∈ xTs := xTs_t 335 (by decide +kernel) (by decide +kernel)
theorem q_im_X4_minutes : Cond.instanceMethod yX4_minutes ∈ xTs := xTs_t 336 (by decide +kernel) (by decide +kernel)
theorem q_sel_X4_X4_minutes : Cond.selects RX4 yX4_minutes yX4_minutes ∈ xTs := xTs_t 337 (by decide +kernel) (by decide +kernel)
theorem q_ml_X4_174 : Cond.methodLink RX4 174 yX4_survey ∈ xTs := xTs_t 339 (by decide +kernel) (by decide +kernel)
theorem q_im_X4_survey : Cond.instanceMethod yX4_survey ∈ xTs := xTs_t 341 (by decide +kernel) (by decide +kernel)
theorem q_ml_X4_253 : Cond.methodLink RX4 253 yX0_lacking ∈ xTs := xTs_t 343 (by decide +kernel) (by decide +kernel)
theorem q_ml_X4_256 : Cond.methodLink RX4 256 yX0_gain ∈ xTs := xTs_t 344 (by decide +kernel) (by decide +kernel)
theorem q_ml_X4_259 : Cond.methodLink RX4 259 yX0_visitTime ∈ xTs := xTs_t 345 (by decide +kernel) (by decide +kernel)
theorem q_im_X0_visitTime : Cond.instanceMethod yX0_visitTime ∈ xTs := xTs_t 346 (by decide +kernel) (by decide +kernel)
theorem q_sel_X0_X0_visitTime : Cond.selects RX0 yX0_visitTime yX0_visitTime ∈ xTs := xTs_t 347 (by decide +kernel) (by decide +kernel)
theorem q_ml_X4_177 : Cond.methodLink RX4 177 yX4_roundTime ∈ xTs := xTs_t 349 (by decide +kernel) (by decide +kernel)
theorem q_im_X4_roundTime : Cond.instanceMethod yX4_roundTime ∈ xTs := xTs_t 351 (by decide +kernel) (by decide +kernel)
theorem q_ml_X4_185 : Cond.methodLink RX4 185 yX4_sumOver ∈ xTs := xTs_t 353 (by decide +kernel) (by decide +kernel)
theorem q_st_X4_sumOver : Cond.static yX4_sumOver ∈ xTs := xTs_t 354 (by decide +kernel) (by decide +kernel)
theorem q_ml_X4_229 : Cond.methodLink RX4 229 yX4_contains ∈ xTs := xTs_t 356 (by decide +kernel) (by decide +kernel)
theorem q_ml_L_79 : Cond.methodLink RL 79 yX4_best ∈ xTs := xTs_t 357 (by decide +kernel) (by decide +kernel)
theorem q_im_X4_best : Cond.instanceMethod yX4_best ∈ xTs := xTs_t 358 (by decide +kernel) (by decide +kernel)
theorem q_sel_X4_X4_best : Cond.selects RX4 yX4_best yX4_best ∈ xTs := xTs_t 359 (by decide +kernel) (by decide +kernel)
theorem q_ml_X4_182 : Cond.methodLink RX4 182 yX4_requireLoad ∈ xTs := xTs_t 362 (by decide +kernel) (by decide +kernel)
theorem q_st_X4_requireLoad : Cond.static yX4_requireLoad ∈ xTs := xTs_t 363 (by decide +kernel) (by decide +kernel)
theorem q_ml_L_95 : Cond.methodLink RL 95 yX4_go ∈ xTs := xTs_t 366 (by decide +kernel) (by decide +kernel)
theorem q_im_X4_go : Cond.instanceMethod yX4_go ∈ xTs := xTs_t 367 (by decide +kernel) (by decide +kernel)
theorem q_sel_X4_X4_go : Cond.selects RX4 yX4_go yX4_go ∈ xTs := xTs_t 368 (by decide +kernel) (by decide +kernel)
theorem q_ml_X4_203 : Cond.methodLink RX4 203 yX4_serve ∈ xTs := xTs_t 370 (by decide +kernel) (by decide +kernel)
theorem q_im_X4_serve : Cond.instanceMethod yX4_serve ∈ xTs := xTs_t 372 (by decide +kernel) (by decide +kernel)
theorem q_ml_X4_262 : Cond.methodLink RX4 262 yX0_emptyBox ∈ xTs := xTs_t 374 (by decide +kernel) (by decide +kernel)
theorem q_im_X0_emptyBox : Cond.instanceMethod yX0_emptyBox ∈ xTs := xTs_t 375 (by decide +kernel) (by decide +kernel)
theorem q_sel_X0_X0_emptyBox : Cond.selects RX0 yX0_emptyBox yX0_emptyBox ∈ xTs := xTs_t 376 (by decide +kernel) (by decide +kernel)
theorem q_ml_X4_268 : Cond.methodLink RX4 268 yX0_fillUp ∈ xTs := xTs_t 378 (by decide +kernel) (by decide +kernel)
theorem q_im_X0_fillUp : Cond.instanceMethod yX0_fillUp ∈ xTs := xTs_t 379 (by decide +kernel) (by decide +kernel)
theorem q_sel_X0_X0_fillUp : Cond.selects RX0 yX0_fillUp yX0_fillUp ∈ xTs := xTs_t 380 (by decide +kernel) (by decide +kernel)
theorem q_ml_X0_55 : Cond.methodLink RX0 55 Lib.Math.min.name ∈ xTs := xTs_t 382 (by decide +kernel) (by decide +kernel)
theorem q_st_J9_min_7cf53 : Cond.static Lib.Math.min.name ∈ xTs := xTs_t 383 (by decide +kernel) (by decide +kernel)
theorem q_ml_L_91 : Cond.methodLink RL 91 yX4_total ∈ xTs := xTs_t 385 (by decide +kernel) (by decide +kernel)
theorem q_im_X4_total : Cond.instanceMethod yX4_total ∈ xTs := xTs_t 386 (by decide +kernel) (by decide +kernel)
theorem q_sel_X4_X4_total : Cond.selects RX4 yX4_total yX4_total ∈ xTs := xTs_t 387 (by decide +kernel) (by decide +kernel)
theorem q_ml_L_15 : Cond.methodLink RL 15 yL_below ∈ xTs := xTs_t 390 (by decide +kernel) (by decide +kernel)
theorem q_st_L_below : Cond.static yL_below ∈ xTs := xTs_t 391 (by decide +kernel) (by decide +kernel)
theorem q_ko_L_7 : Cond.constant RL 7 (2147483647 : Int32) ∈ xTs := xTs_t 393 (by decide +kernel) (by decide +kernel)
theorem q_ml_L_9 : Cond.methodLink RL 9 yL_cell ∈ xTs := xTs_t 394 (by decide +kernel) (by decide +kernel)
theorem q_st_L_cell : Cond.static yL_cell ∈ xTs := xTs_t 395 (by decide +kernel) (by decide +kernel)
theorem q_ko_L_8 : Cond.constant RL 8 (790386105 : Int32) ∈ xTs := xTs_t 397 (by decide +kernel) (by decide +kernel)
theorem q_ml_L_75 : Cond.methodLink RL 75 yL_build ∈ xTs := xTs_t 398 (by decide +kernel) (by decide +kernel)
theorem q_st_L_build : Cond.static yL_build ∈ xTs := xTs_t 399 (by decide +kernel) (by decide +kernel)
theorem q_ko_L_19 : Cond.constant RL 19 (100000 : Int32) ∈ xTs := xTs_t 401 (by decide +kernel) (by decide +kernel)
theorem q_ml_L_20 : Cond.methodLink RL 20 yX4_addMachine ∈ xTs := xTs_t 402 (by decide +kernel) (by decide +kernel)
theorem q_im_X4_addMachine : Cond.instanceMethod yX4_addMachine ∈ xTs := xTs_t 403 (by decide +kernel) (by decide +kernel)
theorem q_sel_X4_X4_addMachine : Cond.selects RX4 yX4_addMachine yX4_addMachine ∈ xTs := xTs_t 404 (by decide +kernel) (by decide +kernel)
theorem q_ko_X4_36 : Cond.constant RX4 36 (100000 : Int32) ∈ xTs := xTs_t 406 (by decide +kernel) (by decide +kernel)
theorem q_ml_X4_59 : Cond.methodLink RX4 59 yX0_init ∈ xTs := xTs_t 409 (by decide +kernel) (by decide +kernel)
theorem q_im_X0_init : Cond.instanceMethod yX0_init ∈ xTs := xTs_t 410 (by decide +kernel) (by decide +kernel)
theorem q_ml_X0_3 : Cond.methodLink RX0 3 objectInit ∈ xTs := xTs_t 412 (by decide +kernel) (by decide +kernel)
theorem q_cl_X0_9 : Cond.classLink RX0 9 RX3 ∈ xTs := xTs_t 413 (by decide +kernel) (by decide +kernel)
theorem q_mk_X3 : Cond.instantiable RX3 6 ∈ xTs := xTs_t 415 (by decide +kernel) (by decide +kernel)
theorem q_mn_X0_21 : Cond.methodLinkNest RX0 21 yX3_init RX4 ∈ xTs := xTs_t 416 (by decide +kernel) (by decide +kernel)
theorem q_im_X3_init : Cond.instanceMethod yX3_init ∈ xTs := xTs_t 417 (by decide +kernel) (by decide +kernel)
theorem q_ml_X3_1 : Cond.methodLink RX3 1 objectInit ∈ xTs := xTs_t 419 (by decide +kernel) (by decide +kernel)
theorem q_fl_X3_13 : Cond.fieldLink RX3 13 "VendingRounds$Slot" "capacity" "I" ∈ xTs := xTs_t 420 (by decide +kernel) (by decide +kernel)
theorem q_fl_X4_98 : Cond.fieldLink RX4 98 "VendingRounds$Slot" "capacity" "I" ∈ xTs := xTs_t 421 (by decide +kernel) (by decide +kernel)
theorem q_fl_X3_16 : Cond.fieldLink RX3 16 "VendingRounds$Slot" "stock" "I" ∈ xTs := xTs_t 422 (by decide +kernel) (by decide +kernel)
theorem q_fl_X4_104 : Cond.fieldLink RX4 104 "VendingRounds$Slot" "stock" "I" ∈ xTs := xTs_t 423 (by decide +kernel) (by decide +kernel)
theorem q_fl_X0_46 : Cond.fieldLink RX0 46 "VendingRounds$Slot" "stock" "I" ∈ xTs := xTs_t 424 (by decide +kernel) (by decide +kernel)
theorem q_fl_X3_7 : Cond.fieldLink RX3 7 "VendingRounds$Slot" "price" "I" ∈ xTs := xTs_t 425 (by decide +kernel) (by decide +kernel)
theorem q_fl_X0_29 : Cond.fieldLink RX0 29 "VendingRounds$Slot" "price" "I" ∈ xTs := xTs_t 426 (by decide +kernel) (by decide +kernel)
theorem q_fl_X4_122 : Cond.fieldLink RX4 122 "VendingRounds$Slot" "price" "I" ∈ xTs := xTs_t 427 (by decide +kernel) (by decide +kernel)
theorem q_fl_X4_112 : Cond.fieldLink RX4 112 "VendingRounds$Slot" "demand" "I" ∈ xTs := xTs_t 428 (by decide +kernel) (by decide +kernel)
theorem q_fl_X0_43 : Cond.fieldLink RX0 43 "VendingRounds$Slot" "demand" "I" ∈ xTs := xTs_t 429 (by decide +kernel) (by decide +kernel)
theorem q_fl_X0_49 : Cond.fieldLink RX0 49 "VendingRounds$Slot" "sold" "I" ∈ xTs := xTs_t 430 (by decide +kernel) (by decide +kernel)
theorem q_fl_X0_52 : Cond.fieldLink RX0 52 "VendingRounds$Slot" "lost" "I" ∈ xTs := xTs_t 431 (by decide +kernel) (by decide +kernel)
theorem q_fl_X0_17 : Cond.fieldLink RX0 17 "VendingRounds$Machine" "limit" "I" ∈ xTs := xTs_t 445 (by decide +kernel) (by decide +kernel)
theorem q_fl_X0_11 : Cond.fieldLink RX0 11 "VendingRounds$Machine" "slots" "[LVendingRounds$Slot;" ∈ xTs := xTs_t 446 (by decide +kernel) (by decide +kernel)
theorem q_fl_X4_215 : Cond.fieldLink RX4 215 "VendingRounds$Machine" "slots" "[LVendingRounds$Slot;" ∈ xTs := xTs_t 447 (by decide +kernel) (by decide +kernel)
theorem q_fl_X0_26 : Cond.fieldLink RX0 26 "VendingRounds$Machine" "coins" "I" ∈ xTs := xTs_t 448 (by decide +kernel) (by decide +kernel)
theorem q_fl_X0_36 : Cond.fieldLink RX0 36 "VendingRounds$Machine" "visits" "I" ∈ xTs := xTs_t 449 (by decide +kernel) (by decide +kernel)
theorem q_fl_X4_265 : Cond.fieldLink RX4 265 "VendingRounds$Machine" "visits" "I" ∈ xTs := xTs_t 450 (by decide +kernel) (by decide +kernel)
theorem q_ml_X4_62 : Cond.methodLink RX4 62 yJx4a65c_add_9ea2d ∈ xTs := xTs_t 460 (by decide +kernel) (by decide +kernel)
theorem q_im_Jx4a65c_add_9ea2d : Cond.instanceMethod yJx4a65c_add_9ea2d ∈ xTs := xTs_t 461 (by decide +kernel) (by decide +kernel)
theorem q_sel_Jx4a65c_Jx4a65c_add_9ea2d : Cond.selects RJx4a65c yJx4a65c_add_9ea2d yJx4a65c_add_9ea2d ∈ xTs := xTs_t 462 (by decide +kernel) (by decide +kernel)
theorem q_ml_Jx4a65c_131 : Cond.methodLink RJx4a65c 131 yJx4a65c_add_72be8 ∈ xTs := xTs_t 464 (by decide +kernel) (by decide +kernel)
theorem q_im_Jx4a65c_add_72be8 : Cond.instanceMethod yJx4a65c_add_72be8 ∈ xTs := xTs_t 466 (by decide +kernel) (by decide +kernel)
theorem q_ml_Jx4a65c_129 : Cond.methodLink RJx4a65c 129 yJx4a65c_grow_d5877 ∈ xTs := xTs_t 468 (by decide +kernel) (by decide +kernel)
theorem q_im_Jx4a65c_grow_d5877 : Cond.instanceMethod yJx4a65c_grow_d5877 ∈ xTs := xTs_t 470 (by decide +kernel) (by decide +kernel)
theorem q_ml_Jx4a65c_69 : Cond.methodLink RJx4a65c 69 yJx4a65c_grow_92f84 ∈ xTs := xTs_t 472 (by decide +kernel) (by decide +kernel)
theorem q_im_Jx4a65c_grow_92f84 : Cond.instanceMethod yJx4a65c_grow_92f84 ∈ xTs := xTs_t 474 (by decide +kernel) (by decide +kernel)
theorem q_ml_Jx4a65c_73 : Cond.methodLink RJx4a65c 73 yJ8_newLength_cabcc ∈ xTs := xTs_t 476 (by decide +kernel) (by decide +kernel)
theorem q_st_J8_newLength_cabcc : Cond.static yJ8_newLength_cabcc ∈ xTs := xTs_t 477 (by decide +kernel) (by decide +kernel)
theorem q_ml_J8_194 : Cond.methodLink RJ8 194 Lib.Math.max.name ∈ xTs := xTs_t 479 (by decide +kernel) (by decide +kernel)
theorem q_st_J9_max_7cf53 : Cond.static Lib.Math.max.name ∈ xTs := xTs_t 480 (by decide +kernel) (by decide +kernel)
theorem q_ko_J8_200 : Cond.constant RJ8 200 (2147483639 : Int32) ∈ xTs := xTs_t 482 (by decide +kernel) (by decide +kernel)
theorem q_ml_J8_201 : Cond.methodLink RJ8 201 yJ8_hugeLength_7cf53 ∈ xTs := xTs_t 483 (by decide +kernel) (by decide +kernel)
theorem q_st_J8_hugeLength_7cf53 : Cond.static yJ8_hugeLength_7cf53 ∈ xTs := xTs_t 484 (by decide +kernel) (by decide +kernel)
theorem q_ml_Jx4a65c_66 : Cond.methodLink RJx4a65c 66 yJ7_copyOf_1904c ∈ xTs := xTs_t 486 (by decide +kernel) (by decide +kernel)
theorem q_st_J7_copyOf_1904c : Cond.static yJ7_copyOf_1904c ∈ xTs := xTs_t 487 (by decide +kernel) (by decide +kernel)
theorem q_ml_J7_86 : Cond.methodLink RJ7 86 ⟨"java/lang/Object", "getClass", "()Ljava/lang/Class;"⟩ ∈ xTs := xTs_t 489 (by decide +kernel) (by decide +kernel)
theorem q_im_java_lang_Object_getClass : Cond.instanceMethod ⟨"java/lang/Object", "getClass", "()Ljava/lang/Class;"⟩ ∈ xTs := xTs_t 490 (by decide +kernel) (by decide +kernel)
theorem q_sel_X4_java_lang_Object_getClass : Cond.selects RX4 ⟨"java/lang/Object", "getClass", "()Ljava/lang/Class;"⟩ ⟨"java/lang/Object", "getClass", "()Ljava/lang/Class;"⟩ ∈ xTs := xTs_t 492 (by decide +kernel) (by decide +kernel)
theorem q_sel_X0_java_lang_Object_getClass : Cond.selects RX0 ⟨"java/lang/Object", "getClass", "()Ljava/lang/Class;"⟩ ⟨"java/lang/Object", "getClass", "()Ljava/lang/Class;"⟩ ∈ xTs := xTs_t 493 (by decide +kernel) (by decide +kernel)
theorem q_sel_X1_java_lang_Object_getClass : Cond.selects RX1 ⟨"java/lang/Object", "getClass", "()Ljava/lang/Class;"⟩ ⟨"java/lang/Object", "getClass", "()Ljava/lang/Class;"⟩ ∈ xTs := xTs_t 494 (by decide +kernel) (by decide +kernel)
theorem q_sel_X2_java_lang_Object_getClass : Cond.selects RX2 ⟨"java/lang/Object", "getClass", "()Ljava/lang/Class;"⟩ ⟨"java/lang/Object", "getClass", "()Ljava/lang/Class;"⟩ ∈ xTs := xTs_t 495 (by decide +kernel) (by decide +kernel)
theorem q_sel_X3_java_lang_Object_getClass : Cond.selects RX3 ⟨"java/lang/Object", "getClass", "()Ljava/lang/Class;"⟩ ⟨"java/lang/Object", "getClass", "()Ljava/lang/Class;"⟩ ∈ xTs := xTs_t 496 (by decide +kernel) (by decide +kernel)
theorem q_sel_java_lang_IllegalArgumentException_java_lang_Object_getClass : Cond.selects "java/lang/IllegalArgumentException" ⟨"java/lang/Object", "getClass", "()Ljava/lang/Class;"⟩ ⟨"java/lang/Object", "getClass", "()Ljava/lang/Class;"⟩ ∈ xTs := xTs_t 497 (by decide +kernel) (by decide +kernel)
theorem q_sel_java_lang_IllegalStateException_java_lang_Object_getClass : Cond.selects "java/lang/IllegalStateException" ⟨"java/lang/Object", "getClass", "()Ljava/lang/Class;"⟩ ⟨"java/lang/Object", "getClass", "()Ljava/lang/Class;"⟩ ∈ xTs := xTs_t 498 (by decide +kernel) (by decide +kernel)
theorem q_sel_java_lang_IndexOutOfBoundsException_java_lang_Object_getClass : Cond.selects "java/lang/IndexOutOfBoundsException" ⟨"java/lang/Object", "getClass", "()Ljava/lang/Class;"⟩ ⟨"java/lang/Object", "getClass", "()Ljava/lang/Class;"⟩ ∈ xTs := xTs_t 499 (by decide +kernel) (by decide +kernel)
theorem q_sel_Jx4a65c_java_lang_Object_getClass : Cond.selects RJx4a65c ⟨"java/lang/Object", "getClass", "()Ljava/lang/Class;"⟩ ⟨"java/lang/Object", "getClass", "()Ljava/lang/Class;"⟩ ∈ xTs := xTs_t 500 (by decide +kernel) (by decide +kernel)
theorem q_na_java_lang_Object_getClass : Cond.native ⟨"java/lang/Object", "getClass", "()Ljava/lang/Class;"⟩ ∈ xTs := xTs_t 501 (by decide +kernel) (by decide +kernel)
theorem q_ml_J7_300 : Cond.methodLink RJ7 300 yJ7_copyOf_6403c ∈ xTs := xTs_t 502 (by decide +kernel) (by decide +kernel)
theorem q_st_J7_copyOf_6403c : Cond.static yJ7_copyOf_6403c ∈ xTs := xTs_t 503 (by decide +kernel) (by decide +kernel)
theorem q_cl_J7_110 : Cond.classLink RJ7 110 "[Ljava/lang/Object;" ∈ xTs := xTs_t 505 (by decide +kernel) (by decide +kernel)
theorem q_cl_J7_2 : Cond.classLink RJ7 2 "java/lang/Object" ∈ xTs := xTs_t 507 (by decide +kernel) (by decide +kernel)
theorem q_ml_J7_304 : Cond.methodLink RJ7 304 Lib.Math.min.name ∈ xTs := xTs_t 508 (by decide +kernel) (by decide +kernel)
theorem q_ml_J7_150 : Cond.methodLink RJ7 150 arraycopyName ∈ xTs := xTs_t 509 (by decide +kernel) (by decide +kernel)
theorem q_ml_Jx4a65c_79 : Cond.methodLink RJx4a65c 79 Lib.Math.max.name ∈ xTs := xTs_t 510 (by decide +kernel) (by decide +kernel)
theorem q_cl_Jx4a65c_7 : Cond.classLink RJx4a65c 7 "java/lang/Object" ∈ xTs := xTs_t 511 (by decide +kernel) (by decide +kernel)
theorem q_ml_X4_66 : Cond.methodLink RX4 66 yX2_measureTours ∈ xTs := xTs_t 512 (by decide +kernel) (by decide +kernel)
theorem q_im_X2_measureTours : Cond.instanceMethod yX2_measureTours ∈ xTs := xTs_t 513 (by decide +kernel) (by decide +kernel)
theorem q_sel_X2_X2_measureTours : Cond.selects RX2 yX2_measureTours yX2_measureTours ∈ xTs := xTs_t 514 (by decide +kernel) (by decide +kernel)
theorem q_mn_X2_22 : Cond.methodLinkNest RX2 22 yX4_without RX4 ∈ xTs := xTs_t 516 (by decide +kernel) (by decide +kernel)
theorem q_ml_X2_26 : Cond.methodLink RX2 26 yX2_leastFrom ∈ xTs := xTs_t 517 (by decide +kernel) (by decide +kernel)
theorem q_ml_L_26 : Cond.methodLink RL 26 yX4_setSlot ∈ xTs := xTs_t 518 (by decide +kernel) (by decide +kernel)
theorem q_im_X4_setSlot : Cond.instanceMethod yX4_setSlot ∈ xTs := xTs_t 519 (by decide +kernel) (by decide +kernel)
theorem q_sel_X4_X4_setSlot : Cond.selects RX4 yX4_setSlot yX4_setSlot ∈ xTs := xTs_t 520 (by decide +kernel) (by decide +kernel)
theorem q_ml_X4_90 : Cond.methodLink RX4 90 yX4_slotAt ∈ xTs := xTs_t 522 (by decide +kernel) (by decide +kernel)
theorem q_im_X4_slotAt : Cond.instanceMethod yX4_slotAt ∈ xTs := xTs_t 524 (by decide +kernel) (by decide +kernel)
theorem q_ml_X4_107 : Cond.methodLink RX4 107 Lib.Math.min.name ∈ xTs := xTs_t 529 (by decide +kernel) (by decide +kernel)
theorem q_ml_L_30 : Cond.methodLink RL 30 yX4_planPrice ∈ xTs := xTs_t 530 (by decide +kernel) (by decide +kernel)
theorem q_im_X4_planPrice : Cond.instanceMethod yX4_planPrice ∈ xTs := xTs_t 531 (by decide +kernel) (by decide +kernel)
theorem q_sel_X4_X4_planPrice : Cond.selects RX4 yX4_planPrice yX4_planPrice ∈ xTs := xTs_t 532 (by decide +kernel) (by decide +kernel)
theorem q_mk_X1 : Cond.instantiable RX1 3 ∈ xTs := xTs_t 537 (by decide +kernel) (by decide +kernel)
theorem q_ml_X4_129 : Cond.methodLink RX4 129 yX1_init ∈ xTs := xTs_t 538 (by decide +kernel) (by decide +kernel)
theorem q_im_X1_init : Cond.instanceMethod yX1_init ∈ xTs := xTs_t 539 (by decide +kernel) (by decide +kernel)
theorem q_ml_X1_1 : Cond.methodLink RX1 1 objectInit ∈ xTs := xTs_t 541 (by decide +kernel) (by decide +kernel)
theorem q_fl_X1_7 : Cond.fieldLink RX1 7 "VendingRounds$PriceChange" "slot" "LVendingRounds$Slot;" ∈ xTs := xTs_t 542 (by decide +kernel) (by decide +kernel)
theorem q_fl_X4_245 : Cond.fieldLink RX4 245 "VendingRounds$PriceChange" "slot" "LVendingRounds$Slot;" ∈ xTs := xTs_t 543 (by decide +kernel) (by decide +kernel)
theorem q_fl_X1_13 : Cond.fieldLink RX1 13 "VendingRounds$PriceChange" "day" "I" ∈ xTs := xTs_t 544 (by decide +kernel) (by decide +kernel)
theorem q_fl_X4_244 : Cond.fieldLink RX4 244 "VendingRounds$PriceChange" "day" "I" ∈ xTs := xTs_t 545 (by decide +kernel) (by decide +kernel)
theorem q_fl_X1_17 : Cond.fieldLink RX1 17 "VendingRounds$PriceChange" "price" "I" ∈ xTs := xTs_t 546 (by decide +kernel) (by decide +kernel)
theorem q_fl_X4_249 : Cond.fieldLink RX4 249 "VendingRounds$PriceChange" "price" "I" ∈ xTs := xTs_t 547 (by decide +kernel) (by decide +kernel)
theorem q_ml_L_33 : Cond.methodLink RL 33 yX4_setMinutes ∈ xTs := xTs_t 555 (by decide +kernel) (by decide +kernel)
theorem q_im_X4_setMinutes : Cond.instanceMethod yX4_setMinutes ∈ xTs := xTs_t 556 (by decide +kernel) (by decide +kernel)
theorem q_sel_X4_X4_setMinutes : Cond.selects RX4 yX4_setMinutes yX4_setMinutes ∈ xTs := xTs_t 557 (by decide +kernel) (by decide +kernel)
theorem q_ml_X4_69 : Cond.methodLink RX4 69 yX4_isNoPlace ∈ xTs := xTs_t 559 (by decide +kernel) (by decide +kernel)
theorem q_im_X4_isNoPlace : Cond.instanceMethod yX4_isNoPlace ∈ xTs := xTs_t 561 (by decide +kernel) (by decide +kernel)
theorem q_ml_X4_82 : Cond.methodLink RX4 82 yX2_between ∈ xTs := xTs_t 565 (by decide +kernel) (by decide +kernel)
theorem q_ml_X4_86 : Cond.methodLink RX4 86 yX2_setBetween ∈ xTs := xTs_t 566 (by decide +kernel) (by decide +kernel)
theorem q_im_X2_setBetween : Cond.instanceMethod yX2_setBetween ∈ xTs := xTs_t 567 (by decide +kernel) (by decide +kernel)
theorem q_sel_X2_X2_setBetween : Cond.selects RX2 yX2_setBetween yX2_setBetween ∈ xTs := xTs_t 568 (by decide +kernel) (by decide +kernel)
theorem q_ml_L_37 : Cond.methodLink RL 37 yX4_machineCount ∈ xTs := xTs_t 570 (by decide +kernel) (by decide +kernel)
theorem q_im_X4_machineCount : Cond.instanceMethod yX4_machineCount ∈ xTs := xTs_t 571 (by decide +kernel) (by decide +kernel)
theorem q_sel_X4_X4_machineCount : Cond.selects RX4 yX4_machineCount yX4_machineCount ∈ xTs := xTs_t 572 (by decide +kernel) (by decide +kernel)
theorem q_ml_L_59 : Cond.methodLink RL 59 yJ6_bitCount_0f7a4 ∈ xTs := xTs_t 574 (by decide +kernel) (by decide +kernel)
theorem q_ca_X3_java_lang_Object : Cond.castable RX3 "java/lang/Object" ∈ xTs := xTs_t 576 (by decide +kernel) (by decide +kernel)
theorem q_ca_X4_java_lang_Object : Cond.castable RX4 "java/lang/Object" ∈ xTs := xTs_t 577 (by decide +kernel) (by decide +kernel)
theorem q_ca_Jx4a65c_java_lang_Object : Cond.castable RJx4a65c "java/lang/Object" ∈ xTs := xTs_t 578 (by decide +kernel) (by decide +kernel)
theorem q_ca_X2_java_lang_Object : Cond.castable RX2 "java/lang/Object" ∈ xTs := xTs_t 579 (by decide +kernel) (by decide +kernel)
theorem q_ca_java_lang_IllegalArgumentException_java_lang_Object : Cond.castable "java/lang/IllegalArgumentException" "java/lang/Object" ∈ xTs := xTs_t 580 (by decide +kernel) (by decide +kernel)
theorem q_ca_java_lang_IllegalStateException_java_lang_Object : Cond.castable "java/lang/IllegalStateException" "java/lang/Object" ∈ xTs := xTs_t 581 (by decide +kernel) (by decide +kernel)
theorem q_ca_X0_java_lang_Object : Cond.castable RX0 "java/lang/Object" ∈ xTs := xTs_t 582 (by decide +kernel) (by decide +kernel)
theorem q_ca_java_lang_IndexOutOfBoundsException_java_lang_Object : Cond.castable "java/lang/IndexOutOfBoundsException" "java/lang/Object" ∈ xTs := xTs_t 583 (by decide +kernel) (by decide +kernel)
theorem q_ca_X1_java_lang_Object : Cond.castable RX1 "java/lang/Object" ∈ xTs := xTs_t 584 (by decide +kernel) (by decide +kernel)
theorem q_ca_java_lang_Throwable_java_lang_Object : Cond.castable "java/lang/Throwable" "java/lang/Object" ∈ xTs := xTs_t 585 (by decide +kernel) (by decide +kernel)
theorem q_ca_J0_java_lang_Object : Cond.castable RJ0 "java/lang/Object" ∈ xTs := xTs_t 586 (by decide +kernel) (by decide +kernel)
theorem q_sel__Ljava_lang_Object__java_lang_Object_getClass : Cond.selects "[Ljava/lang/Object;" ⟨"java/lang/Object", "getClass", "()Ljava/lang/Class;"⟩ ⟨"java/lang/Object", "getClass", "()Ljava/lang/Class;"⟩ ∈ xTs := xTs_t 588 (by decide +kernel) (by decide +kernel)
theorem q_de_java_lang_Object_getClass : Cond.declares ⟨"java/lang/Object", "getClass", "()Ljava/lang/Class;"⟩ ∈ xTs := xTs_t 589 (by decide +kernel) (by decide +kernel)
theorem q_ca__I_java_lang_Object : Cond.castable "[I" "java/lang/Object" ∈ xTs := xTs_t 590 (by decide +kernel) (by decide +kernel)
theorem q_ca__B_java_lang_Object : Cond.castable "[B" "java/lang/Object" ∈ xTs := xTs_t 591 (by decide +kernel) (by decide +kernel)
theorem q_ca__LVendingRounds_Slot__java_lang_Object : Cond.castable "[LVendingRounds$Slot;" "java/lang/Object" ∈ xTs := xTs_t 592 (by decide +kernel) (by decide +kernel)
theorem q_ca__Ljava_lang_Object__java_lang_Object : Cond.castable "[Ljava/lang/Object;" "java/lang/Object" ∈ xTs := xTs_t 593 (by decide +kernel) (by decide +kernel)
theorem q_sel_X4_X4_machineAt : Cond.selects RX4 yX4_machineAt yX4_machineAt ∈ xTs := xTs_s 0 (by decide +kernel) (by decide +kernel)
theorem q_sel_X4_X4_isNoMachine : Cond.selects RX4 yX4_isNoMachine yX4_isNoMachine ∈ xTs := xTs_s 1 (by decide +kernel) (by decide +kernel)
theorem q_sel_X4_X4_sellEverywhere : Cond.selects RX4 yX4_sellEverywhere yX4_sellEverywhere ∈ xTs := xTs_s 3 (by decide +kernel) (by decide +kernel)
theorem q_sel_X0_X0_sellFrom : Cond.selects RX0 yX0_sellFrom yX0_sellFrom ∈ xTs := xTs_s 4 (by decide +kernel) (by decide +kernel)
theorem q_sel_X4_X4_changePrices : Cond.selects RX4 yX4_changePrices yX4_changePrices ∈ xTs := xTs_s 5 (by decide +kernel) (by decide +kernel)
theorem q_sel_Jx4a65c_Jx4a65c_fastRemove_b59b0 : Cond.selects RJx4a65c yJx4a65c_fastRemove_b59b0 yJx4a65c_fastRemove_b59b0 ∈ xTs := xTs_s 6 (by decide +kernel) (by decide +kernel)
theorem q_sel_X4_X4_requireSet : Cond.selects RX4 yX4_requireSet yX4_requireSet ∈ xTs := xTs_s 7 (by decide +kernel) (by decide +kernel)
theorem q_sel_X2_X2_leastBy : Cond.selects RX2 yX2_leastBy yX2_leastBy ∈ xTs := xTs_s 8 (by decide +kernel) (by decide +kernel)
theorem q_sel_X4_X4_survey : Cond.selects RX4 yX4_survey yX4_survey ∈ xTs := xTs_s 9 (by decide +kernel) (by decide +kernel)
theorem q_sel_X4_X4_roundTime : Cond.selects RX4 yX4_roundTime yX4_roundTime ∈ xTs := xTs_s 10 (by decide +kernel) (by decide +kernel)
theorem q_sel_X4_X4_serve : Cond.selects RX4 yX4_serve yX4_serve ∈ xTs := xTs_s 11 (by decide +kernel) (by decide +kernel)
theorem q_sel_Jx4a65c_Jx4a65c_add_72be8 : Cond.selects RJx4a65c yJx4a65c_add_72be8 yJx4a65c_add_72be8 ∈ xTs := xTs_s 12 (by decide +kernel) (by decide +kernel)
theorem q_sel_Jx4a65c_Jx4a65c_grow_d5877 : Cond.selects RJx4a65c yJx4a65c_grow_d5877 yJx4a65c_grow_d5877 ∈ xTs := xTs_s 13 (by decide +kernel) (by decide +kernel)
theorem q_sel_Jx4a65c_Jx4a65c_grow_92f84 : Cond.selects RJx4a65c yJx4a65c_grow_92f84 yJx4a65c_grow_92f84 ∈ xTs := xTs_s 14 (by decide +kernel) (by decide +kernel)
theorem q_sel_X4_X4_slotAt : Cond.selects RX4 yX4_slotAt yX4_slotAt ∈ xTs := xTs_s 15 (by decide +kernel) (by decide +kernel)
theorem q_sel_X4_X4_isNoPlace : Cond.selects RX4 yX4_isNoPlace yX4_isNoPlace ∈ xTs := xTs_s 16 (by decide +kernel) (by decide +kernel)
theorem q_co_X4_init : Cond.code yX4_init cX4_init 1 none ∈ xTs := xTs_t 26 (by decide +kernel) (by decide +kernel)
abbrev w_X4_init : List Cond := [Cond.code yX4_init cX4_init 1 none]
theorem gi_X4_init : GoodIn xTs w_X4_init := fun _ h => by obtain rfl := List.mem_singleton.mp h; exact xGood q_co_X4_init (by decide +kernel)
theorem hd_X4_init : yX4_init.cls ≠ "java/lang/invoke/MethodHandle" ∧ yX4_init.cls ≠ "java/lang/invoke/VarHandle" ∧ (parseMethodDescriptor yX4_init.desc).map (fun d => d.parameters.length) = some 0 := by decide +kernel
theorem q_co_Jx4a65c_init_da8c8 : Cond.code yJx4a65c_init_da8c8 cJx4a65c_init_da8c8 1 none ∈ xTs := xTs_t 34 (by decide +kernel) (by decide +kernel)
abbrev w_Jx4a65c_init_da8c8 : List Cond := [Cond.code yJx4a65c_init_da8c8 cJx4a65c_init_da8c8 1 none]
theorem gi_Jx4a65c_init_da8c8 : GoodIn xTs w_Jx4a65c_init_da8c8 := fun _ h => by obtain rfl := List.mem_singleton.mp h; exact xGood q_co_Jx4a65c_init_da8c8 (by decide +kernel)
theorem hd_Jx4a65c_init_da8c8 : yJx4a65c_init_da8c8.cls ≠ "java/lang/invoke/MethodHandle" ∧ yJx4a65c_init_da8c8.cls ≠ "java/lang/invoke/VarHandle" ∧ (parseMethodDescriptor yJx4a65c_init_da8c8.desc).map (fun d => d.parameters.length) = some 0 := by decide +kernel
theorem q_co_Jxc12de_init_da8c8 : Cond.code yJxc12de_init_da8c8 cJxc12de_init_da8c8 1 none ∈ xTs := xTs_t 37 (by decide +kernel) (by decide +kernel)
abbrev w_Jxc12de_init_da8c8 : List Cond := [Cond.code yJxc12de_init_da8c8 cJxc12de_init_da8c8 1 none]
theorem gi_Jxc12de_init_da8c8 : GoodIn xTs w_Jxc12de_init_da8c8 := fun _ h => by obtain rfl := List.mem_singleton.mp h; exact xGood q_co_Jxc12de_init_da8c8 (by decide +kernel)
theorem hd_Jxc12de_init_da8c8 : yJxc12de_init_da8c8.cls ≠ "java/lang/invoke/MethodHandle" ∧ yJxc12de_init_da8c8.cls ≠ "java/lang/invoke/VarHandle" ∧ (parseMethodDescriptor yJxc12de_init_da8c8.desc).map (fun d => d.parameters.length) = some 0 := by decide +kernel
theorem q_co_Jxa1e45_init_da8c8 : Cond.code yJxa1e45_init_da8c8 cJxa1e45_init_da8c8 1 none ∈ xTs := xTs_t 40 (by decide +kernel) (by decide +kernel)
abbrev w_Jxa1e45_init_da8c8 : List Cond := [Cond.code yJxa1e45_init_da8c8 cJxa1e45_init_da8c8 1 none]
theorem gi_Jxa1e45_init_da8c8 : GoodIn xTs w_Jxa1e45_init_da8c8 := fun _ h => by obtain rfl := List.mem_singleton.mp h; exact xGood q_co_Jxa1e45_init_da8c8 (by decide +kernel)
theorem hd_Jxa1e45_init_da8c8 : yJxa1e45_init_da8c8.cls ≠ "java/lang/invoke/MethodHandle" ∧ yJxa1e45_init_da8c8.cls ≠ "java/lang/invoke/VarHandle" ∧ (parseMethodDescriptor yJxa1e45_init_da8c8.desc).map (fun d => d.parameters.length) = some 0 := by decide +kernel
theorem q_co_X2_init : Cond.code yX2_init cX2_init 3 none ∈ xTs := xTs_t 60 (by decide +kernel) (by decide +kernel)
abbrev w_X2_init : List Cond := [Cond.code yX2_init cX2_init 3 none]
theorem gi_X2_init : GoodIn xTs w_X2_init := fun _ h => by obtain rfl := List.mem_singleton.mp h; exact xGood q_co_X2_init (by decide +kernel)
theorem hd_X2_init : yX2_init.cls ≠ "java/lang/invoke/MethodHandle" ∧ yX2_init.cls ≠ "java/lang/invoke/VarHandle" ∧ (parseMethodDescriptor yX2_init.desc).map (fun d => d.parameters.length) = some 0 := by decide +kernel
theorem q_co_X4_machine : Cond.code yX4_machine cX4_machine 4 (some .int) ∈ xTs := xTs_t 107 (by decide +kernel) (by decide +kernel)
abbrev w_X4_machine : List Cond := [Cond.code yX4_machine cX4_machine 4 (some .int)]
theorem gi_X4_machine : GoodIn xTs w_X4_machine := fun _ h => by obtain rfl := List.mem_singleton.mp h; exact xGood q_co_X4_machine (by decide +kernel)
theorem hd_X4_machine : yX4_machine.cls ≠ "java/lang/invoke/MethodHandle" ∧ yX4_machine.cls ≠ "java/lang/invoke/VarHandle" ∧ (parseMethodDescriptor yX4_machine.desc).map (fun d => d.parameters.length) = some 2 := by decide +kernel
theorem q_co_X4_machineAt : Cond.code yX4_machineAt cX4_machineAt 2 (some (.object "VendingRounds$Machine")) ∈ xTs := xTs_t 111 (by decide +kernel) (by decide +kernel)
abbrev w_X4_machineAt : List Cond := [Cond.code yX4_machineAt cX4_machineAt 2 (some (.object "VendingRounds$Machine"))]
theorem gi_X4_machineAt : GoodIn xTs w_X4_machineAt := fun _ h => by obtain rfl := List.mem_singleton.mp h; exact xGood q_co_X4_machineAt (by decide +kernel)
theorem hd_X4_machineAt : yX4_machineAt.cls ≠ "java/lang/invoke/MethodHandle" ∧ yX4_machineAt.cls ≠ "java/lang/invoke/VarHandle" ∧ (parseMethodDescriptor yX4_machineAt.desc).map (fun d => d.parameters.length) = some 1 := by decide +kernel
theorem q_co_X4_isNoMachine : Cond.code yX4_isNoMachine cX4_isNoMachine 2 (some .boolean) ∈ xTs := xTs_t 115 (by decide +kernel) (by decide +kernel)
abbrev w_X4_isNoMachine : List Cond := [Cond.code yX4_isNoMachine cX4_isNoMachine 2 (some .boolean)]
theorem gi_X4_isNoMachine : GoodIn xTs w_X4_isNoMachine := fun _ h => by obtain rfl := List.mem_singleton.mp h; exact xGood q_co_X4_isNoMachine (by decide +kernel)
theorem hd_X4_isNoMachine : yX4_isNoMachine.cls ≠ "java/lang/invoke/MethodHandle" ∧ yX4_isNoMachine.cls ≠ "java/lang/invoke/VarHandle" ∧ (parseMethodDescriptor yX4_isNoMachine.desc).map (fun d => d.parameters.length) = some 1 := by decide +kernel
theorem q_co_Jx4a65c_size_8abf5 : Cond.code yJx4a65c_size_8abf5 cJx4a65c_size_8abf5 1 (some .int) ∈ xTs := xTs_t 119 (by decide +kernel) (by decide +kernel)
abbrev w_Jx4a65c_size_8abf5 : List Cond := [Cond.code yJx4a65c_size_8abf5 cJx4a65c_size_8abf5 1 (some .int)]
theorem gi_Jx4a65c_size_8abf5 : GoodIn xTs w_Jx4a65c_size_8abf5 := fun _ h => by obtain rfl := List.mem_singleton.mp h; exact xGood q_co_Jx4a65c_size_8abf5 (by decide +kernel)
theorem hd_Jx4a65c_size_8abf5 : yJx4a65c_size_8abf5.cls ≠ "java/lang/invoke/MethodHandle" ∧ yJx4a65c_size_8abf5.cls ≠ "java/lang/invoke/VarHandle" ∧ (parseMethodDescriptor yJx4a65c_size_8abf5.desc).map (fun d => d.parameters.length) = some 0 := by decide +kernel
theorem q_co_X4_outside : Cond.code yX4_outside cX4_outside 3 (some .boolean) ∈ xTs := xTs_t 122 (by decide +kernel) (by decide +kernel)
abbrev w_X4_outside : List Cond := [Cond.code yX4_outside cX4_outside 3 (some .boolean)]
theorem gi_X4_outside : GoodIn xTs w_X4_outside := fun _ h => by obtain rfl := List.mem_singleton.mp h; exact xGood q_co_X4_outside (by decide +kernel)
theorem hd_X4_outside : yX4_outside.cls ≠ "java/lang/invoke/MethodHandle" ∧ yX4_outside.cls ≠ "java/lang/invoke/VarHandle" ∧ (parseMethodDescriptor yX4_outside.desc).map (fun d => d.parameters.length) = some 3 := by decide +kernel
theorem q_co_Jx4a65c_get_915e3 : Cond.code yJx4a65c_get_915e3 cJx4a65c_get_915e3 2 (some (.object "java/lang/Object")) ∈ xTs := xTs_t 194 (by decide +kernel) (by decide +kernel)
abbrev w_Jx4a65c_get_915e3 : List Cond := [Cond.code yJx4a65c_get_915e3 cJx4a65c_get_915e3 2 (some (.object "java/lang/Object"))]
theorem gi_Jx4a65c_get_915e3 : GoodIn xTs w_Jx4a65c_get_915e3 := fun _ h => by obtain rfl := List.mem_singleton.mp h; exact xGood q_co_Jx4a65c_get_915e3 (by decide +kernel)
theorem hd_Jx4a65c_get_915e3 : yJx4a65c_get_915e3.cls ≠ "java/lang/invoke/MethodHandle" ∧ yJx4a65c_get_915e3.cls ≠ "java/lang/invoke/VarHandle" ∧ (parseMethodDescriptor yJx4a65c_get_915e3.desc).map (fun d => d.parameters.length) = some 1 := by decide +kernel
theorem q_co_J15_checkIndex_7cf53 : Cond.code yJ15_checkIndex_7cf53 cJ15_checkIndex_7cf53 2 (some .int) ∈ xTs := xTs_t 197 (by decide +kernel) (by decide +kernel)
abbrev w_J15_checkIndex_7cf53 : List Cond := [Cond.code yJ15_checkIndex_7cf53 cJ15_checkIndex_7cf53 2 (some .int)]
theorem gi_J15_checkIndex_7cf53 : GoodIn xTs w_J15_checkIndex_7cf53 := fun _ h => by obtain rfl := List.mem_singleton.mp h; exact xGood q_co_J15_checkIndex_7cf53 (by decide +kernel)
theorem hd_J15_checkIndex_7cf53 : yJ15_checkIndex_7cf53.cls ≠ "java/lang/invoke/MethodHandle" ∧ yJ15_checkIndex_7cf53.cls ≠ "java/lang/invoke/VarHandle" ∧ (parseMethodDescriptor yJ15_checkIndex_7cf53.desc).map (fun d => d.parameters.length) = some 2 := by decide +kernel
theorem q_co_J3_checkIndex_8e157 : Cond.code yJ3_checkIndex_8e157 cJ3_checkIndex_8e157 3 (some .int) ∈ xTs := xTs_t 200 (by decide +kernel) (by decide +kernel)
abbrev w_J3_checkIndex_8e157 : List Cond := [Cond.code yJ3_checkIndex_8e157 cJ3_checkIndex_8e157 3 (some .int)]
theorem gi_J3_checkIndex_8e157 : GoodIn xTs w_J3_checkIndex_8e157 := fun _ h => by obtain rfl := List.mem_singleton.mp h; exact xGood q_co_J3_checkIndex_8e157 (by decide +kernel)
theorem hd_J3_checkIndex_8e157 : yJ3_checkIndex_8e157.cls ≠ "java/lang/invoke/MethodHandle" ∧ yJ3_checkIndex_8e157.cls ≠ "java/lang/invoke/VarHandle" ∧ (parseMethodDescriptor yJ3_checkIndex_8e157.desc).map (fun d => d.parameters.length) = some 3 := by decide +kernel
theorem q_co_Jx4a65c_elementData_915e3 : Cond.code yJx4a65c_elementData_915e3 cJx4a65c_elementData_915e3 2 (some (.object "java/lang/Object")) ∈ xTs := xTs_t 204 (by decide +kernel) (by decide +kernel)
abbrev w_Jx4a65c_elementData_915e3 : List Cond := [Cond.code yJx4a65c_elementData_915e3 cJx4a65c_elementData_915e3 2 (some (.object "java/lang/Object"))]
theorem gi_Jx4a65c_elementData_915e3 : GoodIn xTs w_Jx4a65c_elementData_915e3 := fun _ h => by obtain rfl := List.mem_singleton.mp h; exact xGood q_co_Jx4a65c_elementData_915e3 (by decide +kernel)
theorem hd_Jx4a65c_elementData_915e3 : yJx4a65c_elementData_915e3.cls ≠ "java/lang/invoke/MethodHandle" ∧ yJx4a65c_elementData_915e3.cls ≠ "java/lang/invoke/VarHandle" ∧ (parseMethodDescriptor yJx4a65c_elementData_915e3.desc).map (fun d => d.parameters.length) = some 1 := by decide +kernel
theorem q_co_X0_fact : Cond.code yX0_fact cX0_fact 2 (some .int) ∈ xTs := xTs_t 210 (by decide +kernel) (by decide +kernel)
abbrev w_X0_fact : List Cond := [Cond.code yX0_fact cX0_fact 2 (some .int)]
theorem gi_X0_fact : GoodIn xTs w_X0_fact := fun _ h => by obtain rfl := List.mem_singleton.mp h; exact xGood q_co_X0_fact (by decide +kernel)
theorem hd_X0_fact : yX0_fact.cls ≠ "java/lang/invoke/MethodHandle" ∧ yX0_fact.cls ≠ "java/lang/invoke/VarHandle" ∧ (parseMethodDescriptor yX0_fact.desc).map (fun d => d.parameters.length) = some 1 := by decide +kernel
theorem q_co_X0_lacking : Cond.code yX0_lacking cX0_lacking 3 (some .int) ∈ xTs := xTs_t 214 (by decide +kernel) (by decide +kernel)
abbrev w_X0_lacking : List Cond := [Cond.code yX0_lacking cX0_lacking 3 (some .int)]
theorem gi_X0_lacking : GoodIn xTs w_X0_lacking := fun _ h => by obtain rfl := List.mem_singleton.mp h; exact xGood q_co_X0_lacking (by decide +kernel)
theorem hd_X0_lacking : yX0_lacking.cls ≠ "java/lang/invoke/MethodHandle" ∧ yX0_lacking.cls ≠ "java/lang/invoke/VarHandle" ∧ (parseMethodDescriptor yX0_lacking.desc).map (fun d => d.parameters.length) = some 0 := by decide +kernel
theorem q_co_X3_lacking : Cond.code yX3_lacking cX3_lacking 1 (some .int) ∈ xTs := xTs_t 218 (by decide +kernel) (by decide +kernel)
abbrev w_X3_lacking : List Cond := [Cond.code yX3_lacking cX3_lacking 1 (some .int)]
theorem gi_X3_lacking : GoodIn xTs w_X3_lacking := fun _ h => by obtain rfl := List.mem_singleton.mp h; exact xGood q_co_X3_lacking (by decide +kernel)
theorem hd_X3_lacking : yX3_lacking.cls ≠ "java/lang/invoke/MethodHandle" ∧ yX3_lacking.cls ≠ "java/lang/invoke/VarHandle" ∧ (parseMethodDescriptor yX3_lacking.desc).map (fun d => d.parameters.length) = some 0 := by decide +kernel
theorem q_co_X0_gain : Cond.code yX0_gain cX0_gain 3 (some .int) ∈ xTs := xTs_t 222 (by decide +kernel) (by decide +kernel)
abbrev w_X0_gain : List Cond := [Cond.code yX0_gain cX0_gain 3 (some .int)]
theorem gi_X0_gain : GoodIn xTs w_X0_gain := fun _ h => by obtain rfl := List.mem_singleton.mp h; exact xGood q_co_X0_gain (by decide +kernel)
theorem hd_X0_gain : yX0_gain.cls ≠ "java/lang/invoke/MethodHandle" ∧ yX0_gain.cls ≠ "java/lang/invoke/VarHandle" ∧ (parseMethodDescriptor yX0_gain.desc).map (fun d => d.parameters.length) = some 0 := by decide +kernel
theorem q_co_X4_pass : Cond.code yX4_pass cX4_pass 4 (some .int) ∈ xTs := xTs_t 226 (by decide +kernel) (by decide +kernel)
abbrev w_X4_pass : List Cond := [Cond.code yX4_pass cX4_pass 4 (some .int)]
theorem gi_X4_pass : GoodIn xTs w_X4_pass := fun _ h => by obtain rfl := List.mem_singleton.mp h; exact xGood q_co_X4_pass (by decide +kernel)
theorem hd_X4_pass : yX4_pass.cls ≠ "java/lang/invoke/MethodHandle" ∧ yX4_pass.cls ≠ "java/lang/invoke/VarHandle" ∧ (parseMethodDescriptor yX4_pass.desc).map (fun d => d.parameters.length) = some 1 := by decide +kernel
theorem q_co_X4_sellEverywhere : Cond.code yX4_sellEverywhere cX4_sellEverywhere 3 (some .int) ∈ xTs := xTs_t 262 (by decide +kernel) (by decide +kernel)
abbrev w_X4_sellEverywhere : List Cond := [Cond.code yX4_sellEverywhere cX4_sellEverywhere 3 (some .int)]
theorem gi_X4_sellEverywhere : GoodIn xTs w_X4_sellEverywhere := fun _ h => by obtain rfl := List.mem_singleton.mp h; exact xGood q_co_X4_sellEverywhere (by decide +kernel)
theorem hd_X4_sellEverywhere : yX4_sellEverywhere.cls ≠ "java/lang/invoke/MethodHandle" ∧ yX4_sellEverywhere.cls ≠ "java/lang/invoke/VarHandle" ∧ (parseMethodDescriptor yX4_sellEverywhere.desc).map (fun d => d.parameters.length) = some 0 := by decide +kernel
theorem q_co_X0_sellForADay : Cond.code yX0_sellForADay cX0_sellForADay 3 (some .int) ∈ xTs := xTs_t 266 (by decide +kernel) (by decide +kernel)
abbrev w_X0_sellForADay : List Cond := [Cond.code yX0_sellForADay cX0_sellForADay 3 (some .int)]
theorem gi_X0_sellForADay : GoodIn xTs w_X0_sellForADay := fun _ h => by obtain rfl := List.mem_singleton.mp h; exact xGood q_co_X0_sellForADay (by decide +kernel)
theorem hd_X0_sellForADay : yX0_sellForADay.cls ≠ "java/lang/invoke/MethodHandle" ∧ yX0_sellForADay.cls ≠ "java/lang/invoke/VarHandle" ∧ (parseMethodDescriptor yX0_sellForADay.desc).map (fun d => d.parameters.length) = some 0 := by decide +kernel
theorem q_co_X0_sellFrom : Cond.code yX0_sellFrom cX0_sellFrom 4 (some .int) ∈ xTs := xTs_t 271 (by decide +kernel) (by decide +kernel)
abbrev w_X0_sellFrom : List Cond := [Cond.code yX0_sellFrom cX0_sellFrom 4 (some .int)]
theorem gi_X0_sellFrom : GoodIn xTs w_X0_sellFrom := fun _ h => by obtain rfl := List.mem_singleton.mp h; exact xGood q_co_X0_sellFrom (by decide +kernel)
theorem hd_X0_sellFrom : yX0_sellFrom.cls ≠ "java/lang/invoke/MethodHandle" ∧ yX0_sellFrom.cls ≠ "java/lang/invoke/VarHandle" ∧ (parseMethodDescriptor yX0_sellFrom.desc).map (fun d => d.parameters.length) = some 1 := by decide +kernel
theorem q_co_X4_changePrices : Cond.code yX4_changePrices cX4_changePrices 3 none ∈ xTs := xTs_t 275 (by decide +kernel) (by decide +kernel)
abbrev w_X4_changePrices : List Cond := [Cond.code yX4_changePrices cX4_changePrices 3 none]
theorem gi_X4_changePrices : GoodIn xTs w_X4_changePrices := fun _ h => by obtain rfl := List.mem_singleton.mp h; exact xGood q_co_X4_changePrices (by decide +kernel)
theorem hd_X4_changePrices : yX4_changePrices.cls ≠ "java/lang/invoke/MethodHandle" ∧ yX4_changePrices.cls ≠ "java/lang/invoke/VarHandle" ∧ (parseMethodDescriptor yX4_changePrices.desc).map (fun d => d.parameters.length) = some 0 := by decide +kernel
theorem q_co_Jx4a65c_remove_915e3 : Cond.code yJx4a65c_remove_915e3 cJx4a65c_remove_915e3 4 (some (.object "java/lang/Object")) ∈ xTs := xTs_t 280 (by decide +kernel) (by decide +kernel)
abbrev w_Jx4a65c_remove_915e3 : List Cond := [Cond.code yJx4a65c_remove_915e3 cJx4a65c_remove_915e3 4 (some (.object "java/lang/Object"))]
theorem gi_Jx4a65c_remove_915e3 : GoodIn xTs w_Jx4a65c_remove_915e3 := fun _ h => by obtain rfl := List.mem_singleton.mp h; exact xGood q_co_Jx4a65c_remove_915e3 (by decide +kernel)
theorem hd_Jx4a65c_remove_915e3 : yJx4a65c_remove_915e3.cls ≠ "java/lang/invoke/MethodHandle" ∧ yJx4a65c_remove_915e3.cls ≠ "java/lang/invoke/VarHandle" ∧ (parseMethodDescriptor yJx4a65c_remove_915e3.desc).map (fun d => d.parameters.length) = some 1 := by decide +kernel
theorem q_co_Jx4a65c_fastRemove_b59b0 : Cond.code yJx4a65c_fastRemove_b59b0 cJx4a65c_fastRemove_b59b0 4 none ∈ xTs := xTs_t 284 (by decide +kernel) (by decide +kernel)
abbrev w_Jx4a65c_fastRemove_b59b0 : List Cond := [Cond.code yJx4a65c_fastRemove_b59b0 cJx4a65c_fastRemove_b59b0 4 none]
theorem gi_Jx4a65c_fastRemove_b59b0 : GoodIn xTs w_Jx4a65c_fastRemove_b59b0 := fun _ h => by obtain rfl := List.mem_singleton.mp h; exact xGood q_co_Jx4a65c_fastRemove_b59b0 (by decide +kernel)
theorem hd_Jx4a65c_fastRemove_b59b0 : yJx4a65c_fastRemove_b59b0.cls ≠ "java/lang/invoke/MethodHandle" ∧ yJx4a65c_fastRemove_b59b0.cls ≠ "java/lang/invoke/VarHandle" ∧ (parseMethodDescriptor yJx4a65c_fastRemove_b59b0.desc).map (fun d => d.parameters.length) = some 2 := by decide +kernel
theorem q_co_X4_today : Cond.code yX4_today cX4_today 1 (some .int) ∈ xTs := xTs_t 291 (by decide +kernel) (by decide +kernel)
abbrev w_X4_today : List Cond := [Cond.code yX4_today cX4_today 1 (some .int)]
theorem gi_X4_today : GoodIn xTs w_X4_today := fun _ h => by obtain rfl := List.mem_singleton.mp h; exact xGood q_co_X4_today (by decide +kernel)
theorem hd_X4_today : yX4_today.cls ≠ "java/lang/invoke/MethodHandle" ∧ yX4_today.cls ≠ "java/lang/invoke/VarHandle" ∧ (parseMethodDescriptor yX4_today.desc).map (fun d => d.parameters.length) = some 0 := by decide +kernel
theorem q_co_X4_drive : Cond.code yX4_drive cX4_drive 2 (some .int) ∈ xTs := xTs_t 295 (by decide +kernel) (by decide +kernel)
abbrev w_X4_drive : List Cond := [Cond.code yX4_drive cX4_drive 2 (some .int)]
theorem gi_X4_drive : GoodIn xTs w_X4_drive := fun _ h => by obtain rfl := List.mem_singleton.mp h; exact xGood q_co_X4_drive (by decide +kernel)
theorem hd_X4_drive : yX4_drive.cls ≠ "java/lang/invoke/MethodHandle" ∧ yX4_drive.cls ≠ "java/lang/invoke/VarHandle" ∧ (parseMethodDescriptor yX4_drive.desc).map (fun d => d.parameters.length) = some 1 := by decide +kernel
theorem q_co_X4_requireSet : Cond.code yX4_requireSet cX4_requireSet 2 none ∈ xTs := xTs_t 299 (by decide +kernel) (by decide +kernel)
abbrev w_X4_requireSet : List Cond := [Cond.code yX4_requireSet cX4_requireSet 2 none]
theorem gi_X4_requireSet : GoodIn xTs w_X4_requireSet := fun _ h => by obtain rfl := List.mem_singleton.mp h; exact xGood q_co_X4_requireSet (by decide +kernel)
theorem hd_X4_requireSet : yX4_requireSet.cls ≠ "java/lang/invoke/MethodHandle" ∧ yX4_requireSet.cls ≠ "java/lang/invoke/VarHandle" ∧ (parseMethodDescriptor yX4_requireSet.desc).map (fun d => d.parameters.length) = some 1 := by decide +kernel
theorem q_co_X2_leastFrom : Cond.code yX2_leastFrom cX2_leastFrom 3 (some .int) ∈ xTs := xTs_t 304 (by decide +kernel) (by decide +kernel)
abbrev w_X2_leastFrom : List Cond := [Cond.code yX2_leastFrom cX2_leastFrom 3 (some .int)]
theorem gi_X2_leastFrom : GoodIn xTs w_X2_leastFrom := fun _ h => by obtain rfl := List.mem_singleton.mp h; exact xGood q_co_X2_leastFrom (by decide +kernel)
theorem hd_X2_leastFrom : yX2_leastFrom.cls ≠ "java/lang/invoke/MethodHandle" ∧ yX2_leastFrom.cls ≠ "java/lang/invoke/VarHandle" ∧ (parseMethodDescriptor yX2_leastFrom.desc).map (fun d => d.parameters.length) = some 2 := by decide +kernel
theorem q_co_X2_between : Cond.code yX2_between cX2_between 3 (some .int) ∈ xTs := xTs_t 308 (by decide +kernel) (by decide +kernel)
abbrev w_X2_between : List Cond := [Cond.code yX2_between cX2_between 3 (some .int)]
theorem gi_X2_between : GoodIn xTs w_X2_between := fun _ h => by obtain rfl := List.mem_singleton.mp h; exact xGood q_co_X2_between (by decide +kernel)
theorem hd_X2_between : yX2_between.cls ≠ "java/lang/invoke/MethodHandle" ∧ yX2_between.cls ≠ "java/lang/invoke/VarHandle" ∧ (parseMethodDescriptor yX2_between.desc).map (fun d => d.parameters.length) = some 2 := by decide +kernel
theorem q_co_X2_nextStop : Cond.code yX2_nextStop cX2_nextStop 7 (some .int) ∈ xTs := xTs_t 312 (by decide +kernel) (by decide +kernel)
abbrev w_X2_nextStop : List Cond := [Cond.code yX2_nextStop cX2_nextStop 7 (some .int)]
theorem gi_X2_nextStop : GoodIn xTs w_X2_nextStop := fun _ h => by obtain rfl := List.mem_singleton.mp h; exact xGood q_co_X2_nextStop (by decide +kernel)
theorem hd_X2_nextStop : yX2_nextStop.cls ≠ "java/lang/invoke/MethodHandle" ∧ yX2_nextStop.cls ≠ "java/lang/invoke/VarHandle" ∧ (parseMethodDescriptor yX2_nextStop.desc).map (fun d => d.parameters.length) = some 2 := by decide +kernel
theorem q_co_X4_contains : Cond.code yX4_contains cX4_contains 2 (some .boolean) ∈ xTs := xTs_t 315 (by decide +kernel) (by decide +kernel)
abbrev w_X4_contains : List Cond := [Cond.code yX4_contains cX4_contains 2 (some .boolean)]
theorem gi_X4_contains : GoodIn xTs w_X4_contains := fun _ h => by obtain rfl := List.mem_singleton.mp h; exact xGood q_co_X4_contains (by decide +kernel)
theorem hd_X4_contains : yX4_contains.cls ≠ "java/lang/invoke/MethodHandle" ∧ yX4_contains.cls ≠ "java/lang/invoke/VarHandle" ∧ (parseMethodDescriptor yX4_contains.desc).map (fun d => d.parameters.length) = some 2 := by decide +kernel
theorem q_co_X2_leastBy : Cond.code yX2_leastBy cX2_leastBy 4 (some .int) ∈ xTs := xTs_t 319 (by decide +kernel) (by decide +kernel)
abbrev w_X2_leastBy : List Cond := [Cond.code yX2_leastBy cX2_leastBy 4 (some .int)]
theorem gi_X2_leastBy : GoodIn xTs w_X2_leastBy := fun _ h => by obtain rfl := List.mem_singleton.mp h; exact xGood q_co_X2_leastBy (by decide +kernel)
theorem hd_X2_leastBy : yX2_leastBy.cls ≠ "java/lang/invoke/MethodHandle" ∧ yX2_leastBy.cls ≠ "java/lang/invoke/VarHandle" ∧ (parseMethodDescriptor yX2_leastBy.desc).map (fun d => d.parameters.length) = some 3 := by decide +kernel
theorem q_co_X4_visit : Cond.code yX4_visit cX4_visit 6 (some .int) ∈ xTs := xTs_t 323 (by decide +kernel) (by decide +kernel)
abbrev w_X4_visit : List Cond := [Cond.code yX4_visit cX4_visit 6 (some .int)]
theorem gi_X4_visit : GoodIn xTs w_X4_visit := fun _ h => by obtain rfl := List.mem_singleton.mp h; exact xGood q_co_X4_visit (by decide +kernel)
theorem hd_X4_visit : yX4_visit.cls ≠ "java/lang/invoke/MethodHandle" ∧ yX4_visit.cls ≠ "java/lang/invoke/VarHandle" ∧ (parseMethodDescriptor yX4_visit.desc).map (fun d => d.parameters.length) = some 2 := by decide +kernel
theorem q_co_J6_bitCount_0f7a4 : Cond.code yJ6_bitCount_0f7a4 cJ6_bitCount_0f7a4 1 (some .int) ∈ xTs := xTs_t 326 (by decide +kernel) (by decide +kernel)
abbrev w_J6_bitCount_0f7a4 : List Cond := [Cond.code yJ6_bitCount_0f7a4 cJ6_bitCount_0f7a4 1 (some .int)]
theorem gi_J6_bitCount_0f7a4 : GoodIn xTs w_J6_bitCount_0f7a4 := fun _ h => by obtain rfl := List.mem_singleton.mp h; exact xGood q_co_J6_bitCount_0f7a4 (by decide +kernel)
theorem hd_J6_bitCount_0f7a4 : yJ6_bitCount_0f7a4.cls ≠ "java/lang/invoke/MethodHandle" ∧ yJ6_bitCount_0f7a4.cls ≠ "java/lang/invoke/VarHandle" ∧ (parseMethodDescriptor yJ6_bitCount_0f7a4.desc).map (fun d => d.parameters.length) = some 1 := by decide +kernel
theorem q_co_X4_without : Cond.code yX4_without cX4_without 2 (some .int) ∈ xTs := xTs_t 334 (by decide +kernel) (by decide +kernel)
abbrev w_X4_without : List Cond := [Cond.code yX4_without cX4_without 2 (some .int)]
theorem gi_X4_without : GoodIn xTs w_X4_without := fun _ h => by obtain rfl := List.mem_singleton.mp h; exact xGood q_co_X4_without (by decide +kernel)
theorem hd_X4_without : yX4_without.cls ≠ "java/lang/invoke/MethodHandle" ∧ yX4_without.cls ≠ "java/lang/invoke/VarHandle" ∧ (parseMethodDescriptor yX4_without.desc).map (fun d => d.parameters.length) = some 2 := by decide +kernel
theorem q_co_X4_minutes : Cond.code yX4_minutes cX4_minutes 2 (some .int) ∈ xTs := xTs_t 338 (by decide +kernel) (by decide +kernel)
abbrev w_X4_minutes : List Cond := [Cond.code yX4_minutes cX4_minutes 2 (some .int)]
theorem gi_X4_minutes : GoodIn xTs w_X4_minutes := fun _ h => by obtain rfl := List.mem_singleton.mp h; exact xGood q_co_X4_minutes (by decide +kernel)
theorem hd_X4_minutes : yX4_minutes.cls ≠ "java/lang/invoke/MethodHandle" ∧ yX4_minutes.cls ≠ "java/lang/invoke/VarHandle" ∧ (parseMethodDescriptor yX4_minutes.desc).map (fun d => d.parameters.length) = some 1 := by decide +kernel
theorem q_co_X4_survey : Cond.code yX4_survey cX4_survey 3 none ∈ xTs := xTs_t 342 (by decide +kernel) (by decide +kernel)
abbrev w_X4_survey : List Cond := [Cond.code yX4_survey cX4_survey 3 none]
theorem gi_X4_survey : GoodIn xTs w_X4_survey := fun _ h => by obtain rfl := List.mem_singleton.mp h; exact xGood q_co_X4_survey (by decide +kernel)
theorem hd_X4_survey : yX4_survey.cls ≠ "java/lang/invoke/MethodHandle" ∧ yX4_survey.cls ≠ "java/lang/invoke/VarHandle" ∧ (parseMethodDescriptor yX4_survey.desc).map (fun d => d.parameters.length) = some 0 := by decide +kernel
theorem q_co_X0_visitTime : Cond.code yX0_visitTime cX0_visitTime 1 (some .int) ∈ xTs := xTs_t 348 (by decide +kernel) (by decide +kernel)
abbrev w_X0_visitTime : List Cond := [Cond.code yX0_visitTime cX0_visitTime 1 (some .int)]
theorem gi_X0_visitTime : GoodIn xTs w_X0_visitTime := fun _ h => by obtain rfl := List.mem_singleton.mp h; exact xGood q_co_X0_visitTime (by decide +kernel)
theorem hd_X0_visitTime : yX0_visitTime.cls ≠ "java/lang/invoke/MethodHandle" ∧ yX0_visitTime.cls ≠ "java/lang/invoke/VarHandle" ∧ (parseMethodDescriptor yX0_visitTime.desc).map (fun d => d.parameters.length) = some 0 := by decide +kernel
theorem q_co_X4_roundTime : Cond.code yX4_roundTime cX4_roundTime 2 (some .int) ∈ xTs := xTs_t 352 (by decide +kernel) (by decide +kernel)
abbrev w_X4_roundTime : List Cond := [Cond.code yX4_roundTime cX4_roundTime 2 (some .int)]
theorem gi_X4_roundTime : GoodIn xTs w_X4_roundTime := fun _ h => by obtain rfl := List.mem_singleton.mp h; exact xGood q_co_X4_roundTime (by decide +kernel)
theorem hd_X4_roundTime : yX4_roundTime.cls ≠ "java/lang/invoke/MethodHandle" ∧ yX4_roundTime.cls ≠ "java/lang/invoke/VarHandle" ∧ (parseMethodDescriptor yX4_roundTime.desc).map (fun d => d.parameters.length) = some 1 := by decide +kernel
theorem q_co_X4_sumOver : Cond.code yX4_sumOver cX4_sumOver 4 (some .int) ∈ xTs := xTs_t 355 (by decide +kernel) (by decide +kernel)
abbrev w_X4_sumOver : List Cond := [Cond.code yX4_sumOver cX4_sumOver 4 (some .int)]
theorem gi_X4_sumOver : GoodIn xTs w_X4_sumOver := fun _ h => by obtain rfl := List.mem_singleton.mp h; exact xGood q_co_X4_sumOver (by decide +kernel)
theorem hd_X4_sumOver : yX4_sumOver.cls ≠ "java/lang/invoke/MethodHandle" ∧ yX4_sumOver.cls ≠ "java/lang/invoke/VarHandle" ∧ (parseMethodDescriptor yX4_sumOver.desc).map (fun d => d.parameters.length) = some 2 := by decide +kernel
theorem q_co_X4_best : Cond.code yX4_best cX4_best 11 (some .int) ∈ xTs := xTs_t 360 (by decide +kernel) (by decide +kernel)
abbrev w_X4_best : List Cond := [Cond.code yX4_best cX4_best 11 (some .int)]
theorem gi_X4_best : GoodIn xTs w_X4_best := fun _ h => by obtain rfl := List.mem_singleton.mp h; exact xGood q_co_X4_best (by decide +kernel)
theorem hd_X4_best : yX4_best.cls ≠ "java/lang/invoke/MethodHandle" ∧ yX4_best.cls ≠ "java/lang/invoke/VarHandle" ∧ (parseMethodDescriptor yX4_best.desc).map (fun d => d.parameters.length) = some 2 := by decide +kernel
theorem q_co_X4_requireLoad : Cond.code yX4_requireLoad cX4_requireLoad 1 none ∈ xTs := xTs_t 364 (by decide +kernel) (by decide +kernel)
abbrev w_X4_requireLoad : List Cond := [Cond.code yX4_requireLoad cX4_requireLoad 1 none]
theorem gi_X4_requireLoad : GoodIn xTs w_X4_requireLoad := fun _ h => by obtain rfl := List.mem_singleton.mp h; exact xGood q_co_X4_requireLoad (by decide +kernel)
theorem hd_X4_requireLoad : yX4_requireLoad.cls ≠ "java/lang/invoke/MethodHandle" ∧ yX4_requireLoad.cls ≠ "java/lang/invoke/VarHandle" ∧ (parseMethodDescriptor yX4_requireLoad.desc).map (fun d => d.parameters.length) = some 1 := by decide +kernel
theorem q_co_X4_go : Cond.code yX4_go cX4_go 7 (some .int) ∈ xTs := xTs_t 369 (by decide +kernel) (by decide +kernel)
abbrev w_X4_go : List Cond := [Cond.code yX4_go cX4_go 7 (some .int)]
theorem gi_X4_go : GoodIn xTs w_X4_go := fun _ h => by obtain rfl := List.mem_singleton.mp h; exact xGood q_co_X4_go (by decide +kernel)
theorem hd_X4_go : yX4_go.cls ≠ "java/lang/invoke/MethodHandle" ∧ yX4_go.cls ≠ "java/lang/invoke/VarHandle" ∧ (parseMethodDescriptor yX4_go.desc).map (fun d => d.parameters.length) = some 2 := by decide +kernel
theorem q_co_X4_serve : Cond.code yX4_serve cX4_serve 4 (some .int) ∈ xTs := xTs_t 373 (by decide +kernel) (by decide +kernel)
abbrev w_X4_serve : List Cond := [Cond.code yX4_serve cX4_serve 4 (some .int)]
theorem gi_X4_serve : GoodIn xTs w_X4_serve := fun _ h => by obtain rfl := List.mem_singleton.mp h; exact xGood q_co_X4_serve (by decide +kernel)
theorem hd_X4_serve : yX4_serve.cls ≠ "java/lang/invoke/MethodHandle" ∧ yX4_serve.cls ≠ "java/lang/invoke/VarHandle" ∧ (parseMethodDescriptor yX4_serve.desc).map (fun d => d.parameters.length) = some 2 := by decide +kernel
theorem q_co_X0_emptyBox : Cond.code yX0_emptyBox cX0_emptyBox 2 (some .int) ∈ xTs := xTs_t 377 (by decide +kernel) (by decide +kernel)
abbrev w_X0_emptyBox : List Cond := [Cond.code yX0_emptyBox cX0_emptyBox 2 (some .int)]
theorem gi_X0_emptyBox : GoodIn xTs w_X0_emptyBox := fun _ h => by obtain rfl := List.mem_singleton.mp h; exact xGood q_co_X0_emptyBox (by decide +kernel)
theorem hd_X0_emptyBox : yX0_emptyBox.cls ≠ "java/lang/invoke/MethodHandle" ∧ yX0_emptyBox.cls ≠ "java/lang/invoke/VarHandle" ∧ (parseMethodDescriptor yX0_emptyBox.desc).map (fun d => d.parameters.length) = some 0 := by decide +kernel
theorem q_co_X0_fillUp : Cond.code yX0_fillUp cX0_fillUp 5 (some .int) ∈ xTs := xTs_t 381 (by decide +kernel) (by decide +kernel)
abbrev w_X0_fillUp : List Cond := [Cond.code yX0_fillUp cX0_fillUp 5 (some .int)]
theorem gi_X0_fillUp : GoodIn xTs w_X0_fillUp := fun _ h => by obtain rfl := List.mem_singleton.mp h; exact xGood q_co_X0_fillUp (by decide +kernel)
theorem hd_X0_fillUp : yX0_fillUp.cls ≠ "java/lang/invoke/MethodHandle" ∧ yX0_fillUp.cls ≠ "java/lang/invoke/VarHandle" ∧ (parseMethodDescriptor yX0_fillUp.desc).map (fun d => d.parameters.length) = some 1 := by decide +kernel
theorem q_co_J9_min_7cf53 : Cond.code yJ9_min_7cf53 cJ9_min_7cf53 2 (some .int) ∈ xTs := xTs_t 384 (by decide +kernel) (by decide +kernel)
abbrev w_J9_min_7cf53 : List Cond := [Cond.code yJ9_min_7cf53 cJ9_min_7cf53 2 (some .int)]
theorem gi_J9_min_7cf53 : GoodIn xTs w_J9_min_7cf53 := fun _ h => by obtain rfl := List.mem_singleton.mp h; exact xGood q_co_J9_min_7cf53 (by decide +kernel)
theorem hd_J9_min_7cf53 : yJ9_min_7cf53.cls ≠ "java/lang/invoke/MethodHandle" ∧ yJ9_min_7cf53.cls ≠ "java/lang/invoke/VarHandle" ∧ (parseMethodDescriptor yJ9_min_7cf53.desc).map (fun d => d.parameters.length) = some 2 := by decide +kernel
theorem q_co_X4_total : Cond.code yX4_total cX4_total 2 (some .long) ∈ xTs := xTs_t 388 (by decide +kernel) (by decide +kernel)
abbrev w_X4_total : List Cond := [Cond.code yX4_total cX4_total 2 (some .long)]
theorem gi_X4_total : GoodIn xTs w_X4_total := fun _ h => by obtain rfl := List.mem_singleton.mp h; exact xGood q_co_X4_total (by decide +kernel)
theorem hd_X4_total : yX4_total.cls ≠ "java/lang/invoke/MethodHandle" ∧ yX4_total.cls ≠ "java/lang/invoke/VarHandle" ∧ (parseMethodDescriptor yX4_total.desc).map (fun d => d.parameters.length) = some 1 := by decide +kernel
theorem q_co_L_below : Cond.code yL_below cL_below 2 (some .int) ∈ xTs := xTs_t 392 (by decide +kernel) (by decide +kernel)
abbrev w_L_below : List Cond := [Cond.code yL_below cL_below 2 (some .int)]
theorem gi_L_below : GoodIn xTs w_L_below := fun _ h => by obtain rfl := List.mem_singleton.mp h; exact xGood q_co_L_below (by decide +kernel)
theorem hd_L_below : yL_below.cls ≠ "java/lang/invoke/MethodHandle" ∧ yL_below.cls ≠ "java/lang/invoke/VarHandle" ∧ (parseMethodDescriptor yL_below.desc).map (fun d => d.parameters.length) = some 2 := by decide +kernel
theorem q_co_L_cell : Cond.code yL_cell cL_cell 2 (some .int) ∈ xTs := xTs_t 396 (by decide +kernel) (by decide +kernel)
abbrev w_L_cell : List Cond := [Cond.code yL_cell cL_cell 2 (some .int)]
theorem gi_L_cell : GoodIn xTs w_L_cell := fun _ h => by obtain rfl := List.mem_singleton.mp h; exact xGood q_co_L_cell (by decide +kernel)
theorem hd_L_cell : yL_cell.cls ≠ "java/lang/invoke/MethodHandle" ∧ yL_cell.cls ≠ "java/lang/invoke/VarHandle" ∧ (parseMethodDescriptor yL_cell.desc).map (fun d => d.parameters.length) = some 2 := by decide +kernel
theorem q_co_L_build : Cond.code yL_build cL_build 13 (some .int) ∈ xTs := xTs_t 400 (by decide +kernel) (by decide +kernel)
abbrev w_L_build : List Cond := [Cond.code yL_build cL_build 13 (some .int)]
theorem gi_L_build : GoodIn xTs w_L_build := fun _ h => by obtain rfl := List.mem_singleton.mp h; exact xGood q_co_L_build (by decide +kernel)
theorem hd_L_build : yL_build.cls ≠ "java/lang/invoke/MethodHandle" ∧ yL_build.cls ≠ "java/lang/invoke/VarHandle" ∧ (parseMethodDescriptor yL_build.desc).map (fun d => d.parameters.length) = some 7 := by decide +kernel
theorem q_co_X4_addMachine : Cond.code yX4_addMachine cX4_addMachine 2 (some .int) ∈ xTs := xTs_t 405 (by decide +kernel) (by decide +kernel)
abbrev w_X4_addMachine : List Cond := [Cond.code yX4_addMachine cX4_addMachine 2 (some .int)]
theorem gi_X4_addMachine : GoodIn xTs w_X4_addMachine := fun _ h => by obtain rfl := List.mem_singleton.mp h; exact xGood q_co_X4_addMachine (by decide +kernel)
theorem hd_X4_addMachine : yX4_addMachine.cls ≠ "java/lang/invoke/MethodHandle" ∧ yX4_addMachine.cls ≠ "java/lang/invoke/VarHandle" ∧ (parseMethodDescriptor yX4_addMachine.desc).map (fun d => d.parameters.length) = some 1 := by decide +kernel
theorem q_co_X0_init : Cond.code yX0_init cX0_init 3 none ∈ xTs := xTs_t 411 (by decide +kernel) (by decide +kernel)
abbrev w_X0_init : List Cond := [Cond.code yX0_init cX0_init 3 none]
theorem gi_X0_init : GoodIn xTs w_X0_init := fun _ h => by obtain rfl := List.mem_singleton.mp h; exact xGood q_co_X0_init (by decide +kernel)
theorem hd_X0_init : yX0_init.cls ≠ "java/lang/invoke/MethodHandle" ∧ yX0_init.cls ≠ "java/lang/invoke/VarHandle" ∧ (parseMethodDescriptor yX0_init.desc).map (fun d => d.parameters.length) = some 1 := by decide +kernel
theorem q_co_X3_init : Cond.code yX3_init cX3_init 1 none ∈ xTs := xTs_t 418 (by decide +kernel) (by decide +kernel)
abbrev w_X3_init : List Cond := [Cond.code yX3_init cX3_init 1 none]
theorem gi_X3_init : GoodIn xTs w_X3_init := fun _ h => by obtain rfl := List.mem_singleton.mp h; exact xGood q_co_X3_init (by decide +kernel)
theorem hd_X3_init : yX3_init.cls ≠ "java/lang/invoke/MethodHandle" ∧ yX3_init.cls ≠ "java/lang/invoke/VarHandle" ∧ (parseMethodDescriptor yX3_init.desc).map (fun d => d.parameters.length) = some 0 := by decide +kernel
theorem q_co_Jx4a65c_add_9ea2d : Cond.code yJx4a65c_add_9ea2d cJx4a65c_add_9ea2d 2 (some .boolean) ∈ xTs := xTs_t 463 (by decide +kernel) (by decide +kernel)
abbrev w_Jx4a65c_add_9ea2d : List Cond := [Cond.code yJx4a65c_add_9ea2d cJx4a65c_add_9ea2d 2 (some .boolean)]
theorem gi_Jx4a65c_add_9ea2d : GoodIn xTs w_Jx4a65c_add_9ea2d := fun _ h => by obtain rfl := List.mem_singleton.mp h; exact xGood q_co_Jx4a65c_add_9ea2d (by decide +kernel)
theorem hd_Jx4a65c_add_9ea2d : yJx4a65c_add_9ea2d.cls ≠ "java/lang/invoke/MethodHandle" ∧ yJx4a65c_add_9ea2d.cls ≠ "java/lang/invoke/VarHandle" ∧ (parseMethodDescriptor yJx4a65c_add_9ea2d.desc).map (fun d => d.parameters.length) = some 1 := by decide +kernel
theorem q_co_Jx4a65c_add_72be8 : Cond.code yJx4a65c_add_72be8 cJx4a65c_add_72be8 4 none ∈ xTs := xTs_t 467 (by decide +kernel) (by decide +kernel)
abbrev w_Jx4a65c_add_72be8 : List Cond := [Cond.code yJx4a65c_add_72be8 cJx4a65c_add_72be8 4 none]
theorem gi_Jx4a65c_add_72be8 : GoodIn xTs w_Jx4a65c_add_72be8 := fun _ h => by obtain rfl := List.mem_singleton.mp h; exact xGood q_co_Jx4a65c_add_72be8 (by decide +kernel)
theorem hd_Jx4a65c_add_72be8 : yJx4a65c_add_72be8.cls ≠ "java/lang/invoke/MethodHandle" ∧ yJx4a65c_add_72be8.cls ≠ "java/lang/invoke/VarHandle" ∧ (parseMethodDescriptor yJx4a65c_add_72be8.desc).map (fun d => d.parameters.length) = some 3 := by decide +kernel
theorem q_co_Jx4a65c_grow_d5877 : Cond.code yJx4a65c_grow_d5877 cJx4a65c_grow_d5877 1 (some (.array (.object "java/lang/Object"))) ∈ xTs := xTs_t 471 (by decide +kernel) (by decide +kernel)
abbrev w_Jx4a65c_grow_d5877 : List Cond := [Cond.code yJx4a65c_grow_d5877 cJx4a65c_grow_d5877 1 (some (.array (.object "java/lang/Object")))]
theorem gi_Jx4a65c_grow_d5877 : GoodIn xTs w_Jx4a65c_grow_d5877 := fun _ h => by obtain rfl := List.mem_singleton.mp h; exact xGood q_co_Jx4a65c_grow_d5877 (by decide +kernel)
theorem hd_Jx4a65c_grow_d5877 : yJx4a65c_grow_d5877.cls ≠ "java/lang/invoke/MethodHandle" ∧ yJx4a65c_grow_d5877.cls ≠ "java/lang/invoke/VarHandle" ∧ (parseMethodDescriptor yJx4a65c_grow_d5877.desc).map (fun d => d.parameters.length) = some 0 := by decide +kernel
theorem q_co_Jx4a65c_grow_92f84 : Cond.code yJx4a65c_grow_92f84 cJx4a65c_grow_92f84 4 (some (.array (.object "java/lang/Object"))) ∈ xTs := xTs_t 475 (by decide +kernel) (by decide +kernel)
abbrev w_Jx4a65c_grow_92f84 : List Cond := [Cond.code yJx4a65c_grow_92f84 cJx4a65c_grow_92f84 4 (some (.array (.object "java/lang/Object")))]
theorem gi_Jx4a65c_grow_92f84 : GoodIn xTs w_Jx4a65c_grow_92f84 := fun _ h => by obtain rfl := List.mem_singleton.mp h; exact xGood q_co_Jx4a65c_grow_92f84 (by decide +kernel)
theorem hd_Jx4a65c_grow_92f84 : yJx4a65c_grow_92f84.cls ≠ "java/lang/invoke/MethodHandle" ∧ yJx4a65c_grow_92f84.cls ≠ "java/lang/invoke/VarHandle" ∧ (parseMethodDescriptor yJx4a65c_grow_92f84.desc).map (fun d => d.parameters.length) = some 1 := by decide +kernel
theorem q_co_J8_newLength_cabcc : Cond.code yJ8_newLength_cabcc cJ8_newLength_cabcc 4 (some .int) ∈ xTs := xTs_t 478 (by decide +kernel) (by decide +kernel)
abbrev w_J8_newLength_cabcc : List Cond := [Cond.code yJ8_newLength_cabcc cJ8_newLength_cabcc 4 (some .int)]
theorem gi_J8_newLength_cabcc : GoodIn xTs w_J8_newLength_cabcc := fun _ h => by obtain rfl := List.mem_singleton.mp h; exact xGood q_co_J8_newLength_cabcc (by decide +kernel)
theorem hd_J8_newLength_cabcc : yJ8_newLength_cabcc.cls ≠ "java/lang/invoke/MethodHandle" ∧ yJ8_newLength_cabcc.cls ≠ "java/lang/invoke/VarHandle" ∧ (parseMethodDescriptor yJ8_newLength_cabcc.desc).map (fun d => d.parameters.length) = some 3 := by decide +kernel
theorem q_co_J9_max_7cf53 : Cond.code yJ9_max_7cf53 cJ9_max_7cf53 2 (some .int) ∈ xTs := xTs_t 481 (by decide +kernel) (by decide +kernel)
abbrev w_J9_max_7cf53 : List Cond := [Cond.code yJ9_max_7cf53 cJ9_max_7cf53 2 (some .int)]
theorem gi_J9_max_7cf53 : GoodIn xTs w_J9_max_7cf53 := fun _ h => by obtain rfl := List.mem_singleton.mp h; exact xGood q_co_J9_max_7cf53 (by decide +kernel)
theorem hd_J9_max_7cf53 : yJ9_max_7cf53.cls ≠ "java/lang/invoke/MethodHandle" ∧ yJ9_max_7cf53.cls ≠ "java/lang/invoke/VarHandle" ∧ (parseMethodDescriptor yJ9_max_7cf53.desc).map (fun d => d.parameters.length) = some 2 := by decide +kernel
theorem q_co_J8_hugeLength_7cf53 : Cond.code yJ8_hugeLength_7cf53 cJ8_hugeLength_7cf53 3 (some .int) ∈ xTs := xTs_t 485 (by decide +kernel) (by decide +kernel)
abbrev w_J8_hugeLength_7cf53 : List Cond := [Cond.code yJ8_hugeLength_7cf53 cJ8_hugeLength_7cf53 3 (some .int)]
theorem gi_J8_hugeLength_7cf53 : GoodIn xTs w_J8_hugeLength_7cf53 := fun _ h => by obtain rfl := List.mem_singleton.mp h; exact xGood q_co_J8_hugeLength_7cf53 (by decide +kernel)
theorem hd_J8_hugeLength_7cf53 : yJ8_hugeLength_7cf53.cls ≠ "java/lang/invoke/MethodHandle" ∧ yJ8_hugeLength_7cf53.cls ≠ "java/lang/invoke/VarHandle" ∧ (parseMethodDescriptor yJ8_hugeLength_7cf53.desc).map (fun d => d.parameters.length) = some 2 := by decide +kernel
theorem q_co_J7_copyOf_1904c : Cond.code yJ7_copyOf_1904c cJ7_copyOf_1904c 2 (some (.array (.object "java/lang/Object"))) ∈ xTs := xTs_t 488 (by decide +kernel) (by decide +kernel)
abbrev w_J7_copyOf_1904c : List Cond := [Cond.code yJ7_copyOf_1904c cJ7_copyOf_1904c 2 (some (.array (.object "java/lang/Object")))]
theorem gi_J7_copyOf_1904c : GoodIn xTs w_J7_copyOf_1904c := fun _ h => by obtain rfl := List.mem_singleton.mp h; exact xGood q_co_J7_copyOf_1904c (by decide +kernel)
theorem hd_J7_copyOf_1904c : yJ7_copyOf_1904c.cls ≠ "java/lang/invoke/MethodHandle" ∧ yJ7_copyOf_1904c.cls ≠ "java/lang/invoke/VarHandle" ∧ (parseMethodDescriptor yJ7_copyOf_1904c.desc).map (fun d => d.parameters.length) = some 2 := by decide +kernel
theorem q_co_J7_copyOf_6403c : Cond.code yJ7_copyOf_6403c cJ7_copyOf_6403c 4 (some (.array (.object "java/lang/Object"))) ∈ xTs := xTs_t 504 (by decide +kernel) (by decide +kernel)
abbrev w_J7_copyOf_6403c : List Cond := [Cond.code yJ7_copyOf_6403c cJ7_copyOf_6403c 4 (some (.array (.object "java/lang/Object")))]
theorem gi_J7_copyOf_6403c : GoodIn xTs w_J7_copyOf_6403c := fun _ h => by obtain rfl := List.mem_singleton.mp h; exact xGood q_co_J7_copyOf_6403c (by decide +kernel)
theorem hd_J7_copyOf_6403c : yJ7_copyOf_6403c.cls ≠ "java/lang/invoke/MethodHandle" ∧ yJ7_copyOf_6403c.cls ≠ "java/lang/invoke/VarHandle" ∧ (parseMethodDescriptor yJ7_copyOf_6403c.desc).map (fun d => d.parameters.length) = some 3 := by decide +kernel
theorem q_co_X2_measureTours : Cond.code yX2_measureTours cX2_measureTours 5 none ∈ xTs := xTs_t 515 (by decide +kernel) (by decide +kernel)
abbrev w_X2_measureTours : List Cond := [Cond.code yX2_measureTours cX2_measureTours 5 none]
theorem gi_X2_measureTours : GoodIn xTs w_X2_measureTours := fun _ h => by obtain rfl := List.mem_singleton.mp h; exact xGood q_co_X2_measureTours (by decide +kernel)
theorem hd_X2_measureTours : yX2_measureTours.cls ≠ "java/lang/invoke/MethodHandle" ∧ yX2_measureTours.cls ≠ "java/lang/invoke/VarHandle" ∧ (parseMethodDescriptor yX2_measureTours.desc).map (fun d => d.parameters.length) = some 1 := by decide +kernel
theorem q_co_X4_setSlot : Cond.code yX4_setSlot cX4_setSlot 7 (some .int) ∈ xTs := xTs_t 521 (by decide +kernel) (by decide +kernel)
abbrev w_X4_setSlot : List Cond := [Cond.code yX4_setSlot cX4_setSlot 7 (some .int)]
theorem gi_X4_setSlot : GoodIn xTs w_X4_setSlot := fun _ h => by obtain rfl := List.mem_singleton.mp h; exact xGood q_co_X4_setSlot (by decide +kernel)
theorem hd_X4_setSlot : yX4_setSlot.cls ≠ "java/lang/invoke/MethodHandle" ∧ yX4_setSlot.cls ≠ "java/lang/invoke/VarHandle" ∧ (parseMethodDescriptor yX4_setSlot.desc).map (fun d => d.parameters.length) = some 4 := by decide +kernel
theorem q_co_X4_slotAt : Cond.code yX4_slotAt cX4_slotAt 4 (some (.object "VendingRounds$Slot")) ∈ xTs := xTs_t 525 (by decide +kernel) (by decide +kernel)
abbrev w_X4_slotAt : List Cond := [Cond.code yX4_slotAt cX4_slotAt 4 (some (.object "VendingRounds$Slot"))]
theorem gi_X4_slotAt : GoodIn xTs w_X4_slotAt := fun _ h => by obtain rfl := List.mem_singleton.mp h; exact xGood q_co_X4_slotAt (by decide +kernel)
theorem hd_X4_slotAt : yX4_slotAt.cls ≠ "java/lang/invoke/MethodHandle" ∧ yX4_slotAt.cls ≠ "java/lang/invoke/VarHandle" ∧ (parseMethodDescriptor yX4_slotAt.desc).map (fun d => d.parameters.length) = some 2 := by decide +kernel
theorem q_co_X4_planPrice : Cond.code yX4_planPrice cX4_planPrice 6 (some .int) ∈ xTs := xTs_t 533 (by decide +kernel) (by decide +kernel)
abbrev w_X4_planPrice : List Cond := [Cond.code yX4_planPrice cX4_planPrice 6 (some .int)]
theorem gi_X4_planPrice : GoodIn xTs w_X4_planPrice := fun _ h => by obtain rfl := List.mem_singleton.mp h; exact xGood q_co_X4_planPrice (by decide +kernel)
theorem hd_X4_planPrice : yX4_planPrice.cls ≠ "java/lang/invoke/MethodHandle" ∧ yX4_planPrice.cls ≠ "java/lang/invoke/VarHandle" ∧ (parseMethodDescriptor yX4_planPrice.desc).map (fun d => d.parameters.length) = some 4 := by decide +kernel
theorem q_co_X1_init : Cond.code yX1_init cX1_init 4 none ∈ xTs := xTs_t 540 (by decide +kernel) (by decide +kernel)
abbrev w_X1_init : List Cond := [Cond.code yX1_init cX1_init 4 none]
theorem gi_X1_init : GoodIn xTs w_X1_init := fun _ h => by obtain rfl := List.mem_singleton.mp h; exact xGood q_co_X1_init (by decide +kernel)
theorem hd_X1_init : yX1_init.cls ≠ "java/lang/invoke/MethodHandle" ∧ yX1_init.cls ≠ "java/lang/invoke/VarHandle" ∧ (parseMethodDescriptor yX1_init.desc).map (fun d => d.parameters.length) = some 3 := by decide +kernel
theorem q_co_X4_setMinutes : Cond.code yX4_setMinutes cX4_setMinutes 5 (some .int) ∈ xTs := xTs_t 558 (by decide +kernel) (by decide +kernel)
abbrev w_X4_setMinutes : List Cond := [Cond.code yX4_setMinutes cX4_setMinutes 5 (some .int)]
theorem gi_X4_setMinutes : GoodIn xTs w_X4_setMinutes := fun _ h => by obtain rfl := List.mem_singleton.mp h; exact xGood q_co_X4_setMinutes (by decide +kernel)
theorem hd_X4_setMinutes : yX4_setMinutes.cls ≠ "java/lang/invoke/MethodHandle" ∧ yX4_setMinutes.cls ≠ "java/lang/invoke/VarHandle" ∧ (parseMethodDescriptor yX4_setMinutes.desc).map (fun d => d.parameters.length) = some 3 := by decide +kernel
theorem q_co_X4_isNoPlace : Cond.code yX4_isNoPlace cX4_isNoPlace 2 (some .boolean) ∈ xTs := xTs_t 562 (by decide +kernel) (by decide +kernel)
abbrev w_X4_isNoPlace : List Cond := [Cond.code yX4_isNoPlace cX4_isNoPlace 2 (some .boolean)]
theorem gi_X4_isNoPlace : GoodIn xTs w_X4_isNoPlace := fun _ h => by obtain rfl := List.mem_singleton.mp h; exact xGood q_co_X4_isNoPlace (by decide +kernel)
theorem hd_X4_isNoPlace : yX4_isNoPlace.cls ≠ "java/lang/invoke/MethodHandle" ∧ yX4_isNoPlace.cls ≠ "java/lang/invoke/VarHandle" ∧ (parseMethodDescriptor yX4_isNoPlace.desc).map (fun d => d.parameters.length) = some 1 := by decide +kernel
theorem q_co_X2_setBetween : Cond.code yX2_setBetween cX2_setBetween 4 none ∈ xTs := xTs_t 569 (by decide +kernel) (by decide +kernel)
abbrev w_X2_setBetween : List Cond := [Cond.code yX2_setBetween cX2_setBetween 4 none]
theorem gi_X2_setBetween : GoodIn xTs w_X2_setBetween := fun _ h => by obtain rfl := List.mem_singleton.mp h; exact xGood q_co_X2_setBetween (by decide +kernel)
theorem hd_X2_setBetween : yX2_setBetween.cls ≠ "java/lang/invoke/MethodHandle" ∧ yX2_setBetween.cls ≠ "java/lang/invoke/VarHandle" ∧ (parseMethodDescriptor yX2_setBetween.desc).map (fun d => d.parameters.length) = some 3 := by decide +kernel
theorem q_co_X4_machineCount : Cond.code yX4_machineCount cX4_machineCount 1 (some .int) ∈ xTs := xTs_t 573 (by decide +kernel) (by decide +kernel)
abbrev w_X4_machineCount : List Cond := [Cond.code yX4_machineCount cX4_machineCount 1 (some .int)]
theorem gi_X4_machineCount : GoodIn xTs w_X4_machineCount := fun _ h => by obtain rfl := List.mem_singleton.mp h; exact xGood q_co_X4_machineCount (by decide +kernel)
theorem hd_X4_machineCount : yX4_machineCount.cls ≠ "java/lang/invoke/MethodHandle" ∧ yX4_machineCount.cls ≠ "java/lang/invoke/VarHandle" ∧ (parseMethodDescriptor yX4_machineCount.desc).map (fun d => d.parameters.length) = some 0 := by decide +kernel
theorem q_co_min : Cond.code Lib.Math.min.name Lib.Math.min.code 2 (some .int) ∈ xTs := xTs_t 384 (by decide +kernel) (by decide +kernel)
theorem q_co_max : Cond.code Lib.Math.max.name Lib.Math.max.code 2 (some .int) ∈ xTs := xTs_t 481 (by decide +kernel) (by decide +kernel)
theorem q_co_obj : Cond.code objectInit ⟨#[0xb1]⟩ 1 none ∈ xTs := xTs_t 29 (by decide +kernel) (by decide +kernel)
theorem qi_X0 : ∀ w ∈ wsX00, w ∈ xTs := fun w h => (show ∀ w ∈ wsX00, w ∈ lw_tbl ∧ xWok w = true by decide +kernel) w h |>.elim xTs_of
theorem qi_X1 : ∀ w ∈ wsX10, w ∈ xTs := fun w h => (show ∀ w ∈ wsX10, w ∈ lw_tbl ∧ xWok w = true by decide +kernel) w h |>.elim xTs_of
theorem qi_X2 : ∀ w ∈ wsX20, w ∈ xTs := fun w h => (show ∀ w ∈ wsX20, w ∈ lw_tbl ∧ xWok w = true by decide +kernel) w h |>.elim xTs_of
theorem qi_X3 : ∀ w ∈ wsX30, w ∈ xTs := fun w h => (show ∀ w ∈ wsX30, w ∈ lw_tbl ∧ xWok w = true by decide +kernel) w h |>.elim xTs_of
theorem qi_X4 : ∀ w ∈ wsX40, w ∈ xTs := fun w h => (show ∀ w ∈ wsX40, w ∈ lw_tbl ∧ xWok w = true by decide +kernel) w h |>.elim xTs_of
theorem qi_X5 : ∀ w ∈ wsX50, w ∈ xTs := fun w h => (show ∀ w ∈ wsX50, w ∈ lw_tbl ∧ xWok w = true by decide +kernel) w h |>.elim xTs_of
theorem qi_Jx4a65c : ∀ w ∈ wsJx4a65c0, w ∈ xTs := fun w h => (show ∀ w ∈ wsJx4a65c0, w ∈ lw_tbl ∧ xWok w = true by decide +kernel) w h |>.elim xTs_of
