set_option maxRecDepth 20000 in
theorem uS_X3_streamAt : Cond.selects RX3 yX3_streamAt yX3_streamAt ∈ UW := mem_UW (in_s (List.mem_of_getElem? (i := 1) rfl)) rfl
set_option maxRecDepth 20000 in
theorem uS_X0_place : Cond.selects RX0 yX0_place yX0_place ∈ UW := mem_UW (in_s (List.mem_of_getElem? (i := 2) rfl)) rfl
set_option maxRecDepth 20000 in
theorem uS_X0_layWide : Cond.selects RX0 yX0_layWide yX0_layWide ∈ UW := mem_UW (in_s (List.mem_of_getElem? (i := 3) rfl)) rfl
set_option maxRecDepth 20000 in
theorem uS_X0_mixWide : Cond.selects RX0 yX0_mixWide yX0_mixWide ∈ UW := mem_UW (in_s (List.mem_of_getElem? (i := 4) rfl)) rfl
set_option maxRecDepth 20000 in
theorem uS_X0_layNarrow : Cond.selects RX0 yX0_layNarrow yX0_layNarrow ∈ UW := mem_UW (in_s (List.mem_of_getElem? (i := 5) rfl)) rfl
set_option maxRecDepth 20000 in
theorem uS_X0_mixNarrow : Cond.selects RX0 yX0_mixNarrow yX0_mixNarrow ∈ UW := mem_UW (in_s (List.mem_of_getElem? (i := 6) rfl)) rfl
set_option maxRecDepth 20000 in
theorem uS_X0_octetOfWords : Cond.selects RX0 yX0_octetOfWords yX0_octetOfWords ∈ UW := mem_UW (in_s (List.mem_of_getElem? (i := 7) rfl)) rfl
set_option maxRecDepth 20000 in
theorem uS_X2_startFromKey : Cond.selects RX2 yX2_startFromKey yX2_startFromKey ∈ UW := mem_UW (in_s (List.mem_of_getElem? (i := 8) rfl)) rfl
set_option maxRecDepth 20000 in
theorem uS_X3_openStreamAt : Cond.selects RX3 yX3_openStreamAt yX3_openStreamAt ∈ UW := mem_UW (in_s (List.mem_of_getElem? (i := 9) rfl)) rfl
set_option maxRecDepth 20000 in
theorem uS_X3_registerAt : Cond.selects RX3 yX3_registerAt yX3_registerAt ∈ UW := mem_UW (in_s (List.mem_of_getElem? (i := 10) rfl)) rfl
set_option maxRecDepth 20000 in
theorem uS_X3_nextLink : Cond.selects RX3 yX3_nextLink yX3_nextLink ∈ UW := mem_UW (in_s (List.mem_of_getElem? (i := 11) rfl)) rfl
set_option maxRecDepth 20000 in
theorem uS_X3_sumTurns : Cond.selects RX3 yX3_sumTurns yX3_sumTurns ∈ UW := mem_UW (in_s (List.mem_of_getElem? (i := 12) rfl)) rfl
set_option maxRecDepth 20000 in
theorem uS_X4_root : Cond.selects RX4 yX4_root yX4_root ∈ UW := mem_UW (in_s (List.mem_of_getElem? (i := 13) rfl)) rfl
set_option maxRecDepth 20000 in
theorem uS_X4_isAtMost : Cond.selects RX4 yX4_isAtMost yX4_isAtMost ∈ UW := mem_UW (in_s (List.mem_of_getElem? (i := 14) rfl)) rfl
set_option maxRecDepth 20000 in
theorem uS_X4_clearFigures : Cond.selects RX4 yX4_clearFigures yX4_clearFigures ∈ UW := mem_UW (in_s (List.mem_of_getElem? (i := 15) rfl)) rfl
set_option maxRecDepth 20000 in
theorem uS_X4_isJust : Cond.selects RX4 yX4_isJust yX4_isJust ∈ UW := mem_UW (in_s (List.mem_of_getElem? (i := 16) rfl)) rfl
set_option maxRecDepth 20000 in
theorem uS_X4_start : Cond.selects RX4 yX4_start yX4_start ∈ UW := mem_UW (in_s (List.mem_of_getElem? (i := 17) rfl)) rfl
set_option maxRecDepth 20000 in
theorem uS_X4_setKey : Cond.selects RX4 yX4_setKey yX4_setKey ∈ UW := mem_UW (in_s (List.mem_of_getElem? (i := 18) rfl)) rfl
set_option maxRecDepth 20000 in
theorem uS_X4_absorb : Cond.selects RX4 yX4_absorb yX4_absorb ∈ UW := mem_UW (in_s (List.mem_of_getElem? (i := 19) rfl)) rfl
set_option maxRecDepth 20000 in
theorem uS_X4_narrowBlock : Cond.selects RX4 yX4_narrowBlock yX4_narrowBlock ∈ UW := mem_UW (in_s (List.mem_of_getElem? (i := 20) rfl)) rfl
set_option maxRecDepth 20000 in
theorem uS_X4_wideBlock : Cond.selects RX4 yX4_wideBlock yX4_wideBlock ∈ UW := mem_UW (in_s (List.mem_of_getElem? (i := 21) rfl)) rfl
set_option maxRecDepth 20000 in
theorem uS_X4_close : Cond.selects RX4 yX4_close yX4_close ∈ UW := mem_UW (in_s (List.mem_of_getElem? (i := 22) rfl)) rfl
set_option maxRecDepth 20000 in
theorem uS_X4_startKeyed : Cond.selects RX4 yX4_startKeyed yX4_startKeyed ∈ UW := mem_UW (in_s (List.mem_of_getElem? (i := 23) rfl)) rfl
set_option maxRecDepth 20000 in
theorem uS_X4_copySlot : Cond.selects RX4 yX4_copySlot yX4_copySlot ∈ UW := mem_UW (in_s (List.mem_of_getElem? (i := 24) rfl)) rfl
set_option maxRecDepth 20000 in
theorem uS_X4_absorbDigest : Cond.selects RX4 yX4_absorbDigest yX4_absorbDigest ∈ UW := mem_UW (in_s (List.mem_of_getElem? (i := 25) rfl)) rfl
set_option maxRecDepth 20000 in
theorem uS_X4_digestOut : Cond.selects RX4 yX4_digestOut yX4_digestOut ∈ UW := mem_UW (in_s (List.mem_of_getElem? (i := 26) rfl)) rfl
set_option maxRecDepth 20000 in
theorem uS_X4_takeRegister : Cond.selects RX4 yX4_takeRegister yX4_takeRegister ∈ UW := mem_UW (in_s (List.mem_of_getElem? (i := 27) rfl)) rfl
set_option maxRecDepth 20000 in
theorem uS_X4_prepare : Cond.selects RX4 yX4_prepare yX4_prepare ∈ UW := mem_UW (in_s (List.mem_of_getElem? (i := 28) rfl)) rfl
set_option maxRecDepth 20000 in
theorem uS_X4_absorbRegister : Cond.selects RX4 yX4_absorbRegister yX4_absorbRegister ∈ UW := mem_UW (in_s (List.mem_of_getElem? (i := 29) rfl)) rfl
set_option maxRecDepth 20000 in
theorem uS_X4_closeCode : Cond.selects RX4 yX4_closeCode yX4_closeCode ∈ UW := mem_UW (in_s (List.mem_of_getElem? (i := 30) rfl)) rfl
set_option maxRecDepth 20000 in
theorem uN_L : Cond.initialized RL ∈ UW := mem_UW (in_t1 (List.mem_of_getElem? (i := 0) rfl)) rfl
set_option maxRecDepth 20000 in
theorem uN_X3 : Cond.initialized RX3 ∈ UW := mem_UW (in_t1 (List.mem_of_getElem? (i := 1) rfl)) rfl
set_option maxRecDepth 20000 in
theorem uN_X1 : Cond.initialized RX1 ∈ UW := mem_UW (in_t1 (List.mem_of_getElem? (i := 2) rfl)) rfl
set_option maxRecDepth 20000 in
theorem uN_X2 : Cond.initialized RX2 ∈ UW := mem_UW (in_t1 (List.mem_of_getElem? (i := 3) rfl)) rfl
set_option maxRecDepth 20000 in
theorem uN_X0 : Cond.initialized RX0 ∈ UW := mem_UW (in_t1 (List.mem_of_getElem? (i := 4) rfl)) rfl
set_option maxRecDepth 20000 in
theorem uN_X4 : Cond.initialized RX4 ∈ UW := mem_UW (in_t1 (List.mem_of_getElem? (i := 5) rfl)) rfl
set_option maxRecDepth 20000 in
theorem uN_java_lang_Throwable : Cond.initialized "java/lang/Throwable" ∈ UW := mem_UW (in_t1 (List.mem_of_getElem? (i := 6) rfl)) rfl
set_option maxRecDepth 20000 in
theorem uN_java_lang_Exception : Cond.initialized "java/lang/Exception" ∈ UW := mem_UW (in_t1 (List.mem_of_getElem? (i := 7) rfl)) rfl
set_option maxRecDepth 20000 in
theorem uN_java_lang_RuntimeException : Cond.initialized "java/lang/RuntimeException" ∈ UW := mem_UW (in_t1 (List.mem_of_getElem? (i := 8) rfl)) rfl
set_option maxRecDepth 20000 in
theorem uN_java_lang_IllegalArgumentException : Cond.initialized "java/lang/IllegalArgumentException" ∈ UW := mem_UW (in_t1 (List.mem_of_getElem? (i := 9) rfl)) rfl
set_option maxRecDepth 20000 in
theorem uN_java_lang_IndexOutOfBoundsException : Cond.initialized "java/lang/IndexOutOfBoundsException" ∈ UW := mem_UW (in_t1 (List.mem_of_getElem? (i := 10) rfl)) rfl
set_option maxRecDepth 20000 in
theorem uN_J9 : Cond.initialized RJ9 ∈ UW := mem_UW (in_t1 (List.mem_of_getElem? (i := 11) rfl)) rfl
set_option maxRecDepth 20000 in
theorem uN_J13 : Cond.initialized RJ13 ∈ UW := mem_UW (in_t1 (List.mem_of_getElem? (i := 12) rfl)) rfl
set_option maxRecDepth 20000 in
theorem uN_J6 : Cond.initialized RJ6 ∈ UW := mem_UW (in_t1 (List.mem_of_getElem? (i := 13) rfl)) rfl
set_option maxRecDepth 20000 in
theorem uN_java_lang_IllegalStateException : Cond.initialized "java/lang/IllegalStateException" ∈ UW := mem_UW (in_t1 (List.mem_of_getElem? (i := 14) rfl)) rfl
set_option maxRecDepth 20000 in
theorem uN_J10 : Cond.initialized RJ10 ∈ UW := mem_UW (in_t1 (List.mem_of_getElem? (i := 15) rfl)) rfl
set_option maxRecDepth 20000 in
theorem uK_L_8 : Cond.classLink RL 8 RX3 ∈ UW := mem_UW (in_t1 (List.mem_of_getElem? (i := 16) rfl)) rfl
set_option maxRecDepth 20000 in
theorem uT_X3 : Cond.instantiable RX3 7 ∈ UW := mem_UW (in_t1 (List.mem_of_getElem? (i := 17) rfl)) rfl
set_option maxRecDepth 20000 in
theorem uM_L_61 : Cond.methodLink RL 61 yX3_init ∈ UW := mem_UW (in_t1 (List.mem_of_getElem? (i := 18) rfl)) rfl
set_option maxRecDepth 20000 in
theorem uI_X3_init : Cond.instanceMethod yX3_init ∈ UW := mem_UW (in_t1 (List.mem_of_getElem? (i := 19) rfl)) rfl
set_option maxRecDepth 20000 in
theorem uC_X3_init : Cond.code yX3_init cX3_init 2 (none : Option FieldType) ∈ UW := mem_UW (in_t1 (List.mem_of_getElem? (i := 20) rfl)) rfl
set_option maxRecDepth 20000 in
theorem uM_X3_1 : Cond.methodLink RX3 1 objectInit ∈ UW := mem_UW (in_t1 (List.mem_of_getElem? (i := 21) rfl)) rfl
set_option maxRecDepth 20000 in
theorem uI_objectInit : Cond.instanceMethod objectInit ∈ UW := mem_UW (in_t1 (List.mem_of_getElem? (i := 22) rfl)) rfl
set_option maxRecDepth 20000 in
theorem uC_objectInit : Cond.code objectInit ⟨#[0xb1]⟩ 1 none ∈ UW := mem_UW (in_t1 (List.mem_of_getElem? (i := 23) rfl)) rfl
set_option maxRecDepth 20000 in
theorem uK_X3_7 : Cond.classLink RX3 7 RX1 ∈ UW := mem_UW (in_t1 (List.mem_of_getElem? (i := 24) rfl)) rfl
set_option maxRecDepth 20000 in
theorem uT_X1 : Cond.instantiable RX1 2 ∈ UW := mem_UW (in_t1 (List.mem_of_getElem? (i := 25) rfl)) rfl
set_option maxRecDepth 20000 in
theorem uM_X3_11 : Cond.methodLink RX3 11 yX1_init ∈ UW := mem_UW (in_t1 (List.mem_of_getElem? (i := 26) rfl)) rfl
set_option maxRecDepth 20000 in
theorem uI_X1_init : Cond.instanceMethod yX1_init ∈ UW := mem_UW (in_t1 (List.mem_of_getElem? (i := 27) rfl)) rfl
set_option maxRecDepth 20000 in
theorem uC_X1_init : Cond.code yX1_init cX1_init 2 (none : Option FieldType) ∈ UW := mem_UW (in_t1 (List.mem_of_getElem? (i := 28) rfl)) rfl
set_option maxRecDepth 20000 in
theorem uM_X1_3 : Cond.methodLink RX1 3 objectInit ∈ UW := mem_UW (in_t1 (List.mem_of_getElem? (i := 29) rfl)) rfl
set_option maxRecDepth 20000 in
theorem uF_X1_9 : Cond.fieldLink RX1 9 "DigestStack$Row" "octets" "[B" ∈ UW := mem_UW (in_t1 (List.mem_of_getElem? (i := 30) rfl)) rfl
set_option maxRecDepth 20000 in
theorem uF_X1_15 : Cond.fieldLink RX1 15 "DigestStack$Row" "size" "I" ∈ UW := mem_UW (in_t1 (List.mem_of_getElem? (i := 31) rfl)) rfl
set_option maxRecDepth 20000 in
theorem uY_byte : Cond.arrayClass .byte ∈ UW := mem_UW (in_t1 (List.mem_of_getElem? (i := 40) rfl)) rfl
set_option maxRecDepth 20000 in
theorem uK_X3_25 : Cond.classLink RX3 25 RX2 ∈ UW := mem_UW (in_t1 (List.mem_of_getElem? (i := 42) rfl)) rfl
set_option maxRecDepth 20000 in
theorem uT_X2 : Cond.instantiable RX2 8 ∈ UW := mem_UW (in_t1 (List.mem_of_getElem? (i := 44) rfl)) rfl
set_option maxRecDepth 20000 in
theorem uI_X2_init : Cond.instanceMethod yX2_init ∈ UW := mem_UW (in_t1 (List.mem_of_getElem? (i := 46) rfl)) rfl
set_option maxRecDepth 20000 in
theorem uC_X2_init : Cond.code yX2_init cX2_init 1 (none : Option FieldType) ∈ UW := mem_UW (in_t1 (List.mem_of_getElem? (i := 47) rfl)) rfl
set_option maxRecDepth 20000 in
theorem uM_X2_3 : Cond.methodLink RX2 3 objectInit ∈ UW := mem_UW (in_t1 (List.mem_of_getElem? (i := 48) rfl)) rfl
set_option maxRecDepth 20000 in
theorem uK_X2_9 : Cond.classLink RX2 9 RX0 ∈ UW := mem_UW (in_t1 (List.mem_of_getElem? (i := 49) rfl)) rfl
set_option maxRecDepth 20000 in
theorem uT_X0 : Cond.instantiable RX0 7 ∈ UW := mem_UW (in_t1 (List.mem_of_getElem? (i := 50) rfl)) rfl
set_option maxRecDepth 20000 in
theorem uI_X0_init : Cond.instanceMethod yX0_init ∈ UW := mem_UW (in_t1 (List.mem_of_getElem? (i := 52) rfl)) rfl
set_option maxRecDepth 20000 in
theorem uC_X0_init : Cond.code yX0_init cX0_init 1 (none : Option FieldType) ∈ UW := mem_UW (in_t1 (List.mem_of_getElem? (i := 53) rfl)) rfl
set_option maxRecDepth 20000 in
theorem uM_X0_3 : Cond.methodLink RX0 3 objectInit ∈ UW := mem_UW (in_t1 (List.mem_of_getElem? (i := 54) rfl)) rfl
set_option maxRecDepth 20000 in
theorem uF_X0_9 : Cond.fieldLink RX0 9 "DigestStack$Hash" "words" "[J" ∈ UW := mem_UW (in_t1 (List.mem_of_getElem? (i := 55) rfl)) rfl
set_option maxRecDepth 20000 in
theorem uF_X0_15 : Cond.fieldLink RX0 15 "DigestStack$Hash" "block" "[B" ∈ UW := mem_UW (in_t1 (List.mem_of_getElem? (i := 56) rfl)) rfl
set_option maxRecDepth 20000 in
theorem uF_X0_19 : Cond.fieldLink RX0 19 "DigestStack$Hash" "narrow" "[I" ∈ UW := mem_UW (in_t1 (List.mem_of_getElem? (i := 57) rfl)) rfl
set_option maxRecDepth 20000 in
theorem uF_X0_23 : Cond.fieldLink RX0 23 "DigestStack$Hash" "wide" "[J" ∈ UW := mem_UW (in_t1 (List.mem_of_getElem? (i := 58) rfl)) rfl
set_option maxRecDepth 20000 in
theorem uF_X0_26 : Cond.fieldLink RX0 26 "DigestStack$Hash" "kind" "I" ∈ UW := mem_UW (in_t1 (List.mem_of_getElem? (i := 59) rfl)) rfl
set_option maxRecDepth 20000 in
theorem uF_X0_30 : Cond.fieldLink RX0 30 "DigestStack$Hash" "filled" "I" ∈ UW := mem_UW (in_t1 (List.mem_of_getElem? (i := 60) rfl)) rfl
set_option maxRecDepth 20000 in
theorem uF_X0_33 : Cond.fieldLink RX0 33 "DigestStack$Hash" "length" "J" ∈ UW := mem_UW (in_t1 (List.mem_of_getElem? (i := 61) rfl)) rfl
set_option maxRecDepth 20000 in
theorem uY_long : Cond.arrayClass .long ∈ UW := mem_UW (in_t1 (List.mem_of_getElem? (i := 77) rfl)) rfl
set_option maxRecDepth 20000 in
theorem uY_int : Cond.arrayClass .int ∈ UW := mem_UW (in_t1 (List.mem_of_getElem? (i := 78) rfl)) rfl
set_option maxRecDepth 20000 in
theorem uK_X2_18 : Cond.classLink RX2 18 RX1 ∈ UW := mem_UW (in_t1 (List.mem_of_getElem? (i := 79) rfl)) rfl
set_option maxRecDepth 20000 in
theorem uM_X2_20 : Cond.methodLink RX2 20 yX1_init ∈ UW := mem_UW (in_t1 (List.mem_of_getElem? (i := 80) rfl)) rfl
set_option maxRecDepth 20000 in
theorem uF_X2_12 : Cond.fieldLink RX2 12 "DigestStack$Stream" "hash" "LDigestStack$Hash;" ∈ UW := mem_UW (in_t1 (List.mem_of_getElem? (i := 81) rfl)) rfl
set_option maxRecDepth 20000 in
theorem uF_X2_23 : Cond.fieldLink RX2 23 "DigestStack$Stream" "spare" "LDigestStack$Row;" ∈ UW := mem_UW (in_t1 (List.mem_of_getElem? (i := 82) rfl)) rfl
set_option maxRecDepth 20000 in
theorem uF_X2_27 : Cond.fieldLink RX2 27 "DigestStack$Stream" "innerStart" "[J" ∈ UW := mem_UW (in_t1 (List.mem_of_getElem? (i := 83) rfl)) rfl
set_option maxRecDepth 20000 in
theorem uF_X2_31 : Cond.fieldLink RX2 31 "DigestStack$Stream" "outerStart" "[J" ∈ UW := mem_UW (in_t1 (List.mem_of_getElem? (i := 84) rfl)) rfl
set_option maxRecDepth 20000 in
theorem uF_X2_34 : Cond.fieldLink RX2 34 "DigestStack$Stream" "kind" "I" ∈ UW := mem_UW (in_t1 (List.mem_of_getElem? (i := 85) rfl)) rfl
set_option maxRecDepth 20000 in
theorem uF_X2_38 : Cond.fieldLink RX2 38 "DigestStack$Stream" "coded" "Z" ∈ UW := mem_UW (in_t1 (List.mem_of_getElem? (i := 87) rfl)) rfl
set_option maxRecDepth 20000 in
theorem uF_X2_42 : Cond.fieldLink RX2 42 "DigestStack$Stream" "ended" "Z" ∈ UW := mem_UW (in_t1 (List.mem_of_getElem? (i := 89) rfl)) rfl
set_option maxRecDepth 20000 in
theorem uF_X2_45 : Cond.fieldLink RX2 45 "DigestStack$Stream" "length" "J" ∈ UW := mem_UW (in_t1 (List.mem_of_getElem? (i := 91) rfl)) rfl
set_option maxRecDepth 20000 in
theorem uF_X3_14 : Cond.fieldLink RX3 14 "DigestStack" "tape" "LDigestStack$Row;" ∈ UW := mem_UW (in_t1 (List.mem_of_getElem? (i := 110) rfl)) rfl
set_option maxRecDepth 20000 in
theorem uF_X3_18 : Cond.fieldLink RX3 18 "DigestStack" "result" "LDigestStack$Row;" ∈ UW := mem_UW (in_t1 (List.mem_of_getElem? (i := 111) rfl)) rfl
set_option maxRecDepth 20000 in
theorem uF_X3_21 : Cond.fieldLink RX3 21 "DigestStack" "registers" "[LDigestStack$Row;" ∈ UW := mem_UW (in_t1 (List.mem_of_getElem? (i := 112) rfl)) rfl
set_option maxRecDepth 20000 in
theorem uF_X3_27 : Cond.fieldLink RX3 27 "DigestStack" "streams" "[LDigestStack$Stream;" ∈ UW := mem_UW (in_t1 (List.mem_of_getElem? (i := 113) rfl)) rfl
set_option maxRecDepth 20000 in
theorem uF_X3_32 : Cond.fieldLink RX3 32 "DigestStack" "worker" "LDigestStack$Stream;" ∈ UW := mem_UW (in_t1 (List.mem_of_getElem? (i := 114) rfl)) rfl
set_option maxRecDepth 20000 in
theorem uF_X3_36 : Cond.fieldLink RX3 36 "DigestStack" "link" "LDigestStack$Row;" ∈ UW := mem_UW (in_t1 (List.mem_of_getElem? (i := 115) rfl)) rfl
set_option maxRecDepth 20000 in
theorem uF_X3_39 : Cond.fieldLink RX3 39 "DigestStack" "sum" "LDigestStack$Row;" ∈ UW := mem_UW (in_t1 (List.mem_of_getElem? (i := 116) rfl)) rfl
set_option maxRecDepth 20000 in
theorem uM_L_117 : Cond.methodLink RL 117 yX3_out ∈ UW := mem_UW (in_t1 (List.mem_of_getElem? (i := 132) rfl)) rfl
set_option maxRecDepth 20000 in
theorem uI_X3_out : Cond.instanceMethod yX3_out ∈ UW := mem_UW (in_t1 (List.mem_of_getElem? (i := 133) rfl)) rfl
set_option maxRecDepth 20000 in
theorem uS_X3_out : Cond.selects RX3 yX3_out yX3_out ∈ UW := mem_UW (in_t1 (List.mem_of_getElem? (i := 134) rfl)) rfl
set_option maxRecDepth 20000 in
theorem uC_X3_out : Cond.code yX3_out cX3_out 2 (some FieldType.int) ∈ UW := mem_UW (in_t1 (List.mem_of_getElem? (i := 135) rfl)) rfl
set_option maxRecDepth 20000 in
theorem uM_X3_148 : Cond.methodLink RX3 148 yX1_at ∈ UW := mem_UW (in_t1 (List.mem_of_getElem? (i := 136) rfl)) rfl
set_option maxRecDepth 20000 in
theorem uI_X1_at : Cond.instanceMethod yX1_at ∈ UW := mem_UW (in_t1 (List.mem_of_getElem? (i := 137) rfl)) rfl
set_option maxRecDepth 20000 in
theorem uS_X1_at : Cond.selects RX1 yX1_at yX1_at ∈ UW := mem_UW (in_t1 (List.mem_of_getElem? (i := 138) rfl)) rfl
set_option maxRecDepth 20000 in
theorem uC_X1_at : Cond.code yX1_at cX1_at 2 (some FieldType.int) ∈ UW := mem_UW (in_t1 (List.mem_of_getElem? (i := 139) rfl)) rfl
set_option maxRecDepth 20000 in
theorem uM_L_121 : Cond.methodLink RL 121 yX3_outs ∈ UW := mem_UW (in_t1 (List.mem_of_getElem? (i := 140) rfl)) rfl
set_option maxRecDepth 20000 in
theorem uI_X3_outs : Cond.instanceMethod yX3_outs ∈ UW := mem_UW (in_t1 (List.mem_of_getElem? (i := 141) rfl)) rfl
set_option maxRecDepth 20000 in
theorem uS_X3_outs : Cond.selects RX3 yX3_outs yX3_outs ∈ UW := mem_UW (in_t1 (List.mem_of_getElem? (i := 142) rfl)) rfl
set_option maxRecDepth 20000 in
theorem uC_X3_outs : Cond.code yX3_outs cX3_outs 5 (some FieldType.long) ∈ UW := mem_UW (in_t1 (List.mem_of_getElem? (i := 143) rfl)) rfl
set_option maxRecDepth 20000 in
theorem uM_X3_151 : Cond.methodLink RX3 151 yX1_atOrZero ∈ UW := mem_UW (in_t1 (List.mem_of_getElem? (i := 144) rfl)) rfl
set_option maxRecDepth 20000 in
theorem uI_X1_atOrZero : Cond.instanceMethod yX1_atOrZero ∈ UW := mem_UW (in_t1 (List.mem_of_getElem? (i := 145) rfl)) rfl
set_option maxRecDepth 20000 in
theorem uS_X1_atOrZero : Cond.selects RX1 yX1_atOrZero yX1_atOrZero ∈ UW := mem_UW (in_t1 (List.mem_of_getElem? (i := 146) rfl)) rfl
set_option maxRecDepth 20000 in
theorem uC_X1_atOrZero : Cond.code yX1_atOrZero cX1_atOrZero 2 (some FieldType.int) ∈ UW := mem_UW (in_t1 (List.mem_of_getElem? (i := 147) rfl)) rfl
set_option maxRecDepth 20000 in
theorem uM_X1_34 : Cond.methodLink RX1 34 yX1_at ∈ UW := mem_UW (in_t1 (List.mem_of_getElem? (i := 148) rfl)) rfl
set_option maxRecDepth 20000 in
theorem uM_X1_37 : Cond.methodLink RX1 37 yJ9_max_7cf53 ∈ UW := mem_UW (in_t1 (List.mem_of_getElem? (i := 149) rfl)) rfl
set_option maxRecDepth 20000 in
theorem uA_J9_max_7cf53 : Cond.static yJ9_max_7cf53 ∈ UW := mem_UW (in_t1 (List.mem_of_getElem? (i := 150) rfl)) rfl
set_option maxRecDepth 20000 in
theorem uC_J9_max_7cf53 : Cond.code yJ9_max_7cf53 cJ9_max_7cf53 2 (some FieldType.int) ∈ UW := mem_UW (in_t1 (List.mem_of_getElem? (i := 151) rfl)) rfl
set_option maxRecDepth 20000 in
theorem uM_L_125 : Cond.methodLink RL 125 yX3_isOut ∈ UW := mem_UW (in_t1 (List.mem_of_getElem? (i := 152) rfl)) rfl
set_option maxRecDepth 20000 in
theorem uI_X3_isOut : Cond.instanceMethod yX3_isOut ∈ UW := mem_UW (in_t1 (List.mem_of_getElem? (i := 153) rfl)) rfl
set_option maxRecDepth 20000 in
theorem uS_X3_isOut : Cond.selects RX3 yX3_isOut yX3_isOut ∈ UW := mem_UW (in_t1 (List.mem_of_getElem? (i := 154) rfl)) rfl
set_option maxRecDepth 20000 in
theorem uC_X3_isOut : Cond.code yX3_isOut cX3_isOut 2 (some FieldType.boolean) ∈ UW := mem_UW (in_t1 (List.mem_of_getElem? (i := 155) rfl)) rfl
set_option maxRecDepth 20000 in
theorem uM_X3_154 : Cond.methodLink RX3 154 yX1_sameAs ∈ UW := mem_UW (in_t1 (List.mem_of_getElem? (i := 156) rfl)) rfl
set_option maxRecDepth 20000 in
theorem uI_X1_sameAs : Cond.instanceMethod yX1_sameAs ∈ UW := mem_UW (in_t1 (List.mem_of_getElem? (i := 157) rfl)) rfl
set_option maxRecDepth 20000 in
theorem uS_X1_sameAs : Cond.selects RX1 yX1_sameAs yX1_sameAs ∈ UW := mem_UW (in_t1 (List.mem_of_getElem? (i := 158) rfl)) rfl
set_option maxRecDepth 20000 in
theorem uC_X1_sameAs : Cond.code yX1_sameAs cX1_sameAs 3 (some FieldType.boolean) ∈ UW := mem_UW (in_t1 (List.mem_of_getElem? (i := 159) rfl)) rfl
set_option maxRecDepth 20000 in
theorem uM_X3_72 : Cond.methodLink RX3 72 yX1_clear ∈ UW := mem_UW (in_t1 (List.mem_of_getElem? (i := 160) rfl)) rfl
set_option maxRecDepth 20000 in
theorem uI_X1_clear : Cond.instanceMethod yX1_clear ∈ UW := mem_UW (in_t1 (List.mem_of_getElem? (i := 161) rfl)) rfl
set_option maxRecDepth 20000 in
theorem uS_X1_clear : Cond.selects RX1 yX1_clear yX1_clear ∈ UW := mem_UW (in_t1 (List.mem_of_getElem? (i := 162) rfl)) rfl
set_option maxRecDepth 20000 in
theorem uC_X1_clear : Cond.code yX1_clear cX1_clear 1 (none : Option FieldType) ∈ UW := mem_UW (in_t1 (List.mem_of_getElem? (i := 163) rfl)) rfl
set_option maxRecDepth 20000 in
theorem uM_L_130 : Cond.methodLink RL 130 yX3_constant ∈ UW := mem_UW (in_t1 (List.mem_of_getElem? (i := 164) rfl)) rfl
set_option maxRecDepth 20000 in
theorem uI_X3_constant : Cond.instanceMethod yX3_constant ∈ UW := mem_UW (in_t1 (List.mem_of_getElem? (i := 165) rfl)) rfl
set_option maxRecDepth 20000 in
theorem uS_X3_constant : Cond.selects RX3 yX3_constant yX3_constant ∈ UW := mem_UW (in_t1 (List.mem_of_getElem? (i := 166) rfl)) rfl
set_option maxRecDepth 20000 in
theorem uC_X3_constant : Cond.code yX3_constant cX3_constant 2 (some FieldType.long) ∈ UW := mem_UW (in_t1 (List.mem_of_getElem? (i := 167) rfl)) rfl
set_option maxRecDepth 20000 in
theorem uF_X3_158 : Cond.fieldLink RX3 158 "DigestStack" "THIRD_ROOTS" "[J" ∈ UW := mem_UW (in_t1 (List.mem_of_getElem? (i := 168) rfl)) rfl
set_option maxRecDepth 20000 in
theorem uM_L_67 : Cond.methodLink RL 67 yL_feed ∈ UW := mem_UW (in_t1 (List.mem_of_getElem? (i := 170) rfl)) rfl
set_option maxRecDepth 20000 in
theorem uA_L_feed : Cond.static yL_feed ∈ UW := mem_UW (in_t1 (List.mem_of_getElem? (i := 171) rfl)) rfl
set_option maxRecDepth 20000 in
theorem uK_L_13 : Cond.classLink RL 13 "java/lang/IllegalArgumentException" ∈ UW := mem_UW (in_t1 (List.mem_of_getElem? (i := 173) rfl)) rfl
set_option maxRecDepth 20000 in
theorem uM_L_7 : Cond.methodLink RL 7 yX3_feed ∈ UW := mem_UW (in_t1 (List.mem_of_getElem? (i := 174) rfl)) rfl
set_option maxRecDepth 20000 in
theorem uI_X3_feed : Cond.instanceMethod yX3_feed ∈ UW := mem_UW (in_t1 (List.mem_of_getElem? (i := 175) rfl)) rfl
set_option maxRecDepth 20000 in
theorem uS_X3_feed : Cond.selects RX3 yX3_feed yX3_feed ∈ UW := mem_UW (in_t1 (List.mem_of_getElem? (i := 176) rfl)) rfl
set_option maxRecDepth 20000 in
theorem uC_X3_feed : Cond.code yX3_feed cX3_feed 5 (some FieldType.int) ∈ UW := mem_UW (in_t1 (List.mem_of_getElem? (i := 177) rfl)) rfl
set_option maxRecDepth 20000 in
theorem uK_X3_42 : Cond.classLink RX3 42 "java/lang/IllegalArgumentException" ∈ UW := mem_UW (in_t1 (List.mem_of_getElem? (i := 178) rfl)) rfl
set_option maxRecDepth 20000 in
theorem uV_fillInStackTrace : Cond.native ⟨"java/lang/Throwable", "fillInStackTrace", "(I)Ljava/lang/Throwable;"⟩ ∈ UW := mem_UW (in_t1 (List.mem_of_getElem? (i := 218) rfl)) rfl
set_option maxRecDepth 20000 in
theorem uM_X3_46 : Cond.methodLink RX3 46 ⟨"java/lang/IllegalArgumentException", "<init>", "(Ljava/lang/String;)V"⟩ ∈ UW := mem_UW (in_t1 (List.mem_of_getElem? (i := 220) rfl)) rfl
set_option maxRecDepth 20000 in
theorem uM_X3_55 : Cond.methodLink RX3 55 yX1_append ∈ UW := mem_UW (in_t2 (List.mem_of_getElem? (i := 6) rfl)) rfl
set_option maxRecDepth 20000 in
theorem uI_X1_append : Cond.instanceMethod yX1_append ∈ UW := mem_UW (in_t2 (List.mem_of_getElem? (i := 7) rfl)) rfl
set_option maxRecDepth 20000 in
theorem uS_X1_append : Cond.selects RX1 yX1_append yX1_append ∈ UW := mem_UW (in_t2 (List.mem_of_getElem? (i := 8) rfl)) rfl
set_option maxRecDepth 20000 in
theorem uC_X1_append : Cond.code yX1_append cX1_append 2 (none : Option FieldType) ∈ UW := mem_UW (in_t2 (List.mem_of_getElem? (i := 9) rfl)) rfl
set_option maxRecDepth 20000 in
theorem uM_L_77 : Cond.methodLink RL 77 yL_begin ∈ UW := mem_UW (in_t2 (List.mem_of_getElem? (i := 10) rfl)) rfl
set_option maxRecDepth 20000 in
theorem uA_L_begin : Cond.static yL_begin ∈ UW := mem_UW (in_t2 (List.mem_of_getElem? (i := 11) rfl)) rfl
set_option maxRecDepth 20000 in
theorem uK_L_19 : Cond.classLink RL 19 "java/lang/IndexOutOfBoundsException" ∈ UW := mem_UW (in_t2 (List.mem_of_getElem? (i := 13) rfl)) rfl
set_option maxRecDepth 20000 in
theorem uM_L_15 : Cond.methodLink RL 15 yX3_begin ∈ UW := mem_UW (in_t2 (List.mem_of_getElem? (i := 14) rfl)) rfl
set_option maxRecDepth 20000 in
theorem uI_X3_begin : Cond.instanceMethod yX3_begin ∈ UW := mem_UW (in_t2 (List.mem_of_getElem? (i := 15) rfl)) rfl
set_option maxRecDepth 20000 in
theorem uS_X3_begin : Cond.selects RX3 yX3_begin yX3_begin ∈ UW := mem_UW (in_t2 (List.mem_of_getElem? (i := 16) rfl)) rfl
set_option maxRecDepth 20000 in
theorem uC_X3_begin : Cond.code yX3_begin cX3_begin 4 (none : Option FieldType) ∈ UW := mem_UW (in_t2 (List.mem_of_getElem? (i := 17) rfl)) rfl
set_option maxRecDepth 20000 in
theorem uM_X3_58 : Cond.methodLink RX3 58 yX3_streamAt ∈ UW := mem_UW (in_t2 (List.mem_of_getElem? (i := 18) rfl)) rfl
set_option maxRecDepth 20000 in
theorem uI_X3_streamAt : Cond.instanceMethod yX3_streamAt ∈ UW := mem_UW (in_t2 (List.mem_of_getElem? (i := 20) rfl)) rfl
set_option maxRecDepth 20000 in
theorem uC_X3_streamAt : Cond.code yX3_streamAt cX3_streamAt 2 (some (FieldType.object "DigestStack$Stream")) ∈ UW := mem_UW (in_t2 (List.mem_of_getElem? (i := 21) rfl)) rfl
set_option maxRecDepth 20000 in
theorem uK_X3_117 : Cond.classLink RX3 117 "java/lang/IndexOutOfBoundsException" ∈ UW := mem_UW (in_t2 (List.mem_of_getElem? (i := 22) rfl)) rfl
set_option maxRecDepth 20000 in
theorem uM_X3_121 : Cond.methodLink RX3 121 ⟨"java/lang/IndexOutOfBoundsException", "<init>", "(Ljava/lang/String;)V"⟩ ∈ UW := mem_UW (in_t2 (List.mem_of_getElem? (i := 32) rfl)) rfl
set_option maxRecDepth 20000 in
theorem uM_X3_62 : Cond.methodLink RX3 62 yX3_checkKind ∈ UW := mem_UW (in_t2 (List.mem_of_getElem? (i := 38) rfl)) rfl
set_option maxRecDepth 20000 in
theorem uA_X3_checkKind : Cond.static yX3_checkKind ∈ UW := mem_UW (in_t2 (List.mem_of_getElem? (i := 39) rfl)) rfl
set_option maxRecDepth 20000 in
theorem uC_X3_checkKind : Cond.code yX3_checkKind cX3_checkKind 1 (none : Option FieldType) ∈ UW := mem_UW (in_t2 (List.mem_of_getElem? (i := 40) rfl)) rfl
set_option maxRecDepth 20000 in
theorem uM_X3_65 : Cond.methodLink RX3 65 yX2_startDigest ∈ UW := mem_UW (in_t2 (List.mem_of_getElem? (i := 42) rfl)) rfl
set_option maxRecDepth 20000 in
theorem uI_X2_startDigest : Cond.instanceMethod yX2_startDigest ∈ UW := mem_UW (in_t2 (List.mem_of_getElem? (i := 43) rfl)) rfl
set_option maxRecDepth 20000 in
theorem uS_X2_startDigest : Cond.selects RX2 yX2_startDigest yX2_startDigest ∈ UW := mem_UW (in_t2 (List.mem_of_getElem? (i := 44) rfl)) rfl
set_option maxRecDepth 20000 in
theorem uC_X2_startDigest : Cond.code yX2_startDigest cX2_startDigest 2 (none : Option FieldType) ∈ UW := mem_UW (in_t2 (List.mem_of_getElem? (i := 45) rfl)) rfl
set_option maxRecDepth 20000 in
theorem uM_X2_49 : Cond.methodLink RX2 49 yX0_start ∈ UW := mem_UW (in_t2 (List.mem_of_getElem? (i := 46) rfl)) rfl
set_option maxRecDepth 20000 in
theorem uI_X0_start : Cond.instanceMethod yX0_start ∈ UW := mem_UW (in_t2 (List.mem_of_getElem? (i := 47) rfl)) rfl
set_option maxRecDepth 20000 in
theorem uS_X0_start : Cond.selects RX0 yX0_start yX0_start ∈ UW := mem_UW (in_t2 (List.mem_of_getElem? (i := 48) rfl)) rfl
set_option maxRecDepth 20000 in
theorem uC_X0_start : Cond.code yX0_start cX0_start 3 (none : Option FieldType) ∈ UW := mem_UW (in_t2 (List.mem_of_getElem? (i := 49) rfl)) rfl
set_option maxRecDepth 20000 in
theorem uM_X0_37 : Cond.methodLink RX0 37 yX0_firstWord ∈ UW := mem_UW (in_t2 (List.mem_of_getElem? (i := 50) rfl)) rfl
set_option maxRecDepth 20000 in
theorem uA_X0_firstWord : Cond.static yX0_firstWord ∈ UW := mem_UW (in_t2 (List.mem_of_getElem? (i := 51) rfl)) rfl
set_option maxRecDepth 20000 in
theorem uC_X0_firstWord : Cond.code yX0_firstWord cX0_firstWord 2 (some FieldType.long) ∈ UW := mem_UW (in_t2 (List.mem_of_getElem? (i := 52) rfl)) rfl
set_option maxRecDepth 20000 in
theorem uL_X0_44 : Cond.constantLong RX0 44 (4294967295) ∈ UW := mem_UW (in_t2 (List.mem_of_getElem? (i := 55) rfl)) rfl
set_option maxRecDepth 20000 in
theorem uM_L_81 : Cond.methodLink RL 81 yL_code ∈ UW := mem_UW (in_t2 (List.mem_of_getElem? (i := 58) rfl)) rfl
set_option maxRecDepth 20000 in
theorem uA_L_code : Cond.static yL_code ∈ UW := mem_UW (in_t2 (List.mem_of_getElem? (i := 59) rfl)) rfl
set_option maxRecDepth 20000 in
theorem uM_L_21 : Cond.methodLink RL 21 yX3_code ∈ UW := mem_UW (in_t2 (List.mem_of_getElem? (i := 61) rfl)) rfl
set_option maxRecDepth 20000 in
theorem uI_X3_code : Cond.instanceMethod yX3_code ∈ UW := mem_UW (in_t2 (List.mem_of_getElem? (i := 62) rfl)) rfl
set_option maxRecDepth 20000 in
theorem uS_X3_code : Cond.selects RX3 yX3_code yX3_code ∈ UW := mem_UW (in_t2 (List.mem_of_getElem? (i := 63) rfl)) rfl
set_option maxRecDepth 20000 in
theorem uC_X3_code : Cond.code yX3_code cX3_code 5 (some FieldType.int) ∈ UW := mem_UW (in_t2 (List.mem_of_getElem? (i := 64) rfl)) rfl
set_option maxRecDepth 20000 in
theorem uM_X3_68 : Cond.methodLink RX3 68 yX2_startCode ∈ UW := mem_UW (in_t2 (List.mem_of_getElem? (i := 65) rfl)) rfl
set_option maxRecDepth 20000 in
theorem uI_X2_startCode : Cond.instanceMethod yX2_startCode ∈ UW := mem_UW (in_t2 (List.mem_of_getElem? (i := 66) rfl)) rfl
set_option maxRecDepth 20000 in
theorem uS_X2_startCode : Cond.selects RX2 yX2_startCode yX2_startCode ∈ UW := mem_UW (in_t2 (List.mem_of_getElem? (i := 67) rfl)) rfl
set_option maxRecDepth 20000 in
theorem uC_X2_startCode : Cond.code yX2_startCode cX2_startCode 3 (none : Option FieldType) ∈ UW := mem_UW (in_t2 (List.mem_of_getElem? (i := 68) rfl)) rfl
set_option maxRecDepth 20000 in
theorem uM_X2_52 : Cond.methodLink RX2 52 yX2_startDigest ∈ UW := mem_UW (in_t2 (List.mem_of_getElem? (i := 69) rfl)) rfl
set_option maxRecDepth 20000 in
theorem uA_X3_blockSize : Cond.static yX3_blockSize ∈ UW := mem_UW (in_t2 (List.mem_of_getElem? (i := 71) rfl)) rfl
set_option maxRecDepth 20000 in
theorem uC_X3_blockSize : Cond.code yX3_blockSize cX3_blockSize 1 (some FieldType.int) ∈ UW := mem_UW (in_t2 (List.mem_of_getElem? (i := 72) rfl)) rfl
set_option maxRecDepth 20000 in
theorem uM_X3_174 : Cond.methodLink RX3 174 yX3_isWide ∈ UW := mem_UW (in_t2 (List.mem_of_getElem? (i := 73) rfl)) rfl
set_option maxRecDepth 20000 in
theorem uA_X3_isWide : Cond.static yX3_isWide ∈ UW := mem_UW (in_t2 (List.mem_of_getElem? (i := 74) rfl)) rfl
set_option maxRecDepth 20000 in
theorem uC_X3_isWide : Cond.code yX3_isWide cX3_isWide 1 (some FieldType.boolean) ∈ UW := mem_UW (in_t2 (List.mem_of_getElem? (i := 75) rfl)) rfl
set_option maxRecDepth 20000 in
theorem uM_X2_62 : Cond.methodLink RX2 62 yX0_addRow ∈ UW := mem_UW (in_t2 (List.mem_of_getElem? (i := 76) rfl)) rfl
set_option maxRecDepth 20000 in
theorem uI_X0_addRow : Cond.instanceMethod yX0_addRow ∈ UW := mem_UW (in_t2 (List.mem_of_getElem? (i := 77) rfl)) rfl
set_option maxRecDepth 20000 in
theorem uS_X0_addRow : Cond.selects RX0 yX0_addRow yX0_addRow ∈ UW := mem_UW (in_t2 (List.mem_of_getElem? (i := 78) rfl)) rfl
set_option maxRecDepth 20000 in
theorem uC_X0_addRow : Cond.code yX0_addRow cX0_addRow 3 (none : Option FieldType) ∈ UW := mem_UW (in_t2 (List.mem_of_getElem? (i := 79) rfl)) rfl
set_option maxRecDepth 20000 in
theorem uM_X0_68 : Cond.methodLink RX0 68 yX1_atOrZero ∈ UW := mem_UW (in_t2 (List.mem_of_getElem? (i := 80) rfl)) rfl
set_option maxRecDepth 20000 in
theorem uM_X0_59 : Cond.methodLink RX0 59 yX0_place ∈ UW := mem_UW (in_t2 (List.mem_of_getElem? (i := 81) rfl)) rfl
set_option maxRecDepth 20000 in
theorem uI_X0_place : Cond.instanceMethod yX0_place ∈ UW := mem_UW (in_t2 (List.mem_of_getElem? (i := 83) rfl)) rfl
set_option maxRecDepth 20000 in
theorem uC_X0_place : Cond.code yX0_place cX0_place 2 (none : Option FieldType) ∈ UW := mem_UW (in_t2 (List.mem_of_getElem? (i := 84) rfl)) rfl
set_option maxRecDepth 20000 in
theorem uM_X0_75 : Cond.methodLink RX0 75 yX0_layWide ∈ UW := mem_UW (in_t2 (List.mem_of_getElem? (i := 87) rfl)) rfl
set_option maxRecDepth 20000 in
theorem uI_X0_layWide : Cond.instanceMethod yX0_layWide ∈ UW := mem_UW (in_t2 (List.mem_of_getElem? (i := 89) rfl)) rfl
set_option maxRecDepth 20000 in
theorem uC_X0_layWide : Cond.code yX0_layWide cX0_layWide 10 (none : Option FieldType) ∈ UW := mem_UW (in_t2 (List.mem_of_getElem? (i := 90) rfl)) rfl
set_option maxRecDepth 20000 in
theorem uM_X0_110 : Cond.methodLink RX0 110 yJ13_rotateRight_b2ac5 ∈ UW := mem_UW (in_t2 (List.mem_of_getElem? (i := 91) rfl)) rfl
set_option maxRecDepth 20000 in
theorem uA_J13_rotateRight_b2ac5 : Cond.static yJ13_rotateRight_b2ac5 ∈ UW := mem_UW (in_t2 (List.mem_of_getElem? (i := 92) rfl)) rfl
set_option maxRecDepth 20000 in
theorem uC_J13_rotateRight_b2ac5 : Cond.code yJ13_rotateRight_b2ac5 cJ13_rotateRight_b2ac5 3 (some FieldType.long) ∈ UW := mem_UW (in_t2 (List.mem_of_getElem? (i := 93) rfl)) rfl
set_option maxRecDepth 20000 in
theorem uM_X0_78 : Cond.methodLink RX0 78 yX0_mixWide ∈ UW := mem_UW (in_t2 (List.mem_of_getElem? (i := 94) rfl)) rfl
set_option maxRecDepth 20000 in
theorem uI_X0_mixWide : Cond.instanceMethod yX0_mixWide ∈ UW := mem_UW (in_t2 (List.mem_of_getElem? (i := 96) rfl)) rfl
set_option maxRecDepth 20000 in
theorem uC_X0_mixWide : Cond.code yX0_mixWide cX0_mixWide 26 (none : Option FieldType) ∈ UW := mem_UW (in_t2 (List.mem_of_getElem? (i := 97) rfl)) rfl
set_option maxRecDepth 20000 in
theorem uL_X0_115 : Cond.constantLong RX0 115 (-1) ∈ UW := mem_UW (in_t2 (List.mem_of_getElem? (i := 98) rfl)) rfl
set_option maxRecDepth 20000 in
theorem uM_X0_81 : Cond.methodLink RX0 81 yX0_layNarrow ∈ UW := mem_UW (in_t2 (List.mem_of_getElem? (i := 100) rfl)) rfl
set_option maxRecDepth 20000 in
theorem uI_X0_layNarrow : Cond.instanceMethod yX0_layNarrow ∈ UW := mem_UW (in_t2 (List.mem_of_getElem? (i := 102) rfl)) rfl
set_option maxRecDepth 20000 in
theorem uC_X0_layNarrow : Cond.code yX0_layNarrow cX0_layNarrow 6 (none : Option FieldType) ∈ UW := mem_UW (in_t2 (List.mem_of_getElem? (i := 103) rfl)) rfl
set_option maxRecDepth 20000 in
theorem uM_X0_101 : Cond.methodLink RX0 101 yJ6_rotateRight_7cf53 ∈ UW := mem_UW (in_t2 (List.mem_of_getElem? (i := 104) rfl)) rfl
set_option maxRecDepth 20000 in
theorem uA_J6_rotateRight_7cf53 : Cond.static yJ6_rotateRight_7cf53 ∈ UW := mem_UW (in_t2 (List.mem_of_getElem? (i := 105) rfl)) rfl
set_option maxRecDepth 20000 in
theorem uC_J6_rotateRight_7cf53 : Cond.code yJ6_rotateRight_7cf53 cJ6_rotateRight_7cf53 2 (some FieldType.int) ∈ UW := mem_UW (in_t2 (List.mem_of_getElem? (i := 106) rfl)) rfl
set_option maxRecDepth 20000 in
theorem uM_X0_84 : Cond.methodLink RX0 84 yX0_mixNarrow ∈ UW := mem_UW (in_t2 (List.mem_of_getElem? (i := 107) rfl)) rfl
set_option maxRecDepth 20000 in
theorem uI_X0_mixNarrow : Cond.instanceMethod yX0_mixNarrow ∈ UW := mem_UW (in_t2 (List.mem_of_getElem? (i := 109) rfl)) rfl
set_option maxRecDepth 20000 in
theorem uC_X0_mixNarrow : Cond.code yX0_mixNarrow cX0_mixNarrow 14 (none : Option FieldType) ∈ UW := mem_UW (in_t2 (List.mem_of_getElem? (i := 110) rfl)) rfl
set_option maxRecDepth 20000 in
theorem uM_X2_66 : Cond.methodLink RX2 66 yX0_pad ∈ UW := mem_UW (in_t2 (List.mem_of_getElem? (i := 111) rfl)) rfl
set_option maxRecDepth 20000 in
theorem uI_X0_pad : Cond.instanceMethod yX0_pad ∈ UW := mem_UW (in_t2 (List.mem_of_getElem? (i := 112) rfl)) rfl
set_option maxRecDepth 20000 in
theorem uS_X0_pad : Cond.selects RX0 yX0_pad yX0_pad ∈ UW := mem_UW (in_t2 (List.mem_of_getElem? (i := 113) rfl)) rfl
set_option maxRecDepth 20000 in
theorem uC_X0_pad : Cond.code yX0_pad cX0_pad 6 (none : Option FieldType) ∈ UW := mem_UW (in_t2 (List.mem_of_getElem? (i := 114) rfl)) rfl
set_option maxRecDepth 20000 in
theorem uL_X0_99 : Cond.constantLong RX0 99 (8) ∈ UW := mem_UW (in_t2 (List.mem_of_getElem? (i := 115) rfl)) rfl
set_option maxRecDepth 20000 in
theorem uM_X2_69 : Cond.methodLink RX2 69 yX0_writeDigest ∈ UW := mem_UW (in_t2 (List.mem_of_getElem? (i := 116) rfl)) rfl
set_option maxRecDepth 20000 in
theorem uI_X0_writeDigest : Cond.instanceMethod yX0_writeDigest ∈ UW := mem_UW (in_t2 (List.mem_of_getElem? (i := 117) rfl)) rfl
set_option maxRecDepth 20000 in
theorem uS_X0_writeDigest : Cond.selects RX0 yX0_writeDigest yX0_writeDigest ∈ UW := mem_UW (in_t2 (List.mem_of_getElem? (i := 118) rfl)) rfl
set_option maxRecDepth 20000 in
theorem uC_X0_writeDigest : Cond.code yX0_writeDigest cX0_writeDigest 3 (none : Option FieldType) ∈ UW := mem_UW (in_t2 (List.mem_of_getElem? (i := 119) rfl)) rfl
set_option maxRecDepth 20000 in
theorem uM_X0_87 : Cond.methodLink RX0 87 yX1_clear ∈ UW := mem_UW (in_t2 (List.mem_of_getElem? (i := 120) rfl)) rfl
set_option maxRecDepth 20000 in
theorem uA_X3_digestSize : Cond.static yX3_digestSize ∈ UW := mem_UW (in_t2 (List.mem_of_getElem? (i := 122) rfl)) rfl
set_option maxRecDepth 20000 in
theorem uC_X3_digestSize : Cond.code yX3_digestSize cX3_digestSize 1 (some FieldType.int) ∈ UW := mem_UW (in_t2 (List.mem_of_getElem? (i := 123) rfl)) rfl
set_option maxRecDepth 20000 in
theorem uF_X3_170 : Cond.fieldLink RX3 170 "DigestStack" "DIGEST_SIZES" "[I" ∈ UW := mem_UW (in_t2 (List.mem_of_getElem? (i := 124) rfl)) rfl
set_option maxRecDepth 20000 in
theorem uM_X0_93 : Cond.methodLink RX0 93 yX0_octetOfWords ∈ UW := mem_UW (in_t2 (List.mem_of_getElem? (i := 126) rfl)) rfl
set_option maxRecDepth 20000 in
theorem uI_X0_octetOfWords : Cond.instanceMethod yX0_octetOfWords ∈ UW := mem_UW (in_t2 (List.mem_of_getElem? (i := 128) rfl)) rfl
set_option maxRecDepth 20000 in
theorem uC_X0_octetOfWords : Cond.code yX0_octetOfWords cX0_octetOfWords 2 (some FieldType.int) ∈ UW := mem_UW (in_t2 (List.mem_of_getElem? (i := 129) rfl)) rfl
set_option maxRecDepth 20000 in
theorem uM_X0_96 : Cond.methodLink RX0 96 yX1_append ∈ UW := mem_UW (in_t2 (List.mem_of_getElem? (i := 130) rfl)) rfl
set_option maxRecDepth 20000 in
theorem uM_X2_72 : Cond.methodLink RX2 72 yX1_become ∈ UW := mem_UW (in_t2 (List.mem_of_getElem? (i := 131) rfl)) rfl
set_option maxRecDepth 20000 in
theorem uI_X1_become : Cond.instanceMethod yX1_become ∈ UW := mem_UW (in_t2 (List.mem_of_getElem? (i := 132) rfl)) rfl
set_option maxRecDepth 20000 in
theorem uS_X1_become : Cond.selects RX1 yX1_become yX1_become ∈ UW := mem_UW (in_t2 (List.mem_of_getElem? (i := 133) rfl)) rfl
set_option maxRecDepth 20000 in
theorem uC_X1_become : Cond.code yX1_become cX1_become 2 (none : Option FieldType) ∈ UW := mem_UW (in_t2 (List.mem_of_getElem? (i := 134) rfl)) rfl
set_option maxRecDepth 20000 in
theorem uM_X1_27 : Cond.methodLink RX1 27 yX1_clear ∈ UW := mem_UW (in_t2 (List.mem_of_getElem? (i := 135) rfl)) rfl
set_option maxRecDepth 20000 in
theorem uM_X1_30 : Cond.methodLink RX1 30 yX1_appendUpTo ∈ UW := mem_UW (in_t2 (List.mem_of_getElem? (i := 136) rfl)) rfl
set_option maxRecDepth 20000 in
theorem uI_X1_appendUpTo : Cond.instanceMethod yX1_appendUpTo ∈ UW := mem_UW (in_t2 (List.mem_of_getElem? (i := 137) rfl)) rfl
set_option maxRecDepth 20000 in
theorem uS_X1_appendUpTo : Cond.selects RX1 yX1_appendUpTo yX1_appendUpTo ∈ UW := mem_UW (in_t2 (List.mem_of_getElem? (i := 138) rfl)) rfl
set_option maxRecDepth 20000 in
theorem uC_X1_appendUpTo : Cond.code yX1_appendUpTo cX1_appendUpTo 4 (none : Option FieldType) ∈ UW := mem_UW (in_t2 (List.mem_of_getElem? (i := 139) rfl)) rfl
set_option maxRecDepth 20000 in
theorem uM_X1_19 : Cond.methodLink RX1 19 yX1_atOrZero ∈ UW := mem_UW (in_t2 (List.mem_of_getElem? (i := 140) rfl)) rfl
set_option maxRecDepth 20000 in
theorem uM_X1_23 : Cond.methodLink RX1 23 yX1_append ∈ UW := mem_UW (in_t2 (List.mem_of_getElem? (i := 141) rfl)) rfl
set_option maxRecDepth 20000 in
theorem uM_X2_75 : Cond.methodLink RX2 75 yX2_startFromKey ∈ UW := mem_UW (in_t2 (List.mem_of_getElem? (i := 142) rfl)) rfl
set_option maxRecDepth 20000 in
theorem uI_X2_startFromKey : Cond.instanceMethod yX2_startFromKey ∈ UW := mem_UW (in_t2 (List.mem_of_getElem? (i := 144) rfl)) rfl
set_option maxRecDepth 20000 in
theorem uC_X2_startFromKey : Cond.code yX2_startFromKey cX2_startFromKey 4 (none : Option FieldType) ∈ UW := mem_UW (in_t2 (List.mem_of_getElem? (i := 145) rfl)) rfl
set_option maxRecDepth 20000 in
theorem uM_X2_82 : Cond.methodLink RX2 82 yX1_atOrZero ∈ UW := mem_UW (in_t2 (List.mem_of_getElem? (i := 146) rfl)) rfl
set_option maxRecDepth 20000 in
theorem uM_X2_85 : Cond.methodLink RX2 85 yX0_add ∈ UW := mem_UW (in_t2 (List.mem_of_getElem? (i := 147) rfl)) rfl
set_option maxRecDepth 20000 in
theorem uI_X0_add : Cond.instanceMethod yX0_add ∈ UW := mem_UW (in_t2 (List.mem_of_getElem? (i := 148) rfl)) rfl
set_option maxRecDepth 20000 in
theorem uS_X0_add : Cond.selects RX0 yX0_add yX0_add ∈ UW := mem_UW (in_t2 (List.mem_of_getElem? (i := 149) rfl)) rfl
set_option maxRecDepth 20000 in
theorem uC_X0_add : Cond.code yX0_add cX0_add 2 (none : Option FieldType) ∈ UW := mem_UW (in_t2 (List.mem_of_getElem? (i := 150) rfl)) rfl
set_option maxRecDepth 20000 in
theorem uM_X2_88 : Cond.methodLink RX2 88 yX0_saveWords ∈ UW := mem_UW (in_t2 (List.mem_of_getElem? (i := 151) rfl)) rfl
set_option maxRecDepth 20000 in
theorem uI_X0_saveWords : Cond.instanceMethod yX0_saveWords ∈ UW := mem_UW (in_t2 (List.mem_of_getElem? (i := 152) rfl)) rfl
set_option maxRecDepth 20000 in
theorem uS_X0_saveWords : Cond.selects RX0 yX0_saveWords yX0_saveWords ∈ UW := mem_UW (in_t2 (List.mem_of_getElem? (i := 153) rfl)) rfl
set_option maxRecDepth 20000 in
theorem uC_X0_saveWords : Cond.code yX0_saveWords cX0_saveWords 3 (none : Option FieldType) ∈ UW := mem_UW (in_t2 (List.mem_of_getElem? (i := 154) rfl)) rfl
set_option maxRecDepth 20000 in
theorem uM_X2_79 : Cond.methodLink RX2 79 yX2_restartCode ∈ UW := mem_UW (in_t2 (List.mem_of_getElem? (i := 155) rfl)) rfl
set_option maxRecDepth 20000 in
theorem uI_X2_restartCode : Cond.instanceMethod yX2_restartCode ∈ UW := mem_UW (in_t2 (List.mem_of_getElem? (i := 156) rfl)) rfl
set_option maxRecDepth 20000 in
theorem uS_X2_restartCode : Cond.selects RX2 yX2_restartCode yX2_restartCode ∈ UW := mem_UW (in_t2 (List.mem_of_getElem? (i := 157) rfl)) rfl
set_option maxRecDepth 20000 in
theorem uC_X2_restartCode : Cond.code yX2_restartCode cX2_restartCode 1 (none : Option FieldType) ∈ UW := mem_UW (in_t2 (List.mem_of_getElem? (i := 158) rfl)) rfl
set_option maxRecDepth 20000 in
theorem uM_X2_92 : Cond.methodLink RX2 92 yX0_startBehindBlock ∈ UW := mem_UW (in_t2 (List.mem_of_getElem? (i := 159) rfl)) rfl
set_option maxRecDepth 20000 in
theorem uI_X0_startBehindBlock : Cond.instanceMethod yX0_startBehindBlock ∈ UW := mem_UW (in_t2 (List.mem_of_getElem? (i := 160) rfl)) rfl
set_option maxRecDepth 20000 in
theorem uS_X0_startBehindBlock : Cond.selects RX0 yX0_startBehindBlock yX0_startBehindBlock ∈ UW := mem_UW (in_t2 (List.mem_of_getElem? (i := 161) rfl)) rfl
set_option maxRecDepth 20000 in
theorem uC_X0_startBehindBlock : Cond.code yX0_startBehindBlock cX0_startBehindBlock 4 (none : Option FieldType) ∈ UW := mem_UW (in_t2 (List.mem_of_getElem? (i := 162) rfl)) rfl
set_option maxRecDepth 20000 in
theorem uM_L_85 : Cond.methodLink RL 85 yL_update ∈ UW := mem_UW (in_t2 (List.mem_of_getElem? (i := 163) rfl)) rfl
set_option maxRecDepth 20000 in
theorem uA_L_update : Cond.static yL_update ∈ UW := mem_UW (in_t2 (List.mem_of_getElem? (i := 164) rfl)) rfl
set_option maxRecDepth 20000 in
theorem uK_L_29 : Cond.classLink RL 29 "java/lang/IllegalStateException" ∈ UW := mem_UW (in_t2 (List.mem_of_getElem? (i := 166) rfl)) rfl
set_option maxRecDepth 20000 in
theorem uM_L_25 : Cond.methodLink RL 25 yX3_update ∈ UW := mem_UW (in_t2 (List.mem_of_getElem? (i := 167) rfl)) rfl
set_option maxRecDepth 20000 in
theorem uI_X3_update : Cond.instanceMethod yX3_update ∈ UW := mem_UW (in_t2 (List.mem_of_getElem? (i := 168) rfl)) rfl
set_option maxRecDepth 20000 in
theorem uS_X3_update : Cond.selects RX3 yX3_update yX3_update ∈ UW := mem_UW (in_t2 (List.mem_of_getElem? (i := 169) rfl)) rfl
set_option maxRecDepth 20000 in
theorem uC_X3_update : Cond.code yX3_update cX3_update 3 (some FieldType.long) ∈ UW := mem_UW (in_t2 (List.mem_of_getElem? (i := 170) rfl)) rfl
set_option maxRecDepth 20000 in
theorem uM_X3_75 : Cond.methodLink RX3 75 yX3_openStreamAt ∈ UW := mem_UW (in_t2 (List.mem_of_getElem? (i := 171) rfl)) rfl
set_option maxRecDepth 20000 in
theorem uI_X3_openStreamAt : Cond.instanceMethod yX3_openStreamAt ∈ UW := mem_UW (in_t2 (List.mem_of_getElem? (i := 173) rfl)) rfl
set_option maxRecDepth 20000 in
theorem uC_X3_openStreamAt : Cond.code yX3_openStreamAt cX3_openStreamAt 3 (some (FieldType.object "DigestStack$Stream")) ∈ UW := mem_UW (in_t2 (List.mem_of_getElem? (i := 174) rfl)) rfl
set_option maxRecDepth 20000 in
theorem uK_X3_97 : Cond.classLink RX3 97 "java/lang/IllegalStateException" ∈ UW := mem_UW (in_t2 (List.mem_of_getElem? (i := 175) rfl)) rfl
set_option maxRecDepth 20000 in
theorem uM_X3_101 : Cond.methodLink RX3 101 ⟨"java/lang/IllegalStateException", "<init>", "(Ljava/lang/String;)V"⟩ ∈ UW := mem_UW (in_t2 (List.mem_of_getElem? (i := 185) rfl)) rfl
set_option maxRecDepth 20000 in
theorem uM_X3_78 : Cond.methodLink RX3 78 yX2_addRow ∈ UW := mem_UW (in_t2 (List.mem_of_getElem? (i := 191) rfl)) rfl
set_option maxRecDepth 20000 in
theorem uI_X2_addRow : Cond.instanceMethod yX2_addRow ∈ UW := mem_UW (in_t2 (List.mem_of_getElem? (i := 192) rfl)) rfl
set_option maxRecDepth 20000 in
theorem uS_X2_addRow : Cond.selects RX2 yX2_addRow yX2_addRow ∈ UW := mem_UW (in_t2 (List.mem_of_getElem? (i := 193) rfl)) rfl
set_option maxRecDepth 20000 in
theorem uC_X2_addRow : Cond.code yX2_addRow cX2_addRow 2 (none : Option FieldType) ∈ UW := mem_UW (in_t2 (List.mem_of_getElem? (i := 194) rfl)) rfl
set_option maxRecDepth 20000 in
theorem uM_L_89 : Cond.methodLink RL 89 yL_repeat ∈ UW := mem_UW (in_t2 (List.mem_of_getElem? (i := 195) rfl)) rfl
set_option maxRecDepth 20000 in
theorem uA_L_repeat : Cond.static yL_repeat ∈ UW := mem_UW (in_t2 (List.mem_of_getElem? (i := 196) rfl)) rfl
set_option maxRecDepth 20000 in
theorem uM_L_31 : Cond.methodLink RL 31 yX3_repeat ∈ UW := mem_UW (in_t2 (List.mem_of_getElem? (i := 198) rfl)) rfl
set_option maxRecDepth 20000 in
theorem uI_X3_repeat : Cond.instanceMethod yX3_repeat ∈ UW := mem_UW (in_t2 (List.mem_of_getElem? (i := 199) rfl)) rfl
set_option maxRecDepth 20000 in
theorem uS_X3_repeat : Cond.selects RX3 yX3_repeat yX3_repeat ∈ UW := mem_UW (in_t2 (List.mem_of_getElem? (i := 200) rfl)) rfl
set_option maxRecDepth 20000 in
theorem uC_X3_repeat : Cond.code yX3_repeat cX3_repeat 6 (some FieldType.long) ∈ UW := mem_UW (in_t2 (List.mem_of_getElem? (i := 201) rfl)) rfl
set_option maxRecDepth 20000 in
theorem uM_X3_88 : Cond.methodLink RX3 88 yX2_addOctet ∈ UW := mem_UW (in_t2 (List.mem_of_getElem? (i := 203) rfl)) rfl
set_option maxRecDepth 20000 in
theorem uI_X2_addOctet : Cond.instanceMethod yX2_addOctet ∈ UW := mem_UW (in_t2 (List.mem_of_getElem? (i := 204) rfl)) rfl
set_option maxRecDepth 20000 in
theorem uS_X2_addOctet : Cond.selects RX2 yX2_addOctet yX2_addOctet ∈ UW := mem_UW (in_t2 (List.mem_of_getElem? (i := 205) rfl)) rfl
set_option maxRecDepth 20000 in
theorem uC_X2_addOctet : Cond.code yX2_addOctet cX2_addOctet 2 (none : Option FieldType) ∈ UW := mem_UW (in_t2 (List.mem_of_getElem? (i := 206) rfl)) rfl
set_option maxRecDepth 20000 in
theorem uM_L_93 : Cond.methodLink RL 93 yL_finish ∈ UW := mem_UW (in_t2 (List.mem_of_getElem? (i := 207) rfl)) rfl
set_option maxRecDepth 20000 in
theorem uA_L_finish : Cond.static yL_finish ∈ UW := mem_UW (in_t2 (List.mem_of_getElem? (i := 208) rfl)) rfl
set_option maxRecDepth 20000 in
theorem uM_L_35 : Cond.methodLink RL 35 yX3_finish ∈ UW := mem_UW (in_t2 (List.mem_of_getElem? (i := 210) rfl)) rfl
set_option maxRecDepth 20000 in
theorem uI_X3_finish : Cond.instanceMethod yX3_finish ∈ UW := mem_UW (in_t2 (List.mem_of_getElem? (i := 211) rfl)) rfl
set_option maxRecDepth 20000 in
theorem uS_X3_finish : Cond.selects RX3 yX3_finish yX3_finish ∈ UW := mem_UW (in_t2 (List.mem_of_getElem? (i := 212) rfl)) rfl
set_option maxRecDepth 20000 in
theorem uC_X3_finish : Cond.code yX3_finish cX3_finish 3 (some FieldType.int) ∈ UW := mem_UW (in_t2 (List.mem_of_getElem? (i := 213) rfl)) rfl
set_option maxRecDepth 20000 in
theorem uM_X3_91 : Cond.methodLink RX3 91 yX2_closeInto ∈ UW := mem_UW (in_t2 (List.mem_of_getElem? (i := 214) rfl)) rfl
set_option maxRecDepth 20000 in
theorem uI_X2_closeInto : Cond.instanceMethod yX2_closeInto ∈ UW := mem_UW (in_t2 (List.mem_of_getElem? (i := 215) rfl)) rfl
set_option maxRecDepth 20000 in
theorem uS_X2_closeInto : Cond.selects RX2 yX2_closeInto yX2_closeInto ∈ UW := mem_UW (in_t2 (List.mem_of_getElem? (i := 216) rfl)) rfl
set_option maxRecDepth 20000 in
theorem uC_X2_closeInto : Cond.code yX2_closeInto cX2_closeInto 2 (none : Option FieldType) ∈ UW := mem_UW (in_t2 (List.mem_of_getElem? (i := 217) rfl)) rfl
set_option maxRecDepth 20000 in
theorem uM_L_96 : Cond.methodLink RL 96 yL_copy ∈ UW := mem_UW (in_t2 (List.mem_of_getElem? (i := 218) rfl)) rfl
set_option maxRecDepth 20000 in
theorem uA_L_copy : Cond.static yL_copy ∈ UW := mem_UW (in_t2 (List.mem_of_getElem? (i := 219) rfl)) rfl
set_option maxRecDepth 20000 in
theorem uM_L_39 : Cond.methodLink RL 39 yX3_copy ∈ UW := mem_UW (in_t2 (List.mem_of_getElem? (i := 221) rfl)) rfl
set_option maxRecDepth 20000 in
theorem uI_X3_copy : Cond.instanceMethod yX3_copy ∈ UW := mem_UW (in_t2 (List.mem_of_getElem? (i := 222) rfl)) rfl
set_option maxRecDepth 20000 in
theorem uS_X3_copy : Cond.selects RX3 yX3_copy yX3_copy ∈ UW := mem_UW (in_t2 (List.mem_of_getElem? (i := 223) rfl)) rfl
set_option maxRecDepth 20000 in
theorem uC_X3_copy : Cond.code yX3_copy cX3_copy 5 (none : Option FieldType) ∈ UW := mem_UW (in_t2 (List.mem_of_getElem? (i := 224) rfl)) rfl
set_option maxRecDepth 20000 in
theorem uM_X3_102 : Cond.methodLink RX3 102 yX2_become ∈ UW := mem_UW (in_t2 (List.mem_of_getElem? (i := 226) rfl)) rfl
set_option maxRecDepth 20000 in
theorem uI_X2_become : Cond.instanceMethod yX2_become ∈ UW := mem_UW (in_t2 (List.mem_of_getElem? (i := 227) rfl)) rfl
set_option maxRecDepth 20000 in
theorem uS_X2_become : Cond.selects RX2 yX2_become yX2_become ∈ UW := mem_UW (in_t2 (List.mem_of_getElem? (i := 228) rfl)) rfl
set_option maxRecDepth 20000 in
theorem uC_X2_become : Cond.code yX2_become cX2_become 2 (none : Option FieldType) ∈ UW := mem_UW (in_t2 (List.mem_of_getElem? (i := 229) rfl)) rfl
set_option maxRecDepth 20000 in
theorem uM_X2_95 : Cond.methodLink RX2 95 yX0_become ∈ UW := mem_UW (in_t2 (List.mem_of_getElem? (i := 230) rfl)) rfl
set_option maxRecDepth 20000 in
theorem uI_X0_become : Cond.instanceMethod yX0_become ∈ UW := mem_UW (in_t2 (List.mem_of_getElem? (i := 231) rfl)) rfl
set_option maxRecDepth 20000 in
theorem uS_X0_become : Cond.selects RX0 yX0_become yX0_become ∈ UW := mem_UW (in_t2 (List.mem_of_getElem? (i := 232) rfl)) rfl
set_option maxRecDepth 20000 in
theorem uC_X0_become : Cond.code yX0_become cX0_become 2 (none : Option FieldType) ∈ UW := mem_UW (in_t2 (List.mem_of_getElem? (i := 233) rfl)) rfl
set_option maxRecDepth 20000 in
theorem uM_X0_53 : Cond.methodLink RX0 53 ⟨"java/lang/System", "arraycopy", "(Ljava/lang/Object;ILjava/lang/Object;II)V"⟩ ∈ UW := mem_UW (in_t2 (List.mem_of_getElem? (i := 234) rfl)) rfl
set_option maxRecDepth 20000 in
theorem uV_arraycopy : Cond.native ⟨"java/lang/System", "arraycopy", "(Ljava/lang/Object;ILjava/lang/Object;II)V"⟩ ∈ UW := mem_UW (in_t2 (List.mem_of_getElem? (i := 236) rfl)) rfl
set_option maxRecDepth 20000 in
theorem uM_X2_98 : Cond.methodLink RX2 98 ⟨"java/lang/System", "arraycopy", "(Ljava/lang/Object;ILjava/lang/Object;II)V"⟩ ∈ UW := mem_UW (in_t2 (List.mem_of_getElem? (i := 237) rfl)) rfl
set_option maxRecDepth 20000 in
theorem uM_L_99 : Cond.methodLink RL 99 yL_about ∈ UW := mem_UW (in_t2 (List.mem_of_getElem? (i := 238) rfl)) rfl
set_option maxRecDepth 20000 in
theorem uA_L_about : Cond.static yL_about ∈ UW := mem_UW (in_t2 (List.mem_of_getElem? (i := 239) rfl)) rfl
set_option maxRecDepth 20000 in
theorem uM_L_42 : Cond.methodLink RL 42 yX3_about ∈ UW := mem_UW (in_t3 (List.mem_of_getElem? (i := 1) rfl)) rfl
set_option maxRecDepth 20000 in
theorem uI_X3_about : Cond.instanceMethod yX3_about ∈ UW := mem_UW (in_t3 (List.mem_of_getElem? (i := 2) rfl)) rfl
set_option maxRecDepth 20000 in
theorem uS_X3_about : Cond.selects RX3 yX3_about yX3_about ∈ UW := mem_UW (in_t3 (List.mem_of_getElem? (i := 3) rfl)) rfl
set_option maxRecDepth 20000 in
theorem uC_X3_about : Cond.code yX3_about cX3_about 4 (some FieldType.int) ∈ UW := mem_UW (in_t3 (List.mem_of_getElem? (i := 4) rfl)) rfl
set_option maxRecDepth 20000 in
theorem uM_X3_113 : Cond.methodLink RX3 113 yX2_loose ∈ UW := mem_UW (in_t3 (List.mem_of_getElem? (i := 5) rfl)) rfl
set_option maxRecDepth 20000 in
theorem uI_X2_loose : Cond.instanceMethod yX2_loose ∈ UW := mem_UW (in_t3 (List.mem_of_getElem? (i := 6) rfl)) rfl
set_option maxRecDepth 20000 in
theorem uS_X2_loose : Cond.selects RX2 yX2_loose yX2_loose ∈ UW := mem_UW (in_t3 (List.mem_of_getElem? (i := 7) rfl)) rfl
set_option maxRecDepth 20000 in
theorem uC_X2_loose : Cond.code yX2_loose cX2_loose 1 (some FieldType.int) ∈ UW := mem_UW (in_t3 (List.mem_of_getElem? (i := 8) rfl)) rfl
set_option maxRecDepth 20000 in
theorem uM_L_102 : Cond.methodLink RL 102 yL_hold ∈ UW := mem_UW (in_t3 (List.mem_of_getElem? (i := 10) rfl)) rfl
set_option maxRecDepth 20000 in
theorem uA_L_hold : Cond.static yL_hold ∈ UW := mem_UW (in_t3 (List.mem_of_getElem? (i := 11) rfl)) rfl
set_option maxRecDepth 20000 in
theorem uM_L_45 : Cond.methodLink RL 45 yX3_hold ∈ UW := mem_UW (in_t3 (List.mem_of_getElem? (i := 13) rfl)) rfl
set_option maxRecDepth 20000 in
theorem uI_X3_hold : Cond.instanceMethod yX3_hold ∈ UW := mem_UW (in_t3 (List.mem_of_getElem? (i := 14) rfl)) rfl
set_option maxRecDepth 20000 in
theorem uS_X3_hold : Cond.selects RX3 yX3_hold yX3_hold ∈ UW := mem_UW (in_t3 (List.mem_of_getElem? (i := 15) rfl)) rfl
set_option maxRecDepth 20000 in
theorem uC_X3_hold : Cond.code yX3_hold cX3_hold 3 (some FieldType.int) ∈ UW := mem_UW (in_t3 (List.mem_of_getElem? (i := 16) rfl)) rfl
set_option maxRecDepth 20000 in
theorem uM_X3_122 : Cond.methodLink RX3 122 yX3_registerAt ∈ UW := mem_UW (in_t3 (List.mem_of_getElem? (i := 17) rfl)) rfl
set_option maxRecDepth 20000 in
theorem uI_X3_registerAt : Cond.instanceMethod yX3_registerAt ∈ UW := mem_UW (in_t3 (List.mem_of_getElem? (i := 19) rfl)) rfl
set_option maxRecDepth 20000 in
theorem uC_X3_registerAt : Cond.code yX3_registerAt cX3_registerAt 2 (some (FieldType.object "DigestStack$Row")) ∈ UW := mem_UW (in_t3 (List.mem_of_getElem? (i := 20) rfl)) rfl
set_option maxRecDepth 20000 in
theorem uM_X3_126 : Cond.methodLink RX3 126 yX1_become ∈ UW := mem_UW (in_t3 (List.mem_of_getElem? (i := 22) rfl)) rfl
set_option maxRecDepth 20000 in
theorem uM_L_105 : Cond.methodLink RL 105 yL_keep ∈ UW := mem_UW (in_t3 (List.mem_of_getElem? (i := 23) rfl)) rfl
set_option maxRecDepth 20000 in
theorem uA_L_keep : Cond.static yL_keep ∈ UW := mem_UW (in_t3 (List.mem_of_getElem? (i := 24) rfl)) rfl
set_option maxRecDepth 20000 in
theorem uM_L_48 : Cond.methodLink RL 48 yX3_keep ∈ UW := mem_UW (in_t3 (List.mem_of_getElem? (i := 26) rfl)) rfl
set_option maxRecDepth 20000 in
theorem uI_X3_keep : Cond.instanceMethod yX3_keep ∈ UW := mem_UW (in_t3 (List.mem_of_getElem? (i := 27) rfl)) rfl
set_option maxRecDepth 20000 in
theorem uS_X3_keep : Cond.selects RX3 yX3_keep yX3_keep ∈ UW := mem_UW (in_t3 (List.mem_of_getElem? (i := 28) rfl)) rfl
set_option maxRecDepth 20000 in
theorem uC_X3_keep : Cond.code yX3_keep cX3_keep 3 (some FieldType.int) ∈ UW := mem_UW (in_t3 (List.mem_of_getElem? (i := 29) rfl)) rfl
set_option maxRecDepth 20000 in
theorem uM_L_108 : Cond.methodLink RL 108 yL_draw ∈ UW := mem_UW (in_t3 (List.mem_of_getElem? (i := 30) rfl)) rfl
set_option maxRecDepth 20000 in
theorem uA_L_draw : Cond.static yL_draw ∈ UW := mem_UW (in_t3 (List.mem_of_getElem? (i := 31) rfl)) rfl
set_option maxRecDepth 20000 in
theorem uM_L_51 : Cond.methodLink RL 51 yX3_draw ∈ UW := mem_UW (in_t3 (List.mem_of_getElem? (i := 33) rfl)) rfl
set_option maxRecDepth 20000 in
theorem uI_X3_draw : Cond.instanceMethod yX3_draw ∈ UW := mem_UW (in_t3 (List.mem_of_getElem? (i := 34) rfl)) rfl
set_option maxRecDepth 20000 in
theorem uS_X3_draw : Cond.selects RX3 yX3_draw yX3_draw ∈ UW := mem_UW (in_t3 (List.mem_of_getElem? (i := 35) rfl)) rfl
set_option maxRecDepth 20000 in
theorem uC_X3_draw : Cond.code yX3_draw cX3_draw 2 (some FieldType.int) ∈ UW := mem_UW (in_t3 (List.mem_of_getElem? (i := 36) rfl)) rfl
set_option maxRecDepth 20000 in
theorem uM_L_111 : Cond.methodLink RL 111 yL_spread ∈ UW := mem_UW (in_t3 (List.mem_of_getElem? (i := 37) rfl)) rfl
set_option maxRecDepth 20000 in
theorem uA_L_spread : Cond.static yL_spread ∈ UW := mem_UW (in_t3 (List.mem_of_getElem? (i := 38) rfl)) rfl
set_option maxRecDepth 20000 in
theorem uM_L_54 : Cond.methodLink RL 54 yX3_spread ∈ UW := mem_UW (in_t3 (List.mem_of_getElem? (i := 40) rfl)) rfl
set_option maxRecDepth 20000 in
theorem uI_X3_spread : Cond.instanceMethod yX3_spread ∈ UW := mem_UW (in_t3 (List.mem_of_getElem? (i := 41) rfl)) rfl
set_option maxRecDepth 20000 in
theorem uS_X3_spread : Cond.selects RX3 yX3_spread yX3_spread ∈ UW := mem_UW (in_t3 (List.mem_of_getElem? (i := 42) rfl)) rfl
set_option maxRecDepth 20000 in
theorem uC_X3_spread : Cond.code yX3_spread cX3_spread 4 (some FieldType.int) ∈ UW := mem_UW (in_t3 (List.mem_of_getElem? (i := 43) rfl)) rfl
set_option maxRecDepth 20000 in
theorem uM_X3_130 : Cond.methodLink RX3 130 yX3_digestSize ∈ UW := mem_UW (in_t3 (List.mem_of_getElem? (i := 45) rfl)) rfl
set_option maxRecDepth 20000 in
theorem uM_X3_134 : Cond.methodLink RX3 134 yX3_nextLink ∈ UW := mem_UW (in_t3 (List.mem_of_getElem? (i := 46) rfl)) rfl
set_option maxRecDepth 20000 in
theorem uI_X3_nextLink : Cond.instanceMethod yX3_nextLink ∈ UW := mem_UW (in_t3 (List.mem_of_getElem? (i := 48) rfl)) rfl
set_option maxRecDepth 20000 in
theorem uC_X3_nextLink : Cond.code yX3_nextLink cX3_nextLink 2 (none : Option FieldType) ∈ UW := mem_UW (in_t3 (List.mem_of_getElem? (i := 49) rfl)) rfl
set_option maxRecDepth 20000 in
theorem uM_X3_178 : Cond.methodLink RX3 178 yX2_restartCode ∈ UW := mem_UW (in_t3 (List.mem_of_getElem? (i := 50) rfl)) rfl
set_option maxRecDepth 20000 in
theorem uM_X3_137 : Cond.methodLink RX3 137 yX1_appendUpTo ∈ UW := mem_UW (in_t3 (List.mem_of_getElem? (i := 51) rfl)) rfl
set_option maxRecDepth 20000 in
theorem uM_L_114 : Cond.methodLink RL 114 yL_stretch ∈ UW := mem_UW (in_t3 (List.mem_of_getElem? (i := 52) rfl)) rfl
set_option maxRecDepth 20000 in
theorem uA_L_stretch : Cond.static yL_stretch ∈ UW := mem_UW (in_t3 (List.mem_of_getElem? (i := 53) rfl)) rfl
set_option maxRecDepth 20000 in
theorem uM_L_57 : Cond.methodLink RL 57 yX3_stretch ∈ UW := mem_UW (in_t3 (List.mem_of_getElem? (i := 55) rfl)) rfl
set_option maxRecDepth 20000 in
theorem uI_X3_stretch : Cond.instanceMethod yX3_stretch ∈ UW := mem_UW (in_t3 (List.mem_of_getElem? (i := 56) rfl)) rfl
set_option maxRecDepth 20000 in
theorem uS_X3_stretch : Cond.selects RX3 yX3_stretch yX3_stretch ∈ UW := mem_UW (in_t3 (List.mem_of_getElem? (i := 57) rfl)) rfl
set_option maxRecDepth 20000 in
theorem uC_X3_stretch : Cond.code yX3_stretch cX3_stretch 5 (some FieldType.int) ∈ UW := mem_UW (in_t3 (List.mem_of_getElem? (i := 58) rfl)) rfl
set_option maxRecDepth 20000 in
theorem uM_X3_144 : Cond.methodLink RX3 144 yX3_sumTurns ∈ UW := mem_UW (in_t3 (List.mem_of_getElem? (i := 61) rfl)) rfl
set_option maxRecDepth 20000 in
theorem uI_X3_sumTurns : Cond.instanceMethod yX3_sumTurns ∈ UW := mem_UW (in_t3 (List.mem_of_getElem? (i := 63) rfl)) rfl
set_option maxRecDepth 20000 in
theorem uC_X3_sumTurns : Cond.code yX3_sumTurns cX3_sumTurns 4 (none : Option FieldType) ∈ UW := mem_UW (in_t3 (List.mem_of_getElem? (i := 64) rfl)) rfl
set_option maxRecDepth 20000 in
theorem uM_X3_181 : Cond.methodLink RX3 181 yX1_xorWith ∈ UW := mem_UW (in_t3 (List.mem_of_getElem? (i := 65) rfl)) rfl
set_option maxRecDepth 20000 in
theorem uI_X1_xorWith : Cond.instanceMethod yX1_xorWith ∈ UW := mem_UW (in_t3 (List.mem_of_getElem? (i := 66) rfl)) rfl
set_option maxRecDepth 20000 in
theorem uS_X1_xorWith : Cond.selects RX1 yX1_xorWith yX1_xorWith ∈ UW := mem_UW (in_t3 (List.mem_of_getElem? (i := 67) rfl)) rfl
set_option maxRecDepth 20000 in
theorem uC_X1_xorWith : Cond.code yX1_xorWith cX1_xorWith 3 (none : Option FieldType) ∈ UW := mem_UW (in_t3 (List.mem_of_getElem? (i := 68) rfl)) rfl
set_option maxRecDepth 20000 in
theorem uK_L_62 : Cond.classLink RL 62 RX4 ∈ UW := mem_UW (in_t3 (List.mem_of_getElem? (i := 69) rfl)) rfl
set_option maxRecDepth 20000 in
theorem uT_X4 : Cond.instantiable RX4 29 ∈ UW := mem_UW (in_t3 (List.mem_of_getElem? (i := 70) rfl)) rfl
set_option maxRecDepth 20000 in
theorem uM_L_64 : Cond.methodLink RL 64 yX4_init ∈ UW := mem_UW (in_t3 (List.mem_of_getElem? (i := 71) rfl)) rfl
set_option maxRecDepth 20000 in
theorem uI_X4_init : Cond.instanceMethod yX4_init ∈ UW := mem_UW (in_t3 (List.mem_of_getElem? (i := 72) rfl)) rfl
set_option maxRecDepth 20000 in
theorem uC_X4_init : Cond.code yX4_init cX4_init 3 (none : Option FieldType) ∈ UW := mem_UW (in_t3 (List.mem_of_getElem? (i := 73) rfl)) rfl
set_option maxRecDepth 20000 in
theorem uM_X4_1 : Cond.methodLink RX4 1 objectInit ∈ UW := mem_UW (in_t3 (List.mem_of_getElem? (i := 74) rfl)) rfl
set_option maxRecDepth 20000 in
theorem uM_X4_87 : Cond.methodLink RX4 87 yX4_isPrime ∈ UW := mem_UW (in_t3 (List.mem_of_getElem? (i := 75) rfl)) rfl
set_option maxRecDepth 20000 in
theorem uA_X4_isPrime : Cond.static yX4_isPrime ∈ UW := mem_UW (in_t3 (List.mem_of_getElem? (i := 76) rfl)) rfl
set_option maxRecDepth 20000 in
theorem uC_X4_isPrime : Cond.code yX4_isPrime cX4_isPrime 3 (some FieldType.boolean) ∈ UW := mem_UW (in_t3 (List.mem_of_getElem? (i := 77) rfl)) rfl
set_option maxRecDepth 20000 in
theorem uM_X4_91 : Cond.methodLink RX4 91 yX4_root ∈ UW := mem_UW (in_t3 (List.mem_of_getElem? (i := 78) rfl)) rfl
set_option maxRecDepth 20000 in
theorem uI_X4_root : Cond.instanceMethod yX4_root ∈ UW := mem_UW (in_t3 (List.mem_of_getElem? (i := 80) rfl)) rfl
set_option maxRecDepth 20000 in
theorem uC_X4_root : Cond.code yX4_root cX4_root 6 (some FieldType.long) ∈ UW := mem_UW (in_t3 (List.mem_of_getElem? (i := 81) rfl)) rfl
set_option maxRecDepth 20000 in
theorem uM_X4_108 : Cond.methodLink RX4 108 yX4_isAtMost ∈ UW := mem_UW (in_t3 (List.mem_of_getElem? (i := 82) rfl)) rfl
set_option maxRecDepth 20000 in
theorem uI_X4_isAtMost : Cond.instanceMethod yX4_isAtMost ∈ UW := mem_UW (in_t3 (List.mem_of_getElem? (i := 84) rfl)) rfl
set_option maxRecDepth 20000 in
theorem uC_X4_isAtMost : Cond.code yX4_isAtMost cX4_isAtMost 5 (some FieldType.boolean) ∈ UW := mem_UW (in_t3 (List.mem_of_getElem? (i := 85) rfl)) rfl
set_option maxRecDepth 20000 in
theorem uM_X4_99 : Cond.methodLink RX4 99 yX4_clearFigures ∈ UW := mem_UW (in_t3 (List.mem_of_getElem? (i := 86) rfl)) rfl
set_option maxRecDepth 20000 in
theorem uI_X4_clearFigures : Cond.instanceMethod yX4_clearFigures ∈ UW := mem_UW (in_t3 (List.mem_of_getElem? (i := 88) rfl)) rfl
set_option maxRecDepth 20000 in
theorem uC_X4_clearFigures : Cond.code yX4_clearFigures cX4_clearFigures 2 (none : Option FieldType) ∈ UW := mem_UW (in_t3 (List.mem_of_getElem? (i := 89) rfl)) rfl
set_option maxRecDepth 20000 in
theorem uL_X4_102 : Cond.constantLong RX4 102 (65535) ∈ UW := mem_UW (in_t3 (List.mem_of_getElem? (i := 90) rfl)) rfl
set_option maxRecDepth 20000 in
theorem uM_X4_104 : Cond.methodLink RX4 104 yX4_isJust ∈ UW := mem_UW (in_t3 (List.mem_of_getElem? (i := 91) rfl)) rfl
set_option maxRecDepth 20000 in
theorem uI_X4_isJust : Cond.instanceMethod yX4_isJust ∈ UW := mem_UW (in_t3 (List.mem_of_getElem? (i := 93) rfl)) rfl
set_option maxRecDepth 20000 in
theorem uC_X4_isJust : Cond.code yX4_isJust cX4_isJust 6 (some FieldType.boolean) ∈ UW := mem_UW (in_t3 (List.mem_of_getElem? (i := 94) rfl)) rfl
set_option maxRecDepth 20000 in
theorem uF_X4_7 : Cond.fieldLink RX4 7 "DigestStackModel" "tape" "[I" ∈ UW := mem_UW (in_t3 (List.mem_of_getElem? (i := 95) rfl)) rfl
set_option maxRecDepth 20000 in
theorem uF_X4_171 : Cond.fieldLink RX4 171 "DigestStackModel" "size" "I" ∈ UW := mem_UW (in_t3 (List.mem_of_getElem? (i := 96) rfl)) rfl
set_option maxRecDepth 20000 in
theorem uF_X4_13 : Cond.fieldLink RX4 13 "DigestStackModel" "constant" "[J" ∈ UW := mem_UW (in_t3 (List.mem_of_getElem? (i := 97) rfl)) rfl
set_option maxRecDepth 20000 in
theorem uF_X4_17 : Cond.fieldLink RX4 17 "DigestStackModel" "first" "[J" ∈ UW := mem_UW (in_t3 (List.mem_of_getElem? (i := 98) rfl)) rfl
set_option maxRecDepth 20000 in
theorem uF_X4_20 : Cond.fieldLink RX4 20 "DigestStackModel" "kind" "[I" ∈ UW := mem_UW (in_t3 (List.mem_of_getElem? (i := 99) rfl)) rfl
set_option maxRecDepth 20000 in
theorem uF_X4_23 : Cond.fieldLink RX4 23 "DigestStackModel" "state" "[J" ∈ UW := mem_UW (in_t3 (List.mem_of_getElem? (i := 100) rfl)) rfl
set_option maxRecDepth 20000 in
theorem uF_X4_26 : Cond.fieldLink RX4 26 "DigestStackModel" "buffer" "[I" ∈ UW := mem_UW (in_t3 (List.mem_of_getElem? (i := 101) rfl)) rfl
set_option maxRecDepth 20000 in
theorem uF_X4_29 : Cond.fieldLink RX4 29 "DigestStackModel" "fill" "[I" ∈ UW := mem_UW (in_t3 (List.mem_of_getElem? (i := 102) rfl)) rfl
set_option maxRecDepth 20000 in
theorem uF_X4_32 : Cond.fieldLink RX4 32 "DigestStackModel" "total" "[J" ∈ UW := mem_UW (in_t3 (List.mem_of_getElem? (i := 103) rfl)) rfl
set_option maxRecDepth 20000 in
theorem uF_X4_35 : Cond.fieldLink RX4 35 "DigestStackModel" "begun" "[Z" ∈ UW := mem_UW (in_t3 (List.mem_of_getElem? (i := 104) rfl)) rfl
set_option maxRecDepth 20000 in
theorem uF_X4_39 : Cond.fieldLink RX4 39 "DigestStackModel" "isCode" "[Z" ∈ UW := mem_UW (in_t3 (List.mem_of_getElem? (i := 105) rfl)) rfl
set_option maxRecDepth 20000 in
theorem uF_X4_42 : Cond.fieldLink RX4 42 "DigestStackModel" "ended" "[Z" ∈ UW := mem_UW (in_t3 (List.mem_of_getElem? (i := 106) rfl)) rfl
set_option maxRecDepth 20000 in
theorem uF_X4_45 : Cond.fieldLink RX4 45 "DigestStackModel" "message" "[J" ∈ UW := mem_UW (in_t3 (List.mem_of_getElem? (i := 107) rfl)) rfl
set_option maxRecDepth 20000 in
theorem uF_X4_48 : Cond.fieldLink RX4 48 "DigestStackModel" "keys" "[I" ∈ UW := mem_UW (in_t3 (List.mem_of_getElem? (i := 108) rfl)) rfl
set_option maxRecDepth 20000 in
theorem uF_X4_51 : Cond.fieldLink RX4 51 "DigestStackModel" "key" "[I" ∈ UW := mem_UW (in_t3 (List.mem_of_getElem? (i := 109) rfl)) rfl
set_option maxRecDepth 20000 in
theorem uF_X4_54 : Cond.fieldLink RX4 54 "DigestStackModel" "digest" "[I" ∈ UW := mem_UW (in_t3 (List.mem_of_getElem? (i := 110) rfl)) rfl
set_option maxRecDepth 20000 in
theorem uF_X4_57 : Cond.fieldLink RX4 57 "DigestStackModel" "out" "[I" ∈ UW := mem_UW (in_t3 (List.mem_of_getElem? (i := 111) rfl)) rfl
set_option maxRecDepth 20000 in
theorem uF_X4_168 : Cond.fieldLink RX4 168 "DigestStackModel" "outSize" "I" ∈ UW := mem_UW (in_t3 (List.mem_of_getElem? (i := 112) rfl)) rfl
set_option maxRecDepth 20000 in
theorem uF_X4_60 : Cond.fieldLink RX4 60 "DigestStackModel" "register" "[I" ∈ UW := mem_UW (in_t3 (List.mem_of_getElem? (i := 113) rfl)) rfl
set_option maxRecDepth 20000 in
theorem uF_X4_63 : Cond.fieldLink RX4 63 "DigestStackModel" "registerSize" "[I" ∈ UW := mem_UW (in_t3 (List.mem_of_getElem? (i := 114) rfl)) rfl
set_option maxRecDepth 20000 in
theorem uF_X4_95 : Cond.fieldLink RX4 95 "DigestStackModel" "thrown" "I" ∈ UW := mem_UW (in_t3 (List.mem_of_getElem? (i := 115) rfl)) rfl
set_option maxRecDepth 20000 in
theorem uF_X4_66 : Cond.fieldLink RX4 66 "DigestStackModel" "x" "[J" ∈ UW := mem_UW (in_t3 (List.mem_of_getElem? (i := 116) rfl)) rfl
set_option maxRecDepth 20000 in
theorem uF_X4_69 : Cond.fieldLink RX4 69 "DigestStackModel" "square" "[J" ∈ UW := mem_UW (in_t3 (List.mem_of_getElem? (i := 117) rfl)) rfl
set_option maxRecDepth 20000 in
theorem uF_X4_72 : Cond.fieldLink RX4 72 "DigestStackModel" "cube" "[J" ∈ UW := mem_UW (in_t3 (List.mem_of_getElem? (i := 118) rfl)) rfl
set_option maxRecDepth 20000 in
theorem uF_X4_75 : Cond.fieldLink RX4 75 "DigestStackModel" "narrow" "[I" ∈ UW := mem_UW (in_t3 (List.mem_of_getElem? (i := 119) rfl)) rfl
set_option maxRecDepth 20000 in
theorem uF_X4_78 : Cond.fieldLink RX4 78 "DigestStackModel" "wide" "[J" ∈ UW := mem_UW (in_t3 (List.mem_of_getElem? (i := 120) rfl)) rfl
set_option maxRecDepth 20000 in
theorem uF_X4_81 : Cond.fieldLink RX4 81 "DigestStackModel" "hand" "[I" ∈ UW := mem_UW (in_t3 (List.mem_of_getElem? (i := 121) rfl)) rfl
set_option maxRecDepth 20000 in
theorem uF_X4_146 : Cond.fieldLink RX4 146 "DigestStackModel" "handSize" "I" ∈ UW := mem_UW (in_t3 (List.mem_of_getElem? (i := 122) rfl)) rfl
set_option maxRecDepth 20000 in
theorem uF_X4_84 : Cond.fieldLink RX4 84 "DigestStackModel" "mixed" "[I" ∈ UW := mem_UW (in_t3 (List.mem_of_getElem? (i := 123) rfl)) rfl
set_option maxRecDepth 20000 in
theorem uY_boolean : Cond.arrayClass .boolean ∈ UW := mem_UW (in_t3 (List.mem_of_getElem? (i := 183) rfl)) rfl
set_option maxRecDepth 20000 in
theorem uM_L_73 : Cond.methodLink RL 73 yX4_thrown ∈ UW := mem_UW (in_t3 (List.mem_of_getElem? (i := 184) rfl)) rfl
set_option maxRecDepth 20000 in
theorem uI_X4_thrown : Cond.instanceMethod yX4_thrown ∈ UW := mem_UW (in_t3 (List.mem_of_getElem? (i := 185) rfl)) rfl
set_option maxRecDepth 20000 in
theorem uS_X4_thrown : Cond.selects RX4 yX4_thrown yX4_thrown ∈ UW := mem_UW (in_t3 (List.mem_of_getElem? (i := 186) rfl)) rfl
set_option maxRecDepth 20000 in
theorem uC_X4_thrown : Cond.code yX4_thrown cX4_thrown 1 (some FieldType.int) ∈ UW := mem_UW (in_t3 (List.mem_of_getElem? (i := 187) rfl)) rfl
set_option maxRecDepth 20000 in
theorem uM_L_72 : Cond.methodLink RL 72 yX4_feed ∈ UW := mem_UW (in_t3 (List.mem_of_getElem? (i := 188) rfl)) rfl
set_option maxRecDepth 20000 in
theorem uI_X4_feed : Cond.instanceMethod yX4_feed ∈ UW := mem_UW (in_t3 (List.mem_of_getElem? (i := 189) rfl)) rfl
set_option maxRecDepth 20000 in
theorem uS_X4_feed : Cond.selects RX4 yX4_feed yX4_feed ∈ UW := mem_UW (in_t3 (List.mem_of_getElem? (i := 190) rfl)) rfl
set_option maxRecDepth 20000 in
theorem uC_X4_feed : Cond.code yX4_feed cX4_feed 5 (some FieldType.int) ∈ UW := mem_UW (in_t3 (List.mem_of_getElem? (i := 191) rfl)) rfl
set_option maxRecDepth 20000 in
theorem uL_X4_141 : Cond.constantLong RX4 141 (255) ∈ UW := mem_UW (in_t3 (List.mem_of_getElem? (i := 192) rfl)) rfl
set_option maxRecDepth 20000 in
theorem uM_L_80 : Cond.methodLink RL 80 yX4_begin ∈ UW := mem_UW (in_t3 (List.mem_of_getElem? (i := 193) rfl)) rfl
set_option maxRecDepth 20000 in
theorem uI_X4_begin : Cond.instanceMethod yX4_begin ∈ UW := mem_UW (in_t3 (List.mem_of_getElem? (i := 194) rfl)) rfl
set_option maxRecDepth 20000 in
theorem uS_X4_begin : Cond.selects RX4 yX4_begin yX4_begin ∈ UW := mem_UW (in_t3 (List.mem_of_getElem? (i := 195) rfl)) rfl
set_option maxRecDepth 20000 in
theorem uC_X4_begin : Cond.code yX4_begin cX4_begin 3 (none : Option FieldType) ∈ UW := mem_UW (in_t3 (List.mem_of_getElem? (i := 196) rfl)) rfl
set_option maxRecDepth 20000 in
theorem uM_X4_174 : Cond.methodLink RX4 174 yX4_noStream ∈ UW := mem_UW (in_t3 (List.mem_of_getElem? (i := 197) rfl)) rfl
set_option maxRecDepth 20000 in
theorem uA_X4_noStream : Cond.static yX4_noStream ∈ UW := mem_UW (in_t3 (List.mem_of_getElem? (i := 198) rfl)) rfl
set_option maxRecDepth 20000 in
theorem uC_X4_noStream : Cond.code yX4_noStream cX4_noStream 1 (some FieldType.boolean) ∈ UW := mem_UW (in_t3 (List.mem_of_getElem? (i := 199) rfl)) rfl
set_option maxRecDepth 20000 in
theorem uM_X4_177 : Cond.methodLink RX4 177 yX4_noKind ∈ UW := mem_UW (in_t3 (List.mem_of_getElem? (i := 200) rfl)) rfl
set_option maxRecDepth 20000 in
theorem uA_X4_noKind : Cond.static yX4_noKind ∈ UW := mem_UW (in_t3 (List.mem_of_getElem? (i := 201) rfl)) rfl
set_option maxRecDepth 20000 in
theorem uC_X4_noKind : Cond.code yX4_noKind cX4_noKind 1 (some FieldType.boolean) ∈ UW := mem_UW (in_t3 (List.mem_of_getElem? (i := 202) rfl)) rfl
set_option maxRecDepth 20000 in
theorem uM_X4_149 : Cond.methodLink RX4 149 yX4_start ∈ UW := mem_UW (in_t3 (List.mem_of_getElem? (i := 203) rfl)) rfl
set_option maxRecDepth 20000 in
theorem uI_X4_start : Cond.instanceMethod yX4_start ∈ UW := mem_UW (in_t3 (List.mem_of_getElem? (i := 205) rfl)) rfl
set_option maxRecDepth 20000 in
theorem uC_X4_start : Cond.code yX4_start cX4_start 6 (none : Option FieldType) ∈ UW := mem_UW (in_t3 (List.mem_of_getElem? (i := 206) rfl)) rfl
set_option maxRecDepth 20000 in
theorem uL_X4_112 : Cond.constantLong RX4 112 (4294967295) ∈ UW := mem_UW (in_t3 (List.mem_of_getElem? (i := 207) rfl)) rfl
set_option maxRecDepth 20000 in
theorem uM_L_84 : Cond.methodLink RL 84 yX4_code ∈ UW := mem_UW (in_t3 (List.mem_of_getElem? (i := 208) rfl)) rfl
set_option maxRecDepth 20000 in
theorem uI_X4_code : Cond.instanceMethod yX4_code ∈ UW := mem_UW (in_t3 (List.mem_of_getElem? (i := 209) rfl)) rfl
set_option maxRecDepth 20000 in
theorem uS_X4_code : Cond.selects RX4 yX4_code yX4_code ∈ UW := mem_UW (in_t3 (List.mem_of_getElem? (i := 210) rfl)) rfl
set_option maxRecDepth 20000 in
theorem uC_X4_code : Cond.code yX4_code cX4_code 4 (some FieldType.int) ∈ UW := mem_UW (in_t3 (List.mem_of_getElem? (i := 211) rfl)) rfl
set_option maxRecDepth 20000 in
theorem uM_X4_155 : Cond.methodLink RX4 155 yX4_setKey ∈ UW := mem_UW (in_t3 (List.mem_of_getElem? (i := 212) rfl)) rfl
set_option maxRecDepth 20000 in
theorem uI_X4_setKey : Cond.instanceMethod yX4_setKey ∈ UW := mem_UW (in_t3 (List.mem_of_getElem? (i := 214) rfl)) rfl
set_option maxRecDepth 20000 in
theorem uC_X4_setKey : Cond.code yX4_setKey cX4_setKey 5 (none : Option FieldType) ∈ UW := mem_UW (in_t3 (List.mem_of_getElem? (i := 215) rfl)) rfl
set_option maxRecDepth 20000 in
theorem uM_X4_124 : Cond.methodLink RX4 124 yX4_blockOf ∈ UW := mem_UW (in_t3 (List.mem_of_getElem? (i := 216) rfl)) rfl
set_option maxRecDepth 20000 in
theorem uA_X4_blockOf : Cond.static yX4_blockOf ∈ UW := mem_UW (in_t3 (List.mem_of_getElem? (i := 217) rfl)) rfl
set_option maxRecDepth 20000 in
theorem uC_X4_blockOf : Cond.code yX4_blockOf cX4_blockOf 1 (some FieldType.int) ∈ UW := mem_UW (in_t3 (List.mem_of_getElem? (i := 218) rfl)) rfl
set_option maxRecDepth 20000 in
theorem uM_X4_137 : Cond.methodLink RX4 137 yX4_absorb ∈ UW := mem_UW (in_t3 (List.mem_of_getElem? (i := 219) rfl)) rfl
set_option maxRecDepth 20000 in
theorem uI_X4_absorb : Cond.instanceMethod yX4_absorb ∈ UW := mem_UW (in_t3 (List.mem_of_getElem? (i := 221) rfl)) rfl
set_option maxRecDepth 20000 in
theorem uC_X4_absorb : Cond.code yX4_absorb cX4_absorb 3 (none : Option FieldType) ∈ UW := mem_UW (in_t3 (List.mem_of_getElem? (i := 222) rfl)) rfl
set_option maxRecDepth 20000 in
theorem uM_X4_128 : Cond.methodLink RX4 128 yX4_narrowBlock ∈ UW := mem_UW (in_t3 (List.mem_of_getElem? (i := 223) rfl)) rfl
set_option maxRecDepth 20000 in
theorem uI_X4_narrowBlock : Cond.instanceMethod yX4_narrowBlock ∈ UW := mem_UW (in_t3 (List.mem_of_getElem? (i := 225) rfl)) rfl
set_option maxRecDepth 20000 in
theorem uC_X4_narrowBlock : Cond.code yX4_narrowBlock cX4_narrowBlock 14 (none : Option FieldType) ∈ UW := mem_UW (in_t3 (List.mem_of_getElem? (i := 226) rfl)) rfl
set_option maxRecDepth 20000 in
theorem uM_X4_114 : Cond.methodLink RX4 114 yX4_turn ∈ UW := mem_UW (in_t3 (List.mem_of_getElem? (i := 227) rfl)) rfl
set_option maxRecDepth 20000 in
theorem uA_X4_turn : Cond.static yX4_turn ∈ UW := mem_UW (in_t3 (List.mem_of_getElem? (i := 228) rfl)) rfl
set_option maxRecDepth 20000 in
theorem uC_X4_turn : Cond.code yX4_turn cX4_turn 2 (some FieldType.int) ∈ UW := mem_UW (in_t3 (List.mem_of_getElem? (i := 229) rfl)) rfl
set_option maxRecDepth 20000 in
theorem uM_X4_132 : Cond.methodLink RX4 132 yX4_wideBlock ∈ UW := mem_UW (in_t3 (List.mem_of_getElem? (i := 230) rfl)) rfl
set_option maxRecDepth 20000 in
theorem uI_X4_wideBlock : Cond.instanceMethod yX4_wideBlock ∈ UW := mem_UW (in_t3 (List.mem_of_getElem? (i := 232) rfl)) rfl
set_option maxRecDepth 20000 in
theorem uC_X4_wideBlock : Cond.code yX4_wideBlock cX4_wideBlock 24 (none : Option FieldType) ∈ UW := mem_UW (in_t3 (List.mem_of_getElem? (i := 233) rfl)) rfl
set_option maxRecDepth 20000 in
theorem uM_X4_118 : Cond.methodLink RX4 118 yX4_turnLong ∈ UW := mem_UW (in_t3 (List.mem_of_getElem? (i := 234) rfl)) rfl
set_option maxRecDepth 20000 in
theorem uA_X4_turnLong : Cond.static yX4_turnLong ∈ UW := mem_UW (in_t3 (List.mem_of_getElem? (i := 235) rfl)) rfl
set_option maxRecDepth 20000 in
theorem uC_X4_turnLong : Cond.code yX4_turnLong cX4_turnLong 3 (some FieldType.long) ∈ UW := mem_UW (in_t3 (List.mem_of_getElem? (i := 236) rfl)) rfl
set_option maxRecDepth 20000 in
theorem uL_X4_122 : Cond.constantLong RX4 122 (-1) ∈ UW := mem_UW (in_t3 (List.mem_of_getElem? (i := 237) rfl)) rfl
set_option maxRecDepth 20000 in
theorem uM_X4_152 : Cond.methodLink RX4 152 yX4_close ∈ UW := mem_UW (in_t3 (List.mem_of_getElem? (i := 238) rfl)) rfl
set_option maxRecDepth 20000 in
theorem uI_X4_close : Cond.instanceMethod yX4_close ∈ UW := mem_UW (in_t4 (List.mem_of_getElem? (i := 0) rfl)) rfl
set_option maxRecDepth 20000 in
theorem uC_X4_close : Cond.code yX4_close cX4_close 7 (none : Option FieldType) ∈ UW := mem_UW (in_t4 (List.mem_of_getElem? (i := 1) rfl)) rfl
set_option maxRecDepth 20000 in
theorem uL_X4_135 : Cond.constantLong RX4 135 (8) ∈ UW := mem_UW (in_t4 (List.mem_of_getElem? (i := 2) rfl)) rfl
set_option maxRecDepth 20000 in
theorem uM_X4_143 : Cond.methodLink RX4 143 yX4_digestOf ∈ UW := mem_UW (in_t4 (List.mem_of_getElem? (i := 3) rfl)) rfl
set_option maxRecDepth 20000 in
theorem uA_X4_digestOf : Cond.static yX4_digestOf ∈ UW := mem_UW (in_t4 (List.mem_of_getElem? (i := 4) rfl)) rfl
set_option maxRecDepth 20000 in
theorem uC_X4_digestOf : Cond.code yX4_digestOf cX4_digestOf 1 (some FieldType.int) ∈ UW := mem_UW (in_t4 (List.mem_of_getElem? (i := 5) rfl)) rfl
set_option maxRecDepth 20000 in
theorem uM_X4_158 : Cond.methodLink RX4 158 yX4_startKeyed ∈ UW := mem_UW (in_t4 (List.mem_of_getElem? (i := 6) rfl)) rfl
set_option maxRecDepth 20000 in
theorem uI_X4_startKeyed : Cond.instanceMethod yX4_startKeyed ∈ UW := mem_UW (in_t4 (List.mem_of_getElem? (i := 8) rfl)) rfl
set_option maxRecDepth 20000 in
theorem uC_X4_startKeyed : Cond.code yX4_startKeyed cX4_startKeyed 5 (none : Option FieldType) ∈ UW := mem_UW (in_t4 (List.mem_of_getElem? (i := 9) rfl)) rfl
set_option maxRecDepth 20000 in
theorem uM_L_88 : Cond.methodLink RL 88 yX4_update ∈ UW := mem_UW (in_t4 (List.mem_of_getElem? (i := 10) rfl)) rfl
set_option maxRecDepth 20000 in
theorem uI_X4_update : Cond.instanceMethod yX4_update ∈ UW := mem_UW (in_t4 (List.mem_of_getElem? (i := 11) rfl)) rfl
set_option maxRecDepth 20000 in
theorem uS_X4_update : Cond.selects RX4 yX4_update yX4_update ∈ UW := mem_UW (in_t4 (List.mem_of_getElem? (i := 12) rfl)) rfl
set_option maxRecDepth 20000 in
theorem uC_X4_update : Cond.code yX4_update cX4_update 3 (some FieldType.long) ∈ UW := mem_UW (in_t4 (List.mem_of_getElem? (i := 13) rfl)) rfl
set_option maxRecDepth 20000 in
theorem uM_L_92 : Cond.methodLink RL 92 yX4_repeat ∈ UW := mem_UW (in_t4 (List.mem_of_getElem? (i := 14) rfl)) rfl
set_option maxRecDepth 20000 in
theorem uI_X4_repeat : Cond.instanceMethod yX4_repeat ∈ UW := mem_UW (in_t4 (List.mem_of_getElem? (i := 15) rfl)) rfl
set_option maxRecDepth 20000 in
theorem uS_X4_repeat : Cond.selects RX4 yX4_repeat yX4_repeat ∈ UW := mem_UW (in_t4 (List.mem_of_getElem? (i := 16) rfl)) rfl
set_option maxRecDepth 20000 in
theorem uC_X4_repeat : Cond.code yX4_repeat cX4_repeat 5 (some FieldType.long) ∈ UW := mem_UW (in_t4 (List.mem_of_getElem? (i := 17) rfl)) rfl
set_option maxRecDepth 20000 in
theorem uM_L_95 : Cond.methodLink RL 95 yX4_finish ∈ UW := mem_UW (in_t4 (List.mem_of_getElem? (i := 18) rfl)) rfl
set_option maxRecDepth 20000 in
theorem uI_X4_finish : Cond.instanceMethod yX4_finish ∈ UW := mem_UW (in_t4 (List.mem_of_getElem? (i := 19) rfl)) rfl
set_option maxRecDepth 20000 in
theorem uS_X4_finish : Cond.selects RX4 yX4_finish yX4_finish ∈ UW := mem_UW (in_t4 (List.mem_of_getElem? (i := 20) rfl)) rfl
set_option maxRecDepth 20000 in
theorem uC_X4_finish : Cond.code yX4_finish cX4_finish 3 (some FieldType.int) ∈ UW := mem_UW (in_t4 (List.mem_of_getElem? (i := 21) rfl)) rfl
set_option maxRecDepth 20000 in
theorem uM_X4_162 : Cond.methodLink RX4 162 yX4_copySlot ∈ UW := mem_UW (in_t4 (List.mem_of_getElem? (i := 22) rfl)) rfl
set_option maxRecDepth 20000 in
theorem uI_X4_copySlot : Cond.instanceMethod yX4_copySlot ∈ UW := mem_UW (in_t4 (List.mem_of_getElem? (i := 24) rfl)) rfl
set_option maxRecDepth 20000 in
theorem uC_X4_copySlot : Cond.code yX4_copySlot cX4_copySlot 4 (none : Option FieldType) ∈ UW := mem_UW (in_t4 (List.mem_of_getElem? (i := 25) rfl)) rfl
set_option maxRecDepth 20000 in
theorem uM_X4_165 : Cond.methodLink RX4 165 yX4_absorbDigest ∈ UW := mem_UW (in_t4 (List.mem_of_getElem? (i := 26) rfl)) rfl
set_option maxRecDepth 20000 in
theorem uI_X4_absorbDigest : Cond.instanceMethod yX4_absorbDigest ∈ UW := mem_UW (in_t4 (List.mem_of_getElem? (i := 28) rfl)) rfl
set_option maxRecDepth 20000 in
theorem uC_X4_absorbDigest : Cond.code yX4_absorbDigest cX4_absorbDigest 3 (none : Option FieldType) ∈ UW := mem_UW (in_t4 (List.mem_of_getElem? (i := 29) rfl)) rfl
set_option maxRecDepth 20000 in
theorem uM_X4_180 : Cond.methodLink RX4 180 yX4_digestOut ∈ UW := mem_UW (in_t4 (List.mem_of_getElem? (i := 30) rfl)) rfl
set_option maxRecDepth 20000 in
theorem uI_X4_digestOut : Cond.instanceMethod yX4_digestOut ∈ UW := mem_UW (in_t4 (List.mem_of_getElem? (i := 32) rfl)) rfl
set_option maxRecDepth 20000 in
theorem uC_X4_digestOut : Cond.code yX4_digestOut cX4_digestOut 3 (none : Option FieldType) ∈ UW := mem_UW (in_t4 (List.mem_of_getElem? (i := 33) rfl)) rfl
set_option maxRecDepth 20000 in
theorem uM_L_98 : Cond.methodLink RL 98 yX4_copy ∈ UW := mem_UW (in_t4 (List.mem_of_getElem? (i := 34) rfl)) rfl
set_option maxRecDepth 20000 in
theorem uI_X4_copy : Cond.instanceMethod yX4_copy ∈ UW := mem_UW (in_t4 (List.mem_of_getElem? (i := 35) rfl)) rfl
set_option maxRecDepth 20000 in
theorem uS_X4_copy : Cond.selects RX4 yX4_copy yX4_copy ∈ UW := mem_UW (in_t4 (List.mem_of_getElem? (i := 36) rfl)) rfl
set_option maxRecDepth 20000 in
theorem uC_X4_copy : Cond.code yX4_copy cX4_copy 4 (none : Option FieldType) ∈ UW := mem_UW (in_t4 (List.mem_of_getElem? (i := 37) rfl)) rfl
set_option maxRecDepth 20000 in
theorem uM_L_101 : Cond.methodLink RL 101 yX4_about ∈ UW := mem_UW (in_t4 (List.mem_of_getElem? (i := 38) rfl)) rfl
set_option maxRecDepth 20000 in
theorem uI_X4_about : Cond.instanceMethod yX4_about ∈ UW := mem_UW (in_t4 (List.mem_of_getElem? (i := 39) rfl)) rfl
set_option maxRecDepth 20000 in
theorem uS_X4_about : Cond.selects RX4 yX4_about yX4_about ∈ UW := mem_UW (in_t4 (List.mem_of_getElem? (i := 40) rfl)) rfl
set_option maxRecDepth 20000 in
theorem uC_X4_about : Cond.code yX4_about cX4_about 3 (some FieldType.int) ∈ UW := mem_UW (in_t4 (List.mem_of_getElem? (i := 41) rfl)) rfl
set_option maxRecDepth 20000 in
theorem uM_L_104 : Cond.methodLink RL 104 yX4_hold ∈ UW := mem_UW (in_t4 (List.mem_of_getElem? (i := 42) rfl)) rfl
set_option maxRecDepth 20000 in
theorem uI_X4_hold : Cond.instanceMethod yX4_hold ∈ UW := mem_UW (in_t4 (List.mem_of_getElem? (i := 43) rfl)) rfl
set_option maxRecDepth 20000 in
theorem uS_X4_hold : Cond.selects RX4 yX4_hold yX4_hold ∈ UW := mem_UW (in_t4 (List.mem_of_getElem? (i := 44) rfl)) rfl
set_option maxRecDepth 20000 in
theorem uC_X4_hold : Cond.code yX4_hold cX4_hold 3 (some FieldType.int) ∈ UW := mem_UW (in_t4 (List.mem_of_getElem? (i := 45) rfl)) rfl
set_option maxRecDepth 20000 in
theorem uM_L_107 : Cond.methodLink RL 107 yX4_keep ∈ UW := mem_UW (in_t4 (List.mem_of_getElem? (i := 46) rfl)) rfl
set_option maxRecDepth 20000 in
theorem uI_X4_keep : Cond.instanceMethod yX4_keep ∈ UW := mem_UW (in_t4 (List.mem_of_getElem? (i := 47) rfl)) rfl
set_option maxRecDepth 20000 in
theorem uS_X4_keep : Cond.selects RX4 yX4_keep yX4_keep ∈ UW := mem_UW (in_t4 (List.mem_of_getElem? (i := 48) rfl)) rfl
set_option maxRecDepth 20000 in
theorem uC_X4_keep : Cond.code yX4_keep cX4_keep 3 (some FieldType.int) ∈ UW := mem_UW (in_t4 (List.mem_of_getElem? (i := 49) rfl)) rfl
set_option maxRecDepth 20000 in
theorem uM_L_110 : Cond.methodLink RL 110 yX4_draw ∈ UW := mem_UW (in_t4 (List.mem_of_getElem? (i := 50) rfl)) rfl
set_option maxRecDepth 20000 in
theorem uI_X4_draw : Cond.instanceMethod yX4_draw ∈ UW := mem_UW (in_t4 (List.mem_of_getElem? (i := 51) rfl)) rfl
set_option maxRecDepth 20000 in
theorem uS_X4_draw : Cond.selects RX4 yX4_draw yX4_draw ∈ UW := mem_UW (in_t4 (List.mem_of_getElem? (i := 52) rfl)) rfl
set_option maxRecDepth 20000 in
theorem uC_X4_draw : Cond.code yX4_draw cX4_draw 2 (some FieldType.int) ∈ UW := mem_UW (in_t4 (List.mem_of_getElem? (i := 53) rfl)) rfl
set_option maxRecDepth 20000 in
theorem uM_X4_183 : Cond.methodLink RX4 183 yX4_takeRegister ∈ UW := mem_UW (in_t4 (List.mem_of_getElem? (i := 54) rfl)) rfl
set_option maxRecDepth 20000 in
theorem uI_X4_takeRegister : Cond.instanceMethod yX4_takeRegister ∈ UW := mem_UW (in_t4 (List.mem_of_getElem? (i := 56) rfl)) rfl
set_option maxRecDepth 20000 in
theorem uC_X4_takeRegister : Cond.code yX4_takeRegister cX4_takeRegister 3 (none : Option FieldType) ∈ UW := mem_UW (in_t4 (List.mem_of_getElem? (i := 57) rfl)) rfl
set_option maxRecDepth 20000 in
theorem uM_X4_186 : Cond.methodLink RX4 186 yX4_prepare ∈ UW := mem_UW (in_t4 (List.mem_of_getElem? (i := 58) rfl)) rfl
set_option maxRecDepth 20000 in
theorem uI_X4_prepare : Cond.instanceMethod yX4_prepare ∈ UW := mem_UW (in_t4 (List.mem_of_getElem? (i := 60) rfl)) rfl
set_option maxRecDepth 20000 in
theorem uC_X4_prepare : Cond.code yX4_prepare cX4_prepare 2 (none : Option FieldType) ∈ UW := mem_UW (in_t4 (List.mem_of_getElem? (i := 61) rfl)) rfl
set_option maxRecDepth 20000 in
theorem uM_X4_189 : Cond.methodLink RX4 189 yX4_absorbRegister ∈ UW := mem_UW (in_t4 (List.mem_of_getElem? (i := 62) rfl)) rfl
set_option maxRecDepth 20000 in
theorem uI_X4_absorbRegister : Cond.instanceMethod yX4_absorbRegister ∈ UW := mem_UW (in_t4 (List.mem_of_getElem? (i := 64) rfl)) rfl
set_option maxRecDepth 20000 in
theorem uC_X4_absorbRegister : Cond.code yX4_absorbRegister cX4_absorbRegister 4 (none : Option FieldType) ∈ UW := mem_UW (in_t4 (List.mem_of_getElem? (i := 65) rfl)) rfl
set_option maxRecDepth 20000 in
theorem uM_X4_192 : Cond.methodLink RX4 192 yX4_closeCode ∈ UW := mem_UW (in_t4 (List.mem_of_getElem? (i := 66) rfl)) rfl
set_option maxRecDepth 20000 in
theorem uI_X4_closeCode : Cond.instanceMethod yX4_closeCode ∈ UW := mem_UW (in_t4 (List.mem_of_getElem? (i := 68) rfl)) rfl
set_option maxRecDepth 20000 in
theorem uC_X4_closeCode : Cond.code yX4_closeCode cX4_closeCode 1 (none : Option FieldType) ∈ UW := mem_UW (in_t4 (List.mem_of_getElem? (i := 69) rfl)) rfl
set_option maxRecDepth 20000 in
theorem uM_L_113 : Cond.methodLink RL 113 yX4_spread ∈ UW := mem_UW (in_t4 (List.mem_of_getElem? (i := 70) rfl)) rfl
set_option maxRecDepth 20000 in
theorem uI_X4_spread : Cond.instanceMethod yX4_spread ∈ UW := mem_UW (in_t4 (List.mem_of_getElem? (i := 71) rfl)) rfl
set_option maxRecDepth 20000 in
theorem uS_X4_spread : Cond.selects RX4 yX4_spread yX4_spread ∈ UW := mem_UW (in_t4 (List.mem_of_getElem? (i := 72) rfl)) rfl
set_option maxRecDepth 20000 in
theorem uC_X4_spread : Cond.code yX4_spread cX4_spread 7 (some FieldType.int) ∈ UW := mem_UW (in_t4 (List.mem_of_getElem? (i := 73) rfl)) rfl
set_option maxRecDepth 20000 in
theorem uM_L_116 : Cond.methodLink RL 116 yX4_stretch ∈ UW := mem_UW (in_t4 (List.mem_of_getElem? (i := 74) rfl)) rfl
set_option maxRecDepth 20000 in
theorem uI_X4_stretch : Cond.instanceMethod yX4_stretch ∈ UW := mem_UW (in_t4 (List.mem_of_getElem? (i := 75) rfl)) rfl
set_option maxRecDepth 20000 in
theorem uS_X4_stretch : Cond.selects RX4 yX4_stretch yX4_stretch ∈ UW := mem_UW (in_t4 (List.mem_of_getElem? (i := 76) rfl)) rfl
set_option maxRecDepth 20000 in
theorem uC_X4_stretch : Cond.code yX4_stretch cX4_stretch 9 (some FieldType.int) ∈ UW := mem_UW (in_t4 (List.mem_of_getElem? (i := 77) rfl)) rfl
set_option maxRecDepth 20000 in
theorem uM_L_120 : Cond.methodLink RL 120 yX4_out ∈ UW := mem_UW (in_t4 (List.mem_of_getElem? (i := 78) rfl)) rfl
set_option maxRecDepth 20000 in
theorem uI_X4_out : Cond.instanceMethod yX4_out ∈ UW := mem_UW (in_t4 (List.mem_of_getElem? (i := 79) rfl)) rfl
set_option maxRecDepth 20000 in
theorem uS_X4_out : Cond.selects RX4 yX4_out yX4_out ∈ UW := mem_UW (in_t4 (List.mem_of_getElem? (i := 80) rfl)) rfl
set_option maxRecDepth 20000 in
theorem uC_X4_out : Cond.code yX4_out cX4_out 2 (some FieldType.int) ∈ UW := mem_UW (in_t4 (List.mem_of_getElem? (i := 81) rfl)) rfl
set_option maxRecDepth 20000 in
theorem uM_L_124 : Cond.methodLink RL 124 yX4_outs ∈ UW := mem_UW (in_t4 (List.mem_of_getElem? (i := 82) rfl)) rfl
set_option maxRecDepth 20000 in
theorem uI_X4_outs : Cond.instanceMethod yX4_outs ∈ UW := mem_UW (in_t4 (List.mem_of_getElem? (i := 83) rfl)) rfl
set_option maxRecDepth 20000 in
theorem uS_X4_outs : Cond.selects RX4 yX4_outs yX4_outs ∈ UW := mem_UW (in_t4 (List.mem_of_getElem? (i := 84) rfl)) rfl
set_option maxRecDepth 20000 in
theorem uC_X4_outs : Cond.code yX4_outs cX4_outs 7 (some FieldType.long) ∈ UW := mem_UW (in_t4 (List.mem_of_getElem? (i := 85) rfl)) rfl
set_option maxRecDepth 20000 in
theorem uM_L_129 : Cond.methodLink RL 129 yX4_isOut ∈ UW := mem_UW (in_t4 (List.mem_of_getElem? (i := 86) rfl)) rfl
set_option maxRecDepth 20000 in
theorem uI_X4_isOut : Cond.instanceMethod yX4_isOut ∈ UW := mem_UW (in_t4 (List.mem_of_getElem? (i := 87) rfl)) rfl
set_option maxRecDepth 20000 in
theorem uS_X4_isOut : Cond.selects RX4 yX4_isOut yX4_isOut ∈ UW := mem_UW (in_t4 (List.mem_of_getElem? (i := 88) rfl)) rfl
set_option maxRecDepth 20000 in
theorem uC_X4_isOut : Cond.code yX4_isOut cX4_isOut 3 (some FieldType.boolean) ∈ UW := mem_UW (in_t4 (List.mem_of_getElem? (i := 89) rfl)) rfl
set_option maxRecDepth 20000 in
theorem uM_L_133 : Cond.methodLink RL 133 yX4_constant ∈ UW := mem_UW (in_t4 (List.mem_of_getElem? (i := 90) rfl)) rfl
set_option maxRecDepth 20000 in
theorem uI_X4_constant : Cond.instanceMethod yX4_constant ∈ UW := mem_UW (in_t4 (List.mem_of_getElem? (i := 91) rfl)) rfl
set_option maxRecDepth 20000 in
theorem uS_X4_constant : Cond.selects RX4 yX4_constant yX4_constant ∈ UW := mem_UW (in_t4 (List.mem_of_getElem? (i := 92) rfl)) rfl
set_option maxRecDepth 20000 in
theorem uC_X4_constant : Cond.code yX4_constant cX4_constant 2 (some FieldType.long) ∈ UW := mem_UW (in_t4 (List.mem_of_getElem? (i := 93) rfl)) rfl
set_option maxRecDepth 20000 in
theorem uL_L_65 : Cond.constantLong RL 65 (4294967295) ∈ UW := mem_UW (in_t4 (List.mem_of_getElem? (i := 94) rfl)) rfl
/-- the words of nest mates -/
def gN : List Cond := [Cond.fieldLinkNest RX3 49 "DigestStack$Row" "size" "I" "DigestStack", Cond.fieldLinkNest RX2 55 "DigestStack$Row" "size" "I" "DigestStack", Cond.fieldLinkNest RX0 63 "DigestStack$Row" "size" "I" "DigestStack", Cond.arrayOver (.object "DigestStack$Row"), Cond.arrayOver (.object "DigestStack$Stream"), Cond.methodLinkNest RX3 31 yX2_init "DigestStack", Cond.methodLinkNest RX2 11 yX0_init "DigestStack", Cond.fieldLinkNest RX3 94 "DigestStack$Stream" "kind" "I" "DigestStack", Cond.fieldLinkNest RX3 106 "DigestStack$Stream" "coded" "Z" "DigestStack", Cond.fieldLinkNest RX3 110 "DigestStack$Stream" "ended" "Z" "DigestStack", Cond.fieldLinkNest RX3 82 "DigestStack$Stream" "length" "J" "DigestStack", Cond.fieldLinkNest RX0 41 "DigestStack" "NEXT_SQUARE_ROOTS" "[J" "DigestStack", Cond.fieldLinkNest RX0 46 "DigestStack" "FIRST_SQUARE_ROOTS" "[J" "DigestStack", Cond.methodLinkNest RX2 58 yX3_blockSize "DigestStack", Cond.methodLinkNest RX0 49 yX3_blockSize "DigestStack", Cond.methodLinkNest RX0 71 yX3_isWide "DigestStack", Cond.fieldLinkNest RX0 107 "DigestStack" "THIRD_ROOTS" "[J" "DigestStack", Cond.methodLinkNest RX0 90 yX3_digestSize "DigestStack"]
set_option maxRecDepth 20000 in
theorem gN_tbl : ∀ w ∈ gN, w ∈ lw_tbl := List.forall_mem_cons.mpr ⟨(in_t1 (List.mem_of_getElem? (i := 32) rfl)), List.forall_mem_cons.mpr ⟨(in_t1 (List.mem_of_getElem? (i := 33) rfl)), List.forall_mem_cons.mpr ⟨(in_t1 (List.mem_of_getElem? (i := 34) rfl)), List.forall_mem_cons.mpr ⟨(in_t1 (List.mem_of_getElem? (i := 41) rfl)), List.forall_mem_cons.mpr ⟨(in_t1 (List.mem_of_getElem? (i := 43) rfl)), List.forall_mem_cons.mpr ⟨(in_t1 (List.mem_of_getElem? (i := 45) rfl)), List.forall_mem_cons.mpr ⟨(in_t1 (List.mem_of_getElem? (i := 51) rfl)), List.forall_mem_cons.mpr ⟨(in_t1 (List.mem_of_getElem? (i := 86) rfl)), List.forall_mem_cons.mpr ⟨(in_t1 (List.mem_of_getElem? (i := 88) rfl)), List.forall_mem_cons.mpr ⟨(in_t1 (List.mem_of_getElem? (i := 90) rfl)), List.forall_mem_cons.mpr ⟨(in_t1 (List.mem_of_getElem? (i := 92) rfl)), List.forall_mem_cons.mpr ⟨(in_t2 (List.mem_of_getElem? (i := 53) rfl)), List.forall_mem_cons.mpr ⟨(in_t2 (List.mem_of_getElem? (i := 56) rfl)), List.forall_mem_cons.mpr ⟨(in_t2 (List.mem_of_getElem? (i := 70) rfl)), List.forall_mem_cons.mpr ⟨(in_t2 (List.mem_of_getElem? (i := 85) rfl)), List.forall_mem_cons.mpr ⟨(in_t2 (List.mem_of_getElem? (i := 86) rfl)), List.forall_mem_cons.mpr ⟨(in_t2 (List.mem_of_getElem? (i := 99) rfl)), List.forall_mem_cons.mpr ⟨(in_t2 (List.mem_of_getElem? (i := 121) rfl)), fun _ h => absurd h List.not_mem_nil⟩⟩⟩⟩⟩⟩⟩⟩⟩⟩⟩⟩⟩⟩⟩⟩⟩⟩
theorem nF_X3_49 : Cond.fieldLinkNest RX3 49 "DigestStack$Row" "size" "I" "DigestStack" ∈ gN := List.mem_of_getElem? (i := 0) rfl
theorem nF_X2_55 : Cond.fieldLinkNest RX2 55 "DigestStack$Row" "size" "I" "DigestStack" ∈ gN := List.mem_of_getElem? (i := 1) rfl
theorem nF_X0_63 : Cond.fieldLinkNest RX0 63 "DigestStack$Row" "size" "I" "DigestStack" ∈ gN := List.mem_of_getElem? (i := 2) rfl
theorem nO_X1 : Cond.arrayOver (.object "DigestStack$Row") ∈ gN := List.mem_of_getElem? (i := 3) rfl
theorem nO_X2 : Cond.arrayOver (.object "DigestStack$Stream") ∈ gN := List.mem_of_getElem? (i := 4) rfl
theorem nM_X3_31 : Cond.methodLinkNest RX3 31 yX2_init "DigestStack" ∈ gN := List.mem_of_getElem? (i := 5) rfl
theorem nM_X2_11 : Cond.methodLinkNest RX2 11 yX0_init "DigestStack" ∈ gN := List.mem_of_getElem? (i := 6) rfl
theorem nF_X3_94 : Cond.fieldLinkNest RX3 94 "DigestStack$Stream" "kind" "I" "DigestStack" ∈ gN := List.mem_of_getElem? (i := 7) rfl
theorem nF_X3_106 : Cond.fieldLinkNest RX3 106 "DigestStack$Stream" "coded" "Z" "DigestStack" ∈ gN := List.mem_of_getElem? (i := 8) rfl
theorem nF_X3_110 : Cond.fieldLinkNest RX3 110 "DigestStack$Stream" "ended" "Z" "DigestStack" ∈ gN := List.mem_of_getElem? (i := 9) rfl
theorem nF_X3_82 : Cond.fieldLinkNest RX3 82 "DigestStack$Stream" "length" "J" "DigestStack" ∈ gN := List.mem_of_getElem? (i := 10) rfl
theorem nF_X0_41 : Cond.fieldLinkNest RX0 41 "DigestStack" "NEXT_SQUARE_ROOTS" "[J" "DigestStack" ∈ gN := List.mem_of_getElem? (i := 11) rfl
theorem nF_X0_46 : Cond.fieldLinkNest RX0 46 "DigestStack" "FIRST_SQUARE_ROOTS" "[J" "DigestStack" ∈ gN := List.mem_of_getElem? (i := 12) rfl
theorem nM_X2_58 : Cond.methodLinkNest RX2 58 yX3_blockSize "DigestStack" ∈ gN := List.mem_of_getElem? (i := 13) rfl
theorem nM_X0_49 : Cond.methodLinkNest RX0 49 yX3_blockSize "DigestStack" ∈ gN := List.mem_of_getElem? (i := 14) rfl
theorem nM_X0_71 : Cond.methodLinkNest RX0 71 yX3_isWide "DigestStack" ∈ gN := List.mem_of_getElem? (i := 15) rfl
theorem nF_X0_107 : Cond.fieldLinkNest RX0 107 "DigestStack" "THIRD_ROOTS" "[J" "DigestStack" ∈ gN := List.mem_of_getElem? (i := 16) rfl
theorem nM_X0_90 : Cond.methodLinkNest RX0 90 yX3_digestSize "DigestStack" ∈ gN := List.mem_of_getElem? (i := 17) rfl
set_option maxRecDepth 20000 in
theorem iwX0 : ∀ w ∈ u_ws RX0 TX0 7, w ∈ UW := fun w h => mem_UW ((by decide +kernel : ∀ w ∈ u_ws RX0 TX0 7, w ∈ lw_tbl) w h) ((by decide +kernel : ∀ w ∈ u_ws RX0 TX0 7, goodWord w = true) w h)
set_option maxRecDepth 20000 in
theorem iwX1 : ∀ w ∈ u_ws RX1 TX1 2, w ∈ UW := fun w h => mem_UW ((by decide +kernel : ∀ w ∈ u_ws RX1 TX1 2, w ∈ lw_tbl) w h) ((by decide +kernel : ∀ w ∈ u_ws RX1 TX1 2, goodWord w = true) w h)
set_option maxRecDepth 20000 in
theorem iwX2 : ∀ w ∈ u_ws RX2 TX2 8, w ∈ UW := fun w h => mem_UW ((by decide +kernel : ∀ w ∈ u_ws RX2 TX2 8, w ∈ lw_tbl) w h) ((by decide +kernel : ∀ w ∈ u_ws RX2 TX2 8, goodWord w = true) w h)
set_option maxRecDepth 20000 in
theorem iwX3 : ∀ w ∈ u_ws RX3 TX3 7, w ∈ UW := fun w h => mem_UW ((by decide +kernel : ∀ w ∈ u_ws RX3 TX3 7, w ∈ lw_tbl) w h) ((by decide +kernel : ∀ w ∈ u_ws RX3 TX3 7, goodWord w = true) w h)
set_option maxRecDepth 20000 in
theorem iwX4 : ∀ w ∈ u_ws RX4 TX4 29, w ∈ UW := fun w h => mem_UW ((by decide +kernel : ∀ w ∈ u_ws RX4 TX4 29, w ∈ lw_tbl) w h) ((by decide +kernel : ∀ w ∈ u_ws RX4 TX4 29, goodWord w = true) w h)
