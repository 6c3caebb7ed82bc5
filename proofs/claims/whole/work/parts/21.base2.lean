/-! what a method's call needs; numbers; arrays by places -/
theorem ok_J13_rotateRight_b2ac5 : gOk yJ13_rotateRight_b2ac5 cJ13_rotateRight_b2ac5 3 (some FieldType.long) 2 := ⟨uN_J13, uC_J13_rotateRight_b2ac5, by decide +kernel⟩
theorem ok_J6_rotateRight_7cf53 : gOk yJ6_rotateRight_7cf53 cJ6_rotateRight_7cf53 2 (some FieldType.int) 2 := ⟨uN_J6, uC_J6_rotateRight_7cf53, by decide +kernel⟩
theorem ok_J9_max_7cf53 : gOk yJ9_max_7cf53 cJ9_max_7cf53 2 (some FieldType.int) 2 := ⟨uN_J9, uC_J9_max_7cf53, by decide +kernel⟩
theorem ok_X0_add : gOk yX0_add cX0_add 2 (none : Option FieldType) 1 := ⟨uN_X0, uC_X0_add, by decide +kernel⟩
theorem in_X0_add : gIn yX0_add := ⟨uI_X0_add, uS_X0_add⟩
theorem ok_X0_addRow : gOk yX0_addRow cX0_addRow 3 (none : Option FieldType) 1 := ⟨uN_X0, uC_X0_addRow, by decide +kernel⟩
theorem in_X0_addRow : gIn yX0_addRow := ⟨uI_X0_addRow, uS_X0_addRow⟩
theorem ok_X0_become : gOk yX0_become cX0_become 2 (none : Option FieldType) 1 := ⟨uN_X0, uC_X0_become, by decide +kernel⟩
theorem in_X0_become : gIn yX0_become := ⟨uI_X0_become, uS_X0_become⟩
theorem ok_X0_firstWord : gOk yX0_firstWord cX0_firstWord 2 (some FieldType.long) 2 := ⟨uN_X0, uC_X0_firstWord, by decide +kernel⟩
theorem ok_X0_init : gOk yX0_init cX0_init 1 (none : Option FieldType) 0 := ⟨uN_X0, uC_X0_init, by decide +kernel⟩
theorem ok_X0_layNarrow : gOk yX0_layNarrow cX0_layNarrow 6 (none : Option FieldType) 0 := ⟨uN_X0, uC_X0_layNarrow, by decide +kernel⟩
theorem in_X0_layNarrow : gIn yX0_layNarrow := ⟨uI_X0_layNarrow, uS_X0_layNarrow⟩
theorem ok_X0_layWide : gOk yX0_layWide cX0_layWide 10 (none : Option FieldType) 0 := ⟨uN_X0, uC_X0_layWide, by decide +kernel⟩
theorem in_X0_layWide : gIn yX0_layWide := ⟨uI_X0_layWide, uS_X0_layWide⟩
theorem ok_X0_mixNarrow : gOk yX0_mixNarrow cX0_mixNarrow 14 (none : Option FieldType) 0 := ⟨uN_X0, uC_X0_mixNarrow, by decide +kernel⟩
theorem in_X0_mixNarrow : gIn yX0_mixNarrow := ⟨uI_X0_mixNarrow, uS_X0_mixNarrow⟩
theorem ok_X0_mixWide : gOk yX0_mixWide cX0_mixWide 26 (none : Option FieldType) 0 := ⟨uN_X0, uC_X0_mixWide, by decide +kernel⟩
theorem in_X0_mixWide : gIn yX0_mixWide := ⟨uI_X0_mixWide, uS_X0_mixWide⟩
theorem ok_X0_octetOfWords : gOk yX0_octetOfWords cX0_octetOfWords 2 (some FieldType.int) 1 := ⟨uN_X0, uC_X0_octetOfWords, by decide +kernel⟩
theorem in_X0_octetOfWords : gIn yX0_octetOfWords := ⟨uI_X0_octetOfWords, uS_X0_octetOfWords⟩
theorem ok_X0_pad : gOk yX0_pad cX0_pad 6 (none : Option FieldType) 0 := ⟨uN_X0, uC_X0_pad, by decide +kernel⟩
theorem in_X0_pad : gIn yX0_pad := ⟨uI_X0_pad, uS_X0_pad⟩
theorem ok_X0_place : gOk yX0_place cX0_place 2 (none : Option FieldType) 1 := ⟨uN_X0, uC_X0_place, by decide +kernel⟩
theorem in_X0_place : gIn yX0_place := ⟨uI_X0_place, uS_X0_place⟩
theorem ok_X0_saveWords : gOk yX0_saveWords cX0_saveWords 3 (none : Option FieldType) 1 := ⟨uN_X0, uC_X0_saveWords, by decide +kernel⟩
theorem in_X0_saveWords : gIn yX0_saveWords := ⟨uI_X0_saveWords, uS_X0_saveWords⟩
theorem ok_X0_start : gOk yX0_start cX0_start 3 (none : Option FieldType) 1 := ⟨uN_X0, uC_X0_start, by decide +kernel⟩
theorem in_X0_start : gIn yX0_start := ⟨uI_X0_start, uS_X0_start⟩
theorem ok_X0_startBehindBlock : gOk yX0_startBehindBlock cX0_startBehindBlock 4 (none : Option FieldType) 2 := ⟨uN_X0, uC_X0_startBehindBlock, by decide +kernel⟩
theorem in_X0_startBehindBlock : gIn yX0_startBehindBlock := ⟨uI_X0_startBehindBlock, uS_X0_startBehindBlock⟩
theorem ok_X0_writeDigest : gOk yX0_writeDigest cX0_writeDigest 3 (none : Option FieldType) 1 := ⟨uN_X0, uC_X0_writeDigest, by decide +kernel⟩
theorem in_X0_writeDigest : gIn yX0_writeDigest := ⟨uI_X0_writeDigest, uS_X0_writeDigest⟩
theorem ok_X1_append : gOk yX1_append cX1_append 2 (none : Option FieldType) 1 := ⟨uN_X1, uC_X1_append, by decide +kernel⟩
theorem in_X1_append : gIn yX1_append := ⟨uI_X1_append, uS_X1_append⟩
theorem ok_X1_appendUpTo : gOk yX1_appendUpTo cX1_appendUpTo 4 (none : Option FieldType) 2 := ⟨uN_X1, uC_X1_appendUpTo, by decide +kernel⟩
theorem in_X1_appendUpTo : gIn yX1_appendUpTo := ⟨uI_X1_appendUpTo, uS_X1_appendUpTo⟩
theorem ok_X1_at : gOk yX1_at cX1_at 2 (some FieldType.int) 1 := ⟨uN_X1, uC_X1_at, by decide +kernel⟩
theorem in_X1_at : gIn yX1_at := ⟨uI_X1_at, uS_X1_at⟩
theorem ok_X1_atOrZero : gOk yX1_atOrZero cX1_atOrZero 2 (some FieldType.int) 1 := ⟨uN_X1, uC_X1_atOrZero, by decide +kernel⟩
theorem in_X1_atOrZero : gIn yX1_atOrZero := ⟨uI_X1_atOrZero, uS_X1_atOrZero⟩
theorem ok_X1_become : gOk yX1_become cX1_become 2 (none : Option FieldType) 1 := ⟨uN_X1, uC_X1_become, by decide +kernel⟩
theorem in_X1_become : gIn yX1_become := ⟨uI_X1_become, uS_X1_become⟩
theorem ok_X1_clear : gOk yX1_clear cX1_clear 1 (none : Option FieldType) 0 := ⟨uN_X1, uC_X1_clear, by decide +kernel⟩
theorem in_X1_clear : gIn yX1_clear := ⟨uI_X1_clear, uS_X1_clear⟩
theorem ok_X1_init : gOk yX1_init cX1_init 2 (none : Option FieldType) 1 := ⟨uN_X1, uC_X1_init, by decide +kernel⟩
theorem ok_X1_sameAs : gOk yX1_sameAs cX1_sameAs 3 (some FieldType.boolean) 1 := ⟨uN_X1, uC_X1_sameAs, by decide +kernel⟩
theorem in_X1_sameAs : gIn yX1_sameAs := ⟨uI_X1_sameAs, uS_X1_sameAs⟩
theorem ok_X1_xorWith : gOk yX1_xorWith cX1_xorWith 3 (none : Option FieldType) 1 := ⟨uN_X1, uC_X1_xorWith, by decide +kernel⟩
theorem in_X1_xorWith : gIn yX1_xorWith := ⟨uI_X1_xorWith, uS_X1_xorWith⟩
theorem ok_X2_addOctet : gOk yX2_addOctet cX2_addOctet 2 (none : Option FieldType) 1 := ⟨uN_X2, uC_X2_addOctet, by decide +kernel⟩
theorem in_X2_addOctet : gIn yX2_addOctet := ⟨uI_X2_addOctet, uS_X2_addOctet⟩
theorem ok_X2_addRow : gOk yX2_addRow cX2_addRow 2 (none : Option FieldType) 1 := ⟨uN_X2, uC_X2_addRow, by decide +kernel⟩
theorem in_X2_addRow : gIn yX2_addRow := ⟨uI_X2_addRow, uS_X2_addRow⟩
theorem ok_X2_become : gOk yX2_become cX2_become 2 (none : Option FieldType) 1 := ⟨uN_X2, uC_X2_become, by decide +kernel⟩
theorem in_X2_become : gIn yX2_become := ⟨uI_X2_become, uS_X2_become⟩
theorem ok_X2_closeInto : gOk yX2_closeInto cX2_closeInto 2 (none : Option FieldType) 1 := ⟨uN_X2, uC_X2_closeInto, by decide +kernel⟩
theorem in_X2_closeInto : gIn yX2_closeInto := ⟨uI_X2_closeInto, uS_X2_closeInto⟩
theorem ok_X2_init : gOk yX2_init cX2_init 1 (none : Option FieldType) 0 := ⟨uN_X2, uC_X2_init, by decide +kernel⟩
theorem ok_X2_loose : gOk yX2_loose cX2_loose 1 (some FieldType.int) 0 := ⟨uN_X2, uC_X2_loose, by decide +kernel⟩
theorem in_X2_loose : gIn yX2_loose := ⟨uI_X2_loose, uS_X2_loose⟩
theorem ok_X2_restartCode : gOk yX2_restartCode cX2_restartCode 1 (none : Option FieldType) 0 := ⟨uN_X2, uC_X2_restartCode, by decide +kernel⟩
theorem in_X2_restartCode : gIn yX2_restartCode := ⟨uI_X2_restartCode, uS_X2_restartCode⟩
theorem ok_X2_startCode : gOk yX2_startCode cX2_startCode 3 (none : Option FieldType) 2 := ⟨uN_X2, uC_X2_startCode, by decide +kernel⟩
theorem in_X2_startCode : gIn yX2_startCode := ⟨uI_X2_startCode, uS_X2_startCode⟩
theorem ok_X2_startDigest : gOk yX2_startDigest cX2_startDigest 2 (none : Option FieldType) 1 := ⟨uN_X2, uC_X2_startDigest, by decide +kernel⟩
theorem in_X2_startDigest : gIn yX2_startDigest := ⟨uI_X2_startDigest, uS_X2_startDigest⟩
theorem ok_X2_startFromKey : gOk yX2_startFromKey cX2_startFromKey 4 (none : Option FieldType) 2 := ⟨uN_X2, uC_X2_startFromKey, by decide +kernel⟩
theorem in_X2_startFromKey : gIn yX2_startFromKey := ⟨uI_X2_startFromKey, uS_X2_startFromKey⟩
theorem ok_X3_about : gOk yX3_about cX3_about 4 (some FieldType.int) 2 := ⟨uN_X3, uC_X3_about, by decide +kernel⟩
theorem in_X3_about : gIn yX3_about := ⟨uI_X3_about, uS_X3_about⟩
theorem ok_X3_begin : gOk yX3_begin cX3_begin 4 (none : Option FieldType) 2 := ⟨uN_X3, uC_X3_begin, by decide +kernel⟩
theorem in_X3_begin : gIn yX3_begin := ⟨uI_X3_begin, uS_X3_begin⟩
theorem ok_X3_blockSize : gOk yX3_blockSize cX3_blockSize 1 (some FieldType.int) 1 := ⟨uN_X3, uC_X3_blockSize, by decide +kernel⟩
theorem ok_X3_checkKind : gOk yX3_checkKind cX3_checkKind 1 (none : Option FieldType) 1 := ⟨uN_X3, uC_X3_checkKind, by decide +kernel⟩
theorem ok_X3_code : gOk yX3_code cX3_code 5 (some FieldType.int) 2 := ⟨uN_X3, uC_X3_code, by decide +kernel⟩
theorem in_X3_code : gIn yX3_code := ⟨uI_X3_code, uS_X3_code⟩
theorem ok_X3_constant : gOk yX3_constant cX3_constant 2 (some FieldType.long) 1 := ⟨uN_X3, uC_X3_constant, by decide +kernel⟩
theorem in_X3_constant : gIn yX3_constant := ⟨uI_X3_constant, uS_X3_constant⟩
theorem ok_X3_copy : gOk yX3_copy cX3_copy 5 (none : Option FieldType) 2 := ⟨uN_X3, uC_X3_copy, by decide +kernel⟩
theorem in_X3_copy : gIn yX3_copy := ⟨uI_X3_copy, uS_X3_copy⟩
theorem ok_X3_digestSize : gOk yX3_digestSize cX3_digestSize 1 (some FieldType.int) 1 := ⟨uN_X3, uC_X3_digestSize, by decide +kernel⟩
theorem ok_X3_draw : gOk yX3_draw cX3_draw 2 (some FieldType.int) 1 := ⟨uN_X3, uC_X3_draw, by decide +kernel⟩
theorem in_X3_draw : gIn yX3_draw := ⟨uI_X3_draw, uS_X3_draw⟩
theorem ok_X3_feed : gOk yX3_feed cX3_feed 5 (some FieldType.int) 2 := ⟨uN_X3, uC_X3_feed, by decide +kernel⟩
theorem in_X3_feed : gIn yX3_feed := ⟨uI_X3_feed, uS_X3_feed⟩
theorem ok_X3_finish : gOk yX3_finish cX3_finish 3 (some FieldType.int) 1 := ⟨uN_X3, uC_X3_finish, by decide +kernel⟩
theorem in_X3_finish : gIn yX3_finish := ⟨uI_X3_finish, uS_X3_finish⟩
theorem ok_X3_hold : gOk yX3_hold cX3_hold 3 (some FieldType.int) 1 := ⟨uN_X3, uC_X3_hold, by decide +kernel⟩
theorem in_X3_hold : gIn yX3_hold := ⟨uI_X3_hold, uS_X3_hold⟩
theorem ok_X3_init : gOk yX3_init cX3_init 2 (none : Option FieldType) 0 := ⟨uN_X3, uC_X3_init, by decide +kernel⟩
theorem ok_X3_isOut : gOk yX3_isOut cX3_isOut 2 (some FieldType.boolean) 0 := ⟨uN_X3, uC_X3_isOut, by decide +kernel⟩
theorem in_X3_isOut : gIn yX3_isOut := ⟨uI_X3_isOut, uS_X3_isOut⟩
theorem ok_X3_isWide : gOk yX3_isWide cX3_isWide 1 (some FieldType.boolean) 1 := ⟨uN_X3, uC_X3_isWide, by decide +kernel⟩
theorem ok_X3_keep : gOk yX3_keep cX3_keep 3 (some FieldType.int) 1 := ⟨uN_X3, uC_X3_keep, by decide +kernel⟩
theorem in_X3_keep : gIn yX3_keep := ⟨uI_X3_keep, uS_X3_keep⟩
theorem ok_X3_nextLink : gOk yX3_nextLink cX3_nextLink 2 (none : Option FieldType) 1 := ⟨uN_X3, uC_X3_nextLink, by decide +kernel⟩
theorem in_X3_nextLink : gIn yX3_nextLink := ⟨uI_X3_nextLink, uS_X3_nextLink⟩
theorem ok_X3_openStreamAt : gOk yX3_openStreamAt cX3_openStreamAt 3 (some (FieldType.object "DigestStack$Stream")) 1 := ⟨uN_X3, uC_X3_openStreamAt, by decide +kernel⟩
theorem in_X3_openStreamAt : gIn yX3_openStreamAt := ⟨uI_X3_openStreamAt, uS_X3_openStreamAt⟩
theorem ok_X3_out : gOk yX3_out cX3_out 2 (some FieldType.int) 1 := ⟨uN_X3, uC_X3_out, by decide +kernel⟩
theorem in_X3_out : gIn yX3_out := ⟨uI_X3_out, uS_X3_out⟩
theorem ok_X3_outs : gOk yX3_outs cX3_outs 5 (some FieldType.long) 1 := ⟨uN_X3, uC_X3_outs, by decide +kernel⟩
theorem in_X3_outs : gIn yX3_outs := ⟨uI_X3_outs, uS_X3_outs⟩
theorem ok_X3_registerAt : gOk yX3_registerAt cX3_registerAt 2 (some (FieldType.object "DigestStack$Row")) 1 := ⟨uN_X3, uC_X3_registerAt, by decide +kernel⟩
theorem in_X3_registerAt : gIn yX3_registerAt := ⟨uI_X3_registerAt, uS_X3_registerAt⟩
theorem ok_X3_repeat : gOk yX3_repeat cX3_repeat 6 (some FieldType.long) 3 := ⟨uN_X3, uC_X3_repeat, by decide +kernel⟩
theorem in_X3_repeat : gIn yX3_repeat := ⟨uI_X3_repeat, uS_X3_repeat⟩
theorem ok_X3_spread : gOk yX3_spread cX3_spread 4 (some FieldType.int) 2 := ⟨uN_X3, uC_X3_spread, by decide +kernel⟩
theorem in_X3_spread : gIn yX3_spread := ⟨uI_X3_spread, uS_X3_spread⟩
theorem ok_X3_streamAt : gOk yX3_streamAt cX3_streamAt 2 (some (FieldType.object "DigestStack$Stream")) 1 := ⟨uN_X3, uC_X3_streamAt, by decide +kernel⟩
theorem in_X3_streamAt : gIn yX3_streamAt := ⟨uI_X3_streamAt, uS_X3_streamAt⟩
theorem ok_X3_stretch : gOk yX3_stretch cX3_stretch 5 (some FieldType.int) 3 := ⟨uN_X3, uC_X3_stretch, by decide +kernel⟩
theorem in_X3_stretch : gIn yX3_stretch := ⟨uI_X3_stretch, uS_X3_stretch⟩
theorem ok_X3_sumTurns : gOk yX3_sumTurns cX3_sumTurns 4 (none : Option FieldType) 2 := ⟨uN_X3, uC_X3_sumTurns, by decide +kernel⟩
theorem in_X3_sumTurns : gIn yX3_sumTurns := ⟨uI_X3_sumTurns, uS_X3_sumTurns⟩
theorem ok_X3_update : gOk yX3_update cX3_update 3 (some FieldType.long) 1 := ⟨uN_X3, uC_X3_update, by decide +kernel⟩
theorem in_X3_update : gIn yX3_update := ⟨uI_X3_update, uS_X3_update⟩
theorem ok_X4_about : gOk yX4_about cX4_about 3 (some FieldType.int) 2 := ⟨uN_X4, uC_X4_about, by decide +kernel⟩
theorem in_X4_about : gIn yX4_about := ⟨uI_X4_about, uS_X4_about⟩
theorem ok_X4_absorb : gOk yX4_absorb cX4_absorb 3 (none : Option FieldType) 2 := ⟨uN_X4, uC_X4_absorb, by decide +kernel⟩
theorem in_X4_absorb : gIn yX4_absorb := ⟨uI_X4_absorb, uS_X4_absorb⟩
theorem ok_X4_absorbDigest : gOk yX4_absorbDigest cX4_absorbDigest 3 (none : Option FieldType) 1 := ⟨uN_X4, uC_X4_absorbDigest, by decide +kernel⟩
theorem in_X4_absorbDigest : gIn yX4_absorbDigest := ⟨uI_X4_absorbDigest, uS_X4_absorbDigest⟩
theorem ok_X4_absorbRegister : gOk yX4_absorbRegister cX4_absorbRegister 4 (none : Option FieldType) 2 := ⟨uN_X4, uC_X4_absorbRegister, by decide +kernel⟩
theorem in_X4_absorbRegister : gIn yX4_absorbRegister := ⟨uI_X4_absorbRegister, uS_X4_absorbRegister⟩
theorem ok_X4_begin : gOk yX4_begin cX4_begin 3 (none : Option FieldType) 2 := ⟨uN_X4, uC_X4_begin, by decide +kernel⟩
theorem in_X4_begin : gIn yX4_begin := ⟨uI_X4_begin, uS_X4_begin⟩
theorem ok_X4_blockOf : gOk yX4_blockOf cX4_blockOf 1 (some FieldType.int) 1 := ⟨uN_X4, uC_X4_blockOf, by decide +kernel⟩
theorem ok_X4_clearFigures : gOk yX4_clearFigures cX4_clearFigures 2 (none : Option FieldType) 0 := ⟨uN_X4, uC_X4_clearFigures, by decide +kernel⟩
theorem in_X4_clearFigures : gIn yX4_clearFigures := ⟨uI_X4_clearFigures, uS_X4_clearFigures⟩
theorem ok_X4_close : gOk yX4_close cX4_close 7 (none : Option FieldType) 1 := ⟨uN_X4, uC_X4_close, by decide +kernel⟩
theorem in_X4_close : gIn yX4_close := ⟨uI_X4_close, uS_X4_close⟩
theorem ok_X4_closeCode : gOk yX4_closeCode cX4_closeCode 1 (none : Option FieldType) 0 := ⟨uN_X4, uC_X4_closeCode, by decide +kernel⟩
theorem in_X4_closeCode : gIn yX4_closeCode := ⟨uI_X4_closeCode, uS_X4_closeCode⟩
theorem ok_X4_code : gOk yX4_code cX4_code 4 (some FieldType.int) 2 := ⟨uN_X4, uC_X4_code, by decide +kernel⟩
theorem in_X4_code : gIn yX4_code := ⟨uI_X4_code, uS_X4_code⟩
theorem ok_X4_constant : gOk yX4_constant cX4_constant 2 (some FieldType.long) 1 := ⟨uN_X4, uC_X4_constant, by decide +kernel⟩
theorem in_X4_constant : gIn yX4_constant := ⟨uI_X4_constant, uS_X4_constant⟩
theorem ok_X4_copy : gOk yX4_copy cX4_copy 4 (none : Option FieldType) 2 := ⟨uN_X4, uC_X4_copy, by decide +kernel⟩
theorem in_X4_copy : gIn yX4_copy := ⟨uI_X4_copy, uS_X4_copy⟩
theorem ok_X4_copySlot : gOk yX4_copySlot cX4_copySlot 4 (none : Option FieldType) 2 := ⟨uN_X4, uC_X4_copySlot, by decide +kernel⟩
theorem in_X4_copySlot : gIn yX4_copySlot := ⟨uI_X4_copySlot, uS_X4_copySlot⟩
theorem ok_X4_digestOf : gOk yX4_digestOf cX4_digestOf 1 (some FieldType.int) 1 := ⟨uN_X4, uC_X4_digestOf, by decide +kernel⟩
theorem ok_X4_digestOut : gOk yX4_digestOut cX4_digestOut 3 (none : Option FieldType) 1 := ⟨uN_X4, uC_X4_digestOut, by decide +kernel⟩
theorem in_X4_digestOut : gIn yX4_digestOut := ⟨uI_X4_digestOut, uS_X4_digestOut⟩
theorem ok_X4_draw : gOk yX4_draw cX4_draw 2 (some FieldType.int) 1 := ⟨uN_X4, uC_X4_draw, by decide +kernel⟩
theorem in_X4_draw : gIn yX4_draw := ⟨uI_X4_draw, uS_X4_draw⟩
theorem ok_X4_feed : gOk yX4_feed cX4_feed 5 (some FieldType.int) 2 := ⟨uN_X4, uC_X4_feed, by decide +kernel⟩
theorem in_X4_feed : gIn yX4_feed := ⟨uI_X4_feed, uS_X4_feed⟩
theorem ok_X4_finish : gOk yX4_finish cX4_finish 3 (some FieldType.int) 1 := ⟨uN_X4, uC_X4_finish, by decide +kernel⟩
theorem in_X4_finish : gIn yX4_finish := ⟨uI_X4_finish, uS_X4_finish⟩
theorem ok_X4_hold : gOk yX4_hold cX4_hold 3 (some FieldType.int) 1 := ⟨uN_X4, uC_X4_hold, by decide +kernel⟩
theorem in_X4_hold : gIn yX4_hold := ⟨uI_X4_hold, uS_X4_hold⟩
theorem ok_X4_init : gOk yX4_init cX4_init 3 (none : Option FieldType) 0 := ⟨uN_X4, uC_X4_init, by decide +kernel⟩
theorem ok_X4_isAtMost : gOk yX4_isAtMost cX4_isAtMost 5 (some FieldType.boolean) 2 := ⟨uN_X4, uC_X4_isAtMost, by decide +kernel⟩
theorem in_X4_isAtMost : gIn yX4_isAtMost := ⟨uI_X4_isAtMost, uS_X4_isAtMost⟩
theorem ok_X4_isJust : gOk yX4_isJust cX4_isJust 6 (some FieldType.boolean) 3 := ⟨uN_X4, uC_X4_isJust, by decide +kernel⟩
theorem in_X4_isJust : gIn yX4_isJust := ⟨uI_X4_isJust, uS_X4_isJust⟩
theorem ok_X4_isOut : gOk yX4_isOut cX4_isOut 3 (some FieldType.boolean) 0 := ⟨uN_X4, uC_X4_isOut, by decide +kernel⟩
theorem in_X4_isOut : gIn yX4_isOut := ⟨uI_X4_isOut, uS_X4_isOut⟩
theorem ok_X4_isPrime : gOk yX4_isPrime cX4_isPrime 3 (some FieldType.boolean) 1 := ⟨uN_X4, uC_X4_isPrime, by decide +kernel⟩
theorem ok_X4_keep : gOk yX4_keep cX4_keep 3 (some FieldType.int) 1 := ⟨uN_X4, uC_X4_keep, by decide +kernel⟩
theorem in_X4_keep : gIn yX4_keep := ⟨uI_X4_keep, uS_X4_keep⟩
theorem ok_X4_narrowBlock : gOk yX4_narrowBlock cX4_narrowBlock 14 (none : Option FieldType) 1 := ⟨uN_X4, uC_X4_narrowBlock, by decide +kernel⟩
theorem in_X4_narrowBlock : gIn yX4_narrowBlock := ⟨uI_X4_narrowBlock, uS_X4_narrowBlock⟩
theorem ok_X4_noKind : gOk yX4_noKind cX4_noKind 1 (some FieldType.boolean) 1 := ⟨uN_X4, uC_X4_noKind, by decide +kernel⟩
theorem ok_X4_noStream : gOk yX4_noStream cX4_noStream 1 (some FieldType.boolean) 1 := ⟨uN_X4, uC_X4_noStream, by decide +kernel⟩
theorem ok_X4_out : gOk yX4_out cX4_out 2 (some FieldType.int) 1 := ⟨uN_X4, uC_X4_out, by decide +kernel⟩
theorem in_X4_out : gIn yX4_out := ⟨uI_X4_out, uS_X4_out⟩
theorem ok_X4_outs : gOk yX4_outs cX4_outs 7 (some FieldType.long) 1 := ⟨uN_X4, uC_X4_outs, by decide +kernel⟩
theorem in_X4_outs : gIn yX4_outs := ⟨uI_X4_outs, uS_X4_outs⟩
theorem ok_X4_prepare : gOk yX4_prepare cX4_prepare 2 (none : Option FieldType) 1 := ⟨uN_X4, uC_X4_prepare, by decide +kernel⟩
theorem in_X4_prepare : gIn yX4_prepare := ⟨uI_X4_prepare, uS_X4_prepare⟩
theorem ok_X4_repeat : gOk yX4_repeat cX4_repeat 5 (some FieldType.long) 3 := ⟨uN_X4, uC_X4_repeat, by decide +kernel⟩
theorem in_X4_repeat : gIn yX4_repeat := ⟨uI_X4_repeat, uS_X4_repeat⟩
theorem ok_X4_root : gOk yX4_root cX4_root 6 (some FieldType.long) 2 := ⟨uN_X4, uC_X4_root, by decide +kernel⟩
theorem in_X4_root : gIn yX4_root := ⟨uI_X4_root, uS_X4_root⟩
theorem ok_X4_setKey : gOk yX4_setKey cX4_setKey 5 (none : Option FieldType) 1 := ⟨uN_X4, uC_X4_setKey, by decide +kernel⟩
theorem in_X4_setKey : gIn yX4_setKey := ⟨uI_X4_setKey, uS_X4_setKey⟩
theorem ok_X4_spread : gOk yX4_spread cX4_spread 7 (some FieldType.int) 2 := ⟨uN_X4, uC_X4_spread, by decide +kernel⟩
theorem in_X4_spread : gIn yX4_spread := ⟨uI_X4_spread, uS_X4_spread⟩
theorem ok_X4_start : gOk yX4_start cX4_start 6 (none : Option FieldType) 2 := ⟨uN_X4, uC_X4_start, by decide +kernel⟩
theorem in_X4_start : gIn yX4_start := ⟨uI_X4_start, uS_X4_start⟩
theorem ok_X4_startKeyed : gOk yX4_startKeyed cX4_startKeyed 5 (none : Option FieldType) 3 := ⟨uN_X4, uC_X4_startKeyed, by decide +kernel⟩
theorem in_X4_startKeyed : gIn yX4_startKeyed := ⟨uI_X4_startKeyed, uS_X4_startKeyed⟩
theorem ok_X4_stretch : gOk yX4_stretch cX4_stretch 9 (some FieldType.int) 3 := ⟨uN_X4, uC_X4_stretch, by decide +kernel⟩
theorem in_X4_stretch : gIn yX4_stretch := ⟨uI_X4_stretch, uS_X4_stretch⟩
theorem ok_X4_takeRegister : gOk yX4_takeRegister cX4_takeRegister 3 (none : Option FieldType) 1 := ⟨uN_X4, uC_X4_takeRegister, by decide +kernel⟩
theorem in_X4_takeRegister : gIn yX4_takeRegister := ⟨uI_X4_takeRegister, uS_X4_takeRegister⟩
theorem ok_X4_thrown : gOk yX4_thrown cX4_thrown 1 (some FieldType.int) 0 := ⟨uN_X4, uC_X4_thrown, by decide +kernel⟩
theorem in_X4_thrown : gIn yX4_thrown := ⟨uI_X4_thrown, uS_X4_thrown⟩
theorem ok_X4_turn : gOk yX4_turn cX4_turn 2 (some FieldType.int) 2 := ⟨uN_X4, uC_X4_turn, by decide +kernel⟩
theorem ok_X4_turnLong : gOk yX4_turnLong cX4_turnLong 3 (some FieldType.long) 2 := ⟨uN_X4, uC_X4_turnLong, by decide +kernel⟩
theorem ok_X4_update : gOk yX4_update cX4_update 3 (some FieldType.long) 1 := ⟨uN_X4, uC_X4_update, by decide +kernel⟩
theorem in_X4_update : gIn yX4_update := ⟨uI_X4_update, uS_X4_update⟩
theorem ok_X4_wideBlock : gOk yX4_wideBlock cX4_wideBlock 24 (none : Option FieldType) 1 := ⟨uN_X4, uC_X4_wideBlock, by decide +kernel⟩
theorem in_X4_wideBlock : gIn yX4_wideBlock := ⟨uI_X4_wideBlock, uS_X4_wideBlock⟩
def ushI (x y : Int32) : Int32 := (x.toUInt32 >>> (y.toUInt32 &&& Int32.toUInt32 31)).toInt32
def ushL (x : Int64) (y : Int32) : Int64 := (x.toUInt64 >>> (y.toInt64.toUInt64 &&& Int64.toUInt64 63)).toInt64
def shlL (x : Int64) (y : Int32) : Int64 := x <<< (y.toInt64 &&& 63)
def shrL (x : Int64) (y : Int32) : Int64 := x >>> (y.toInt64 &&& 63)
def i2b (x : Int32) : Int32 := x.toInt8.toInt32
section Base2
variable {p : Program} {l : Launch} {e : Env} {R : Room} {s : State} {m : MethodId} {args : Array Value} {below : List Frame} {meth : Method} {c : Code} {H : Heap} {locs : List Loc} {cells slots : Nat} {Q : State → Prop} {cc : ByteArray} {pc : Nat} {ls : Array Slot} {rest : List Value} {A : Nat → Prop} {D : va_G} {cl : List vw_C} {tys : List (ClassId × FieldType)} {ws : va_W} {a : Nat}
theorem g_toi {x y : Int32} (h : x = y) (k : W p l e R s m args below meth c H locs cells slots Q (F0 m pc ls (.int y :: rest))) : W p l e R s m args below meth c H locs cells slots Q (F0 m pc ls (.int x :: rest)) := by rw [h]; exact k
theorem g_tol {x y : Int64} (h : x = y) (k : W p l e R s m args below meth c H locs cells slots Q (F0 m pc ls (.long y :: rest))) : W p l e R s m args below meth c H locs cells slots Q (F0 m pc ls (.long x :: rest)) := by rw [h]; exact k
theorem g_bald (hx : p.tables.exec = Jvm.exec) (hb : c.code = cc) (hK : va_K D cl tys s) (hP : va_P D cl ws H) (q0 t0 : Nat) {cA : ClassId} {n j : Nat} {f : Nat → Int32} (ha : ws[q0]? = some (a, .inl (cA, n, .inl f))) (ht : tys[t0]? = some (cA, .byte)) (hj : j < n ∧ n < 2 ^ 31) (hdg : decode cc pc = .ok (.baload, 1))
    (kk : W p l e R s m args below meth c H locs cells slots Q (F0 m (pc + 1) ls (.int (f j) :: rest))) : W p l e R s m args below meth c H locs cells slots Q (F0 m pc ls (.int (nI j) :: .ref a :: rest)) :=
  va_bald hx hb hK hP q0 t0 ha ht (vp_in_nI hj.1 hj.2) hdg (by rw [nI_clamp (Nat.lt_trans hj.1 hj.2)]; exact kk)
theorem g_zald (hx : p.tables.exec = Jvm.exec) (hb : c.code = cc) (hK : va_K D cl tys s) (hP : va_P D cl ws H) (q0 t0 : Nat) {cA : ClassId} {n j : Nat} {f : Nat → Int32} (ha : ws[q0]? = some (a, .inl (cA, n, .inl f))) (ht : tys[t0]? = some (cA, .boolean)) (hj : j < n ∧ n < 2 ^ 31) (hdg : decode cc pc = .ok (.baload, 1))
    (kk : W p l e R s m args below meth c H locs cells slots Q (F0 m (pc + 1) ls (.int (f j) :: rest))) : W p l e R s m args below meth c H locs cells slots Q (F0 m pc ls (.int (nI j) :: .ref a :: rest)) :=
  va_zald hx hb hK hP q0 t0 ha ht (vp_in_nI hj.1 hj.2) hdg (by rw [nI_clamp (Nat.lt_trans hj.1 hj.2)]; exact kk)
theorem g_iald (hx : p.tables.exec = Jvm.exec) (hb : c.code = cc) (hK : va_K D cl tys s) (hP : va_P D cl ws H) (q0 t0 : Nat) {cA : ClassId} {n j : Nat} {f : Nat → Int32} (ha : ws[q0]? = some (a, .inl (cA, n, .inl f))) (ht : tys[t0]? = some (cA, .int)) (hj : j < n ∧ n < 2 ^ 31) (hdg : decode cc pc = .ok (.iaload, 1))
    (kk : W p l e R s m args below meth c H locs cells slots Q (F0 m (pc + 1) ls (.int (f j) :: rest))) : W p l e R s m args below meth c H locs cells slots Q (F0 m pc ls (.int (nI j) :: .ref a :: rest)) :=
  va_iald hx hb hK hP q0 t0 ha ht (vp_in_nI hj.1 hj.2) hdg (by rw [nI_clamp (Nat.lt_trans hj.1 hj.2)]; exact kk)
theorem g_lald (hx : p.tables.exec = Jvm.exec) (hb : c.code = cc) (hK : va_K D cl tys s) (hP : va_P D cl ws H) (q0 t0 : Nat) {cA : ClassId} {n j : Nat} {f : Nat → Int64} (ha : ws[q0]? = some (a, .inl (cA, n, .inr (.inl f)))) (ht : tys[t0]? = some (cA, .long)) (hj : j < n ∧ n < 2 ^ 31) (hdg : decode cc pc = .ok (.laload, 1))
    (kk : W p l e R s m args below meth c H locs cells slots Q (F0 m (pc + 1) ls (.long (f j) :: rest))) : W p l e R s m args below meth c H locs cells slots Q (F0 m pc ls (.int (nI j) :: .ref a :: rest)) :=
  va_lald hx hb hK hP q0 t0 ha ht (vp_in_nI hj.1 hj.2) hdg (by rw [nI_clamp (Nat.lt_trans hj.1 hj.2)]; exact kk)
theorem g_bast (hx : p.tables.exec = Jvm.exec) (hb : c.code = cc) (hK : va_K D cl tys s) (hP : va_P D cl ws H) (hD : va_D A ws) (hS : va_S A s.heap H locs) (q0 t0 : Nat) {cA : ClassId} {n j : Nat} {f : Nat → Int32} (ha : ws[q0]? = some (a, .inl (cA, n, .inl f))) (ht : tys[t0]? = some (cA, .byte)) {x : Int32} (hj : j < n ∧ n < 2 ^ 31) (hdg : decode cc pc = .ok (.bastore, 1))
    (kk : ∀ (H1 : Heap) (locs1 : List Loc), va_P D cl (ws.set q0 (a, .inl (cA, n, .inl (upd f j (vp_nar .byte x))))) H1 → va_D A (ws.set q0 (a, .inl (cA, n, .inl (upd f j (vp_nar .byte x))))) → va_S A s.heap H1 locs1 → W p l e R s m args below meth c H1 locs1 cells slots Q (F0 m (pc + 1) ls rest)) : W p l e R s m args below meth c H locs cells slots Q (F0 m pc ls (.int x :: .int (nI j) :: .ref a :: rest)) :=
  va_bast hx hb hK hP hD hS q0 t0 ha ht (vp_in_nI hj.1 hj.2) hdg (by rw [nI_clamp (Nat.lt_trans hj.1 hj.2)]; exact kk)
theorem g_zast (hx : p.tables.exec = Jvm.exec) (hb : c.code = cc) (hK : va_K D cl tys s) (hP : va_P D cl ws H) (hD : va_D A ws) (hS : va_S A s.heap H locs) (q0 t0 : Nat) {cA : ClassId} {n j : Nat} {f : Nat → Int32} (ha : ws[q0]? = some (a, .inl (cA, n, .inl f))) (ht : tys[t0]? = some (cA, .boolean)) {x : Int32} (hj : j < n ∧ n < 2 ^ 31) (hdg : decode cc pc = .ok (.bastore, 1))
    (kk : ∀ (H1 : Heap) (locs1 : List Loc), va_P D cl (ws.set q0 (a, .inl (cA, n, .inl (upd f j (vp_nar .boolean x))))) H1 → va_D A (ws.set q0 (a, .inl (cA, n, .inl (upd f j (vp_nar .boolean x))))) → va_S A s.heap H1 locs1 → W p l e R s m args below meth c H1 locs1 cells slots Q (F0 m (pc + 1) ls rest)) : W p l e R s m args below meth c H locs cells slots Q (F0 m pc ls (.int x :: .int (nI j) :: .ref a :: rest)) :=
  va_zast hx hb hK hP hD hS q0 t0 ha ht (vp_in_nI hj.1 hj.2) hdg (by rw [nI_clamp (Nat.lt_trans hj.1 hj.2)]; exact kk)
theorem g_iast (hx : p.tables.exec = Jvm.exec) (hb : c.code = cc) (hK : va_K D cl tys s) (hP : va_P D cl ws H) (hD : va_D A ws) (hS : va_S A s.heap H locs) (q0 t0 : Nat) {cA : ClassId} {n j : Nat} {f : Nat → Int32} (ha : ws[q0]? = some (a, .inl (cA, n, .inl f))) (ht : tys[t0]? = some (cA, .int)) {x : Int32} (hj : j < n ∧ n < 2 ^ 31) (hdg : decode cc pc = .ok (.iastore, 1))
    (kk : ∀ (H1 : Heap) (locs1 : List Loc), va_P D cl (ws.set q0 (a, .inl (cA, n, .inl (upd f j x)))) H1 → va_D A (ws.set q0 (a, .inl (cA, n, .inl (upd f j x)))) → va_S A s.heap H1 locs1 → W p l e R s m args below meth c H1 locs1 cells slots Q (F0 m (pc + 1) ls rest)) : W p l e R s m args below meth c H locs cells slots Q (F0 m pc ls (.int x :: .int (nI j) :: .ref a :: rest)) :=
  va_iast hx hb hK hP hD hS q0 t0 ha ht (vp_in_nI hj.1 hj.2) hdg (by rw [nI_clamp (Nat.lt_trans hj.1 hj.2)]; exact kk)
theorem g_last (hx : p.tables.exec = Jvm.exec) (hb : c.code = cc) (hK : va_K D cl tys s) (hP : va_P D cl ws H) (hD : va_D A ws) (hS : va_S A s.heap H locs) (q0 t0 : Nat) {cA : ClassId} {n j : Nat} {f : Nat → Int64} (ha : ws[q0]? = some (a, .inl (cA, n, .inr (.inl f)))) (ht : tys[t0]? = some (cA, .long)) {x : Int64} (hj : j < n ∧ n < 2 ^ 31) (hdg : decode cc pc = .ok (.lastore, 1))
    (kk : ∀ (H1 : Heap) (locs1 : List Loc), va_P D cl (ws.set q0 (a, .inl (cA, n, .inr (.inl (vp_updL f j x))))) H1 → va_D A (ws.set q0 (a, .inl (cA, n, .inr (.inl (vp_updL f j x))))) → va_S A s.heap H1 locs1 → W p l e R s m args below meth c H1 locs1 cells slots Q (F0 m (pc + 1) ls rest)) : W p l e R s m args below meth c H locs cells slots Q (F0 m pc ls (.long x :: .int (nI j) :: .ref a :: rest)) :=
  va_last hx hb hK hP hD hS q0 t0 ha ht (vp_in_nI hj.1 hj.2) hdg (by rw [nI_clamp (Nat.lt_trans hj.1 hj.2)]; exact kk)
theorem g_tl {t N j : Nat} {f : Nat → Int64} (hx : p.tables.exec = Jvm.exec) (hb : c.code = cc) (hT : va_T .long t N (fun j => .long (f j)) A s s.heap) (hS : va_S A s.heap H locs) (hj : j < N ∧ N < 2 ^ 31) (hdg : decode cc pc = .ok (.laload, 1))
    (kk : W p l e R s m args below meth c H locs cells slots Q (F0 m (pc + 1) ls (.long (f j) :: rest))) : W p l e R s m args below meth c H locs cells slots Q (F0 m pc ls (.int (nI j) :: .ref t :: rest)) :=
  va_tl hx hb hT hS (vp_in_nI hj.1 hj.2) (v := .long (f j)) (by rw [nI_clamp (Nat.lt_trans hj.1 hj.2)]) hdg kk
theorem g_ti {t N j : Nat} {f : Nat → Int32} (hx : p.tables.exec = Jvm.exec) (hb : c.code = cc) (hT : va_T .int t N (fun j => .int (f j)) A s s.heap) (hS : va_S A s.heap H locs) (hj : j < N ∧ N < 2 ^ 31) (hdg : decode cc pc = .ok (.iaload, 1))
    (kk : W p l e R s m args below meth c H locs cells slots Q (F0 m (pc + 1) ls (.int (f j) :: rest))) : W p l e R s m args below meth c H locs cells slots Q (F0 m pc ls (.int (nI j) :: .ref t :: rest)) :=
  va_ti hx hb hT hS (vp_in_nI hj.1 hj.2) (v := .int (f j)) (by rw [nI_clamp (Nat.lt_trans hj.1 hj.2)]) hdg kk
end Base2
