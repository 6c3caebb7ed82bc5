/-! the reference's numbers -/
abbrev mF (ad : Nat → Nat) (sz1 osz th hsz : Int32) : List Value := [.ref (ad 0), .int sz1, .ref (ad 2), .ref (ad 3), .ref (ad 4), .ref (ad 5), .ref (ad 6), .ref (ad 7), .ref (ad 8), .ref (ad 9), .ref (ad 10), .ref (ad 11), .ref (ad 12), .ref (ad 13), .ref (ad 14), .ref (ad 15), .ref (ad 16), .int osz, .ref (ad 18), .ref (ad 19), .int th, .ref (ad 21), .ref (ad 22), .ref (ad 23), .ref (ad 24), .ref (ad 25), .ref (ad 26), .int hsz, .ref (ad 28)]
theorem bz_shl {n : Nat} (hn : n < 32) (x : Int32) {i : Nat} (hi : i < 32) : (x <<< (nI n &&& 31)).toBitVec.getLsbD i = (decide (n ≤ i) && x.toBitVec.getLsbD (i - n)) := by
  have s_l : ∀ n, n < 32 → ((nI n &&& 31).toBitVec.smod 32).toNat = n := by decide +kernel
  rw [Int32.toBitVec_shiftLeft]
  show (x.toBitVec <<< ((nI n &&& 31).toBitVec.smod 32).toNat).getLsbD i = _
  rw [s_l n hn, BitVec.getLsbD_shiftLeft]
  rcases Nat.lt_or_ge i n with h | h
  · simp [h, Nat.not_le.mpr h]
  · simp [hi, h, Nat.not_lt.mpr h]
theorem ly4_four (o : Nat → Int32) (t : Nat) : ly4 o t 4 = (((o (4 * t) <<< ((24 : Int32) &&& 31)) ||| (o (4 * t + 1) <<< ((16 : Int32) &&& 31))) ||| (o (4 * t + 2) <<< ((8 : Int32) &&& 31))) ||| o (4 * t + 3) := by
  have h8 : ∀ (x : Int32) {i : Nat}, i < 32 → (x <<< ((8 : Int32) &&& 31)).toBitVec.getLsbD i = (decide (8 ≤ i) && x.toBitVec.getLsbD (i - 8)) := fun x i hi => bz_shl (n := 8) (by decide) x hi
  have h16 : ∀ (x : Int32) {i : Nat}, i < 32 → (x <<< ((16 : Int32) &&& 31)).toBitVec.getLsbD i = (decide (16 ≤ i) && x.toBitVec.getLsbD (i - 16)) := fun x i hi => bz_shl (n := 16) (by decide) x hi
  have h24 : ∀ (x : Int32) {i : Nat}, i < 32 → (x <<< ((24 : Int32) &&& 31)).toBitVec.getLsbD i = (decide (24 ≤ i) && x.toBitVec.getLsbD (i - 24)) := fun x i hi => bz_shl (n := 24) (by decide) x hi
  apply Int32.toBitVec_inj.mp
  apply BitVec.eq_of_getLsbD_eq
  intro i hi
  simp only [ly4, Int32.toBitVec_or, BitVec.getLsbD_or]
  rw [h8 _ hi, h8 _ hi, h16 _ hi, h24 _ hi]
  simp only [Int32.toBitVec_or, BitVec.getLsbD_or]
  rw [h8 _ (show i - 8 < 32 by omega)]
  simp only [Int32.toBitVec_or, BitVec.getLsbD_or]
  rw [h8 _ (show i - 8 - 8 < 32 by omega)]
  simp only [Int32.toBitVec_or, BitVec.getLsbD_or]
  rw [h8 _ (show i - 8 - 8 - 8 < 32 by omega)]
  have z : ∀ j, (0 : Int32).toBitVec.getLsbD j = false := fun j => BitVec.getLsbD_zero
  simp only [z, Bool.and_false, Bool.false_or, Nat.add_zero, Nat.sub_sub]
  by_cases c1 : 8 ≤ i
  · by_cases c2 : 16 ≤ i
    · by_cases c3 : 24 ≤ i
      · simp [c1, c2, c3, show 8 ≤ i - 8 by omega, show 8 ≤ i - 16 by omega]
      · simp [c1, c2, c3, show 8 ≤ i - 8 by omega, show ¬ 8 ≤ i - 16 by omega]
    · simp [c1, c2, show ¬ 24 ≤ i by omega, show ¬ 8 ≤ i - 8 by omega]
  · simp [c1, show ¬ 16 ≤ i by omega, show ¬ 24 ≤ i by omega]
theorem st8 {f f1 f2 f3 f4 f5 f6 f7 f8 : Nat → Int64} {b : Nat} {v0 v1 v2 v3 v4 v5 v6 v7 : Int64} (e1 : f1 = vp_updL f b v0) (e2 : f2 = vp_updL f1 (b + 1) v1) (e3 : f3 = vp_updL f2 (b + 2) v2) (e4 : f4 = vp_updL f3 (b + 3) v3) (e5 : f5 = vp_updL f4 (b + 4) v4) (e6 : f6 = vp_updL f5 (b + 5) v5) (e7 : f7 = vp_updL f6 (b + 6) v6) (e8 : f8 = vp_updL f7 (b + 7) v7) :
    (f8 b = v0 ∧ f8 (b + 1) = v1 ∧ f8 (b + 2) = v2 ∧ f8 (b + 3) = v3 ∧ f8 (b + 4) = v4 ∧ f8 (b + 5) = v5 ∧ f8 (b + 6) = v6 ∧ f8 (b + 7) = v7) ∧ ∀ i, (i < b ∨ b + 8 ≤ i) → f8 i = f i := by
  subst e1 e2 e3 e4 e5 e6 e7 e8
  refine ⟨⟨?_, ?_, ?_, ?_, ?_, ?_, ?_, ?_⟩, fun i hi => ?_⟩ <;> simp only [vp_updL]
  · rw [if_neg (by omega), if_neg (by omega), if_neg (by omega), if_neg (by omega), if_neg (by omega), if_neg (by omega), if_neg (by omega), if_pos trivial]
  · rw [if_neg (by omega), if_neg (by omega), if_neg (by omega), if_neg (by omega), if_neg (by omega), if_neg (by omega), if_pos trivial]
  · rw [if_neg (by omega), if_neg (by omega), if_neg (by omega), if_neg (by omega), if_neg (by omega), if_pos trivial]
  · rw [if_neg (by omega), if_neg (by omega), if_neg (by omega), if_neg (by omega), if_pos trivial]
  · rw [if_neg (by omega), if_neg (by omega), if_neg (by omega), if_pos trivial]
  · rw [if_neg (by omega), if_neg (by omega), if_pos trivial]
  · rw [if_neg (by omega), if_pos trivial]
  · rw [if_pos trivial]
  · rw [if_neg (by omega), if_neg (by omega), if_neg (by omega), if_neg (by omega), if_neg (by omega), if_neg (by omega), if_neg (by omega), if_neg (by omega)]
def oM (bf : Nat → Int32) (sl : Nat) : Nat → Int32 := fun i => bf (128 * sl + i)
def wM (sf : Nat → Int64) (sl : Nat) : Nat → Int64 := fun i => sf (8 * sl + i)
theorem lyM {bf : Nat → Int32} {sl t : Nat} {g g' : Nat → Int32} {v : Int32} (hI : t ≤ 16 ∧ ∀ j, j < t → g j = ly4 (oM bf sl) j 4) (ht : t < 16) (e : g' = upd g t v) (hv : v = (((bf (128 * sl + 4 * t) <<< ((24 : Int32) &&& 31)) ||| (bf (128 * sl + 4 * t + 1) <<< ((16 : Int32) &&& 31))) ||| (bf (128 * sl + 4 * t + 2) <<< ((8 : Int32) &&& 31))) ||| bf (128 * sl + 4 * t + 3)) : t + 1 ≤ 16 ∧ ∀ j, j < t + 1 → g' j = ly4 (oM bf sl) j 4 := by
  refine ⟨ht, fun j hj => ?_⟩
  rcases Nat.lt_or_ge j t with h | h
  · rw [e, pk_un (by omega)]; exact hI.2 j h
  · have h1 : j = t := by omega
    rw [e, h1, pk_us, hv, ly4_four]
    rfl
theorem lyM8 {bf : Nat → Int32} {sl t i : Nat} {g g' : Nat → Int64} {wd : Int64} (hI : t ≤ 16 ∧ ∀ j, j < t → g j = ly8 (oM bf sl) j 8) (ht : t < 16) (hJ : i ≤ 8 ∧ wd = ly8 (oM bf sl) t i) (hi : 8 ≤ i) (e : g' = vp_updL g t wd) : t + 1 ≤ 16 ∧ ∀ j, j < t + 1 → g' j = ly8 (oM bf sl) j 8 := by
  refine ⟨ht, fun j hj => ?_⟩
  rcases Nat.lt_or_ge j t with h | h
  · rw [e, pk_uLn (by omega)]; exact hI.2 j h
  · have h1 : j = t := by omega
    have h2 : i = 8 := by omega
    rw [e, h1, pk_uLs, hJ.2, h2]
theorem sNM {o : Nat → Int32} {t : Nat} {g g' : Nat → Int32} {v : Int32} (hI : 16 ≤ t ∧ t ≤ 64 ∧ ∀ j, j < t → g j = sN o j) (ht : t < 64) (e : g' = upd g t v) (hv : v = s1I (g (t - 2)) + g (t - 7) + s0I (g (t - 15)) + g (t - 16)) : 16 ≤ t + 1 ∧ t + 1 ≤ 64 ∧ ∀ j, j < t + 1 → g' j = sN o j := by
  obtain ⟨h0, h1, h2⟩ := hI
  refine ⟨by omega, ht, fun j hj => ?_⟩
  rcases Nat.lt_or_ge j t with h | h
  · rw [e, pk_un (by omega)]; exact h2 j h
  · have h3 : j = t := by omega
    rw [e, h3, pk_us, hv, sN_ge h0, h2 _ (by omega), h2 _ (by omega), h2 _ (by omega), h2 _ (by omega)]
theorem sWM {o : Nat → Int32} {t : Nat} {g g' : Nat → Int64} {v : Int64} (hI : 16 ≤ t ∧ t ≤ 80 ∧ ∀ j, j < t → g j = sW o j) (ht : t < 80) (e : g' = vp_updL g t v) (hv : v = s1L (g (t - 2)) + g (t - 7) + s0L (g (t - 15)) + g (t - 16)) : 16 ≤ t + 1 ∧ t + 1 ≤ 80 ∧ ∀ j, j < t + 1 → g' j = sW o j := by
  obtain ⟨h0, h1, h2⟩ := hI
  refine ⟨by omega, ht, fun j hj => ?_⟩
  rcases Nat.lt_or_ge j t with h | h
  · rw [e, pk_uLn (by omega)]; exact h2 j h
  · have h3 : j = t := by omega
    rw [e, h3, pk_uLs, hv, sW_ge h0, h2 _ (by omega), h2 _ (by omega), h2 _ (by omega), h2 _ (by omega)]
theorem mxNE {g ss : Nat → Int32} {w f8 : Nat → Int64} {T t b : Nat} {xa xb xc xd xe xf xg xh : Int32} {v0 v1 v2 v3 v4 v5 v6 v7 : Int64} (h1 : ∀ j, j < T → g j = ss j) (h2 : 64 ≤ T) (ht : t = 64) (hH : (xa, xb, xc, xd, xe, xf, xg, xh) = rdsN g (v0N w) t) (hst : f8 b = v0 ∧ f8 (b + 1) = v1 ∧ f8 (b + 2) = v2 ∧ f8 (b + 3) = v3 ∧ f8 (b + 4) = v4 ∧ f8 (b + 5) = v5 ∧ f8 (b + 6) = v6 ∧ f8 (b + 7) = v7)
    (hv : (v0, v1, v2, v3, v4, v5, v6, v7) = (fnN w (xa, xb, xc, xd, xe, xf, xg, xh) 0, fnN w (xa, xb, xc, xd, xe, xf, xg, xh) 1, fnN w (xa, xb, xc, xd, xe, xf, xg, xh) 2, fnN w (xa, xb, xc, xd, xe, xf, xg, xh) 3, fnN w (xa, xb, xc, xd, xe, xf, xg, xh) 4, fnN w (xa, xb, xc, xd, xe, xf, xg, xh) 5, fnN w (xa, xb, xc, xd, xe, xf, xg, xh) 6, fnN w (xa, xb, xc, xd, xe, xf, xg, xh) 7)) : ∀ j, j < 8 → f8 (b + j) = mxN w ss j := by
  intro j hj
  unfold mxN
  rw [← rdsN_congr (w := g) 64 (fun j hj => h1 j (by omega)), ← ht, ← hH]
  obtain ⟨a0, a1, a2, a3, a4, a5, a6, a7⟩ := hst
  simp only [Prod.mk.injEq] at hv
  obtain ⟨b0, b1, b2, b3, b4, b5, b6, b7⟩ := hv
  rcases (show j = 0 ∨ j = 1 ∨ j = 2 ∨ j = 3 ∨ j = 4 ∨ j = 5 ∨ j = 6 ∨ j = 7 by omega) with rfl | rfl | rfl | rfl | rfl | rfl | rfl | rfl
  · exact a0.trans b0
  · exact a1.trans b1
  · exact a2.trans b2
  · exact a3.trans b3
  · exact a4.trans b4
  · exact a5.trans b5
  · exact a6.trans b6
  · exact a7.trans b7
theorem mxWE {g ss : Nat → Int64} {w f8 : Nat → Int64} {T t b : Nat} {xa xb xc xd xe xf xg xh : Int64} {v0 v1 v2 v3 v4 v5 v6 v7 : Int64} (h1 : ∀ j, j < T → g j = ss j) (h2 : 80 ≤ T) (ht : t = 80) (hH : (xa, xb, xc, xd, xe, xf, xg, xh) = rdsW g (v0W w) t) (hst : f8 b = v0 ∧ f8 (b + 1) = v1 ∧ f8 (b + 2) = v2 ∧ f8 (b + 3) = v3 ∧ f8 (b + 4) = v4 ∧ f8 (b + 5) = v5 ∧ f8 (b + 6) = v6 ∧ f8 (b + 7) = v7)
    (hv : (v0, v1, v2, v3, v4, v5, v6, v7) = (fnW w (xa, xb, xc, xd, xe, xf, xg, xh) 0, fnW w (xa, xb, xc, xd, xe, xf, xg, xh) 1, fnW w (xa, xb, xc, xd, xe, xf, xg, xh) 2, fnW w (xa, xb, xc, xd, xe, xf, xg, xh) 3, fnW w (xa, xb, xc, xd, xe, xf, xg, xh) 4, fnW w (xa, xb, xc, xd, xe, xf, xg, xh) 5, fnW w (xa, xb, xc, xd, xe, xf, xg, xh) 6, fnW w (xa, xb, xc, xd, xe, xf, xg, xh) 7)) : ∀ j, j < 8 → f8 (b + j) = mxW w ss j := by
  intro j hj
  unfold mxW
  rw [← rdsW_congr (w := g) 80 (fun j hj => h1 j (by omega)), ← ht, ← hH]
  obtain ⟨a0, a1, a2, a3, a4, a5, a6, a7⟩ := hst
  simp only [Prod.mk.injEq] at hv
  obtain ⟨b0, b1, b2, b3, b4, b5, b6, b7⟩ := hv
  rcases (show j = 0 ∨ j = 1 ∨ j = 2 ∨ j = 3 ∨ j = 4 ∨ j = 5 ∨ j = 6 ∨ j = 7 by omega) with rfl | rfl | rfl | rfl | rfl | rfl | rfl | rfl
  · exact a0.trans b0
  · exact a1.trans b1
  · exact a2.trans b2
  · exact a3.trans b3
  · exact a4.trans b4
  · exact a5.trans b5
  · exact a6.trans b6
  · exact a7.trans b7
set_option maxHeartbeats 4000000 in
set_option maxRecDepth 100000 in
theorem c_X4_turn (l : Launch) (G : GW) (sz : Nat) (x : Int32) (kk : Int32) (hk : ((32 : Int32) - kk) &&& 31 = (-kk) &&& 31) : Met l yX4_turn (Cond.code yX4_turn cX4_turn 2 (some FieldType.int) :: UW) ({ frames := 0, cells := 0, slots := 0, locals := 0 } : Room) (va_Pc [.int x, .int kk] (gPre G [] sz)) (va_Qi (fun (r : Int32) (_ : Unit) => r = rotI x kk) (fun u => gPost G (va_A [] sz) ((fun (_ : Unit) => ([] : va_W)) u)) (va_A [] sz)) 0 0 (va_A [] sz) := by
  refine gM_of (Qf := fun A => va_Qi (fun (r : Int32) (_ : Unit) => r = rotI x kk) (fun u => gPost G A ((fun (_ : Unit) => ([] : va_W)) u)) A) (by decide) (Nat.le_of_ble_eq_true rfl) ?_
  intro p e s m below meth c A ls hx hb hml hr hown htu hlk hnm hA hP hD hS hK hZ hl
  have hown : s.vm.findClass RX4 = some m.cls := hown
  have hl : lv_has ls 2 [(0, .int x), (1, .int kk)] := hl
  refine lv_iload_n hx hb dX4_turn_0 rfl (lv_at hl 0 rfl) ?_
  refine lv_iload_n hx hb dX4_turn_1 rfl (lv_at hl 1 rfl) ?_
  refine lv_iushr (v := ushI x kk) hx hb dX4_turn_2 rfl ?_
  refine lv_iload_n hx hb dX4_turn_3 rfl (lv_at hl 0 rfl) ?_
  refine lv_bipush (v := 32) hx hb dX4_turn_4 (by decide) ?_
  refine lv_iload_n hx hb dX4_turn_6 rfl (lv_at hl 1 rfl) ?_
  refine lv_isub hx hb dX4_turn_7 ?_
  refine lv_ishl hx hb dX4_turn_8 ?_
  refine lv_ior hx hb dX4_turn_9 ?_
  exact gret_i hx hb hr hlk dX4_turn_10 hS () (hP.sub [] rfl) (hD.sub [] (by decide) rfl) (by unfold rotI; rw [hk])
set_option maxHeartbeats 4000000 in
set_option maxRecDepth 100000 in
theorem c_X4_turnLong (l : Launch) (G : GW) (sz : Nat) (x : Int64) (kk : Int32) (hk : ((64 : Int32) - kk).toInt64 &&& 63 = (-kk).toInt64 &&& 63) : Met l yX4_turnLong (Cond.code yX4_turnLong cX4_turnLong 3 (some FieldType.long) :: UW) ({ frames := 0, cells := 0, slots := 0, locals := 0 } : Room) (va_Pc [.long x, .int kk] (gPre G [] sz)) (va_Ql (fun (r : Int64) (_ : Unit) => r = rotL x kk) (fun u => gPost G (va_A [] sz) ((fun (_ : Unit) => ([] : va_W)) u)) (va_A [] sz)) 0 0 (va_A [] sz) := by
  refine gM_of (Qf := fun A => va_Ql (fun (r : Int64) (_ : Unit) => r = rotL x kk) (fun u => gPost G A ((fun (_ : Unit) => ([] : va_W)) u)) A) (by decide) (Nat.le_of_ble_eq_true rfl) ?_
  intro p e s m below meth c A ls hx hb hml hr hown htu hlk hnm hA hP hD hS hK hZ hl
  have hown : s.vm.findClass RX4 = some m.cls := hown
  have hl : lv_has ls 3 [(0, .long x), (2, .int kk)] := hl
  refine lv_lload_n hx hb dX4_turnLong_0 rfl (lv_at hl 0 rfl) ?_
  refine lv_iload_n hx hb dX4_turnLong_1 rfl (lv_at hl 1 rfl) ?_
  refine lv_lushr (v := ushL x kk) hx hb dX4_turnLong_2 rfl ?_
  refine lv_lload_n hx hb dX4_turnLong_3 rfl (lv_at hl 0 rfl) ?_
  refine lv_bipush (v := 64) hx hb dX4_turnLong_4 (by decide) ?_
  refine lv_iload_n hx hb dX4_turnLong_6 rfl (lv_at hl 1 rfl) ?_
  refine lv_isub hx hb dX4_turnLong_7 ?_
  refine lv_lshl (v := shlL x (64 - kk)) hx hb dX4_turnLong_8 rfl ?_
  refine lv_lor hx hb dX4_turnLong_9 ?_
  exact gret_l hx hb hr hlk dX4_turnLong_10 hS () (hP.sub [] rfl) (hD.sub [] (by decide) rfl) (by unfold rotL shlL; rw [hk])
set_option maxHeartbeats 4000000 in
set_option maxRecDepth 100000 in
theorem c_X4_blockOf (l : Launch) (G : GW) (sz : Nat) (x : Int32)  : Met l yX4_blockOf (Cond.code yX4_blockOf cX4_blockOf 1 (some FieldType.int) :: UW) ({ frames := 0, cells := 0, slots := 0, locals := 0 } : Room) (va_Pc [.int x] (gPre G [] sz)) (va_Qi (fun (r : Int32) (_ : Unit) => r = bsI x) (fun u => gPost G (va_A [] sz) ((fun (_ : Unit) => ([] : va_W)) u)) (va_A [] sz)) 0 0 (va_A [] sz) := by
  refine gM_of (Qf := fun A => va_Qi (fun (r : Int32) (_ : Unit) => r = bsI x) (fun u => gPost G A ((fun (_ : Unit) => ([] : va_W)) u)) A) (by decide) (Nat.le_of_ble_eq_true rfl) ?_
  intro p e s m below meth c A ls hx hb hml hr hown htu hlk hnm hA hP hD hS hK hZ hl
  have hown : s.vm.findClass RX4 = some m.cls := hown
  have hl : lv_has ls 1 [(0, .int x)] := hl
  refine lv_iload_n hx hb dX4_blockOf_0 rfl (lv_at hl 0 rfl) ?_
  refine lv_iconst (v := 2) hx hb dX4_blockOf_1 (by decide) ?_
  refine lv_icmp_ge (tgt := 10) hx hb dX4_blockOf_2 (by decide) (fun c_2 => ?_) (fun c_2 => ?_)
  · skip
    refine lv_sipush (v := 128) hx hb dX4_blockOf_10 (by decide) ?_
    exact gret_i hx hb hr hlk dX4_blockOf_13 hS () (hP.sub [] rfl) (hD.sub [] (by decide) rfl) (by unfold bsI; rw [if_neg (Int32.not_lt.mpr c_2)])
  · skip
    refine lv_bipush (v := 64) hx hb dX4_blockOf_5 (by decide) ?_
    refine lv_goto (tgt := 13) hx hb dX4_blockOf_7 (by decide) ?_
    exact gret_i hx hb hr hlk dX4_blockOf_13 hS () (hP.sub [] rfl) (hD.sub [] (by decide) rfl) (by unfold bsI; rw [if_pos (Int32.not_le.mp c_2)])
set_option maxHeartbeats 4000000 in
set_option maxRecDepth 100000 in
theorem c_X4_digestOf (l : Launch) (G : GW) (sz : Nat) (k : Nat) (hk : k < 4) : Met l yX4_digestOf (Cond.code yX4_digestOf cX4_digestOf 1 (some FieldType.int) :: UW) ({ frames := 0, cells := 0, slots := 0, locals := 0 } : Room) (va_Pc [.int (nI k)] (gPre G [] sz)) (va_Qi (fun (r : Int32) (_ : Unit) => r = nI (ds k)) (fun u => gPost G (va_A [] sz) ((fun (_ : Unit) => ([] : va_W)) u)) (va_A [] sz)) 0 0 (va_A [] sz) := by
  refine gM_of (Qf := fun A => va_Qi (fun (r : Int32) (_ : Unit) => r = nI (ds k)) (fun u => gPost G A ((fun (_ : Unit) => ([] : va_W)) u)) A) (by decide) (Nat.le_of_ble_eq_true rfl) ?_
  intro p e s m below meth c A ls hx hb hml hr hown htu hlk hnm hA hP hD hS hK hZ hl
  have hown : s.vm.findClass RX4 = some m.cls := hown
  have hl : lv_has ls 1 [(0, .int (nI k))] := hl
  refine lv_iload_n hx hb dX4_digestOf_0 rfl (lv_at hl 0 rfl) ?_
  refine lv_if_ne (tgt := 9) hx hb dX4_digestOf_1 (by decide) (fun c_1 => ?_) (fun c_1 => ?_)
  · skip
    refine lv_iload_n hx hb dX4_digestOf_9 rfl (lv_at hl 0 rfl) ?_
    refine lv_iconst (v := 1) hx hb dX4_digestOf_10 (by decide) ?_
    refine lv_icmp_ne (tgt := 19) hx hb dX4_digestOf_11 (by decide) (fun c_11 => ?_) (fun c_11 => ?_)
    · skip
      refine lv_iload_n hx hb dX4_digestOf_19 rfl (lv_at hl 0 rfl) ?_
      refine lv_iconst (v := 2) hx hb dX4_digestOf_20 (by decide) ?_
      refine lv_icmp_ne (tgt := 29) hx hb dX4_digestOf_21 (by decide) (fun c_21 => ?_) (fun c_21 => ?_)
      · skip
        refine lv_bipush (v := 64) hx hb dX4_digestOf_29 (by decide) ?_
        exact gret_i hx hb hr hlk dX4_digestOf_31 hS () (hP.sub [] rfl) (hD.sub [] (by decide) rfl) (by rcases (show k = 0 ∨ k = 1 ∨ k = 2 ∨ k = 3 by omega) with rfl | rfl | rfl | rfl <;> first | rfl | (revert c_1; decide) | (revert c_11; decide) | (revert c_21; decide))
      · skip
        refine lv_bipush (v := 48) hx hb dX4_digestOf_24 (by decide) ?_
        refine lv_goto (tgt := 31) hx hb dX4_digestOf_26 (by decide) ?_
        exact gret_i hx hb hr hlk dX4_digestOf_31 hS () (hP.sub [] rfl) (hD.sub [] (by decide) rfl) (by rcases (show k = 0 ∨ k = 1 ∨ k = 2 ∨ k = 3 by omega) with rfl | rfl | rfl | rfl <;> first | rfl | (revert c_1; decide) | (revert c_11; decide) | (revert c_21; decide))
    · skip
      refine lv_bipush (v := 32) hx hb dX4_digestOf_14 (by decide) ?_
      refine lv_goto (tgt := 31) hx hb dX4_digestOf_16 (by decide) ?_
      exact gret_i hx hb hr hlk dX4_digestOf_31 hS () (hP.sub [] rfl) (hD.sub [] (by decide) rfl) (by rcases (show k = 0 ∨ k = 1 ∨ k = 2 ∨ k = 3 by omega) with rfl | rfl | rfl | rfl <;> first | rfl | (revert c_1; decide) | (revert c_11; decide) | (revert c_21; decide))
  · skip
    refine lv_bipush (v := 28) hx hb dX4_digestOf_4 (by decide) ?_
    refine lv_goto (tgt := 31) hx hb dX4_digestOf_6 (by decide) ?_
    exact gret_i hx hb hr hlk dX4_digestOf_31 hS () (hP.sub [] rfl) (hD.sub [] (by decide) rfl) (by rcases (show k = 0 ∨ k = 1 ∨ k = 2 ∨ k = 3 by omega) with rfl | rfl | rfl | rfl <;> first | rfl | (revert c_1; decide) | (revert c_11; decide) | (revert c_21; decide))
set_option maxHeartbeats 4000000 in
set_option maxRecDepth 100000 in
theorem c_X4_narrowBlock (l : Launch) (G : GW) (sz : Nat) (o : Nat) (ad : Nat → Nat) (sz1 : Int32) (osz : Int32) (th : Int32) (hsz : Int32) (sl : Nat) (sf : Nat → Int64) (bf : Nat → Int32) (nf : Nat → Int32) (cf : Nat → Int64) (hs : sl < 9) (hc : ∀ j, j < 80 → cf j = kT j) : Met l yX4_narrowBlock (Cond.code yX4_narrowBlock cX4_narrowBlock 14 (none : Option FieldType) :: UW) ({ frames := 1, cells := 0, slots := 0, locals := 21 } : Room) (va_Pc [.ref o, .int (nI sl)] (gPre G [(o, .inr (4, mF ad sz1 osz th hsz)), (ad 5, .inl (G.2.1 2, 72, .inr (.inl sf))), (ad 6, .inl (G.2.1 1, 1152, .inl bf)), (ad 24, .inl (G.2.1 1, 64, .inl nf)), (ad 2, .inl (G.2.1 2, 80, .inr (.inl cf)))] sz)) (va_Qv (fun (uq9 : (Nat → Int64) × (Nat → Int32)) => (∀ j, j < 8 → uq9.1 (8 * sl + j) = mxN (wM sf sl) (sN (oM bf sl)) j) ∧ (∀ i, (i < 8 * sl ∨ 8 * sl + 8 ≤ i) → uq9.1 i = sf i)) (fun u => gPost G (va_A [(o, .inr (4, mF ad sz1 osz th hsz)), (ad 5, .inl (G.2.1 2, 72, .inr (.inl sf))), (ad 6, .inl (G.2.1 1, 1152, .inl bf)), (ad 24, .inl (G.2.1 1, 64, .inl nf)), (ad 2, .inl (G.2.1 2, 80, .inr (.inl cf)))] sz) ((fun (uq9 : (Nat → Int64) × (Nat → Int32)) => ([(o, .inr (4, mF ad sz1 osz th hsz)), (ad 5, .inl (G.2.1 2, 72, .inr (.inl uq9.1))), (ad 6, .inl (G.2.1 1, 1152, .inl bf)), (ad 24, .inl (G.2.1 1, 64, .inl uq9.2)), (ad 2, .inl (G.2.1 2, 80, .inr (.inl cf)))] : va_W)) u)) (va_A [(o, .inr (4, mF ad sz1 osz th hsz)), (ad 5, .inl (G.2.1 2, 72, .inr (.inl sf))), (ad 6, .inl (G.2.1 1, 1152, .inl bf)), (ad 24, .inl (G.2.1 1, 64, .inl nf)), (ad 2, .inl (G.2.1 2, 80, .inr (.inl cf)))] sz)) 0 0 (va_A [(o, .inr (4, mF ad sz1 osz th hsz)), (ad 5, .inl (G.2.1 2, 72, .inr (.inl sf))), (ad 6, .inl (G.2.1 1, 1152, .inl bf)), (ad 24, .inl (G.2.1 1, 64, .inl nf)), (ad 2, .inl (G.2.1 2, 80, .inr (.inl cf)))] sz) := by
  refine gM_of (Qf := fun A => va_Qv (fun (uq9 : (Nat → Int64) × (Nat → Int32)) => (∀ j, j < 8 → uq9.1 (8 * sl + j) = mxN (wM sf sl) (sN (oM bf sl)) j) ∧ (∀ i, (i < 8 * sl ∨ 8 * sl + 8 ≤ i) → uq9.1 i = sf i)) (fun u => gPost G A ((fun (uq9 : (Nat → Int64) × (Nat → Int32)) => ([(o, .inr (4, mF ad sz1 osz th hsz)), (ad 5, .inl (G.2.1 2, 72, .inr (.inl uq9.1))), (ad 6, .inl (G.2.1 1, 1152, .inl bf)), (ad 24, .inl (G.2.1 1, 64, .inl uq9.2)), (ad 2, .inl (G.2.1 2, 80, .inr (.inl cf)))] : va_W)) u)) A) (by decide) (Nat.le_of_ble_eq_true rfl) ?_
  intro p e s m below meth c A ls hx hb hml hr hown htu hlk hnm hA hP hD hS hK hZ hl
  have hown : s.vm.findClass RX4 = some m.cls := hown
  have hl : lv_has ls 14 [(0, .ref o), (1, .int (nI sl))] := hl
  refine lv_iconst (v := 0) hx hb dX4_narrowBlock_0 (by decide) ?_
  refine lv_istore_n (lv' := [(2, .int 0), (0, .ref o), (1, .int (nI sl))]) hx hb dX4_narrowBlock_1 rfl hl (by decide) rfl (fun ls hl => ?_)
  refine g_loop (σ := Nat × (Nat → Int32)) (G := G) (fun xq9 : Nat × (Nat → Int32) => [(o, .inr (4, mF ad sz1 osz th hsz)), (ad 5, .inl (G.2.1 2, 72, .inr (.inl sf))), (ad 6, .inl (G.2.1 1, 1152, .inl bf)), (ad 24, .inl (G.2.1 1, 64, .inl xq9.2)), (ad 2, .inl (G.2.1 2, 80, .inr (.inl cf)))]) (fun xq9 : Nat × (Nat → Int32) => [(0, .ref o), (1, .int (nI sl)), (2, .int (nI xq9.1))]) (fun xq9 : Nat × (Nat → Int32) => xq9.1 ≤ 16 ∧ ∀ j, j < xq9.1 → xq9.2 j = ly4 (oM bf sl) j 4) (fun xq9 : Nat × (Nat → Int32) => 16 - xq9.1) ?_ (0, nf) (show 0 ≤ 16 ∧ ∀ j, j < 0 → nf j = ly4 (oM bf sl) j 4 from ⟨Nat.zero_le _, fun _ h => absurd h (Nat.not_lt_zero _)⟩) (hP.sub [0, 1, 2, 3, 4] rfl) (hD.sub [0, 1, 2, 3, 4] (by decide) rfl) hS (lv_sub hl [1, 2, 0] rfl)
  clear hP hD hS hl
  intro x hxI_2 ih_2 H locs ls hP hD hS hl
  obtain ⟨t, g⟩ := x
  have hI : t ≤ 16 ∧ ∀ j, j < t → g j = ly4 (oM bf sl) j 4 := hxI_2
  have hP : va_P G.1 vwCl [(o, .inr (4, mF ad sz1 osz th hsz)), (ad 5, .inl (G.2.1 2, 72, .inr (.inl sf))), (ad 6, .inl (G.2.1 1, 1152, .inl bf)), (ad 24, .inl (G.2.1 1, 64, .inl g)), (ad 2, .inl (G.2.1 2, 80, .inr (.inl cf)))] H := hP
  have hD : va_D A [(o, .inr (4, mF ad sz1 osz th hsz)), (ad 5, .inl (G.2.1 2, 72, .inr (.inl sf))), (ad 6, .inl (G.2.1 1, 1152, .inl bf)), (ad 24, .inl (G.2.1 1, 64, .inl g)), (ad 2, .inl (G.2.1 2, 80, .inr (.inl cf)))] := hD
  have hl : lv_has ls 14 [(0, .ref o), (1, .int (nI sl)), (2, .int (nI t))] := hl
  refine lv_iload_n hx hb dX4_narrowBlock_2 rfl (lv_at hl 2 rfl) ?_
  refine lv_bipush (v := 16) hx hb dX4_narrowBlock_3 (by decide) ?_
  refine lv_icmp_ge (tgt := 72) hx hb dX4_narrowBlock_5 (by decide) (fun c_5 => ?_) (fun c_5 => ?_)
  · skip
    have hg : 16 ≤ t := ge_t (n := 16) c_5 (by decide)
    refine lv_bipush (v := 16) hx hb dX4_narrowBlock_72 (by decide) ?_
    refine lv_istore_n (lv' := [(2, .int 16), (0, .ref o), (1, .int (nI sl))]) hx hb dX4_narrowBlock_74 rfl hl (by decide) rfl (fun ls hl => ?_)
    refine g_loop (σ := Nat × (Nat → Int32)) (G := G) (fun xq9 : Nat × (Nat → Int32) => [(o, .inr (4, mF ad sz1 osz th hsz)), (ad 5, .inl (G.2.1 2, 72, .inr (.inl sf))), (ad 6, .inl (G.2.1 1, 1152, .inl bf)), (ad 24, .inl (G.2.1 1, 64, .inl xq9.2)), (ad 2, .inl (G.2.1 2, 80, .inr (.inl cf)))]) (fun xq9 : Nat × (Nat → Int32) => [(0, .ref o), (1, .int (nI sl)), (2, .int (nI xq9.1))]) (fun xq9 : Nat × (Nat → Int32) => 16 ≤ xq9.1 ∧ xq9.1 ≤ 64 ∧ ∀ j, j < xq9.1 → xq9.2 j = sN (oM bf sl) j) (fun xq9 : Nat × (Nat → Int32) => 64 - xq9.1) ?_ (16, g) (show 16 ≤ 16 ∧ 16 ≤ 64 ∧ ∀ j, j < 16 → g j = sN (oM bf sl) j from ⟨Nat.le_refl _, by decide, fun j hj => by rw [hI.2 j (by omega), sN_lt hj]⟩) (hP.sub [0, 1, 2, 3, 4] rfl) (hD.sub [0, 1, 2, 3, 4] (by decide) rfl) hS (lv_sub hl [1, 2, 0] rfl)
    clear hP hD hS hl
    intro x hxI_75 ih_75 H locs ls hP hD hS hl
    obtain ⟨t, g⟩ := x
    have hI : 16 ≤ t ∧ t ≤ 64 ∧ ∀ j, j < t → g j = sN (oM bf sl) j := hxI_75
    have hP : va_P G.1 vwCl [(o, .inr (4, mF ad sz1 osz th hsz)), (ad 5, .inl (G.2.1 2, 72, .inr (.inl sf))), (ad 6, .inl (G.2.1 1, 1152, .inl bf)), (ad 24, .inl (G.2.1 1, 64, .inl g)), (ad 2, .inl (G.2.1 2, 80, .inr (.inl cf)))] H := hP
    have hD : va_D A [(o, .inr (4, mF ad sz1 osz th hsz)), (ad 5, .inl (G.2.1 2, 72, .inr (.inl sf))), (ad 6, .inl (G.2.1 1, 1152, .inl bf)), (ad 24, .inl (G.2.1 1, 64, .inl g)), (ad 2, .inl (G.2.1 2, 80, .inr (.inl cf)))] := hD
    have hl : lv_has ls 14 [(0, .ref o), (1, .int (nI sl)), (2, .int (nI t))] := hl
    refine lv_iload_n hx hb dX4_narrowBlock_75 rfl (lv_at hl 2 rfl) ?_
    refine lv_bipush (v := 64) hx hb dX4_narrowBlock_76 (by decide) ?_
    refine lv_icmp_ge (tgt := 172) hx hb dX4_narrowBlock_78 (by decide) (fun c_78 => ?_) (fun c_78 => ?_)
    · skip
      have hg : 64 ≤ t := ge_t (n := 64) c_78 (by decide)
      refine lv_bipush (v := 8) hx hb dX4_narrowBlock_172 (by decide) ?_
      refine lv_iload_n hx hb dX4_narrowBlock_174 rfl (lv_at hl 1 rfl) ?_
      refine lv_imul hx hb dX4_narrowBlock_175 ?_
      refine g_toi (y := nI (8 * sl)) (pk_mul 8 sl) ?_
      refine lv_istore_n (lv' := [(2, .int (nI (8 * sl))), (0, .ref o), (1, .int (nI sl))]) hx hb dX4_narrowBlock_176 rfl hl (by decide) rfl (fun ls hl => ?_)
      refine lv_aload_n hx hb dX4_narrowBlock_177 rfl (lv_at hl 1 rfl) ?_
      refine va_get (D := G.1) (ci := 4) (v := .ref (ad 5)) (C := RX4) (T := TX4) (N := 29) hx hb htu iwX4 hown hK.1 hP 0 rfl rfl 5 (by decide) (htu _ uF_X4_23) (fun _ h9 => h9) rfl dX4_narrowBlock_178 ?_
      refine lv_iload_n hx hb dX4_narrowBlock_181 rfl (lv_at hl 0 rfl) ?_
      refine g_lald hx hb hK.1 hP 1 2 rfl rfl ⟨by omega, by decide⟩ dX4_narrowBlock_182 ?_
      refine lv_l2i (v := Int64.toInt32 (sf (8 * sl))) hx hb dX4_narrowBlock_183 rfl ?_
      refine lv_topi (fun v_1 ev_1 => ?_)
      refine lv_istore_n (lv' := [(3, .int v_1), (2, .int (nI (8 * sl))), (0, .ref o), (1, .int (nI sl))]) hx hb dX4_narrowBlock_184 rfl hl (by decide) rfl (fun ls hl => ?_)
      refine lv_aload_n hx hb dX4_narrowBlock_185 rfl (lv_at hl 2 rfl) ?_
      refine va_get (D := G.1) (ci := 4) (v := .ref (ad 5)) (C := RX4) (T := TX4) (N := 29) hx hb htu iwX4 hown hK.1 hP 0 rfl rfl 5 (by decide) (htu _ uF_X4_23) (fun _ h9 => h9) rfl dX4_narrowBlock_186 ?_
      refine lv_iload_n hx hb dX4_narrowBlock_189 rfl (lv_at hl 1 rfl) ?_
      refine lv_iconst (v := 1) hx hb dX4_narrowBlock_190 (by decide) ?_
      refine lv_iadd hx hb dX4_narrowBlock_191 ?_
      refine g_toi (y := nI (8 * sl + 1)) (nI_add (8 * sl) 1) ?_
      refine g_lald hx hb hK.1 hP 1 2 rfl rfl ⟨by omega, by decide⟩ dX4_narrowBlock_192 ?_
      refine lv_l2i (v := Int64.toInt32 (sf (8 * sl + 1))) hx hb dX4_narrowBlock_193 rfl ?_
      refine lv_topi (fun v_2 ev_2 => ?_)
      refine lv_istore (lv' := [(4, .int v_2), (3, .int v_1), (2, .int (nI (8 * sl))), (0, .ref o), (1, .int (nI sl))]) hx hb dX4_narrowBlock_194 hl (by decide) rfl (fun ls hl => ?_)
      refine lv_aload_n hx hb dX4_narrowBlock_196 rfl (lv_at hl 3 rfl) ?_
      refine va_get (D := G.1) (ci := 4) (v := .ref (ad 5)) (C := RX4) (T := TX4) (N := 29) hx hb htu iwX4 hown hK.1 hP 0 rfl rfl 5 (by decide) (htu _ uF_X4_23) (fun _ h9 => h9) rfl dX4_narrowBlock_197 ?_
      refine lv_iload_n hx hb dX4_narrowBlock_200 rfl (lv_at hl 2 rfl) ?_
      refine lv_iconst (v := 2) hx hb dX4_narrowBlock_201 (by decide) ?_
      refine lv_iadd hx hb dX4_narrowBlock_202 ?_
      refine g_toi (y := nI (8 * sl + 2)) (nI_add (8 * sl) 2) ?_
      refine g_lald hx hb hK.1 hP 1 2 rfl rfl ⟨by omega, by decide⟩ dX4_narrowBlock_203 ?_
      refine lv_l2i (v := Int64.toInt32 (sf (8 * sl + 2))) hx hb dX4_narrowBlock_204 rfl ?_
      refine lv_topi (fun v_3 ev_3 => ?_)
      refine lv_istore (lv' := [(5, .int v_3), (4, .int v_2), (3, .int v_1), (2, .int (nI (8 * sl))), (0, .ref o), (1, .int (nI sl))]) hx hb dX4_narrowBlock_205 hl (by decide) rfl (fun ls hl => ?_)
      refine lv_aload_n hx hb dX4_narrowBlock_207 rfl (lv_at hl 4 rfl) ?_
      refine va_get (D := G.1) (ci := 4) (v := .ref (ad 5)) (C := RX4) (T := TX4) (N := 29) hx hb htu iwX4 hown hK.1 hP 0 rfl rfl 5 (by decide) (htu _ uF_X4_23) (fun _ h9 => h9) rfl dX4_narrowBlock_208 ?_
      refine lv_iload_n hx hb dX4_narrowBlock_211 rfl (lv_at hl 3 rfl) ?_
      refine lv_iconst (v := 3) hx hb dX4_narrowBlock_212 (by decide) ?_
      refine lv_iadd hx hb dX4_narrowBlock_213 ?_
      refine g_toi (y := nI (8 * sl + 3)) (nI_add (8 * sl) 3) ?_
      refine g_lald hx hb hK.1 hP 1 2 rfl rfl ⟨by omega, by decide⟩ dX4_narrowBlock_214 ?_
      refine lv_l2i (v := Int64.toInt32 (sf (8 * sl + 3))) hx hb dX4_narrowBlock_215 rfl ?_
      refine lv_topi (fun v_4 ev_4 => ?_)
      refine lv_istore (lv' := [(6, .int v_4), (5, .int v_3), (4, .int v_2), (3, .int v_1), (2, .int (nI (8 * sl))), (0, .ref o), (1, .int (nI sl))]) hx hb dX4_narrowBlock_216 hl (by decide) rfl (fun ls hl => ?_)
      refine lv_aload_n hx hb dX4_narrowBlock_218 rfl (lv_at hl 5 rfl) ?_
      refine va_get (D := G.1) (ci := 4) (v := .ref (ad 5)) (C := RX4) (T := TX4) (N := 29) hx hb htu iwX4 hown hK.1 hP 0 rfl rfl 5 (by decide) (htu _ uF_X4_23) (fun _ h9 => h9) rfl dX4_narrowBlock_219 ?_
      refine lv_iload_n hx hb dX4_narrowBlock_222 rfl (lv_at hl 4 rfl) ?_
      refine lv_iconst (v := 4) hx hb dX4_narrowBlock_223 (by decide) ?_
      refine lv_iadd hx hb dX4_narrowBlock_224 ?_
      refine g_toi (y := nI (8 * sl + 4)) (nI_add (8 * sl) 4) ?_
      refine g_lald hx hb hK.1 hP 1 2 rfl rfl ⟨by omega, by decide⟩ dX4_narrowBlock_225 ?_
      refine lv_l2i (v := Int64.toInt32 (sf (8 * sl + 4))) hx hb dX4_narrowBlock_226 rfl ?_
      refine lv_topi (fun v_5 ev_5 => ?_)
      refine lv_istore (lv' := [(7, .int v_5), (6, .int v_4), (5, .int v_3), (4, .int v_2), (3, .int v_1), (2, .int (nI (8 * sl))), (0, .ref o), (1, .int (nI sl))]) hx hb dX4_narrowBlock_227 hl (by decide) rfl (fun ls hl => ?_)
      refine lv_aload_n hx hb dX4_narrowBlock_229 rfl (lv_at hl 6 rfl) ?_
      refine va_get (D := G.1) (ci := 4) (v := .ref (ad 5)) (C := RX4) (T := TX4) (N := 29) hx hb htu iwX4 hown hK.1 hP 0 rfl rfl 5 (by decide) (htu _ uF_X4_23) (fun _ h9 => h9) rfl dX4_narrowBlock_230 ?_
      refine lv_iload_n hx hb dX4_narrowBlock_233 rfl (lv_at hl 5 rfl) ?_
      refine lv_iconst (v := 5) hx hb dX4_narrowBlock_234 (by decide) ?_
      refine lv_iadd hx hb dX4_narrowBlock_235 ?_
      refine g_toi (y := nI (8 * sl + 5)) (nI_add (8 * sl) 5) ?_
      refine g_lald hx hb hK.1 hP 1 2 rfl rfl ⟨by omega, by decide⟩ dX4_narrowBlock_236 ?_
      refine lv_l2i (v := Int64.toInt32 (sf (8 * sl + 5))) hx hb dX4_narrowBlock_237 rfl ?_
      refine lv_topi (fun v_6 ev_6 => ?_)
      refine lv_istore (lv' := [(8, .int v_6), (7, .int v_5), (6, .int v_4), (5, .int v_3), (4, .int v_2), (3, .int v_1), (2, .int (nI (8 * sl))), (0, .ref o), (1, .int (nI sl))]) hx hb dX4_narrowBlock_238 hl (by decide) rfl (fun ls hl => ?_)
      refine lv_aload_n hx hb dX4_narrowBlock_240 rfl (lv_at hl 7 rfl) ?_
      refine va_get (D := G.1) (ci := 4) (v := .ref (ad 5)) (C := RX4) (T := TX4) (N := 29) hx hb htu iwX4 hown hK.1 hP 0 rfl rfl 5 (by decide) (htu _ uF_X4_23) (fun _ h9 => h9) rfl dX4_narrowBlock_241 ?_
      refine lv_iload_n hx hb dX4_narrowBlock_244 rfl (lv_at hl 6 rfl) ?_
      refine lv_bipush (v := 6) hx hb dX4_narrowBlock_245 (by decide) ?_
      refine lv_iadd hx hb dX4_narrowBlock_247 ?_
      refine g_toi (y := nI (8 * sl + 6)) (nI_add (8 * sl) 6) ?_
      refine g_lald hx hb hK.1 hP 1 2 rfl rfl ⟨by omega, by decide⟩ dX4_narrowBlock_248 ?_
      refine lv_l2i (v := Int64.toInt32 (sf (8 * sl + 6))) hx hb dX4_narrowBlock_249 rfl ?_
      refine lv_topi (fun v_7 ev_7 => ?_)
      refine lv_istore (lv' := [(9, .int v_7), (8, .int v_6), (7, .int v_5), (6, .int v_4), (5, .int v_3), (4, .int v_2), (3, .int v_1), (2, .int (nI (8 * sl))), (0, .ref o), (1, .int (nI sl))]) hx hb dX4_narrowBlock_250 hl (by decide) rfl (fun ls hl => ?_)
      refine lv_aload_n hx hb dX4_narrowBlock_252 rfl (lv_at hl 8 rfl) ?_
      refine va_get (D := G.1) (ci := 4) (v := .ref (ad 5)) (C := RX4) (T := TX4) (N := 29) hx hb htu iwX4 hown hK.1 hP 0 rfl rfl 5 (by decide) (htu _ uF_X4_23) (fun _ h9 => h9) rfl dX4_narrowBlock_253 ?_
      refine lv_iload_n hx hb dX4_narrowBlock_256 rfl (lv_at hl 7 rfl) ?_
      refine lv_bipush (v := 7) hx hb dX4_narrowBlock_257 (by decide) ?_
      refine lv_iadd hx hb dX4_narrowBlock_259 ?_
      refine g_toi (y := nI (8 * sl + 7)) (nI_add (8 * sl) 7) ?_
      refine g_lald hx hb hK.1 hP 1 2 rfl rfl ⟨by omega, by decide⟩ dX4_narrowBlock_260 ?_
      refine lv_l2i (v := Int64.toInt32 (sf (8 * sl + 7))) hx hb dX4_narrowBlock_261 rfl ?_
      refine lv_topi (fun v_8 ev_8 => ?_)
      refine lv_istore (lv' := [(10, .int v_8), (9, .int v_7), (8, .int v_6), (7, .int v_5), (6, .int v_4), (5, .int v_3), (4, .int v_2), (3, .int v_1), (2, .int (nI (8 * sl))), (0, .ref o), (1, .int (nI sl))]) hx hb dX4_narrowBlock_262 hl (by decide) rfl (fun ls hl => ?_)
      refine lv_iconst (v := 0) hx hb dX4_narrowBlock_264 (by decide) ?_
      refine lv_istore (lv' := [(11, .int 0), (10, .int v_8), (9, .int v_7), (8, .int v_6), (7, .int v_5), (6, .int v_4), (5, .int v_3), (4, .int v_2), (3, .int v_1), (2, .int (nI (8 * sl))), (0, .ref o), (1, .int (nI sl))]) hx hb dX4_narrowBlock_265 hl (by decide) rfl (fun ls hl => ?_)
      refine g_loop (σ := Nat × Int32 × Int32 × Int32 × Int32 × Int32 × Int32 × Int32 × Int32) (G := G) (fun xq9 : Nat × Int32 × Int32 × Int32 × Int32 × Int32 × Int32 × Int32 × Int32 => [(o, .inr (4, mF ad sz1 osz th hsz)), (ad 5, .inl (G.2.1 2, 72, .inr (.inl sf))), (ad 6, .inl (G.2.1 1, 1152, .inl bf)), (ad 24, .inl (G.2.1 1, 64, .inl g)), (ad 2, .inl (G.2.1 2, 80, .inr (.inl cf)))]) (fun xq9 : Nat × Int32 × Int32 × Int32 × Int32 × Int32 × Int32 × Int32 × Int32 => [(0, .ref o), (1, .int (nI sl)), (2, .int (nI (8 * sl))), (3, .int xq9.2.1), (4, .int xq9.2.2.1), (5, .int xq9.2.2.2.1), (6, .int xq9.2.2.2.2.1), (7, .int xq9.2.2.2.2.2.1), (8, .int xq9.2.2.2.2.2.2.1), (9, .int xq9.2.2.2.2.2.2.2.1), (10, .int xq9.2.2.2.2.2.2.2.2), (11, .int (nI xq9.1))]) (fun xq9 : Nat × Int32 × Int32 × Int32 × Int32 × Int32 × Int32 × Int32 × Int32 => xq9.1 ≤ 64 ∧ (xq9.2.1, xq9.2.2.1, xq9.2.2.2.1, xq9.2.2.2.2.1, xq9.2.2.2.2.2.1, xq9.2.2.2.2.2.2.1, xq9.2.2.2.2.2.2.2.1, xq9.2.2.2.2.2.2.2.2) = rdsN g (v0N (wM sf sl)) xq9.1) (fun xq9 : Nat × Int32 × Int32 × Int32 × Int32 × Int32 × Int32 × Int32 × Int32 => 64 - xq9.1) ?_ (0, v_1, v_2, v_3, v_4, v_5, v_6, v_7, v_8) (show 0 ≤ 64 ∧ (v_1, v_2, v_3, v_4, v_5, v_6, v_7, v_8) = rdsN g (v0N (wM sf sl)) 0 from ⟨Nat.zero_le _, by subst_vars; rfl⟩) (hP.sub [0, 1, 2, 3, 4] rfl) (hD.sub [0, 1, 2, 3, 4] (by decide) rfl) hS (lv_sub hl [10, 11, 9, 8, 7, 6, 5, 4, 3, 2, 1, 0] rfl)
      clear hP hD hS hl
      intro x hxI_267 ih_267 H locs ls hP hD hS hl
      obtain ⟨t, xa, xb, xc, xd, xe, xf, xg, xh⟩ := x
      have hH : t ≤ 64 ∧ (xa, xb, xc, xd, xe, xf, xg, xh) = rdsN g (v0N (wM sf sl)) t := hxI_267
      have hP : va_P G.1 vwCl [(o, .inr (4, mF ad sz1 osz th hsz)), (ad 5, .inl (G.2.1 2, 72, .inr (.inl sf))), (ad 6, .inl (G.2.1 1, 1152, .inl bf)), (ad 24, .inl (G.2.1 1, 64, .inl g)), (ad 2, .inl (G.2.1 2, 80, .inr (.inl cf)))] H := hP
      have hD : va_D A [(o, .inr (4, mF ad sz1 osz th hsz)), (ad 5, .inl (G.2.1 2, 72, .inr (.inl sf))), (ad 6, .inl (G.2.1 1, 1152, .inl bf)), (ad 24, .inl (G.2.1 1, 64, .inl g)), (ad 2, .inl (G.2.1 2, 80, .inr (.inl cf)))] := hD
      have hl : lv_has ls 14 [(0, .ref o), (1, .int (nI sl)), (2, .int (nI (8 * sl))), (3, .int xa), (4, .int xb), (5, .int xc), (6, .int xd), (7, .int xe), (8, .int xf), (9, .int xg), (10, .int xh), (11, .int (nI t))] := hl
      refine lv_iload hx hb dX4_narrowBlock_267 (lv_at hl 11 rfl) ?_
      refine lv_bipush (v := 64) hx hb dX4_narrowBlock_269 (by decide) ?_
      refine lv_icmp_ge (tgt := 415) hx hb dX4_narrowBlock_271 (by decide) (fun c_271 => ?_) (fun c_271 => ?_)
      · skip
        have ht : t = 64 := Nat.le_antisymm hH.1 (ge_t (n := 64) c_271 (by decide))
        refine lv_aload_n hx hb dX4_narrowBlock_415 rfl (lv_at hl 0 rfl) ?_
        refine va_get (D := G.1) (ci := 4) (v := .ref (ad 5)) (C := RX4) (T := TX4) (N := 29) hx hb htu iwX4 hown hK.1 hP 0 rfl rfl 5 (by decide) (htu _ uF_X4_23) (fun _ h9 => h9) rfl dX4_narrowBlock_416 ?_
        refine lv_iload_n hx hb dX4_narrowBlock_419 rfl (lv_at hl 2 rfl) ?_
        refine lv_aload_n hx hb dX4_narrowBlock_420 rfl (lv_at hl 0 rfl) ?_
        refine va_get (D := G.1) (ci := 4) (v := .ref (ad 5)) (C := RX4) (T := TX4) (N := 29) hx hb htu iwX4 hown hK.1 hP 0 rfl rfl 5 (by decide) (htu _ uF_X4_23) (fun _ h9 => h9) rfl dX4_narrowBlock_421 ?_
        refine lv_iload_n hx hb dX4_narrowBlock_424 rfl (lv_at hl 2 rfl) ?_
        refine g_lald hx hb hK.1 hP 1 2 rfl rfl ⟨by omega, by decide⟩ dX4_narrowBlock_425 ?_
        refine lv_iload_n hx hb dX4_narrowBlock_426 rfl (lv_at hl 3 rfl) ?_
        refine lv_i2l (v := Int32.toInt64 xa) hx hb dX4_narrowBlock_427 rfl ?_
        refine lv_ladd hx hb dX4_narrowBlock_428 ?_
        refine lv_ldc2 hx hb hown (htu _ uL_X4_112) dX4_narrowBlock_429 ?_
        refine lv_land hx hb dX4_narrowBlock_432 ?_
        refine lv_topl (fun v_9 ev_9 => ?_)
        refine g_last hx hb hK.1 hP hD hS 1 2 rfl rfl ⟨by omega, by decide⟩ dX4_narrowBlock_433 (fun H locs hP hD hS => ?_)
        obtain ⟨g_10, eg_10⟩ : ∃ gq9 : Nat → Int64, gq9 = vp_updL sf (8 * sl) v_9 := ⟨_, rfl⟩
        rw [← eg_10] at hP hD
        have hP : va_P G.1 vwCl [(o, .inr (4, mF ad sz1 osz th hsz)), (ad 5, .inl (G.2.1 2, 72, .inr (.inl g_10))), (ad 6, .inl (G.2.1 1, 1152, .inl bf)), (ad 24, .inl (G.2.1 1, 64, .inl g)), (ad 2, .inl (G.2.1 2, 80, .inr (.inl cf)))] H := hP
        have hD : va_D A [(o, .inr (4, mF ad sz1 osz th hsz)), (ad 5, .inl (G.2.1 2, 72, .inr (.inl g_10))), (ad 6, .inl (G.2.1 1, 1152, .inl bf)), (ad 24, .inl (G.2.1 1, 64, .inl g)), (ad 2, .inl (G.2.1 2, 80, .inr (.inl cf)))] := hD
        refine lv_aload_n hx hb dX4_narrowBlock_434 rfl (lv_at hl 0 rfl) ?_
        refine va_get (D := G.1) (ci := 4) (v := .ref (ad 5)) (C := RX4) (T := TX4) (N := 29) hx hb htu iwX4 hown hK.1 hP 0 rfl rfl 5 (by decide) (htu _ uF_X4_23) (fun _ h9 => h9) rfl dX4_narrowBlock_435 ?_
        refine lv_iload_n hx hb dX4_narrowBlock_438 rfl (lv_at hl 2 rfl) ?_
        refine lv_iconst (v := 1) hx hb dX4_narrowBlock_439 (by decide) ?_
        refine lv_iadd hx hb dX4_narrowBlock_440 ?_
        refine g_toi (y := nI (8 * sl + 1)) (nI_add (8 * sl) 1) ?_
        refine lv_aload_n hx hb dX4_narrowBlock_441 rfl (lv_at hl 0 rfl) ?_
        refine va_get (D := G.1) (ci := 4) (v := .ref (ad 5)) (C := RX4) (T := TX4) (N := 29) hx hb htu iwX4 hown hK.1 hP 0 rfl rfl 5 (by decide) (htu _ uF_X4_23) (fun _ h9 => h9) rfl dX4_narrowBlock_442 ?_
        refine lv_iload_n hx hb dX4_narrowBlock_445 rfl (lv_at hl 2 rfl) ?_
        refine lv_iconst (v := 1) hx hb dX4_narrowBlock_446 (by decide) ?_
        refine lv_iadd hx hb dX4_narrowBlock_447 ?_
        refine g_toi (y := nI (8 * sl + 1)) (nI_add (8 * sl) 1) ?_
        refine g_lald hx hb hK.1 hP 1 2 rfl rfl ⟨by omega, by decide⟩ dX4_narrowBlock_448 ?_
        refine g_tol (y := sf (8 * sl + 1)) (by rw [eg_10, pk_uLn (by omega)]) ?_
        refine lv_iload hx hb dX4_narrowBlock_449 (lv_at hl 4 rfl) ?_
        refine lv_i2l (v := Int32.toInt64 xb) hx hb dX4_narrowBlock_451 rfl ?_
        refine lv_ladd hx hb dX4_narrowBlock_452 ?_
        refine lv_ldc2 hx hb hown (htu _ uL_X4_112) dX4_narrowBlock_453 ?_
        refine lv_land hx hb dX4_narrowBlock_456 ?_
        refine lv_topl (fun v_11 ev_11 => ?_)
        refine g_last hx hb hK.1 hP hD hS 1 2 rfl rfl ⟨by omega, by decide⟩ dX4_narrowBlock_457 (fun H locs hP hD hS => ?_)
        obtain ⟨g_12, eg_12⟩ : ∃ gq9 : Nat → Int64, gq9 = vp_updL g_10 (8 * sl + 1) v_11 := ⟨_, rfl⟩
        rw [← eg_12] at hP hD
        have hP : va_P G.1 vwCl [(o, .inr (4, mF ad sz1 osz th hsz)), (ad 5, .inl (G.2.1 2, 72, .inr (.inl g_12))), (ad 6, .inl (G.2.1 1, 1152, .inl bf)), (ad 24, .inl (G.2.1 1, 64, .inl g)), (ad 2, .inl (G.2.1 2, 80, .inr (.inl cf)))] H := hP
        have hD : va_D A [(o, .inr (4, mF ad sz1 osz th hsz)), (ad 5, .inl (G.2.1 2, 72, .inr (.inl g_12))), (ad 6, .inl (G.2.1 1, 1152, .inl bf)), (ad 24, .inl (G.2.1 1, 64, .inl g)), (ad 2, .inl (G.2.1 2, 80, .inr (.inl cf)))] := hD
        refine lv_aload_n hx hb dX4_narrowBlock_458 rfl (lv_at hl 0 rfl) ?_
        refine va_get (D := G.1) (ci := 4) (v := .ref (ad 5)) (C := RX4) (T := TX4) (N := 29) hx hb htu iwX4 hown hK.1 hP 0 rfl rfl 5 (by decide) (htu _ uF_X4_23) (fun _ h9 => h9) rfl dX4_narrowBlock_459 ?_
        refine lv_iload_n hx hb dX4_narrowBlock_462 rfl (lv_at hl 2 rfl) ?_
        refine lv_iconst (v := 2) hx hb dX4_narrowBlock_463 (by decide) ?_
        refine lv_iadd hx hb dX4_narrowBlock_464 ?_
        refine g_toi (y := nI (8 * sl + 2)) (nI_add (8 * sl) 2) ?_
        refine lv_aload_n hx hb dX4_narrowBlock_465 rfl (lv_at hl 0 rfl) ?_
        refine va_get (D := G.1) (ci := 4) (v := .ref (ad 5)) (C := RX4) (T := TX4) (N := 29) hx hb htu iwX4 hown hK.1 hP 0 rfl rfl 5 (by decide) (htu _ uF_X4_23) (fun _ h9 => h9) rfl dX4_narrowBlock_466 ?_
        refine lv_iload_n hx hb dX4_narrowBlock_469 rfl (lv_at hl 2 rfl) ?_
        refine lv_iconst (v := 2) hx hb dX4_narrowBlock_470 (by decide) ?_
        refine lv_iadd hx hb dX4_narrowBlock_471 ?_
        refine g_toi (y := nI (8 * sl + 2)) (nI_add (8 * sl) 2) ?_
        refine g_lald hx hb hK.1 hP 1 2 rfl rfl ⟨by omega, by decide⟩ dX4_narrowBlock_472 ?_
        refine g_tol (y := sf (8 * sl + 2)) (by rw [eg_12, pk_uLn (by omega), eg_10, pk_uLn (by omega)]) ?_
        refine lv_iload hx hb dX4_narrowBlock_473 (lv_at hl 5 rfl) ?_
        refine lv_i2l (v := Int32.toInt64 xc) hx hb dX4_narrowBlock_475 rfl ?_
        refine lv_ladd hx hb dX4_narrowBlock_476 ?_
        refine lv_ldc2 hx hb hown (htu _ uL_X4_112) dX4_narrowBlock_477 ?_
        refine lv_land hx hb dX4_narrowBlock_480 ?_
        refine lv_topl (fun v_13 ev_13 => ?_)
        refine g_last hx hb hK.1 hP hD hS 1 2 rfl rfl ⟨by omega, by decide⟩ dX4_narrowBlock_481 (fun H locs hP hD hS => ?_)
        obtain ⟨g_14, eg_14⟩ : ∃ gq9 : Nat → Int64, gq9 = vp_updL g_12 (8 * sl + 2) v_13 := ⟨_, rfl⟩
        rw [← eg_14] at hP hD
        have hP : va_P G.1 vwCl [(o, .inr (4, mF ad sz1 osz th hsz)), (ad 5, .inl (G.2.1 2, 72, .inr (.inl g_14))), (ad 6, .inl (G.2.1 1, 1152, .inl bf)), (ad 24, .inl (G.2.1 1, 64, .inl g)), (ad 2, .inl (G.2.1 2, 80, .inr (.inl cf)))] H := hP
        have hD : va_D A [(o, .inr (4, mF ad sz1 osz th hsz)), (ad 5, .inl (G.2.1 2, 72, .inr (.inl g_14))), (ad 6, .inl (G.2.1 1, 1152, .inl bf)), (ad 24, .inl (G.2.1 1, 64, .inl g)), (ad 2, .inl (G.2.1 2, 80, .inr (.inl cf)))] := hD
        refine lv_aload_n hx hb dX4_narrowBlock_482 rfl (lv_at hl 0 rfl) ?_
        refine va_get (D := G.1) (ci := 4) (v := .ref (ad 5)) (C := RX4) (T := TX4) (N := 29) hx hb htu iwX4 hown hK.1 hP 0 rfl rfl 5 (by decide) (htu _ uF_X4_23) (fun _ h9 => h9) rfl dX4_narrowBlock_483 ?_
        refine lv_iload_n hx hb dX4_narrowBlock_486 rfl (lv_at hl 2 rfl) ?_
        refine lv_iconst (v := 3) hx hb dX4_narrowBlock_487 (by decide) ?_
        refine lv_iadd hx hb dX4_narrowBlock_488 ?_
        refine g_toi (y := nI (8 * sl + 3)) (nI_add (8 * sl) 3) ?_
        refine lv_aload_n hx hb dX4_narrowBlock_489 rfl (lv_at hl 0 rfl) ?_
        refine va_get (D := G.1) (ci := 4) (v := .ref (ad 5)) (C := RX4) (T := TX4) (N := 29) hx hb htu iwX4 hown hK.1 hP 0 rfl rfl 5 (by decide) (htu _ uF_X4_23) (fun _ h9 => h9) rfl dX4_narrowBlock_490 ?_
        refine lv_iload_n hx hb dX4_narrowBlock_493 rfl (lv_at hl 2 rfl) ?_
        refine lv_iconst (v := 3) hx hb dX4_narrowBlock_494 (by decide) ?_
        refine lv_iadd hx hb dX4_narrowBlock_495 ?_
        refine g_toi (y := nI (8 * sl + 3)) (nI_add (8 * sl) 3) ?_
        refine g_lald hx hb hK.1 hP 1 2 rfl rfl ⟨by omega, by decide⟩ dX4_narrowBlock_496 ?_
        refine g_tol (y := sf (8 * sl + 3)) (by rw [eg_14, pk_uLn (by omega), eg_12, pk_uLn (by omega), eg_10, pk_uLn (by omega)]) ?_
        refine lv_iload hx hb dX4_narrowBlock_497 (lv_at hl 6 rfl) ?_
        refine lv_i2l (v := Int32.toInt64 xd) hx hb dX4_narrowBlock_499 rfl ?_
        refine lv_ladd hx hb dX4_narrowBlock_500 ?_
        refine lv_ldc2 hx hb hown (htu _ uL_X4_112) dX4_narrowBlock_501 ?_
        refine lv_land hx hb dX4_narrowBlock_504 ?_
        refine lv_topl (fun v_15 ev_15 => ?_)
        refine g_last hx hb hK.1 hP hD hS 1 2 rfl rfl ⟨by omega, by decide⟩ dX4_narrowBlock_505 (fun H locs hP hD hS => ?_)
        obtain ⟨g_16, eg_16⟩ : ∃ gq9 : Nat → Int64, gq9 = vp_updL g_14 (8 * sl + 3) v_15 := ⟨_, rfl⟩
        rw [← eg_16] at hP hD
        have hP : va_P G.1 vwCl [(o, .inr (4, mF ad sz1 osz th hsz)), (ad 5, .inl (G.2.1 2, 72, .inr (.inl g_16))), (ad 6, .inl (G.2.1 1, 1152, .inl bf)), (ad 24, .inl (G.2.1 1, 64, .inl g)), (ad 2, .inl (G.2.1 2, 80, .inr (.inl cf)))] H := hP
        have hD : va_D A [(o, .inr (4, mF ad sz1 osz th hsz)), (ad 5, .inl (G.2.1 2, 72, .inr (.inl g_16))), (ad 6, .inl (G.2.1 1, 1152, .inl bf)), (ad 24, .inl (G.2.1 1, 64, .inl g)), (ad 2, .inl (G.2.1 2, 80, .inr (.inl cf)))] := hD
        refine lv_aload_n hx hb dX4_narrowBlock_506 rfl (lv_at hl 0 rfl) ?_
        refine va_get (D := G.1) (ci := 4) (v := .ref (ad 5)) (C := RX4) (T := TX4) (N := 29) hx hb htu iwX4 hown hK.1 hP 0 rfl rfl 5 (by decide) (htu _ uF_X4_23) (fun _ h9 => h9) rfl dX4_narrowBlock_507 ?_
        refine lv_iload_n hx hb dX4_narrowBlock_510 rfl (lv_at hl 2 rfl) ?_
        refine lv_iconst (v := 4) hx hb dX4_narrowBlock_511 (by decide) ?_
        refine lv_iadd hx hb dX4_narrowBlock_512 ?_
        refine g_toi (y := nI (8 * sl + 4)) (nI_add (8 * sl) 4) ?_
        refine lv_aload_n hx hb dX4_narrowBlock_513 rfl (lv_at hl 0 rfl) ?_
        refine va_get (D := G.1) (ci := 4) (v := .ref (ad 5)) (C := RX4) (T := TX4) (N := 29) hx hb htu iwX4 hown hK.1 hP 0 rfl rfl 5 (by decide) (htu _ uF_X4_23) (fun _ h9 => h9) rfl dX4_narrowBlock_514 ?_
        refine lv_iload_n hx hb dX4_narrowBlock_517 rfl (lv_at hl 2 rfl) ?_
        refine lv_iconst (v := 4) hx hb dX4_narrowBlock_518 (by decide) ?_
        refine lv_iadd hx hb dX4_narrowBlock_519 ?_
        refine g_toi (y := nI (8 * sl + 4)) (nI_add (8 * sl) 4) ?_
        refine g_lald hx hb hK.1 hP 1 2 rfl rfl ⟨by omega, by decide⟩ dX4_narrowBlock_520 ?_
        refine g_tol (y := sf (8 * sl + 4)) (by rw [eg_16, pk_uLn (by omega), eg_14, pk_uLn (by omega), eg_12, pk_uLn (by omega), eg_10, pk_uLn (by omega)]) ?_
        refine lv_iload hx hb dX4_narrowBlock_521 (lv_at hl 7 rfl) ?_
        refine lv_i2l (v := Int32.toInt64 xe) hx hb dX4_narrowBlock_523 rfl ?_
        refine lv_ladd hx hb dX4_narrowBlock_524 ?_
        refine lv_ldc2 hx hb hown (htu _ uL_X4_112) dX4_narrowBlock_525 ?_
        refine lv_land hx hb dX4_narrowBlock_528 ?_
        refine lv_topl (fun v_17 ev_17 => ?_)
        refine g_last hx hb hK.1 hP hD hS 1 2 rfl rfl ⟨by omega, by decide⟩ dX4_narrowBlock_529 (fun H locs hP hD hS => ?_)
        obtain ⟨g_18, eg_18⟩ : ∃ gq9 : Nat → Int64, gq9 = vp_updL g_16 (8 * sl + 4) v_17 := ⟨_, rfl⟩
        rw [← eg_18] at hP hD
        have hP : va_P G.1 vwCl [(o, .inr (4, mF ad sz1 osz th hsz)), (ad 5, .inl (G.2.1 2, 72, .inr (.inl g_18))), (ad 6, .inl (G.2.1 1, 1152, .inl bf)), (ad 24, .inl (G.2.1 1, 64, .inl g)), (ad 2, .inl (G.2.1 2, 80, .inr (.inl cf)))] H := hP
        have hD : va_D A [(o, .inr (4, mF ad sz1 osz th hsz)), (ad 5, .inl (G.2.1 2, 72, .inr (.inl g_18))), (ad 6, .inl (G.2.1 1, 1152, .inl bf)), (ad 24, .inl (G.2.1 1, 64, .inl g)), (ad 2, .inl (G.2.1 2, 80, .inr (.inl cf)))] := hD
        refine lv_aload_n hx hb dX4_narrowBlock_530 rfl (lv_at hl 0 rfl) ?_
        refine va_get (D := G.1) (ci := 4) (v := .ref (ad 5)) (C := RX4) (T := TX4) (N := 29) hx hb htu iwX4 hown hK.1 hP 0 rfl rfl 5 (by decide) (htu _ uF_X4_23) (fun _ h9 => h9) rfl dX4_narrowBlock_531 ?_
        refine lv_iload_n hx hb dX4_narrowBlock_534 rfl (lv_at hl 2 rfl) ?_
        refine lv_iconst (v := 5) hx hb dX4_narrowBlock_535 (by decide) ?_
        refine lv_iadd hx hb dX4_narrowBlock_536 ?_
        refine g_toi (y := nI (8 * sl + 5)) (nI_add (8 * sl) 5) ?_
        refine lv_aload_n hx hb dX4_narrowBlock_537 rfl (lv_at hl 0 rfl) ?_
        refine va_get (D := G.1) (ci := 4) (v := .ref (ad 5)) (C := RX4) (T := TX4) (N := 29) hx hb htu iwX4 hown hK.1 hP 0 rfl rfl 5 (by decide) (htu _ uF_X4_23) (fun _ h9 => h9) rfl dX4_narrowBlock_538 ?_
        refine lv_iload_n hx hb dX4_narrowBlock_541 rfl (lv_at hl 2 rfl) ?_
        refine lv_iconst (v := 5) hx hb dX4_narrowBlock_542 (by decide) ?_
        refine lv_iadd hx hb dX4_narrowBlock_543 ?_
        refine g_toi (y := nI (8 * sl + 5)) (nI_add (8 * sl) 5) ?_
        refine g_lald hx hb hK.1 hP 1 2 rfl rfl ⟨by omega, by decide⟩ dX4_narrowBlock_544 ?_
        refine g_tol (y := sf (8 * sl + 5)) (by rw [eg_18, pk_uLn (by omega), eg_16, pk_uLn (by omega), eg_14, pk_uLn (by omega), eg_12, pk_uLn (by omega), eg_10, pk_uLn (by omega)]) ?_
        refine lv_iload hx hb dX4_narrowBlock_545 (lv_at hl 8 rfl) ?_
        refine lv_i2l (v := Int32.toInt64 xf) hx hb dX4_narrowBlock_547 rfl ?_
        refine lv_ladd hx hb dX4_narrowBlock_548 ?_
        refine lv_ldc2 hx hb hown (htu _ uL_X4_112) dX4_narrowBlock_549 ?_
        refine lv_land hx hb dX4_narrowBlock_552 ?_
        refine lv_topl (fun v_19 ev_19 => ?_)
        refine g_last hx hb hK.1 hP hD hS 1 2 rfl rfl ⟨by omega, by decide⟩ dX4_narrowBlock_553 (fun H locs hP hD hS => ?_)
        obtain ⟨g_20, eg_20⟩ : ∃ gq9 : Nat → Int64, gq9 = vp_updL g_18 (8 * sl + 5) v_19 := ⟨_, rfl⟩
        rw [← eg_20] at hP hD
        have hP : va_P G.1 vwCl [(o, .inr (4, mF ad sz1 osz th hsz)), (ad 5, .inl (G.2.1 2, 72, .inr (.inl g_20))), (ad 6, .inl (G.2.1 1, 1152, .inl bf)), (ad 24, .inl (G.2.1 1, 64, .inl g)), (ad 2, .inl (G.2.1 2, 80, .inr (.inl cf)))] H := hP
        have hD : va_D A [(o, .inr (4, mF ad sz1 osz th hsz)), (ad 5, .inl (G.2.1 2, 72, .inr (.inl g_20))), (ad 6, .inl (G.2.1 1, 1152, .inl bf)), (ad 24, .inl (G.2.1 1, 64, .inl g)), (ad 2, .inl (G.2.1 2, 80, .inr (.inl cf)))] := hD
        refine lv_aload_n hx hb dX4_narrowBlock_554 rfl (lv_at hl 0 rfl) ?_
        refine va_get (D := G.1) (ci := 4) (v := .ref (ad 5)) (C := RX4) (T := TX4) (N := 29) hx hb htu iwX4 hown hK.1 hP 0 rfl rfl 5 (by decide) (htu _ uF_X4_23) (fun _ h9 => h9) rfl dX4_narrowBlock_555 ?_
        refine lv_iload_n hx hb dX4_narrowBlock_558 rfl (lv_at hl 2 rfl) ?_
        refine lv_bipush (v := 6) hx hb dX4_narrowBlock_559 (by decide) ?_
        refine lv_iadd hx hb dX4_narrowBlock_561 ?_
        refine g_toi (y := nI (8 * sl + 6)) (nI_add (8 * sl) 6) ?_
        refine lv_aload_n hx hb dX4_narrowBlock_562 rfl (lv_at hl 0 rfl) ?_
        refine va_get (D := G.1) (ci := 4) (v := .ref (ad 5)) (C := RX4) (T := TX4) (N := 29) hx hb htu iwX4 hown hK.1 hP 0 rfl rfl 5 (by decide) (htu _ uF_X4_23) (fun _ h9 => h9) rfl dX4_narrowBlock_563 ?_
        refine lv_iload_n hx hb dX4_narrowBlock_566 rfl (lv_at hl 2 rfl) ?_
        refine lv_bipush (v := 6) hx hb dX4_narrowBlock_567 (by decide) ?_
        refine lv_iadd hx hb dX4_narrowBlock_569 ?_
        refine g_toi (y := nI (8 * sl + 6)) (nI_add (8 * sl) 6) ?_
        refine g_lald hx hb hK.1 hP 1 2 rfl rfl ⟨by omega, by decide⟩ dX4_narrowBlock_570 ?_
        refine g_tol (y := sf (8 * sl + 6)) (by rw [eg_20, pk_uLn (by omega), eg_18, pk_uLn (by omega), eg_16, pk_uLn (by omega), eg_14, pk_uLn (by omega), eg_12, pk_uLn (by omega), eg_10, pk_uLn (by omega)]) ?_
        refine lv_iload hx hb dX4_narrowBlock_571 (lv_at hl 9 rfl) ?_
        refine lv_i2l (v := Int32.toInt64 xg) hx hb dX4_narrowBlock_573 rfl ?_
        refine lv_ladd hx hb dX4_narrowBlock_574 ?_
        refine lv_ldc2 hx hb hown (htu _ uL_X4_112) dX4_narrowBlock_575 ?_
        refine lv_land hx hb dX4_narrowBlock_578 ?_
        refine lv_topl (fun v_21 ev_21 => ?_)
        refine g_last hx hb hK.1 hP hD hS 1 2 rfl rfl ⟨by omega, by decide⟩ dX4_narrowBlock_579 (fun H locs hP hD hS => ?_)
        obtain ⟨g_22, eg_22⟩ : ∃ gq9 : Nat → Int64, gq9 = vp_updL g_20 (8 * sl + 6) v_21 := ⟨_, rfl⟩
        rw [← eg_22] at hP hD
        have hP : va_P G.1 vwCl [(o, .inr (4, mF ad sz1 osz th hsz)), (ad 5, .inl (G.2.1 2, 72, .inr (.inl g_22))), (ad 6, .inl (G.2.1 1, 1152, .inl bf)), (ad 24, .inl (G.2.1 1, 64, .inl g)), (ad 2, .inl (G.2.1 2, 80, .inr (.inl cf)))] H := hP
        have hD : va_D A [(o, .inr (4, mF ad sz1 osz th hsz)), (ad 5, .inl (G.2.1 2, 72, .inr (.inl g_22))), (ad 6, .inl (G.2.1 1, 1152, .inl bf)), (ad 24, .inl (G.2.1 1, 64, .inl g)), (ad 2, .inl (G.2.1 2, 80, .inr (.inl cf)))] := hD
        refine lv_aload_n hx hb dX4_narrowBlock_580 rfl (lv_at hl 0 rfl) ?_
        refine va_get (D := G.1) (ci := 4) (v := .ref (ad 5)) (C := RX4) (T := TX4) (N := 29) hx hb htu iwX4 hown hK.1 hP 0 rfl rfl 5 (by decide) (htu _ uF_X4_23) (fun _ h9 => h9) rfl dX4_narrowBlock_581 ?_
        refine lv_iload_n hx hb dX4_narrowBlock_584 rfl (lv_at hl 2 rfl) ?_
        refine lv_bipush (v := 7) hx hb dX4_narrowBlock_585 (by decide) ?_
        refine lv_iadd hx hb dX4_narrowBlock_587 ?_
        refine g_toi (y := nI (8 * sl + 7)) (nI_add (8 * sl) 7) ?_
        refine lv_aload_n hx hb dX4_narrowBlock_588 rfl (lv_at hl 0 rfl) ?_
        refine va_get (D := G.1) (ci := 4) (v := .ref (ad 5)) (C := RX4) (T := TX4) (N := 29) hx hb htu iwX4 hown hK.1 hP 0 rfl rfl 5 (by decide) (htu _ uF_X4_23) (fun _ h9 => h9) rfl dX4_narrowBlock_589 ?_
        refine lv_iload_n hx hb dX4_narrowBlock_592 rfl (lv_at hl 2 rfl) ?_
        refine lv_bipush (v := 7) hx hb dX4_narrowBlock_593 (by decide) ?_
        refine lv_iadd hx hb dX4_narrowBlock_595 ?_
        refine g_toi (y := nI (8 * sl + 7)) (nI_add (8 * sl) 7) ?_
        refine g_lald hx hb hK.1 hP 1 2 rfl rfl ⟨by omega, by decide⟩ dX4_narrowBlock_596 ?_
        refine g_tol (y := sf (8 * sl + 7)) (by rw [eg_22, pk_uLn (by omega), eg_20, pk_uLn (by omega), eg_18, pk_uLn (by omega), eg_16, pk_uLn (by omega), eg_14, pk_uLn (by omega), eg_12, pk_uLn (by omega), eg_10, pk_uLn (by omega)]) ?_
        refine lv_iload hx hb dX4_narrowBlock_597 (lv_at hl 10 rfl) ?_
        refine lv_i2l (v := Int32.toInt64 xh) hx hb dX4_narrowBlock_599 rfl ?_
        refine lv_ladd hx hb dX4_narrowBlock_600 ?_
        refine lv_ldc2 hx hb hown (htu _ uL_X4_112) dX4_narrowBlock_601 ?_
        refine lv_land hx hb dX4_narrowBlock_604 ?_
        refine lv_topl (fun v_23 ev_23 => ?_)
        refine g_last hx hb hK.1 hP hD hS 1 2 rfl rfl ⟨by omega, by decide⟩ dX4_narrowBlock_605 (fun H locs hP hD hS => ?_)
        obtain ⟨g_24, eg_24⟩ : ∃ gq9 : Nat → Int64, gq9 = vp_updL g_22 (8 * sl + 7) v_23 := ⟨_, rfl⟩
        rw [← eg_24] at hP hD
        have hP : va_P G.1 vwCl [(o, .inr (4, mF ad sz1 osz th hsz)), (ad 5, .inl (G.2.1 2, 72, .inr (.inl g_24))), (ad 6, .inl (G.2.1 1, 1152, .inl bf)), (ad 24, .inl (G.2.1 1, 64, .inl g)), (ad 2, .inl (G.2.1 2, 80, .inr (.inl cf)))] H := hP
        have hD : va_D A [(o, .inr (4, mF ad sz1 osz th hsz)), (ad 5, .inl (G.2.1 2, 72, .inr (.inl g_24))), (ad 6, .inl (G.2.1 1, 1152, .inl bf)), (ad 24, .inl (G.2.1 1, 64, .inl g)), (ad 2, .inl (G.2.1 2, 80, .inr (.inl cf)))] := hD
        have hst := st8 eg_10 eg_12 eg_14 eg_16 eg_18 eg_20 eg_22 eg_24
        exact gret_v hx hb hr hlk dX4_narrowBlock_606 hS (g_24, g) (hP.sub [0, 1, 2, 3, 4] rfl) (hD.sub [0, 1, 2, 3, 4] (by decide) rfl) (show (∀ j, j < 8 → g_24 (8 * sl + j) = mxN (wM sf sl) (sN (oM bf sl)) j) ∧ (∀ i, (i < 8 * sl ∨ 8 * sl + 8 ≤ i) → g_24 i = sf i) from ⟨mxNE hI.2.2 hg ht hH.2 hst.1 (by subst_vars; rfl), hst.2⟩)
      · skip
        have hg : t < 64 := ge_f (n := 64) c_271 (by omega)
        refine lv_iload hx hb dX4_narrowBlock_274 (lv_at hl 10 rfl) ?_
        refine lv_iload hx hb dX4_narrowBlock_276 (lv_at hl 7 rfl) ?_
        refine lv_bipush (v := 6) hx hb dX4_narrowBlock_278 (by decide) ?_
        refine g_calli (g_runS (As := [.int xe, .int 6]) (rest := [.int xh]) ⟨hx, hb, hml, hown, htu⟩ (c_X4_turn l G _ xe 6 (by decide)) uM_X4_114 ok_X4_turn uA_X4_turn rfl rfl ⟨Nat.le_of_ble_eq_true rfl, Nat.le_of_ble_eq_true rfl⟩ hK hP hD hS hA hZ [] rfl rfl rfl hl.1 rfl (Nat.le_of_ble_eq_true rfl) dX4_narrowBlock_280 ⟨Nat.le_of_ble_eq_true rfl, Nat.le_of_ble_eq_true rfl⟩) hP hD hS hA [] rfl (fun r_25 u H locs hw_26 hP hD hS => ?_)
        have hw_26 : r_25 = rotI xe 6 := hw_26
        subst hw_26
        have hP : va_P G.1 vwCl [(o, .inr (4, mF ad sz1 osz th hsz)), (ad 5, .inl (G.2.1 2, 72, .inr (.inl sf))), (ad 6, .inl (G.2.1 1, 1152, .inl bf)), (ad 24, .inl (G.2.1 1, 64, .inl g)), (ad 2, .inl (G.2.1 2, 80, .inr (.inl cf)))] H := hP
        have hD : va_D A [(o, .inr (4, mF ad sz1 osz th hsz)), (ad 5, .inl (G.2.1 2, 72, .inr (.inl sf))), (ad 6, .inl (G.2.1 1, 1152, .inl bf)), (ad 24, .inl (G.2.1 1, 64, .inl g)), (ad 2, .inl (G.2.1 2, 80, .inr (.inl cf)))] := hD
        refine lv_iload hx hb dX4_narrowBlock_283 (lv_at hl 7 rfl) ?_
        refine lv_bipush (v := 11) hx hb dX4_narrowBlock_285 (by decide) ?_
        refine g_calli (g_runS (As := [.int xe, .int 11]) (rest := [.int (rotI xe 6), .int xh]) ⟨hx, hb, hml, hown, htu⟩ (c_X4_turn l G _ xe 11 (by decide)) uM_X4_114 ok_X4_turn uA_X4_turn rfl rfl ⟨Nat.le_of_ble_eq_true rfl, Nat.le_of_ble_eq_true rfl⟩ hK hP hD hS hA hZ [] rfl rfl rfl hl.1 rfl (Nat.le_of_ble_eq_true rfl) dX4_narrowBlock_287 ⟨Nat.le_of_ble_eq_true rfl, Nat.le_of_ble_eq_true rfl⟩) hP hD hS hA [] rfl (fun r_27 u H locs hw_28 hP hD hS => ?_)
        have hw_28 : r_27 = rotI xe 11 := hw_28
        subst hw_28
        have hP : va_P G.1 vwCl [(o, .inr (4, mF ad sz1 osz th hsz)), (ad 5, .inl (G.2.1 2, 72, .inr (.inl sf))), (ad 6, .inl (G.2.1 1, 1152, .inl bf)), (ad 24, .inl (G.2.1 1, 64, .inl g)), (ad 2, .inl (G.2.1 2, 80, .inr (.inl cf)))] H := hP
        have hD : va_D A [(o, .inr (4, mF ad sz1 osz th hsz)), (ad 5, .inl (G.2.1 2, 72, .inr (.inl sf))), (ad 6, .inl (G.2.1 1, 1152, .inl bf)), (ad 24, .inl (G.2.1 1, 64, .inl g)), (ad 2, .inl (G.2.1 2, 80, .inr (.inl cf)))] := hD
        refine lv_ixor hx hb dX4_narrowBlock_290 ?_
        refine lv_iload hx hb dX4_narrowBlock_291 (lv_at hl 7 rfl) ?_
        refine lv_bipush (v := 25) hx hb dX4_narrowBlock_293 (by decide) ?_
        refine g_calli (g_runS (As := [.int xe, .int 25]) (rest := [.int ((rotI xe 6) ^^^ (rotI xe 11)), .int xh]) ⟨hx, hb, hml, hown, htu⟩ (c_X4_turn l G _ xe 25 (by decide)) uM_X4_114 ok_X4_turn uA_X4_turn rfl rfl ⟨Nat.le_of_ble_eq_true rfl, Nat.le_of_ble_eq_true rfl⟩ hK hP hD hS hA hZ [] rfl rfl rfl hl.1 rfl (Nat.le_of_ble_eq_true rfl) dX4_narrowBlock_295 ⟨Nat.le_of_ble_eq_true rfl, Nat.le_of_ble_eq_true rfl⟩) hP hD hS hA [] rfl (fun r_29 u H locs hw_30 hP hD hS => ?_)
        have hw_30 : r_29 = rotI xe 25 := hw_30
        subst hw_30
        have hP : va_P G.1 vwCl [(o, .inr (4, mF ad sz1 osz th hsz)), (ad 5, .inl (G.2.1 2, 72, .inr (.inl sf))), (ad 6, .inl (G.2.1 1, 1152, .inl bf)), (ad 24, .inl (G.2.1 1, 64, .inl g)), (ad 2, .inl (G.2.1 2, 80, .inr (.inl cf)))] H := hP
        have hD : va_D A [(o, .inr (4, mF ad sz1 osz th hsz)), (ad 5, .inl (G.2.1 2, 72, .inr (.inl sf))), (ad 6, .inl (G.2.1 1, 1152, .inl bf)), (ad 24, .inl (G.2.1 1, 64, .inl g)), (ad 2, .inl (G.2.1 2, 80, .inr (.inl cf)))] := hD
        refine lv_ixor hx hb dX4_narrowBlock_298 ?_
        refine lv_iadd hx hb dX4_narrowBlock_299 ?_
        refine lv_iload hx hb dX4_narrowBlock_300 (lv_at hl 7 rfl) ?_
        refine lv_iload hx hb dX4_narrowBlock_302 (lv_at hl 8 rfl) ?_
        refine lv_iand hx hb dX4_narrowBlock_304 ?_
        refine lv_iload hx hb dX4_narrowBlock_305 (lv_at hl 7 rfl) ?_
        refine lv_iconst (v := (-1)) hx hb dX4_narrowBlock_307 (by decide) ?_
        refine lv_ixor hx hb dX4_narrowBlock_308 ?_
        refine lv_iload hx hb dX4_narrowBlock_309 (lv_at hl 9 rfl) ?_
        refine lv_iand hx hb dX4_narrowBlock_311 ?_
        refine lv_ixor hx hb dX4_narrowBlock_312 ?_
        refine lv_iadd hx hb dX4_narrowBlock_313 ?_
        refine lv_aload_n hx hb dX4_narrowBlock_314 rfl (lv_at hl 0 rfl) ?_
        refine va_get (D := G.1) (ci := 4) (v := .ref (ad 2)) (C := RX4) (T := TX4) (N := 29) hx hb htu iwX4 hown hK.1 hP 0 rfl rfl 2 (by decide) (htu _ uF_X4_13) (fun _ h9 => h9) rfl dX4_narrowBlock_315 ?_
        refine lv_iload hx hb dX4_narrowBlock_318 (lv_at hl 11 rfl) ?_
        refine g_lald hx hb hK.1 hP 4 2 rfl rfl ⟨by omega, by decide⟩ dX4_narrowBlock_320 ?_
        refine g_tol (y := kT t) (hc t (by omega)) ?_
        refine lv_bipush (v := 32) hx hb dX4_narrowBlock_321 (by decide) ?_
        refine lv_lushr (v := ushL (kT t) 32) hx hb dX4_narrowBlock_323 rfl ?_
        refine lv_l2i (v := Int64.toInt32 (ushL (kT t) 32)) hx hb dX4_narrowBlock_324 rfl ?_
        refine lv_iadd hx hb dX4_narrowBlock_325 ?_
        refine lv_aload_n hx hb dX4_narrowBlock_326 rfl (lv_at hl 0 rfl) ?_
        refine va_get (D := G.1) (ci := 4) (v := .ref (ad 24)) (C := RX4) (T := TX4) (N := 29) hx hb htu iwX4 hown hK.1 hP 0 rfl rfl 24 (by decide) (htu _ uF_X4_75) (fun _ h9 => h9) rfl dX4_narrowBlock_327 ?_
        refine lv_iload hx hb dX4_narrowBlock_330 (lv_at hl 11 rfl) ?_
        refine g_iald hx hb hK.1 hP 3 1 rfl rfl ⟨by omega, by decide⟩ dX4_narrowBlock_332 ?_
        refine lv_iadd hx hb dX4_narrowBlock_333 ?_
        refine lv_topi (fun v_31 ev_31 => ?_)
        refine lv_istore (lv' := [(12, .int v_31), (0, .ref o), (1, .int (nI sl)), (2, .int (nI (8 * sl))), (3, .int xa), (4, .int xb), (5, .int xc), (6, .int xd), (7, .int xe), (8, .int xf), (9, .int xg), (10, .int xh), (11, .int (nI t))]) hx hb dX4_narrowBlock_334 hl (by decide) rfl (fun ls hl => ?_)
        refine lv_iload_n hx hb dX4_narrowBlock_336 rfl (lv_at hl 4 rfl) ?_
        refine lv_iconst (v := 2) hx hb dX4_narrowBlock_337 (by decide) ?_
        refine g_calli (g_runS (As := [.int xa, .int 2]) (rest := []) ⟨hx, hb, hml, hown, htu⟩ (c_X4_turn l G _ xa 2 (by decide)) uM_X4_114 ok_X4_turn uA_X4_turn rfl rfl ⟨Nat.le_of_ble_eq_true rfl, Nat.le_of_ble_eq_true rfl⟩ hK hP hD hS hA hZ [] rfl rfl rfl hl.1 rfl (Nat.le_of_ble_eq_true rfl) dX4_narrowBlock_338 ⟨Nat.le_of_ble_eq_true rfl, Nat.le_of_ble_eq_true rfl⟩) hP hD hS hA [] rfl (fun r_32 u H locs hw_33 hP hD hS => ?_)
        have hw_33 : r_32 = rotI xa 2 := hw_33
        subst hw_33
        have hP : va_P G.1 vwCl [(o, .inr (4, mF ad sz1 osz th hsz)), (ad 5, .inl (G.2.1 2, 72, .inr (.inl sf))), (ad 6, .inl (G.2.1 1, 1152, .inl bf)), (ad 24, .inl (G.2.1 1, 64, .inl g)), (ad 2, .inl (G.2.1 2, 80, .inr (.inl cf)))] H := hP
        have hD : va_D A [(o, .inr (4, mF ad sz1 osz th hsz)), (ad 5, .inl (G.2.1 2, 72, .inr (.inl sf))), (ad 6, .inl (G.2.1 1, 1152, .inl bf)), (ad 24, .inl (G.2.1 1, 64, .inl g)), (ad 2, .inl (G.2.1 2, 80, .inr (.inl cf)))] := hD
        refine lv_iload_n hx hb dX4_narrowBlock_341 rfl (lv_at hl 4 rfl) ?_
        refine lv_bipush (v := 13) hx hb dX4_narrowBlock_342 (by decide) ?_
        refine g_calli (g_runS (As := [.int xa, .int 13]) (rest := [.int (rotI xa 2)]) ⟨hx, hb, hml, hown, htu⟩ (c_X4_turn l G _ xa 13 (by decide)) uM_X4_114 ok_X4_turn uA_X4_turn rfl rfl ⟨Nat.le_of_ble_eq_true rfl, Nat.le_of_ble_eq_true rfl⟩ hK hP hD hS hA hZ [] rfl rfl rfl hl.1 rfl (Nat.le_of_ble_eq_true rfl) dX4_narrowBlock_344 ⟨Nat.le_of_ble_eq_true rfl, Nat.le_of_ble_eq_true rfl⟩) hP hD hS hA [] rfl (fun r_34 u H locs hw_35 hP hD hS => ?_)
        have hw_35 : r_34 = rotI xa 13 := hw_35
        subst hw_35
        have hP : va_P G.1 vwCl [(o, .inr (4, mF ad sz1 osz th hsz)), (ad 5, .inl (G.2.1 2, 72, .inr (.inl sf))), (ad 6, .inl (G.2.1 1, 1152, .inl bf)), (ad 24, .inl (G.2.1 1, 64, .inl g)), (ad 2, .inl (G.2.1 2, 80, .inr (.inl cf)))] H := hP
        have hD : va_D A [(o, .inr (4, mF ad sz1 osz th hsz)), (ad 5, .inl (G.2.1 2, 72, .inr (.inl sf))), (ad 6, .inl (G.2.1 1, 1152, .inl bf)), (ad 24, .inl (G.2.1 1, 64, .inl g)), (ad 2, .inl (G.2.1 2, 80, .inr (.inl cf)))] := hD
        refine lv_ixor hx hb dX4_narrowBlock_347 ?_
        refine lv_iload_n hx hb dX4_narrowBlock_348 rfl (lv_at hl 4 rfl) ?_
        refine lv_bipush (v := 22) hx hb dX4_narrowBlock_349 (by decide) ?_
        refine g_calli (g_runS (As := [.int xa, .int 22]) (rest := [.int ((rotI xa 2) ^^^ (rotI xa 13))]) ⟨hx, hb, hml, hown, htu⟩ (c_X4_turn l G _ xa 22 (by decide)) uM_X4_114 ok_X4_turn uA_X4_turn rfl rfl ⟨Nat.le_of_ble_eq_true rfl, Nat.le_of_ble_eq_true rfl⟩ hK hP hD hS hA hZ [] rfl rfl rfl hl.1 rfl (Nat.le_of_ble_eq_true rfl) dX4_narrowBlock_351 ⟨Nat.le_of_ble_eq_true rfl, Nat.le_of_ble_eq_true rfl⟩) hP hD hS hA [] rfl (fun r_36 u H locs hw_37 hP hD hS => ?_)
        have hw_37 : r_36 = rotI xa 22 := hw_37
        subst hw_37
        have hP : va_P G.1 vwCl [(o, .inr (4, mF ad sz1 osz th hsz)), (ad 5, .inl (G.2.1 2, 72, .inr (.inl sf))), (ad 6, .inl (G.2.1 1, 1152, .inl bf)), (ad 24, .inl (G.2.1 1, 64, .inl g)), (ad 2, .inl (G.2.1 2, 80, .inr (.inl cf)))] H := hP
        have hD : va_D A [(o, .inr (4, mF ad sz1 osz th hsz)), (ad 5, .inl (G.2.1 2, 72, .inr (.inl sf))), (ad 6, .inl (G.2.1 1, 1152, .inl bf)), (ad 24, .inl (G.2.1 1, 64, .inl g)), (ad 2, .inl (G.2.1 2, 80, .inr (.inl cf)))] := hD
        refine lv_ixor hx hb dX4_narrowBlock_354 ?_
        refine lv_iload_n hx hb dX4_narrowBlock_355 rfl (lv_at hl 4 rfl) ?_
        refine lv_iload hx hb dX4_narrowBlock_356 (lv_at hl 5 rfl) ?_
        refine lv_iand hx hb dX4_narrowBlock_358 ?_
        refine lv_iload_n hx hb dX4_narrowBlock_359 rfl (lv_at hl 4 rfl) ?_
        refine lv_iload hx hb dX4_narrowBlock_360 (lv_at hl 6 rfl) ?_
        refine lv_iand hx hb dX4_narrowBlock_362 ?_
        refine lv_ixor hx hb dX4_narrowBlock_363 ?_
        refine lv_iload hx hb dX4_narrowBlock_364 (lv_at hl 5 rfl) ?_
        refine lv_iload hx hb dX4_narrowBlock_366 (lv_at hl 6 rfl) ?_
        refine lv_iand hx hb dX4_narrowBlock_368 ?_
        refine lv_ixor hx hb dX4_narrowBlock_369 ?_
        refine lv_iadd hx hb dX4_narrowBlock_370 ?_
        refine lv_topi (fun v_38 ev_38 => ?_)
        refine lv_istore (lv' := [(13, .int v_38), (12, .int v_31), (0, .ref o), (1, .int (nI sl)), (2, .int (nI (8 * sl))), (3, .int xa), (4, .int xb), (5, .int xc), (6, .int xd), (7, .int xe), (8, .int xf), (9, .int xg), (10, .int xh), (11, .int (nI t))]) hx hb dX4_narrowBlock_371 hl (by decide) rfl (fun ls hl => ?_)
        refine lv_iload hx hb dX4_narrowBlock_373 (lv_at hl 11 rfl) ?_
        refine lv_istore (lv' := [(10, .int xg), (13, .int v_38), (12, .int v_31), (0, .ref o), (1, .int (nI sl)), (2, .int (nI (8 * sl))), (3, .int xa), (4, .int xb), (5, .int xc), (6, .int xd), (7, .int xe), (8, .int xf), (9, .int xg), (11, .int (nI t))]) hx hb dX4_narrowBlock_375 hl (by decide) rfl (fun ls hl => ?_)
        refine lv_iload hx hb dX4_narrowBlock_377 (lv_at hl 11 rfl) ?_
        refine lv_istore (lv' := [(9, .int xf), (10, .int xg), (13, .int v_38), (12, .int v_31), (0, .ref o), (1, .int (nI sl)), (2, .int (nI (8 * sl))), (3, .int xa), (4, .int xb), (5, .int xc), (6, .int xd), (7, .int xe), (8, .int xf), (11, .int (nI t))]) hx hb dX4_narrowBlock_379 hl (by decide) rfl (fun ls hl => ?_)
        refine lv_iload hx hb dX4_narrowBlock_381 (lv_at hl 11 rfl) ?_
        refine lv_istore (lv' := [(8, .int xe), (9, .int xf), (10, .int xg), (13, .int v_38), (12, .int v_31), (0, .ref o), (1, .int (nI sl)), (2, .int (nI (8 * sl))), (3, .int xa), (4, .int xb), (5, .int xc), (6, .int xd), (7, .int xe), (11, .int (nI t))]) hx hb dX4_narrowBlock_383 hl (by decide) rfl (fun ls hl => ?_)
        refine lv_iload hx hb dX4_narrowBlock_385 (lv_at hl 11 rfl) ?_
        refine lv_iload hx hb dX4_narrowBlock_387 (lv_at hl 4 rfl) ?_
        refine lv_iadd hx hb dX4_narrowBlock_389 ?_
        refine lv_topi (fun v_39 ev_39 => ?_)
        refine lv_istore (lv' := [(7, .int v_39), (8, .int xe), (9, .int xf), (10, .int xg), (13, .int v_38), (12, .int v_31), (0, .ref o), (1, .int (nI sl)), (2, .int (nI (8 * sl))), (3, .int xa), (4, .int xb), (5, .int xc), (6, .int xd), (11, .int (nI t))]) hx hb dX4_narrowBlock_390 hl (by decide) rfl (fun ls hl => ?_)
        refine lv_iload hx hb dX4_narrowBlock_392 (lv_at hl 11 rfl) ?_
        refine lv_istore (lv' := [(6, .int xc), (7, .int v_39), (8, .int xe), (9, .int xf), (10, .int xg), (13, .int v_38), (12, .int v_31), (0, .ref o), (1, .int (nI sl)), (2, .int (nI (8 * sl))), (3, .int xa), (4, .int xb), (5, .int xc), (11, .int (nI t))]) hx hb dX4_narrowBlock_394 hl (by decide) rfl (fun ls hl => ?_)
        refine lv_iload hx hb dX4_narrowBlock_396 (lv_at hl 11 rfl) ?_
        refine lv_istore (lv' := [(5, .int xb), (6, .int xc), (7, .int v_39), (8, .int xe), (9, .int xf), (10, .int xg), (13, .int v_38), (12, .int v_31), (0, .ref o), (1, .int (nI sl)), (2, .int (nI (8 * sl))), (3, .int xa), (4, .int xb), (11, .int (nI t))]) hx hb dX4_narrowBlock_398 hl (by decide) rfl (fun ls hl => ?_)
        refine lv_iload_n hx hb dX4_narrowBlock_400 rfl (lv_at hl 11 rfl) ?_
        refine lv_istore (lv' := [(4, .int xa), (5, .int xb), (6, .int xc), (7, .int v_39), (8, .int xe), (9, .int xf), (10, .int xg), (13, .int v_38), (12, .int v_31), (0, .ref o), (1, .int (nI sl)), (2, .int (nI (8 * sl))), (3, .int xa), (11, .int (nI t))]) hx hb dX4_narrowBlock_401 hl (by decide) rfl (fun ls hl => ?_)
        refine lv_iload hx hb dX4_narrowBlock_403 (lv_at hl 8 rfl) ?_
        refine lv_iload hx hb dX4_narrowBlock_405 (lv_at hl 7 rfl) ?_
        refine lv_iadd hx hb dX4_narrowBlock_407 ?_
        refine lv_topi (fun v_40 ev_40 => ?_)
        refine lv_istore_n (lv' := [(3, .int v_40), (4, .int xa), (5, .int xb), (6, .int xc), (7, .int v_39), (8, .int xe), (9, .int xf), (10, .int xg), (13, .int v_38), (12, .int v_31), (0, .ref o), (1, .int (nI sl)), (2, .int (nI (8 * sl))), (11, .int (nI t))]) hx hb dX4_narrowBlock_408 rfl hl (by decide) rfl (fun ls hl => ?_)
        refine lv_iinc (v := nI (t + 1)) (lv' := [(11, .int (nI (t + 1))), (3, .int v_40), (4, .int xa), (5, .int xb), (6, .int xc), (7, .int v_39), (8, .int xe), (9, .int xf), (10, .int xg), (13, .int v_38), (12, .int v_31), (0, .ref o), (1, .int (nI sl)), (2, .int (nI (8 * sl)))]) hx hb dX4_narrowBlock_409 hl (k := 13) rfl (nI_1 t) (by decide) rfl (fun ls hl => ?_)
        refine lv_goto (tgt := 267) hx hb dX4_narrowBlock_412 (by decide) ?_
        exact ih_267 (t + 1, v_40, xa, xb, xc, v_39, xe, xf, xg) (show (t + 1) ≤ 64 ∧ (v_40, xa, xb, xc, v_39, xe, xf, xg) = rdsN g (v0N (wM sf sl)) (t + 1) from ⟨by omega, by rw [rdsN, ← hH.2]; subst_vars; rfl⟩) (by show 64 - (t + 1) < 64 - t; omega) _ _ _ (hP.sub [0, 1, 2, 3, 4] rfl) (hD.sub [0, 1, 2, 3, 4] (by decide) rfl) hS (lv_sub hl [11, 12, 13, 1, 2, 3, 4, 5, 6, 7, 8, 0] rfl)
    · skip
      have hg : t < 64 := ge_f (n := 64) c_78 (by omega)
      refine lv_aload_n hx hb dX4_narrowBlock_81 rfl (lv_at hl 0 rfl) ?_
      refine va_get (D := G.1) (ci := 4) (v := .ref (ad 24)) (C := RX4) (T := TX4) (N := 29) hx hb htu iwX4 hown hK.1 hP 0 rfl rfl 24 (by decide) (htu _ uF_X4_75) (fun _ h9 => h9) rfl dX4_narrowBlock_82 ?_
      refine lv_iload_n hx hb dX4_narrowBlock_85 rfl (lv_at hl 2 rfl) ?_
      refine lv_iconst (v := 2) hx hb dX4_narrowBlock_86 (by decide) ?_
      refine lv_isub hx hb dX4_narrowBlock_87 ?_
      refine g_toi (y := nI (t - 2)) (pk_sub (b := 2) (by omega)) ?_
      refine g_iald hx hb hK.1 hP 3 1 rfl rfl ⟨by omega, by decide⟩ dX4_narrowBlock_88 ?_
      refine lv_topi (fun v_41 ev_41 => ?_)
      refine lv_istore_n (lv' := [(3, .int v_41), (0, .ref o), (1, .int (nI sl)), (2, .int (nI t))]) hx hb dX4_narrowBlock_89 rfl hl (by decide) rfl (fun ls hl => ?_)
      refine lv_aload_n hx hb dX4_narrowBlock_90 rfl (lv_at hl 1 rfl) ?_
      refine va_get (D := G.1) (ci := 4) (v := .ref (ad 24)) (C := RX4) (T := TX4) (N := 29) hx hb htu iwX4 hown hK.1 hP 0 rfl rfl 24 (by decide) (htu _ uF_X4_75) (fun _ h9 => h9) rfl dX4_narrowBlock_91 ?_
      refine lv_iload_n hx hb dX4_narrowBlock_94 rfl (lv_at hl 3 rfl) ?_
      refine lv_bipush (v := 15) hx hb dX4_narrowBlock_95 (by decide) ?_
      refine lv_isub hx hb dX4_narrowBlock_97 ?_
      refine g_toi (y := nI (t - 15)) (pk_sub (b := 15) (by omega)) ?_
      refine g_iald hx hb hK.1 hP 3 1 rfl rfl ⟨by omega, by decide⟩ dX4_narrowBlock_98 ?_
      refine lv_topi (fun v_42 ev_42 => ?_)
      refine lv_istore (lv' := [(4, .int v_42), (3, .int v_41), (0, .ref o), (1, .int (nI sl)), (2, .int (nI t))]) hx hb dX4_narrowBlock_99 hl (by decide) rfl (fun ls hl => ?_)
      refine lv_aload_n hx hb dX4_narrowBlock_101 rfl (lv_at hl 2 rfl) ?_
      refine va_get (D := G.1) (ci := 4) (v := .ref (ad 24)) (C := RX4) (T := TX4) (N := 29) hx hb htu iwX4 hown hK.1 hP 0 rfl rfl 24 (by decide) (htu _ uF_X4_75) (fun _ h9 => h9) rfl dX4_narrowBlock_102 ?_
      refine lv_iload_n hx hb dX4_narrowBlock_105 rfl (lv_at hl 4 rfl) ?_
      refine lv_iload_n hx hb dX4_narrowBlock_106 rfl (lv_at hl 1 rfl) ?_
      refine lv_bipush (v := 17) hx hb dX4_narrowBlock_107 (by decide) ?_
      refine g_calli (g_runS (As := [.int v_41, .int 17]) (rest := [.int (nI t), .ref (ad 24)]) ⟨hx, hb, hml, hown, htu⟩ (c_X4_turn l G _ v_41 17 (by decide)) uM_X4_114 ok_X4_turn uA_X4_turn rfl rfl ⟨Nat.le_of_ble_eq_true rfl, Nat.le_of_ble_eq_true rfl⟩ hK hP hD hS hA hZ [] rfl rfl rfl hl.1 rfl (Nat.le_of_ble_eq_true rfl) dX4_narrowBlock_109 ⟨Nat.le_of_ble_eq_true rfl, Nat.le_of_ble_eq_true rfl⟩) hP hD hS hA [] rfl (fun r_43 u H locs hw_44 hP hD hS => ?_)
      have hw_44 : r_43 = rotI v_41 17 := hw_44
      subst hw_44
      have hP : va_P G.1 vwCl [(o, .inr (4, mF ad sz1 osz th hsz)), (ad 5, .inl (G.2.1 2, 72, .inr (.inl sf))), (ad 6, .inl (G.2.1 1, 1152, .inl bf)), (ad 24, .inl (G.2.1 1, 64, .inl g)), (ad 2, .inl (G.2.1 2, 80, .inr (.inl cf)))] H := hP
      have hD : va_D A [(o, .inr (4, mF ad sz1 osz th hsz)), (ad 5, .inl (G.2.1 2, 72, .inr (.inl sf))), (ad 6, .inl (G.2.1 1, 1152, .inl bf)), (ad 24, .inl (G.2.1 1, 64, .inl g)), (ad 2, .inl (G.2.1 2, 80, .inr (.inl cf)))] := hD
      refine lv_iload_n hx hb dX4_narrowBlock_112 rfl (lv_at hl 1 rfl) ?_
      refine lv_bipush (v := 19) hx hb dX4_narrowBlock_113 (by decide) ?_
      refine g_calli (g_runS (As := [.int v_41, .int 19]) (rest := [.int (rotI v_41 17), .int (nI t), .ref (ad 24)]) ⟨hx, hb, hml, hown, htu⟩ (c_X4_turn l G _ v_41 19 (by decide)) uM_X4_114 ok_X4_turn uA_X4_turn rfl rfl ⟨Nat.le_of_ble_eq_true rfl, Nat.le_of_ble_eq_true rfl⟩ hK hP hD hS hA hZ [] rfl rfl rfl hl.1 rfl (Nat.le_of_ble_eq_true rfl) dX4_narrowBlock_115 ⟨Nat.le_of_ble_eq_true rfl, Nat.le_of_ble_eq_true rfl⟩) hP hD hS hA [] rfl (fun r_45 u H locs hw_46 hP hD hS => ?_)
      have hw_46 : r_45 = rotI v_41 19 := hw_46
      subst hw_46
      have hP : va_P G.1 vwCl [(o, .inr (4, mF ad sz1 osz th hsz)), (ad 5, .inl (G.2.1 2, 72, .inr (.inl sf))), (ad 6, .inl (G.2.1 1, 1152, .inl bf)), (ad 24, .inl (G.2.1 1, 64, .inl g)), (ad 2, .inl (G.2.1 2, 80, .inr (.inl cf)))] H := hP
      have hD : va_D A [(o, .inr (4, mF ad sz1 osz th hsz)), (ad 5, .inl (G.2.1 2, 72, .inr (.inl sf))), (ad 6, .inl (G.2.1 1, 1152, .inl bf)), (ad 24, .inl (G.2.1 1, 64, .inl g)), (ad 2, .inl (G.2.1 2, 80, .inr (.inl cf)))] := hD
      refine lv_ixor hx hb dX4_narrowBlock_118 ?_
      refine lv_iload_n hx hb dX4_narrowBlock_119 rfl (lv_at hl 1 rfl) ?_
      refine lv_bipush (v := 10) hx hb dX4_narrowBlock_120 (by decide) ?_
      refine lv_iushr (v := ushI v_41 10) hx hb dX4_narrowBlock_122 rfl ?_
      refine lv_ixor hx hb dX4_narrowBlock_123 ?_
      refine lv_aload_n hx hb dX4_narrowBlock_124 rfl (lv_at hl 2 rfl) ?_
      refine va_get (D := G.1) (ci := 4) (v := .ref (ad 24)) (C := RX4) (T := TX4) (N := 29) hx hb htu iwX4 hown hK.1 hP 0 rfl rfl 24 (by decide) (htu _ uF_X4_75) (fun _ h9 => h9) rfl dX4_narrowBlock_125 ?_
      refine lv_iload_n hx hb dX4_narrowBlock_128 rfl (lv_at hl 4 rfl) ?_
      refine lv_bipush (v := 7) hx hb dX4_narrowBlock_129 (by decide) ?_
      refine lv_isub hx hb dX4_narrowBlock_131 ?_
      refine g_toi (y := nI (t - 7)) (pk_sub (b := 7) (by omega)) ?_
      refine g_iald hx hb hK.1 hP 3 1 rfl rfl ⟨by omega, by decide⟩ dX4_narrowBlock_132 ?_
      refine lv_iadd hx hb dX4_narrowBlock_133 ?_
      refine lv_iload hx hb dX4_narrowBlock_134 (lv_at hl 0 rfl) ?_
      refine lv_bipush (v := 7) hx hb dX4_narrowBlock_136 (by decide) ?_
      refine g_calli (g_runS (As := [.int v_42, .int 7]) (rest := [.int ((((rotI v_41 17) ^^^ (rotI v_41 19)) ^^^ (ushI v_41 10)) + (g (t - 7))), .int (nI t), .ref (ad 24)]) ⟨hx, hb, hml, hown, htu⟩ (c_X4_turn l G _ v_42 7 (by decide)) uM_X4_114 ok_X4_turn uA_X4_turn rfl rfl ⟨Nat.le_of_ble_eq_true rfl, Nat.le_of_ble_eq_true rfl⟩ hK hP hD hS hA hZ [] rfl rfl rfl hl.1 rfl (Nat.le_of_ble_eq_true rfl) dX4_narrowBlock_138 ⟨Nat.le_of_ble_eq_true rfl, Nat.le_of_ble_eq_true rfl⟩) hP hD hS hA [] rfl (fun r_47 u H locs hw_48 hP hD hS => ?_)
      have hw_48 : r_47 = rotI v_42 7 := hw_48
      subst hw_48
      have hP : va_P G.1 vwCl [(o, .inr (4, mF ad sz1 osz th hsz)), (ad 5, .inl (G.2.1 2, 72, .inr (.inl sf))), (ad 6, .inl (G.2.1 1, 1152, .inl bf)), (ad 24, .inl (G.2.1 1, 64, .inl g)), (ad 2, .inl (G.2.1 2, 80, .inr (.inl cf)))] H := hP
      have hD : va_D A [(o, .inr (4, mF ad sz1 osz th hsz)), (ad 5, .inl (G.2.1 2, 72, .inr (.inl sf))), (ad 6, .inl (G.2.1 1, 1152, .inl bf)), (ad 24, .inl (G.2.1 1, 64, .inl g)), (ad 2, .inl (G.2.1 2, 80, .inr (.inl cf)))] := hD
      refine lv_iload hx hb dX4_narrowBlock_141 (lv_at hl 0 rfl) ?_
      refine lv_bipush (v := 18) hx hb dX4_narrowBlock_143 (by decide) ?_
      refine g_calli (g_runS (As := [.int v_42, .int 18]) (rest := [.int (rotI v_42 7), .int ((((rotI v_41 17) ^^^ (rotI v_41 19)) ^^^ (ushI v_41 10)) + (g (t - 7))), .int (nI t), .ref (ad 24)]) ⟨hx, hb, hml, hown, htu⟩ (c_X4_turn l G _ v_42 18 (by decide)) uM_X4_114 ok_X4_turn uA_X4_turn rfl rfl ⟨Nat.le_of_ble_eq_true rfl, Nat.le_of_ble_eq_true rfl⟩ hK hP hD hS hA hZ [] rfl rfl rfl hl.1 rfl (Nat.le_of_ble_eq_true rfl) dX4_narrowBlock_145 ⟨Nat.le_of_ble_eq_true rfl, Nat.le_of_ble_eq_true rfl⟩) hP hD hS hA [] rfl (fun r_49 u H locs hw_50 hP hD hS => ?_)
      have hw_50 : r_49 = rotI v_42 18 := hw_50
      subst hw_50
      have hP : va_P G.1 vwCl [(o, .inr (4, mF ad sz1 osz th hsz)), (ad 5, .inl (G.2.1 2, 72, .inr (.inl sf))), (ad 6, .inl (G.2.1 1, 1152, .inl bf)), (ad 24, .inl (G.2.1 1, 64, .inl g)), (ad 2, .inl (G.2.1 2, 80, .inr (.inl cf)))] H := hP
      have hD : va_D A [(o, .inr (4, mF ad sz1 osz th hsz)), (ad 5, .inl (G.2.1 2, 72, .inr (.inl sf))), (ad 6, .inl (G.2.1 1, 1152, .inl bf)), (ad 24, .inl (G.2.1 1, 64, .inl g)), (ad 2, .inl (G.2.1 2, 80, .inr (.inl cf)))] := hD
      refine lv_ixor hx hb dX4_narrowBlock_148 ?_
      refine lv_iload hx hb dX4_narrowBlock_149 (lv_at hl 0 rfl) ?_
      refine lv_iconst (v := 3) hx hb dX4_narrowBlock_151 (by decide) ?_
      refine lv_iushr (v := ushI v_42 3) hx hb dX4_narrowBlock_152 rfl ?_
      refine lv_ixor hx hb dX4_narrowBlock_153 ?_
      refine lv_iadd hx hb dX4_narrowBlock_154 ?_
      refine lv_aload_n hx hb dX4_narrowBlock_155 rfl (lv_at hl 2 rfl) ?_
      refine va_get (D := G.1) (ci := 4) (v := .ref (ad 24)) (C := RX4) (T := TX4) (N := 29) hx hb htu iwX4 hown hK.1 hP 0 rfl rfl 24 (by decide) (htu _ uF_X4_75) (fun _ h9 => h9) rfl dX4_narrowBlock_156 ?_
      refine lv_iload_n hx hb dX4_narrowBlock_159 rfl (lv_at hl 4 rfl) ?_
      refine lv_bipush (v := 16) hx hb dX4_narrowBlock_160 (by decide) ?_
      refine lv_isub hx hb dX4_narrowBlock_162 ?_
      refine g_toi (y := nI (t - 16)) (pk_sub (b := 16) (by omega)) ?_
      refine g_iald hx hb hK.1 hP 3 1 rfl rfl ⟨by omega, by decide⟩ dX4_narrowBlock_163 ?_
      refine lv_iadd hx hb dX4_narrowBlock_164 ?_
      refine lv_topi (fun v_51 ev_51 => ?_)
      refine g_iast hx hb hK.1 hP hD hS 3 1 rfl rfl ⟨by omega, by decide⟩ dX4_narrowBlock_165 (fun H locs hP hD hS => ?_)
      obtain ⟨g_52, eg_52⟩ : ∃ gq9 : Nat → Int32, gq9 = upd g t v_51 := ⟨_, rfl⟩
      rw [← eg_52] at hP hD
      have hP : va_P G.1 vwCl [(o, .inr (4, mF ad sz1 osz th hsz)), (ad 5, .inl (G.2.1 2, 72, .inr (.inl sf))), (ad 6, .inl (G.2.1 1, 1152, .inl bf)), (ad 24, .inl (G.2.1 1, 64, .inl g_52)), (ad 2, .inl (G.2.1 2, 80, .inr (.inl cf)))] H := hP
      have hD : va_D A [(o, .inr (4, mF ad sz1 osz th hsz)), (ad 5, .inl (G.2.1 2, 72, .inr (.inl sf))), (ad 6, .inl (G.2.1 1, 1152, .inl bf)), (ad 24, .inl (G.2.1 1, 64, .inl g_52)), (ad 2, .inl (G.2.1 2, 80, .inr (.inl cf)))] := hD
      refine lv_iinc (v := nI (t + 1)) (lv' := [(2, .int (nI (t + 1))), (4, .int v_42), (3, .int v_41), (0, .ref o), (1, .int (nI sl))]) hx hb dX4_narrowBlock_166 hl (k := 4) rfl (nI_1 t) (by decide) rfl (fun ls hl => ?_)
      refine lv_goto (tgt := 75) hx hb dX4_narrowBlock_169 (by decide) ?_
      exact ih_75 (t + 1, g_52) (show 16 ≤ (t + 1) ∧ (t + 1) ≤ 64 ∧ ∀ j, j < (t + 1) → g_52 j = sN (oM bf sl) j from sNM hI hg eg_52 (by subst_vars; rfl)) (by show 64 - (t + 1) < 64 - t; omega) _ _ _ (hP.sub [0, 1, 2, 3, 4] rfl) (hD.sub [0, 1, 2, 3, 4] (by decide) rfl) hS (lv_sub hl [3, 4, 0] rfl)
  · skip
    have hg : t < 16 := ge_f (n := 16) c_5 (by omega)
    refine lv_sipush (v := 128) hx hb dX4_narrowBlock_8 (by decide) ?_
    refine lv_iload_n hx hb dX4_narrowBlock_11 rfl (lv_at hl 1 rfl) ?_
    refine lv_imul hx hb dX4_narrowBlock_12 ?_
    refine g_toi (y := nI (128 * sl)) (pk_mul 128 sl) ?_
    refine lv_iconst (v := 4) hx hb dX4_narrowBlock_13 (by decide) ?_
    refine lv_iload_n hx hb dX4_narrowBlock_14 rfl (lv_at hl 2 rfl) ?_
    refine lv_imul hx hb dX4_narrowBlock_15 ?_
    refine g_toi (y := nI (4 * t)) (pk_mul 4 t) ?_
    refine lv_iadd hx hb dX4_narrowBlock_16 ?_
    refine g_toi (y := nI (128 * sl + 4 * t)) (nI_add (128 * sl) (4 * t)) ?_
    refine lv_istore_n (lv' := [(3, .int (nI (128 * sl + 4 * t))), (0, .ref o), (1, .int (nI sl)), (2, .int (nI t))]) hx hb dX4_narrowBlock_17 rfl hl (by decide) rfl (fun ls hl => ?_)
    refine lv_aload_n hx hb dX4_narrowBlock_18 rfl (lv_at hl 1 rfl) ?_
    refine va_get (D := G.1) (ci := 4) (v := .ref (ad 24)) (C := RX4) (T := TX4) (N := 29) hx hb htu iwX4 hown hK.1 hP 0 rfl rfl 24 (by decide) (htu _ uF_X4_75) (fun _ h9 => h9) rfl dX4_narrowBlock_19 ?_
    refine lv_iload_n hx hb dX4_narrowBlock_22 rfl (lv_at hl 3 rfl) ?_
    refine lv_aload_n hx hb dX4_narrowBlock_23 rfl (lv_at hl 1 rfl) ?_
    refine va_get (D := G.1) (ci := 4) (v := .ref (ad 6)) (C := RX4) (T := TX4) (N := 29) hx hb htu iwX4 hown hK.1 hP 0 rfl rfl 6 (by decide) (htu _ uF_X4_26) (fun _ h9 => h9) rfl dX4_narrowBlock_24 ?_
    refine lv_iload_n hx hb dX4_narrowBlock_27 rfl (lv_at hl 0 rfl) ?_
    refine g_iald hx hb hK.1 hP 2 1 rfl rfl ⟨by omega, by decide⟩ dX4_narrowBlock_28 ?_
    refine lv_bipush (v := 24) hx hb dX4_narrowBlock_29 (by decide) ?_
    refine lv_ishl hx hb dX4_narrowBlock_31 ?_
    refine lv_aload_n hx hb dX4_narrowBlock_32 rfl (lv_at hl 1 rfl) ?_
    refine va_get (D := G.1) (ci := 4) (v := .ref (ad 6)) (C := RX4) (T := TX4) (N := 29) hx hb htu iwX4 hown hK.1 hP 0 rfl rfl 6 (by decide) (htu _ uF_X4_26) (fun _ h9 => h9) rfl dX4_narrowBlock_33 ?_
    refine lv_iload_n hx hb dX4_narrowBlock_36 rfl (lv_at hl 0 rfl) ?_
    refine lv_iconst (v := 1) hx hb dX4_narrowBlock_37 (by decide) ?_
    refine lv_iadd hx hb dX4_narrowBlock_38 ?_
    refine g_toi (y := nI (128 * sl + 4 * t + 1)) (nI_add (128 * sl + 4 * t) 1) ?_
    refine g_iald hx hb hK.1 hP 2 1 rfl rfl ⟨by omega, by decide⟩ dX4_narrowBlock_39 ?_
    refine lv_bipush (v := 16) hx hb dX4_narrowBlock_40 (by decide) ?_
    refine lv_ishl hx hb dX4_narrowBlock_42 ?_
    refine lv_ior hx hb dX4_narrowBlock_43 ?_
    refine lv_aload_n hx hb dX4_narrowBlock_44 rfl (lv_at hl 1 rfl) ?_
    refine va_get (D := G.1) (ci := 4) (v := .ref (ad 6)) (C := RX4) (T := TX4) (N := 29) hx hb htu iwX4 hown hK.1 hP 0 rfl rfl 6 (by decide) (htu _ uF_X4_26) (fun _ h9 => h9) rfl dX4_narrowBlock_45 ?_
    refine lv_iload_n hx hb dX4_narrowBlock_48 rfl (lv_at hl 0 rfl) ?_
    refine lv_iconst (v := 2) hx hb dX4_narrowBlock_49 (by decide) ?_
    refine lv_iadd hx hb dX4_narrowBlock_50 ?_
    refine g_toi (y := nI (128 * sl + 4 * t + 2)) (nI_add (128 * sl + 4 * t) 2) ?_
    refine g_iald hx hb hK.1 hP 2 1 rfl rfl ⟨by omega, by decide⟩ dX4_narrowBlock_51 ?_
    refine lv_bipush (v := 8) hx hb dX4_narrowBlock_52 (by decide) ?_
    refine lv_ishl hx hb dX4_narrowBlock_54 ?_
    refine lv_ior hx hb dX4_narrowBlock_55 ?_
    refine lv_aload_n hx hb dX4_narrowBlock_56 rfl (lv_at hl 1 rfl) ?_
    refine va_get (D := G.1) (ci := 4) (v := .ref (ad 6)) (C := RX4) (T := TX4) (N := 29) hx hb htu iwX4 hown hK.1 hP 0 rfl rfl 6 (by decide) (htu _ uF_X4_26) (fun _ h9 => h9) rfl dX4_narrowBlock_57 ?_
    refine lv_iload_n hx hb dX4_narrowBlock_60 rfl (lv_at hl 0 rfl) ?_
    refine lv_iconst (v := 3) hx hb dX4_narrowBlock_61 (by decide) ?_
    refine lv_iadd hx hb dX4_narrowBlock_62 ?_
    refine g_toi (y := nI (128 * sl + 4 * t + 3)) (nI_add (128 * sl + 4 * t) 3) ?_
    refine g_iald hx hb hK.1 hP 2 1 rfl rfl ⟨by omega, by decide⟩ dX4_narrowBlock_63 ?_
    refine lv_ior hx hb dX4_narrowBlock_64 ?_
    refine lv_topi (fun v_53 ev_53 => ?_)
    refine g_iast hx hb hK.1 hP hD hS 3 1 rfl rfl ⟨by omega, by decide⟩ dX4_narrowBlock_65 (fun H locs hP hD hS => ?_)
    obtain ⟨g_54, eg_54⟩ : ∃ gq9 : Nat → Int32, gq9 = upd g t v_53 := ⟨_, rfl⟩
    rw [← eg_54] at hP hD
    have hP : va_P G.1 vwCl [(o, .inr (4, mF ad sz1 osz th hsz)), (ad 5, .inl (G.2.1 2, 72, .inr (.inl sf))), (ad 6, .inl (G.2.1 1, 1152, .inl bf)), (ad 24, .inl (G.2.1 1, 64, .inl g_54)), (ad 2, .inl (G.2.1 2, 80, .inr (.inl cf)))] H := hP
    have hD : va_D A [(o, .inr (4, mF ad sz1 osz th hsz)), (ad 5, .inl (G.2.1 2, 72, .inr (.inl sf))), (ad 6, .inl (G.2.1 1, 1152, .inl bf)), (ad 24, .inl (G.2.1 1, 64, .inl g_54)), (ad 2, .inl (G.2.1 2, 80, .inr (.inl cf)))] := hD
    refine lv_iinc (v := nI (t + 1)) (lv' := [(2, .int (nI (t + 1))), (3, .int (nI (128 * sl + 4 * t))), (0, .ref o), (1, .int (nI sl))]) hx hb dX4_narrowBlock_66 hl (k := 3) rfl (nI_1 t) (by decide) rfl (fun ls hl => ?_)
    refine lv_goto (tgt := 2) hx hb dX4_narrowBlock_69 (by decide) ?_
    exact ih_2 (t + 1, g_54) (show (t + 1) ≤ 16 ∧ ∀ j, j < (t + 1) → g_54 j = ly4 (oM bf sl) j 4 from lyM hI hg eg_54 ev_53) (by show 16 - (t + 1) < 16 - t; omega) _ _ _ (hP.sub [0, 1, 2, 3, 4] rfl) (hD.sub [0, 1, 2, 3, 4] (by decide) rfl) hS (lv_sub hl [2, 3, 0] rfl)
set_option maxHeartbeats 4000000 in
set_option maxRecDepth 100000 in
theorem c_X4_wideBlock (l : Launch) (G : GW) (sz : Nat) (o : Nat) (ad : Nat → Nat) (sz1 : Int32) (osz : Int32) (th : Int32) (hsz : Int32) (sl : Nat) (sf : Nat → Int64) (bf : Nat → Int32) (nf : Nat → Int64) (cf : Nat → Int64) (hs : sl < 9) (hc : ∀ j, j < 80 → cf j = kT j) : Met l yX4_wideBlock (Cond.code yX4_wideBlock cX4_wideBlock 24 (none : Option FieldType) :: UW) ({ frames := 1, cells := 0, slots := 0, locals := 22 } : Room) (va_Pc [.ref o, .int (nI sl)] (gPre G [(o, .inr (4, mF ad sz1 osz th hsz)), (ad 5, .inl (G.2.1 2, 72, .inr (.inl sf))), (ad 6, .inl (G.2.1 1, 1152, .inl bf)), (ad 25, .inl (G.2.1 2, 80, .inr (.inl nf))), (ad 2, .inl (G.2.1 2, 80, .inr (.inl cf)))] sz)) (va_Qv (fun (uq9 : (Nat → Int64) × (Nat → Int64)) => (∀ j, j < 8 → uq9.1 (8 * sl + j) = mxW (wM sf sl) (sW (oM bf sl)) j) ∧ (∀ i, (i < 8 * sl ∨ 8 * sl + 8 ≤ i) → uq9.1 i = sf i)) (fun u => gPost G (va_A [(o, .inr (4, mF ad sz1 osz th hsz)), (ad 5, .inl (G.2.1 2, 72, .inr (.inl sf))), (ad 6, .inl (G.2.1 1, 1152, .inl bf)), (ad 25, .inl (G.2.1 2, 80, .inr (.inl nf))), (ad 2, .inl (G.2.1 2, 80, .inr (.inl cf)))] sz) ((fun (uq9 : (Nat → Int64) × (Nat → Int64)) => ([(o, .inr (4, mF ad sz1 osz th hsz)), (ad 5, .inl (G.2.1 2, 72, .inr (.inl uq9.1))), (ad 6, .inl (G.2.1 1, 1152, .inl bf)), (ad 25, .inl (G.2.1 2, 80, .inr (.inl uq9.2))), (ad 2, .inl (G.2.1 2, 80, .inr (.inl cf)))] : va_W)) u)) (va_A [(o, .inr (4, mF ad sz1 osz th hsz)), (ad 5, .inl (G.2.1 2, 72, .inr (.inl sf))), (ad 6, .inl (G.2.1 1, 1152, .inl bf)), (ad 25, .inl (G.2.1 2, 80, .inr (.inl nf))), (ad 2, .inl (G.2.1 2, 80, .inr (.inl cf)))] sz)) 0 0 (va_A [(o, .inr (4, mF ad sz1 osz th hsz)), (ad 5, .inl (G.2.1 2, 72, .inr (.inl sf))), (ad 6, .inl (G.2.1 1, 1152, .inl bf)), (ad 25, .inl (G.2.1 2, 80, .inr (.inl nf))), (ad 2, .inl (G.2.1 2, 80, .inr (.inl cf)))] sz) := by
  refine gM_of (Qf := fun A => va_Qv (fun (uq9 : (Nat → Int64) × (Nat → Int64)) => (∀ j, j < 8 → uq9.1 (8 * sl + j) = mxW (wM sf sl) (sW (oM bf sl)) j) ∧ (∀ i, (i < 8 * sl ∨ 8 * sl + 8 ≤ i) → uq9.1 i = sf i)) (fun u => gPost G A ((fun (uq9 : (Nat → Int64) × (Nat → Int64)) => ([(o, .inr (4, mF ad sz1 osz th hsz)), (ad 5, .inl (G.2.1 2, 72, .inr (.inl uq9.1))), (ad 6, .inl (G.2.1 1, 1152, .inl bf)), (ad 25, .inl (G.2.1 2, 80, .inr (.inl uq9.2))), (ad 2, .inl (G.2.1 2, 80, .inr (.inl cf)))] : va_W)) u)) A) (by decide) (Nat.le_of_ble_eq_true rfl) ?_
  intro p e s m below meth c A ls hx hb hml hr hown htu hlk hnm hA hP hD hS hK hZ hl
  have hown : s.vm.findClass RX4 = some m.cls := hown
  have hl : lv_has ls 24 [(0, .ref o), (1, .int (nI sl))] := hl
  refine lv_iconst (v := 0) hx hb dX4_wideBlock_0 (by decide) ?_
  refine lv_istore_n (lv' := [(2, .int 0), (0, .ref o), (1, .int (nI sl))]) hx hb dX4_wideBlock_1 rfl hl (by decide) rfl (fun ls hl => ?_)
  refine g_loop (σ := Nat × (Nat → Int64)) (G := G) (fun xq9 : Nat × (Nat → Int64) => [(o, .inr (4, mF ad sz1 osz th hsz)), (ad 5, .inl (G.2.1 2, 72, .inr (.inl sf))), (ad 6, .inl (G.2.1 1, 1152, .inl bf)), (ad 25, .inl (G.2.1 2, 80, .inr (.inl xq9.2))), (ad 2, .inl (G.2.1 2, 80, .inr (.inl cf)))]) (fun xq9 : Nat × (Nat → Int64) => [(0, .ref o), (1, .int (nI sl)), (2, .int (nI xq9.1))]) (fun xq9 : Nat × (Nat → Int64) => xq9.1 ≤ 16 ∧ ∀ j, j < xq9.1 → xq9.2 j = ly8 (oM bf sl) j 8) (fun xq9 : Nat × (Nat → Int64) => 16 - xq9.1) ?_ (0, nf) (show 0 ≤ 16 ∧ ∀ j, j < 0 → nf j = ly8 (oM bf sl) j 8 from ⟨Nat.zero_le _, fun _ h => absurd h (Nat.not_lt_zero _)⟩) (hP.sub [0, 1, 2, 3, 4] rfl) (hD.sub [0, 1, 2, 3, 4] (by decide) rfl) hS (lv_sub hl [1, 2, 0] rfl)
  clear hP hD hS hl
  intro x hxI_2 ih_2 H locs ls hP hD hS hl
  obtain ⟨t, g⟩ := x
  have hI : t ≤ 16 ∧ ∀ j, j < t → g j = ly8 (oM bf sl) j 8 := hxI_2
  have hP : va_P G.1 vwCl [(o, .inr (4, mF ad sz1 osz th hsz)), (ad 5, .inl (G.2.1 2, 72, .inr (.inl sf))), (ad 6, .inl (G.2.1 1, 1152, .inl bf)), (ad 25, .inl (G.2.1 2, 80, .inr (.inl g))), (ad 2, .inl (G.2.1 2, 80, .inr (.inl cf)))] H := hP
  have hD : va_D A [(o, .inr (4, mF ad sz1 osz th hsz)), (ad 5, .inl (G.2.1 2, 72, .inr (.inl sf))), (ad 6, .inl (G.2.1 1, 1152, .inl bf)), (ad 25, .inl (G.2.1 2, 80, .inr (.inl g))), (ad 2, .inl (G.2.1 2, 80, .inr (.inl cf)))] := hD
  have hl : lv_has ls 24 [(0, .ref o), (1, .int (nI sl)), (2, .int (nI t))] := hl
  refine lv_iload_n hx hb dX4_wideBlock_2 rfl (lv_at hl 2 rfl) ?_
  refine lv_bipush (v := 16) hx hb dX4_wideBlock_3 (by decide) ?_
  refine lv_icmp_ge (tgt := 64) hx hb dX4_wideBlock_5 (by decide) (fun c_5 => ?_) (fun c_5 => ?_)
  · skip
    have hg : 16 ≤ t := ge_t (n := 16) c_5 (by decide)
    refine lv_bipush (v := 16) hx hb dX4_wideBlock_64 (by decide) ?_
    refine lv_istore_n (lv' := [(2, .int 16), (0, .ref o), (1, .int (nI sl))]) hx hb dX4_wideBlock_66 rfl hl (by decide) rfl (fun ls hl => ?_)
    refine g_loop (σ := Nat × (Nat → Int64)) (G := G) (fun xq9 : Nat × (Nat → Int64) => [(o, .inr (4, mF ad sz1 osz th hsz)), (ad 5, .inl (G.2.1 2, 72, .inr (.inl sf))), (ad 6, .inl (G.2.1 1, 1152, .inl bf)), (ad 25, .inl (G.2.1 2, 80, .inr (.inl xq9.2))), (ad 2, .inl (G.2.1 2, 80, .inr (.inl cf)))]) (fun xq9 : Nat × (Nat → Int64) => [(0, .ref o), (1, .int (nI sl)), (2, .int (nI xq9.1))]) (fun xq9 : Nat × (Nat → Int64) => 16 ≤ xq9.1 ∧ xq9.1 ≤ 80 ∧ ∀ j, j < xq9.1 → xq9.2 j = sW (oM bf sl) j) (fun xq9 : Nat × (Nat → Int64) => 80 - xq9.1) ?_ (16, g) (show 16 ≤ 16 ∧ 16 ≤ 80 ∧ ∀ j, j < 16 → g j = sW (oM bf sl) j from ⟨Nat.le_refl _, by decide, fun j hj => by rw [hI.2 j (by omega), sW_lt hj]⟩) (hP.sub [0, 1, 2, 3, 4] rfl) (hD.sub [0, 1, 2, 3, 4] (by decide) rfl) hS (lv_sub hl [1, 2, 0] rfl)
    clear hP hD hS hl
    intro x hxI_67 ih_67 H locs ls hP hD hS hl
    obtain ⟨t, g⟩ := x
    have hI : 16 ≤ t ∧ t ≤ 80 ∧ ∀ j, j < t → g j = sW (oM bf sl) j := hxI_67
    have hP : va_P G.1 vwCl [(o, .inr (4, mF ad sz1 osz th hsz)), (ad 5, .inl (G.2.1 2, 72, .inr (.inl sf))), (ad 6, .inl (G.2.1 1, 1152, .inl bf)), (ad 25, .inl (G.2.1 2, 80, .inr (.inl g))), (ad 2, .inl (G.2.1 2, 80, .inr (.inl cf)))] H := hP
    have hD : va_D A [(o, .inr (4, mF ad sz1 osz th hsz)), (ad 5, .inl (G.2.1 2, 72, .inr (.inl sf))), (ad 6, .inl (G.2.1 1, 1152, .inl bf)), (ad 25, .inl (G.2.1 2, 80, .inr (.inl g))), (ad 2, .inl (G.2.1 2, 80, .inr (.inl cf)))] := hD
    have hl : lv_has ls 24 [(0, .ref o), (1, .int (nI sl)), (2, .int (nI t))] := hl
    refine lv_iload_n hx hb dX4_wideBlock_67 rfl (lv_at hl 2 rfl) ?_
    refine lv_bipush (v := 80) hx hb dX4_wideBlock_68 (by decide) ?_
    refine lv_icmp_ge (tgt := 164) hx hb dX4_wideBlock_70 (by decide) (fun c_70 => ?_) (fun c_70 => ?_)
    · skip
      have hg : 80 ≤ t := ge_t (n := 80) c_70 (by decide)
      refine lv_bipush (v := 8) hx hb dX4_wideBlock_164 (by decide) ?_
      refine lv_iload_n hx hb dX4_wideBlock_166 rfl (lv_at hl 1 rfl) ?_
      refine lv_imul hx hb dX4_wideBlock_167 ?_
      refine g_toi (y := nI (8 * sl)) (pk_mul 8 sl) ?_
      refine lv_istore_n (lv' := [(2, .int (nI (8 * sl))), (0, .ref o), (1, .int (nI sl))]) hx hb dX4_wideBlock_168 rfl hl (by decide) rfl (fun ls hl => ?_)
      refine lv_aload_n hx hb dX4_wideBlock_169 rfl (lv_at hl 1 rfl) ?_
      refine va_get (D := G.1) (ci := 4) (v := .ref (ad 5)) (C := RX4) (T := TX4) (N := 29) hx hb htu iwX4 hown hK.1 hP 0 rfl rfl 5 (by decide) (htu _ uF_X4_23) (fun _ h9 => h9) rfl dX4_wideBlock_170 ?_
      refine lv_iload_n hx hb dX4_wideBlock_173 rfl (lv_at hl 0 rfl) ?_
      refine g_lald hx hb hK.1 hP 1 2 rfl rfl ⟨by omega, by decide⟩ dX4_wideBlock_174 ?_
      refine lv_topl (fun v_1 ev_1 => ?_)
      refine lv_lstore_n (lv' := [(3, .long v_1), (2, .int (nI (8 * sl))), (0, .ref o), (1, .int (nI sl))]) hx hb dX4_wideBlock_175 rfl hl (by decide) rfl (fun ls hl => ?_)
      refine lv_aload_n hx hb dX4_wideBlock_176 rfl (lv_at hl 2 rfl) ?_
      refine va_get (D := G.1) (ci := 4) (v := .ref (ad 5)) (C := RX4) (T := TX4) (N := 29) hx hb htu iwX4 hown hK.1 hP 0 rfl rfl 5 (by decide) (htu _ uF_X4_23) (fun _ h9 => h9) rfl dX4_wideBlock_177 ?_
      refine lv_iload_n hx hb dX4_wideBlock_180 rfl (lv_at hl 1 rfl) ?_
      refine lv_iconst (v := 1) hx hb dX4_wideBlock_181 (by decide) ?_
      refine lv_iadd hx hb dX4_wideBlock_182 ?_
      refine g_toi (y := nI (8 * sl + 1)) (nI_add (8 * sl) 1) ?_
      refine g_lald hx hb hK.1 hP 1 2 rfl rfl ⟨by omega, by decide⟩ dX4_wideBlock_183 ?_
      refine lv_topl (fun v_2 ev_2 => ?_)
      refine lv_lstore (lv' := [(5, .long v_2), (3, .long v_1), (2, .int (nI (8 * sl))), (0, .ref o), (1, .int (nI sl))]) hx hb dX4_wideBlock_184 hl (by decide) rfl (fun ls hl => ?_)
      refine lv_aload_n hx hb dX4_wideBlock_186 rfl (lv_at hl 3 rfl) ?_
      refine va_get (D := G.1) (ci := 4) (v := .ref (ad 5)) (C := RX4) (T := TX4) (N := 29) hx hb htu iwX4 hown hK.1 hP 0 rfl rfl 5 (by decide) (htu _ uF_X4_23) (fun _ h9 => h9) rfl dX4_wideBlock_187 ?_
      refine lv_iload_n hx hb dX4_wideBlock_190 rfl (lv_at hl 2 rfl) ?_
      refine lv_iconst (v := 2) hx hb dX4_wideBlock_191 (by decide) ?_
      refine lv_iadd hx hb dX4_wideBlock_192 ?_
      refine g_toi (y := nI (8 * sl + 2)) (nI_add (8 * sl) 2) ?_
      refine g_lald hx hb hK.1 hP 1 2 rfl rfl ⟨by omega, by decide⟩ dX4_wideBlock_193 ?_
      refine lv_topl (fun v_3 ev_3 => ?_)
      refine lv_lstore (lv' := [(7, .long v_3), (5, .long v_2), (3, .long v_1), (2, .int (nI (8 * sl))), (0, .ref o), (1, .int (nI sl))]) hx hb dX4_wideBlock_194 hl (by decide) rfl (fun ls hl => ?_)
      refine lv_aload_n hx hb dX4_wideBlock_196 rfl (lv_at hl 4 rfl) ?_
      refine va_get (D := G.1) (ci := 4) (v := .ref (ad 5)) (C := RX4) (T := TX4) (N := 29) hx hb htu iwX4 hown hK.1 hP 0 rfl rfl 5 (by decide) (htu _ uF_X4_23) (fun _ h9 => h9) rfl dX4_wideBlock_197 ?_
      refine lv_iload_n hx hb dX4_wideBlock_200 rfl (lv_at hl 3 rfl) ?_
      refine lv_iconst (v := 3) hx hb dX4_wideBlock_201 (by decide) ?_
      refine lv_iadd hx hb dX4_wideBlock_202 ?_
      refine g_toi (y := nI (8 * sl + 3)) (nI_add (8 * sl) 3) ?_
      refine g_lald hx hb hK.1 hP 1 2 rfl rfl ⟨by omega, by decide⟩ dX4_wideBlock_203 ?_
      refine lv_topl (fun v_4 ev_4 => ?_)
      refine lv_lstore (lv' := [(9, .long v_4), (7, .long v_3), (5, .long v_2), (3, .long v_1), (2, .int (nI (8 * sl))), (0, .ref o), (1, .int (nI sl))]) hx hb dX4_wideBlock_204 hl (by decide) rfl (fun ls hl => ?_)
      refine lv_aload_n hx hb dX4_wideBlock_206 rfl (lv_at hl 5 rfl) ?_
      refine va_get (D := G.1) (ci := 4) (v := .ref (ad 5)) (C := RX4) (T := TX4) (N := 29) hx hb htu iwX4 hown hK.1 hP 0 rfl rfl 5 (by decide) (htu _ uF_X4_23) (fun _ h9 => h9) rfl dX4_wideBlock_207 ?_
      refine lv_iload_n hx hb dX4_wideBlock_210 rfl (lv_at hl 4 rfl) ?_
      refine lv_iconst (v := 4) hx hb dX4_wideBlock_211 (by decide) ?_
      refine lv_iadd hx hb dX4_wideBlock_212 ?_
      refine g_toi (y := nI (8 * sl + 4)) (nI_add (8 * sl) 4) ?_
      refine g_lald hx hb hK.1 hP 1 2 rfl rfl ⟨by omega, by decide⟩ dX4_wideBlock_213 ?_
      refine lv_topl (fun v_5 ev_5 => ?_)
      refine lv_lstore (lv' := [(11, .long v_5), (9, .long v_4), (7, .long v_3), (5, .long v_2), (3, .long v_1), (2, .int (nI (8 * sl))), (0, .ref o), (1, .int (nI sl))]) hx hb dX4_wideBlock_214 hl (by decide) rfl (fun ls hl => ?_)
      refine lv_aload_n hx hb dX4_wideBlock_216 rfl (lv_at hl 6 rfl) ?_
      refine va_get (D := G.1) (ci := 4) (v := .ref (ad 5)) (C := RX4) (T := TX4) (N := 29) hx hb htu iwX4 hown hK.1 hP 0 rfl rfl 5 (by decide) (htu _ uF_X4_23) (fun _ h9 => h9) rfl dX4_wideBlock_217 ?_
      refine lv_iload_n hx hb dX4_wideBlock_220 rfl (lv_at hl 5 rfl) ?_
      refine lv_iconst (v := 5) hx hb dX4_wideBlock_221 (by decide) ?_
      refine lv_iadd hx hb dX4_wideBlock_222 ?_
      refine g_toi (y := nI (8 * sl + 5)) (nI_add (8 * sl) 5) ?_
      refine g_lald hx hb hK.1 hP 1 2 rfl rfl ⟨by omega, by decide⟩ dX4_wideBlock_223 ?_
      refine lv_topl (fun v_6 ev_6 => ?_)
      refine lv_lstore (lv' := [(13, .long v_6), (11, .long v_5), (9, .long v_4), (7, .long v_3), (5, .long v_2), (3, .long v_1), (2, .int (nI (8 * sl))), (0, .ref o), (1, .int (nI sl))]) hx hb dX4_wideBlock_224 hl (by decide) rfl (fun ls hl => ?_)
      refine lv_aload_n hx hb dX4_wideBlock_226 rfl (lv_at hl 7 rfl) ?_
      refine va_get (D := G.1) (ci := 4) (v := .ref (ad 5)) (C := RX4) (T := TX4) (N := 29) hx hb htu iwX4 hown hK.1 hP 0 rfl rfl 5 (by decide) (htu _ uF_X4_23) (fun _ h9 => h9) rfl dX4_wideBlock_227 ?_
      refine lv_iload_n hx hb dX4_wideBlock_230 rfl (lv_at hl 6 rfl) ?_
      refine lv_bipush (v := 6) hx hb dX4_wideBlock_231 (by decide) ?_
      refine lv_iadd hx hb dX4_wideBlock_233 ?_
      refine g_toi (y := nI (8 * sl + 6)) (nI_add (8 * sl) 6) ?_
      refine g_lald hx hb hK.1 hP 1 2 rfl rfl ⟨by omega, by decide⟩ dX4_wideBlock_234 ?_
      refine lv_topl (fun v_7 ev_7 => ?_)
      refine lv_lstore (lv' := [(15, .long v_7), (13, .long v_6), (11, .long v_5), (9, .long v_4), (7, .long v_3), (5, .long v_2), (3, .long v_1), (2, .int (nI (8 * sl))), (0, .ref o), (1, .int (nI sl))]) hx hb dX4_wideBlock_235 hl (by decide) rfl (fun ls hl => ?_)
      refine lv_aload_n hx hb dX4_wideBlock_237 rfl (lv_at hl 8 rfl) ?_
      refine va_get (D := G.1) (ci := 4) (v := .ref (ad 5)) (C := RX4) (T := TX4) (N := 29) hx hb htu iwX4 hown hK.1 hP 0 rfl rfl 5 (by decide) (htu _ uF_X4_23) (fun _ h9 => h9) rfl dX4_wideBlock_238 ?_
      refine lv_iload_n hx hb dX4_wideBlock_241 rfl (lv_at hl 7 rfl) ?_
      refine lv_bipush (v := 7) hx hb dX4_wideBlock_242 (by decide) ?_
      refine lv_iadd hx hb dX4_wideBlock_244 ?_
      refine g_toi (y := nI (8 * sl + 7)) (nI_add (8 * sl) 7) ?_
      refine g_lald hx hb hK.1 hP 1 2 rfl rfl ⟨by omega, by decide⟩ dX4_wideBlock_245 ?_
      refine lv_topl (fun v_8 ev_8 => ?_)
      refine lv_lstore (lv' := [(17, .long v_8), (15, .long v_7), (13, .long v_6), (11, .long v_5), (9, .long v_4), (7, .long v_3), (5, .long v_2), (3, .long v_1), (2, .int (nI (8 * sl))), (0, .ref o), (1, .int (nI sl))]) hx hb dX4_wideBlock_246 hl (by decide) rfl (fun ls hl => ?_)
      refine lv_iconst (v := 0) hx hb dX4_wideBlock_248 (by decide) ?_
      refine lv_istore (lv' := [(19, .int 0), (17, .long v_8), (15, .long v_7), (13, .long v_6), (11, .long v_5), (9, .long v_4), (7, .long v_3), (5, .long v_2), (3, .long v_1), (2, .int (nI (8 * sl))), (0, .ref o), (1, .int (nI sl))]) hx hb dX4_wideBlock_249 hl (by decide) rfl (fun ls hl => ?_)
      refine g_loop (σ := Nat × Int64 × Int64 × Int64 × Int64 × Int64 × Int64 × Int64 × Int64) (G := G) (fun xq9 : Nat × Int64 × Int64 × Int64 × Int64 × Int64 × Int64 × Int64 × Int64 => [(o, .inr (4, mF ad sz1 osz th hsz)), (ad 5, .inl (G.2.1 2, 72, .inr (.inl sf))), (ad 6, .inl (G.2.1 1, 1152, .inl bf)), (ad 25, .inl (G.2.1 2, 80, .inr (.inl g))), (ad 2, .inl (G.2.1 2, 80, .inr (.inl cf)))]) (fun xq9 : Nat × Int64 × Int64 × Int64 × Int64 × Int64 × Int64 × Int64 × Int64 => [(0, .ref o), (1, .int (nI sl)), (2, .int (nI (8 * sl))), (3, .long xq9.2.1), (5, .long xq9.2.2.1), (7, .long xq9.2.2.2.1), (9, .long xq9.2.2.2.2.1), (11, .long xq9.2.2.2.2.2.1), (13, .long xq9.2.2.2.2.2.2.1), (15, .long xq9.2.2.2.2.2.2.2.1), (17, .long xq9.2.2.2.2.2.2.2.2), (19, .int (nI xq9.1))]) (fun xq9 : Nat × Int64 × Int64 × Int64 × Int64 × Int64 × Int64 × Int64 × Int64 => xq9.1 ≤ 80 ∧ (xq9.2.1, xq9.2.2.1, xq9.2.2.2.1, xq9.2.2.2.2.1, xq9.2.2.2.2.2.1, xq9.2.2.2.2.2.2.1, xq9.2.2.2.2.2.2.2.1, xq9.2.2.2.2.2.2.2.2) = rdsW g (v0W (wM sf sl)) xq9.1) (fun xq9 : Nat × Int64 × Int64 × Int64 × Int64 × Int64 × Int64 × Int64 × Int64 => 80 - xq9.1) ?_ (0, v_1, v_2, v_3, v_4, v_5, v_6, v_7, v_8) (show 0 ≤ 80 ∧ (v_1, v_2, v_3, v_4, v_5, v_6, v_7, v_8) = rdsW g (v0W (wM sf sl)) 0 from ⟨Nat.zero_le _, by subst_vars; rfl⟩) (hP.sub [0, 1, 2, 3, 4] rfl) (hD.sub [0, 1, 2, 3, 4] (by decide) rfl) hS (lv_sub hl [10, 11, 9, 8, 7, 6, 5, 4, 3, 2, 1, 0] rfl)
      clear hP hD hS hl
      intro x hxI_251 ih_251 H locs ls hP hD hS hl
      obtain ⟨t, xa, xb, xc, xd, xe, xf, xg, xh⟩ := x
      have hH : t ≤ 80 ∧ (xa, xb, xc, xd, xe, xf, xg, xh) = rdsW g (v0W (wM sf sl)) t := hxI_251
      have hP : va_P G.1 vwCl [(o, .inr (4, mF ad sz1 osz th hsz)), (ad 5, .inl (G.2.1 2, 72, .inr (.inl sf))), (ad 6, .inl (G.2.1 1, 1152, .inl bf)), (ad 25, .inl (G.2.1 2, 80, .inr (.inl g))), (ad 2, .inl (G.2.1 2, 80, .inr (.inl cf)))] H := hP
      have hD : va_D A [(o, .inr (4, mF ad sz1 osz th hsz)), (ad 5, .inl (G.2.1 2, 72, .inr (.inl sf))), (ad 6, .inl (G.2.1 1, 1152, .inl bf)), (ad 25, .inl (G.2.1 2, 80, .inr (.inl g))), (ad 2, .inl (G.2.1 2, 80, .inr (.inl cf)))] := hD
      have hl : lv_has ls 24 [(0, .ref o), (1, .int (nI sl)), (2, .int (nI (8 * sl))), (3, .long xa), (5, .long xb), (7, .long xc), (9, .long xd), (11, .long xe), (13, .long xf), (15, .long xg), (17, .long xh), (19, .int (nI t))] := hl
      refine lv_iload hx hb dX4_wideBlock_251 (lv_at hl 11 rfl) ?_
      refine lv_bipush (v := 80) hx hb dX4_wideBlock_253 (by decide) ?_
      refine lv_icmp_ge (tgt := 398) hx hb dX4_wideBlock_255 (by decide) (fun c_255 => ?_) (fun c_255 => ?_)
      · skip
        have ht : t = 80 := Nat.le_antisymm hH.1 (ge_t (n := 80) c_255 (by decide))
        refine lv_aload_n hx hb dX4_wideBlock_398 rfl (lv_at hl 0 rfl) ?_
        refine va_get (D := G.1) (ci := 4) (v := .ref (ad 5)) (C := RX4) (T := TX4) (N := 29) hx hb htu iwX4 hown hK.1 hP 0 rfl rfl 5 (by decide) (htu _ uF_X4_23) (fun _ h9 => h9) rfl dX4_wideBlock_399 ?_
        refine lv_iload_n hx hb dX4_wideBlock_402 rfl (lv_at hl 2 rfl) ?_
        refine lv_dup2_11 hx hb dX4_wideBlock_403 rfl rfl ?_
        refine g_lald hx hb hK.1 hP 1 2 rfl rfl ⟨by omega, by decide⟩ dX4_wideBlock_404 ?_
        refine lv_lload_n hx hb dX4_wideBlock_405 rfl (lv_at hl 3 rfl) ?_
        refine lv_ladd hx hb dX4_wideBlock_406 ?_
        refine lv_topl (fun v_9 ev_9 => ?_)
        refine g_last hx hb hK.1 hP hD hS 1 2 rfl rfl ⟨by omega, by decide⟩ dX4_wideBlock_407 (fun H locs hP hD hS => ?_)
        obtain ⟨g_10, eg_10⟩ : ∃ gq9 : Nat → Int64, gq9 = vp_updL sf (8 * sl) v_9 := ⟨_, rfl⟩
        rw [← eg_10] at hP hD
        have hP : va_P G.1 vwCl [(o, .inr (4, mF ad sz1 osz th hsz)), (ad 5, .inl (G.2.1 2, 72, .inr (.inl g_10))), (ad 6, .inl (G.2.1 1, 1152, .inl bf)), (ad 25, .inl (G.2.1 2, 80, .inr (.inl g))), (ad 2, .inl (G.2.1 2, 80, .inr (.inl cf)))] H := hP
        have hD : va_D A [(o, .inr (4, mF ad sz1 osz th hsz)), (ad 5, .inl (G.2.1 2, 72, .inr (.inl g_10))), (ad 6, .inl (G.2.1 1, 1152, .inl bf)), (ad 25, .inl (G.2.1 2, 80, .inr (.inl g))), (ad 2, .inl (G.2.1 2, 80, .inr (.inl cf)))] := hD
        refine lv_aload_n hx hb dX4_wideBlock_408 rfl (lv_at hl 0 rfl) ?_
        refine va_get (D := G.1) (ci := 4) (v := .ref (ad 5)) (C := RX4) (T := TX4) (N := 29) hx hb htu iwX4 hown hK.1 hP 0 rfl rfl 5 (by decide) (htu _ uF_X4_23) (fun _ h9 => h9) rfl dX4_wideBlock_409 ?_
        refine lv_iload_n hx hb dX4_wideBlock_412 rfl (lv_at hl 2 rfl) ?_
        refine lv_iconst (v := 1) hx hb dX4_wideBlock_413 (by decide) ?_
        refine lv_iadd hx hb dX4_wideBlock_414 ?_
        refine g_toi (y := nI (8 * sl + 1)) (nI_add (8 * sl) 1) ?_
        refine lv_dup2_11 hx hb dX4_wideBlock_415 rfl rfl ?_
        refine g_lald hx hb hK.1 hP 1 2 rfl rfl ⟨by omega, by decide⟩ dX4_wideBlock_416 ?_
        refine g_tol (y := sf (8 * sl + 1)) (by rw [eg_10, pk_uLn (by omega)]) ?_
        refine lv_lload hx hb dX4_wideBlock_417 (lv_at hl 4 rfl) ?_
        refine lv_ladd hx hb dX4_wideBlock_419 ?_
        refine lv_topl (fun v_11 ev_11 => ?_)
        refine g_last hx hb hK.1 hP hD hS 1 2 rfl rfl ⟨by omega, by decide⟩ dX4_wideBlock_420 (fun H locs hP hD hS => ?_)
        obtain ⟨g_12, eg_12⟩ : ∃ gq9 : Nat → Int64, gq9 = vp_updL g_10 (8 * sl + 1) v_11 := ⟨_, rfl⟩
        rw [← eg_12] at hP hD
        have hP : va_P G.1 vwCl [(o, .inr (4, mF ad sz1 osz th hsz)), (ad 5, .inl (G.2.1 2, 72, .inr (.inl g_12))), (ad 6, .inl (G.2.1 1, 1152, .inl bf)), (ad 25, .inl (G.2.1 2, 80, .inr (.inl g))), (ad 2, .inl (G.2.1 2, 80, .inr (.inl cf)))] H := hP
        have hD : va_D A [(o, .inr (4, mF ad sz1 osz th hsz)), (ad 5, .inl (G.2.1 2, 72, .inr (.inl g_12))), (ad 6, .inl (G.2.1 1, 1152, .inl bf)), (ad 25, .inl (G.2.1 2, 80, .inr (.inl g))), (ad 2, .inl (G.2.1 2, 80, .inr (.inl cf)))] := hD
        refine lv_aload_n hx hb dX4_wideBlock_421 rfl (lv_at hl 0 rfl) ?_
        refine va_get (D := G.1) (ci := 4) (v := .ref (ad 5)) (C := RX4) (T := TX4) (N := 29) hx hb htu iwX4 hown hK.1 hP 0 rfl rfl 5 (by decide) (htu _ uF_X4_23) (fun _ h9 => h9) rfl dX4_wideBlock_422 ?_
        refine lv_iload_n hx hb dX4_wideBlock_425 rfl (lv_at hl 2 rfl) ?_
        refine lv_iconst (v := 2) hx hb dX4_wideBlock_426 (by decide) ?_
        refine lv_iadd hx hb dX4_wideBlock_427 ?_
        refine g_toi (y := nI (8 * sl + 2)) (nI_add (8 * sl) 2) ?_
        refine lv_dup2_11 hx hb dX4_wideBlock_428 rfl rfl ?_
        refine g_lald hx hb hK.1 hP 1 2 rfl rfl ⟨by omega, by decide⟩ dX4_wideBlock_429 ?_
        refine g_tol (y := sf (8 * sl + 2)) (by rw [eg_12, pk_uLn (by omega), eg_10, pk_uLn (by omega)]) ?_
        refine lv_lload hx hb dX4_wideBlock_430 (lv_at hl 5 rfl) ?_
        refine lv_ladd hx hb dX4_wideBlock_432 ?_
        refine lv_topl (fun v_13 ev_13 => ?_)
        refine g_last hx hb hK.1 hP hD hS 1 2 rfl rfl ⟨by omega, by decide⟩ dX4_wideBlock_433 (fun H locs hP hD hS => ?_)
        obtain ⟨g_14, eg_14⟩ : ∃ gq9 : Nat → Int64, gq9 = vp_updL g_12 (8 * sl + 2) v_13 := ⟨_, rfl⟩
        rw [← eg_14] at hP hD
        have hP : va_P G.1 vwCl [(o, .inr (4, mF ad sz1 osz th hsz)), (ad 5, .inl (G.2.1 2, 72, .inr (.inl g_14))), (ad 6, .inl (G.2.1 1, 1152, .inl bf)), (ad 25, .inl (G.2.1 2, 80, .inr (.inl g))), (ad 2, .inl (G.2.1 2, 80, .inr (.inl cf)))] H := hP
        have hD : va_D A [(o, .inr (4, mF ad sz1 osz th hsz)), (ad 5, .inl (G.2.1 2, 72, .inr (.inl g_14))), (ad 6, .inl (G.2.1 1, 1152, .inl bf)), (ad 25, .inl (G.2.1 2, 80, .inr (.inl g))), (ad 2, .inl (G.2.1 2, 80, .inr (.inl cf)))] := hD
        refine lv_aload_n hx hb dX4_wideBlock_434 rfl (lv_at hl 0 rfl) ?_
        refine va_get (D := G.1) (ci := 4) (v := .ref (ad 5)) (C := RX4) (T := TX4) (N := 29) hx hb htu iwX4 hown hK.1 hP 0 rfl rfl 5 (by decide) (htu _ uF_X4_23) (fun _ h9 => h9) rfl dX4_wideBlock_435 ?_
        refine lv_iload_n hx hb dX4_wideBlock_438 rfl (lv_at hl 2 rfl) ?_
        refine lv_iconst (v := 3) hx hb dX4_wideBlock_439 (by decide) ?_
        refine lv_iadd hx hb dX4_wideBlock_440 ?_
        refine g_toi (y := nI (8 * sl + 3)) (nI_add (8 * sl) 3) ?_
        refine lv_dup2_11 hx hb dX4_wideBlock_441 rfl rfl ?_
        refine g_lald hx hb hK.1 hP 1 2 rfl rfl ⟨by omega, by decide⟩ dX4_wideBlock_442 ?_
        refine g_tol (y := sf (8 * sl + 3)) (by rw [eg_14, pk_uLn (by omega), eg_12, pk_uLn (by omega), eg_10, pk_uLn (by omega)]) ?_
        refine lv_lload hx hb dX4_wideBlock_443 (lv_at hl 6 rfl) ?_
        refine lv_ladd hx hb dX4_wideBlock_445 ?_
        refine lv_topl (fun v_15 ev_15 => ?_)
        refine g_last hx hb hK.1 hP hD hS 1 2 rfl rfl ⟨by omega, by decide⟩ dX4_wideBlock_446 (fun H locs hP hD hS => ?_)
        obtain ⟨g_16, eg_16⟩ : ∃ gq9 : Nat → Int64, gq9 = vp_updL g_14 (8 * sl + 3) v_15 := ⟨_, rfl⟩
        rw [← eg_16] at hP hD
        have hP : va_P G.1 vwCl [(o, .inr (4, mF ad sz1 osz th hsz)), (ad 5, .inl (G.2.1 2, 72, .inr (.inl g_16))), (ad 6, .inl (G.2.1 1, 1152, .inl bf)), (ad 25, .inl (G.2.1 2, 80, .inr (.inl g))), (ad 2, .inl (G.2.1 2, 80, .inr (.inl cf)))] H := hP
        have hD : va_D A [(o, .inr (4, mF ad sz1 osz th hsz)), (ad 5, .inl (G.2.1 2, 72, .inr (.inl g_16))), (ad 6, .inl (G.2.1 1, 1152, .inl bf)), (ad 25, .inl (G.2.1 2, 80, .inr (.inl g))), (ad 2, .inl (G.2.1 2, 80, .inr (.inl cf)))] := hD
        refine lv_aload_n hx hb dX4_wideBlock_447 rfl (lv_at hl 0 rfl) ?_
        refine va_get (D := G.1) (ci := 4) (v := .ref (ad 5)) (C := RX4) (T := TX4) (N := 29) hx hb htu iwX4 hown hK.1 hP 0 rfl rfl 5 (by decide) (htu _ uF_X4_23) (fun _ h9 => h9) rfl dX4_wideBlock_448 ?_
        refine lv_iload_n hx hb dX4_wideBlock_451 rfl (lv_at hl 2 rfl) ?_
        refine lv_iconst (v := 4) hx hb dX4_wideBlock_452 (by decide) ?_
        refine lv_iadd hx hb dX4_wideBlock_453 ?_
        refine g_toi (y := nI (8 * sl + 4)) (nI_add (8 * sl) 4) ?_
        refine lv_dup2_11 hx hb dX4_wideBlock_454 rfl rfl ?_
        refine g_lald hx hb hK.1 hP 1 2 rfl rfl ⟨by omega, by decide⟩ dX4_wideBlock_455 ?_
        refine g_tol (y := sf (8 * sl + 4)) (by rw [eg_16, pk_uLn (by omega), eg_14, pk_uLn (by omega), eg_12, pk_uLn (by omega), eg_10, pk_uLn (by omega)]) ?_
        refine lv_lload hx hb dX4_wideBlock_456 (lv_at hl 7 rfl) ?_
        refine lv_ladd hx hb dX4_wideBlock_458 ?_
        refine lv_topl (fun v_17 ev_17 => ?_)
        refine g_last hx hb hK.1 hP hD hS 1 2 rfl rfl ⟨by omega, by decide⟩ dX4_wideBlock_459 (fun H locs hP hD hS => ?_)
        obtain ⟨g_18, eg_18⟩ : ∃ gq9 : Nat → Int64, gq9 = vp_updL g_16 (8 * sl + 4) v_17 := ⟨_, rfl⟩
        rw [← eg_18] at hP hD
        have hP : va_P G.1 vwCl [(o, .inr (4, mF ad sz1 osz th hsz)), (ad 5, .inl (G.2.1 2, 72, .inr (.inl g_18))), (ad 6, .inl (G.2.1 1, 1152, .inl bf)), (ad 25, .inl (G.2.1 2, 80, .inr (.inl g))), (ad 2, .inl (G.2.1 2, 80, .inr (.inl cf)))] H := hP
        have hD : va_D A [(o, .inr (4, mF ad sz1 osz th hsz)), (ad 5, .inl (G.2.1 2, 72, .inr (.inl g_18))), (ad 6, .inl (G.2.1 1, 1152, .inl bf)), (ad 25, .inl (G.2.1 2, 80, .inr (.inl g))), (ad 2, .inl (G.2.1 2, 80, .inr (.inl cf)))] := hD
        refine lv_aload_n hx hb dX4_wideBlock_460 rfl (lv_at hl 0 rfl) ?_
        refine va_get (D := G.1) (ci := 4) (v := .ref (ad 5)) (C := RX4) (T := TX4) (N := 29) hx hb htu iwX4 hown hK.1 hP 0 rfl rfl 5 (by decide) (htu _ uF_X4_23) (fun _ h9 => h9) rfl dX4_wideBlock_461 ?_
        refine lv_iload_n hx hb dX4_wideBlock_464 rfl (lv_at hl 2 rfl) ?_
        refine lv_iconst (v := 5) hx hb dX4_wideBlock_465 (by decide) ?_
        refine lv_iadd hx hb dX4_wideBlock_466 ?_
        refine g_toi (y := nI (8 * sl + 5)) (nI_add (8 * sl) 5) ?_
        refine lv_dup2_11 hx hb dX4_wideBlock_467 rfl rfl ?_
        refine g_lald hx hb hK.1 hP 1 2 rfl rfl ⟨by omega, by decide⟩ dX4_wideBlock_468 ?_
        refine g_tol (y := sf (8 * sl + 5)) (by rw [eg_18, pk_uLn (by omega), eg_16, pk_uLn (by omega), eg_14, pk_uLn (by omega), eg_12, pk_uLn (by omega), eg_10, pk_uLn (by omega)]) ?_
        refine lv_lload hx hb dX4_wideBlock_469 (lv_at hl 8 rfl) ?_
        refine lv_ladd hx hb dX4_wideBlock_471 ?_
        refine lv_topl (fun v_19 ev_19 => ?_)
        refine g_last hx hb hK.1 hP hD hS 1 2 rfl rfl ⟨by omega, by decide⟩ dX4_wideBlock_472 (fun H locs hP hD hS => ?_)
        obtain ⟨g_20, eg_20⟩ : ∃ gq9 : Nat → Int64, gq9 = vp_updL g_18 (8 * sl + 5) v_19 := ⟨_, rfl⟩
        rw [← eg_20] at hP hD
        have hP : va_P G.1 vwCl [(o, .inr (4, mF ad sz1 osz th hsz)), (ad 5, .inl (G.2.1 2, 72, .inr (.inl g_20))), (ad 6, .inl (G.2.1 1, 1152, .inl bf)), (ad 25, .inl (G.2.1 2, 80, .inr (.inl g))), (ad 2, .inl (G.2.1 2, 80, .inr (.inl cf)))] H := hP
        have hD : va_D A [(o, .inr (4, mF ad sz1 osz th hsz)), (ad 5, .inl (G.2.1 2, 72, .inr (.inl g_20))), (ad 6, .inl (G.2.1 1, 1152, .inl bf)), (ad 25, .inl (G.2.1 2, 80, .inr (.inl g))), (ad 2, .inl (G.2.1 2, 80, .inr (.inl cf)))] := hD
        refine lv_aload_n hx hb dX4_wideBlock_473 rfl (lv_at hl 0 rfl) ?_
        refine va_get (D := G.1) (ci := 4) (v := .ref (ad 5)) (C := RX4) (T := TX4) (N := 29) hx hb htu iwX4 hown hK.1 hP 0 rfl rfl 5 (by decide) (htu _ uF_X4_23) (fun _ h9 => h9) rfl dX4_wideBlock_474 ?_
        refine lv_iload_n hx hb dX4_wideBlock_477 rfl (lv_at hl 2 rfl) ?_
        refine lv_bipush (v := 6) hx hb dX4_wideBlock_478 (by decide) ?_
        refine lv_iadd hx hb dX4_wideBlock_480 ?_
        refine g_toi (y := nI (8 * sl + 6)) (nI_add (8 * sl) 6) ?_
        refine lv_dup2_11 hx hb dX4_wideBlock_481 rfl rfl ?_
        refine g_lald hx hb hK.1 hP 1 2 rfl rfl ⟨by omega, by decide⟩ dX4_wideBlock_482 ?_
        refine g_tol (y := sf (8 * sl + 6)) (by rw [eg_20, pk_uLn (by omega), eg_18, pk_uLn (by omega), eg_16, pk_uLn (by omega), eg_14, pk_uLn (by omega), eg_12, pk_uLn (by omega), eg_10, pk_uLn (by omega)]) ?_
        refine lv_lload hx hb dX4_wideBlock_483 (lv_at hl 9 rfl) ?_
        refine lv_ladd hx hb dX4_wideBlock_485 ?_
        refine lv_topl (fun v_21 ev_21 => ?_)
        refine g_last hx hb hK.1 hP hD hS 1 2 rfl rfl ⟨by omega, by decide⟩ dX4_wideBlock_486 (fun H locs hP hD hS => ?_)
        obtain ⟨g_22, eg_22⟩ : ∃ gq9 : Nat → Int64, gq9 = vp_updL g_20 (8 * sl + 6) v_21 := ⟨_, rfl⟩
        rw [← eg_22] at hP hD
        have hP : va_P G.1 vwCl [(o, .inr (4, mF ad sz1 osz th hsz)), (ad 5, .inl (G.2.1 2, 72, .inr (.inl g_22))), (ad 6, .inl (G.2.1 1, 1152, .inl bf)), (ad 25, .inl (G.2.1 2, 80, .inr (.inl g))), (ad 2, .inl (G.2.1 2, 80, .inr (.inl cf)))] H := hP
        have hD : va_D A [(o, .inr (4, mF ad sz1 osz th hsz)), (ad 5, .inl (G.2.1 2, 72, .inr (.inl g_22))), (ad 6, .inl (G.2.1 1, 1152, .inl bf)), (ad 25, .inl (G.2.1 2, 80, .inr (.inl g))), (ad 2, .inl (G.2.1 2, 80, .inr (.inl cf)))] := hD
        refine lv_aload_n hx hb dX4_wideBlock_487 rfl (lv_at hl 0 rfl) ?_
        refine va_get (D := G.1) (ci := 4) (v := .ref (ad 5)) (C := RX4) (T := TX4) (N := 29) hx hb htu iwX4 hown hK.1 hP 0 rfl rfl 5 (by decide) (htu _ uF_X4_23) (fun _ h9 => h9) rfl dX4_wideBlock_488 ?_
        refine lv_iload_n hx hb dX4_wideBlock_491 rfl (lv_at hl 2 rfl) ?_
        refine lv_bipush (v := 7) hx hb dX4_wideBlock_492 (by decide) ?_
        refine lv_iadd hx hb dX4_wideBlock_494 ?_
        refine g_toi (y := nI (8 * sl + 7)) (nI_add (8 * sl) 7) ?_
        refine lv_dup2_11 hx hb dX4_wideBlock_495 rfl rfl ?_
        refine g_lald hx hb hK.1 hP 1 2 rfl rfl ⟨by omega, by decide⟩ dX4_wideBlock_496 ?_
        refine g_tol (y := sf (8 * sl + 7)) (by rw [eg_22, pk_uLn (by omega), eg_20, pk_uLn (by omega), eg_18, pk_uLn (by omega), eg_16, pk_uLn (by omega), eg_14, pk_uLn (by omega), eg_12, pk_uLn (by omega), eg_10, pk_uLn (by omega)]) ?_
        refine lv_lload hx hb dX4_wideBlock_497 (lv_at hl 10 rfl) ?_
        refine lv_ladd hx hb dX4_wideBlock_499 ?_
        refine lv_topl (fun v_23 ev_23 => ?_)
        refine g_last hx hb hK.1 hP hD hS 1 2 rfl rfl ⟨by omega, by decide⟩ dX4_wideBlock_500 (fun H locs hP hD hS => ?_)
        obtain ⟨g_24, eg_24⟩ : ∃ gq9 : Nat → Int64, gq9 = vp_updL g_22 (8 * sl + 7) v_23 := ⟨_, rfl⟩
        rw [← eg_24] at hP hD
        have hP : va_P G.1 vwCl [(o, .inr (4, mF ad sz1 osz th hsz)), (ad 5, .inl (G.2.1 2, 72, .inr (.inl g_24))), (ad 6, .inl (G.2.1 1, 1152, .inl bf)), (ad 25, .inl (G.2.1 2, 80, .inr (.inl g))), (ad 2, .inl (G.2.1 2, 80, .inr (.inl cf)))] H := hP
        have hD : va_D A [(o, .inr (4, mF ad sz1 osz th hsz)), (ad 5, .inl (G.2.1 2, 72, .inr (.inl g_24))), (ad 6, .inl (G.2.1 1, 1152, .inl bf)), (ad 25, .inl (G.2.1 2, 80, .inr (.inl g))), (ad 2, .inl (G.2.1 2, 80, .inr (.inl cf)))] := hD
        have hst := st8 eg_10 eg_12 eg_14 eg_16 eg_18 eg_20 eg_22 eg_24
        exact gret_v hx hb hr hlk dX4_wideBlock_501 hS (g_24, g) (hP.sub [0, 1, 2, 3, 4] rfl) (hD.sub [0, 1, 2, 3, 4] (by decide) rfl) (show (∀ j, j < 8 → g_24 (8 * sl + j) = mxW (wM sf sl) (sW (oM bf sl)) j) ∧ (∀ i, (i < 8 * sl ∨ 8 * sl + 8 ≤ i) → g_24 i = sf i) from ⟨mxWE hI.2.2 hg ht hH.2 hst.1 (by subst_vars; rfl), hst.2⟩)
      · skip
        have hg : t < 80 := ge_f (n := 80) c_255 (by omega)
        refine lv_lload hx hb dX4_wideBlock_258 (lv_at hl 10 rfl) ?_
        refine lv_lload hx hb dX4_wideBlock_260 (lv_at hl 7 rfl) ?_
        refine lv_bipush (v := 14) hx hb dX4_wideBlock_262 (by decide) ?_
        refine g_calll (g_runS (As := [.long xe, .int 14]) (rest := [.long xh]) ⟨hx, hb, hml, hown, htu⟩ (c_X4_turnLong l G _ xe 14 (by decide)) uM_X4_118 ok_X4_turnLong uA_X4_turnLong rfl rfl ⟨Nat.le_of_ble_eq_true rfl, Nat.le_of_ble_eq_true rfl⟩ hK hP hD hS hA hZ [] rfl rfl rfl hl.1 rfl (Nat.le_of_ble_eq_true rfl) dX4_wideBlock_264 ⟨Nat.le_of_ble_eq_true rfl, Nat.le_of_ble_eq_true rfl⟩) hP hD hS hA [] rfl (fun r_25 u H locs hw_26 hP hD hS => ?_)
        have hw_26 : r_25 = rotL xe 14 := hw_26
        subst hw_26
        have hP : va_P G.1 vwCl [(o, .inr (4, mF ad sz1 osz th hsz)), (ad 5, .inl (G.2.1 2, 72, .inr (.inl sf))), (ad 6, .inl (G.2.1 1, 1152, .inl bf)), (ad 25, .inl (G.2.1 2, 80, .inr (.inl g))), (ad 2, .inl (G.2.1 2, 80, .inr (.inl cf)))] H := hP
        have hD : va_D A [(o, .inr (4, mF ad sz1 osz th hsz)), (ad 5, .inl (G.2.1 2, 72, .inr (.inl sf))), (ad 6, .inl (G.2.1 1, 1152, .inl bf)), (ad 25, .inl (G.2.1 2, 80, .inr (.inl g))), (ad 2, .inl (G.2.1 2, 80, .inr (.inl cf)))] := hD
        refine lv_lload hx hb dX4_wideBlock_267 (lv_at hl 7 rfl) ?_
        refine lv_bipush (v := 18) hx hb dX4_wideBlock_269 (by decide) ?_
        refine g_calll (g_runS (As := [.long xe, .int 18]) (rest := [.long (rotL xe 14), .long xh]) ⟨hx, hb, hml, hown, htu⟩ (c_X4_turnLong l G _ xe 18 (by decide)) uM_X4_118 ok_X4_turnLong uA_X4_turnLong rfl rfl ⟨Nat.le_of_ble_eq_true rfl, Nat.le_of_ble_eq_true rfl⟩ hK hP hD hS hA hZ [] rfl rfl rfl hl.1 rfl (Nat.le_of_ble_eq_true rfl) dX4_wideBlock_271 ⟨Nat.le_of_ble_eq_true rfl, Nat.le_of_ble_eq_true rfl⟩) hP hD hS hA [] rfl (fun r_27 u H locs hw_28 hP hD hS => ?_)
        have hw_28 : r_27 = rotL xe 18 := hw_28
        subst hw_28
        have hP : va_P G.1 vwCl [(o, .inr (4, mF ad sz1 osz th hsz)), (ad 5, .inl (G.2.1 2, 72, .inr (.inl sf))), (ad 6, .inl (G.2.1 1, 1152, .inl bf)), (ad 25, .inl (G.2.1 2, 80, .inr (.inl g))), (ad 2, .inl (G.2.1 2, 80, .inr (.inl cf)))] H := hP
        have hD : va_D A [(o, .inr (4, mF ad sz1 osz th hsz)), (ad 5, .inl (G.2.1 2, 72, .inr (.inl sf))), (ad 6, .inl (G.2.1 1, 1152, .inl bf)), (ad 25, .inl (G.2.1 2, 80, .inr (.inl g))), (ad 2, .inl (G.2.1 2, 80, .inr (.inl cf)))] := hD
        refine lv_lxor hx hb dX4_wideBlock_274 ?_
        refine lv_lload hx hb dX4_wideBlock_275 (lv_at hl 7 rfl) ?_
        refine lv_bipush (v := 41) hx hb dX4_wideBlock_277 (by decide) ?_
        refine g_calll (g_runS (As := [.long xe, .int 41]) (rest := [.long ((rotL xe 14) ^^^ (rotL xe 18)), .long xh]) ⟨hx, hb, hml, hown, htu⟩ (c_X4_turnLong l G _ xe 41 (by decide)) uM_X4_118 ok_X4_turnLong uA_X4_turnLong rfl rfl ⟨Nat.le_of_ble_eq_true rfl, Nat.le_of_ble_eq_true rfl⟩ hK hP hD hS hA hZ [] rfl rfl rfl hl.1 rfl (Nat.le_of_ble_eq_true rfl) dX4_wideBlock_279 ⟨Nat.le_of_ble_eq_true rfl, Nat.le_of_ble_eq_true rfl⟩) hP hD hS hA [] rfl (fun r_29 u H locs hw_30 hP hD hS => ?_)
        have hw_30 : r_29 = rotL xe 41 := hw_30
        subst hw_30
        have hP : va_P G.1 vwCl [(o, .inr (4, mF ad sz1 osz th hsz)), (ad 5, .inl (G.2.1 2, 72, .inr (.inl sf))), (ad 6, .inl (G.2.1 1, 1152, .inl bf)), (ad 25, .inl (G.2.1 2, 80, .inr (.inl g))), (ad 2, .inl (G.2.1 2, 80, .inr (.inl cf)))] H := hP
        have hD : va_D A [(o, .inr (4, mF ad sz1 osz th hsz)), (ad 5, .inl (G.2.1 2, 72, .inr (.inl sf))), (ad 6, .inl (G.2.1 1, 1152, .inl bf)), (ad 25, .inl (G.2.1 2, 80, .inr (.inl g))), (ad 2, .inl (G.2.1 2, 80, .inr (.inl cf)))] := hD
        refine lv_lxor hx hb dX4_wideBlock_282 ?_
        refine lv_ladd hx hb dX4_wideBlock_283 ?_
        refine lv_lload hx hb dX4_wideBlock_284 (lv_at hl 7 rfl) ?_
        refine lv_lload hx hb dX4_wideBlock_286 (lv_at hl 8 rfl) ?_
        refine lv_land hx hb dX4_wideBlock_288 ?_
        refine lv_lload hx hb dX4_wideBlock_289 (lv_at hl 7 rfl) ?_
        refine lv_ldc2 hx hb hown (htu _ uL_X4_122) dX4_wideBlock_291 ?_
        refine lv_lxor hx hb dX4_wideBlock_294 ?_
        refine lv_lload hx hb dX4_wideBlock_295 (lv_at hl 9 rfl) ?_
        refine lv_land hx hb dX4_wideBlock_297 ?_
        refine lv_lxor hx hb dX4_wideBlock_298 ?_
        refine lv_ladd hx hb dX4_wideBlock_299 ?_
        refine lv_aload_n hx hb dX4_wideBlock_300 rfl (lv_at hl 0 rfl) ?_
        refine va_get (D := G.1) (ci := 4) (v := .ref (ad 2)) (C := RX4) (T := TX4) (N := 29) hx hb htu iwX4 hown hK.1 hP 0 rfl rfl 2 (by decide) (htu _ uF_X4_13) (fun _ h9 => h9) rfl dX4_wideBlock_301 ?_
        refine lv_iload hx hb dX4_wideBlock_304 (lv_at hl 11 rfl) ?_
        refine g_lald hx hb hK.1 hP 4 2 rfl rfl ⟨by omega, by decide⟩ dX4_wideBlock_306 ?_
        refine g_tol (y := kT t) (hc t (by omega)) ?_
        refine lv_ladd hx hb dX4_wideBlock_307 ?_
        refine lv_aload_n hx hb dX4_wideBlock_308 rfl (lv_at hl 0 rfl) ?_
        refine va_get (D := G.1) (ci := 4) (v := .ref (ad 25)) (C := RX4) (T := TX4) (N := 29) hx hb htu iwX4 hown hK.1 hP 0 rfl rfl 25 (by decide) (htu _ uF_X4_78) (fun _ h9 => h9) rfl dX4_wideBlock_309 ?_
        refine lv_iload hx hb dX4_wideBlock_312 (lv_at hl 11 rfl) ?_
        refine g_lald hx hb hK.1 hP 3 2 rfl rfl ⟨by omega, by decide⟩ dX4_wideBlock_314 ?_
        refine lv_ladd hx hb dX4_wideBlock_315 ?_
        refine lv_topl (fun v_31 ev_31 => ?_)
        refine lv_lstore (lv' := [(20, .long v_31), (0, .ref o), (1, .int (nI sl)), (2, .int (nI (8 * sl))), (3, .long xa), (5, .long xb), (7, .long xc), (9, .long xd), (11, .long xe), (13, .long xf), (15, .long xg), (17, .long xh), (19, .int (nI t))]) hx hb dX4_wideBlock_316 hl (by decide) rfl (fun ls hl => ?_)
        refine lv_lload_n hx hb dX4_wideBlock_318 rfl (lv_at hl 4 rfl) ?_
        refine lv_bipush (v := 28) hx hb dX4_wideBlock_319 (by decide) ?_
        refine g_calll (g_runS (As := [.long xa, .int 28]) (rest := []) ⟨hx, hb, hml, hown, htu⟩ (c_X4_turnLong l G _ xa 28 (by decide)) uM_X4_118 ok_X4_turnLong uA_X4_turnLong rfl rfl ⟨Nat.le_of_ble_eq_true rfl, Nat.le_of_ble_eq_true rfl⟩ hK hP hD hS hA hZ [] rfl rfl rfl hl.1 rfl (Nat.le_of_ble_eq_true rfl) dX4_wideBlock_321 ⟨Nat.le_of_ble_eq_true rfl, Nat.le_of_ble_eq_true rfl⟩) hP hD hS hA [] rfl (fun r_32 u H locs hw_33 hP hD hS => ?_)
        have hw_33 : r_32 = rotL xa 28 := hw_33
        subst hw_33
        have hP : va_P G.1 vwCl [(o, .inr (4, mF ad sz1 osz th hsz)), (ad 5, .inl (G.2.1 2, 72, .inr (.inl sf))), (ad 6, .inl (G.2.1 1, 1152, .inl bf)), (ad 25, .inl (G.2.1 2, 80, .inr (.inl g))), (ad 2, .inl (G.2.1 2, 80, .inr (.inl cf)))] H := hP
        have hD : va_D A [(o, .inr (4, mF ad sz1 osz th hsz)), (ad 5, .inl (G.2.1 2, 72, .inr (.inl sf))), (ad 6, .inl (G.2.1 1, 1152, .inl bf)), (ad 25, .inl (G.2.1 2, 80, .inr (.inl g))), (ad 2, .inl (G.2.1 2, 80, .inr (.inl cf)))] := hD
        refine lv_lload_n hx hb dX4_wideBlock_324 rfl (lv_at hl 4 rfl) ?_
        refine lv_bipush (v := 34) hx hb dX4_wideBlock_325 (by decide) ?_
        refine g_calll (g_runS (As := [.long xa, .int 34]) (rest := [.long (rotL xa 28)]) ⟨hx, hb, hml, hown, htu⟩ (c_X4_turnLong l G _ xa 34 (by decide)) uM_X4_118 ok_X4_turnLong uA_X4_turnLong rfl rfl ⟨Nat.le_of_ble_eq_true rfl, Nat.le_of_ble_eq_true rfl⟩ hK hP hD hS hA hZ [] rfl rfl rfl hl.1 rfl (Nat.le_of_ble_eq_true rfl) dX4_wideBlock_327 ⟨Nat.le_of_ble_eq_true rfl, Nat.le_of_ble_eq_true rfl⟩) hP hD hS hA [] rfl (fun r_34 u H locs hw_35 hP hD hS => ?_)
        have hw_35 : r_34 = rotL xa 34 := hw_35
        subst hw_35
        have hP : va_P G.1 vwCl [(o, .inr (4, mF ad sz1 osz th hsz)), (ad 5, .inl (G.2.1 2, 72, .inr (.inl sf))), (ad 6, .inl (G.2.1 1, 1152, .inl bf)), (ad 25, .inl (G.2.1 2, 80, .inr (.inl g))), (ad 2, .inl (G.2.1 2, 80, .inr (.inl cf)))] H := hP
        have hD : va_D A [(o, .inr (4, mF ad sz1 osz th hsz)), (ad 5, .inl (G.2.1 2, 72, .inr (.inl sf))), (ad 6, .inl (G.2.1 1, 1152, .inl bf)), (ad 25, .inl (G.2.1 2, 80, .inr (.inl g))), (ad 2, .inl (G.2.1 2, 80, .inr (.inl cf)))] := hD
        refine lv_lxor hx hb dX4_wideBlock_330 ?_
        refine lv_lload_n hx hb dX4_wideBlock_331 rfl (lv_at hl 4 rfl) ?_
        refine lv_bipush (v := 39) hx hb dX4_wideBlock_332 (by decide) ?_
        refine g_calll (g_runS (As := [.long xa, .int 39]) (rest := [.long ((rotL xa 28) ^^^ (rotL xa 34))]) ⟨hx, hb, hml, hown, htu⟩ (c_X4_turnLong l G _ xa 39 (by decide)) uM_X4_118 ok_X4_turnLong uA_X4_turnLong rfl rfl ⟨Nat.le_of_ble_eq_true rfl, Nat.le_of_ble_eq_true rfl⟩ hK hP hD hS hA hZ [] rfl rfl rfl hl.1 rfl (Nat.le_of_ble_eq_true rfl) dX4_wideBlock_334 ⟨Nat.le_of_ble_eq_true rfl, Nat.le_of_ble_eq_true rfl⟩) hP hD hS hA [] rfl (fun r_36 u H locs hw_37 hP hD hS => ?_)
        have hw_37 : r_36 = rotL xa 39 := hw_37
        subst hw_37
        have hP : va_P G.1 vwCl [(o, .inr (4, mF ad sz1 osz th hsz)), (ad 5, .inl (G.2.1 2, 72, .inr (.inl sf))), (ad 6, .inl (G.2.1 1, 1152, .inl bf)), (ad 25, .inl (G.2.1 2, 80, .inr (.inl g))), (ad 2, .inl (G.2.1 2, 80, .inr (.inl cf)))] H := hP
        have hD : va_D A [(o, .inr (4, mF ad sz1 osz th hsz)), (ad 5, .inl (G.2.1 2, 72, .inr (.inl sf))), (ad 6, .inl (G.2.1 1, 1152, .inl bf)), (ad 25, .inl (G.2.1 2, 80, .inr (.inl g))), (ad 2, .inl (G.2.1 2, 80, .inr (.inl cf)))] := hD
        refine lv_lxor hx hb dX4_wideBlock_337 ?_
        refine lv_lload_n hx hb dX4_wideBlock_338 rfl (lv_at hl 4 rfl) ?_
        refine lv_lload hx hb dX4_wideBlock_339 (lv_at hl 5 rfl) ?_
        refine lv_land hx hb dX4_wideBlock_341 ?_
        refine lv_lload_n hx hb dX4_wideBlock_342 rfl (lv_at hl 4 rfl) ?_
        refine lv_lload hx hb dX4_wideBlock_343 (lv_at hl 6 rfl) ?_
        refine lv_land hx hb dX4_wideBlock_345 ?_
        refine lv_lxor hx hb dX4_wideBlock_346 ?_
        refine lv_lload hx hb dX4_wideBlock_347 (lv_at hl 5 rfl) ?_
        refine lv_lload hx hb dX4_wideBlock_349 (lv_at hl 6 rfl) ?_
        refine lv_land hx hb dX4_wideBlock_351 ?_
        refine lv_lxor hx hb dX4_wideBlock_352 ?_
        refine lv_ladd hx hb dX4_wideBlock_353 ?_
        refine lv_topl (fun v_38 ev_38 => ?_)
        refine lv_lstore (lv' := [(22, .long v_38), (20, .long v_31), (0, .ref o), (1, .int (nI sl)), (2, .int (nI (8 * sl))), (3, .long xa), (5, .long xb), (7, .long xc), (9, .long xd), (11, .long xe), (13, .long xf), (15, .long xg), (17, .long xh), (19, .int (nI t))]) hx hb dX4_wideBlock_354 hl (by decide) rfl (fun ls hl => ?_)
        refine lv_lload hx hb dX4_wideBlock_356 (lv_at hl 11 rfl) ?_
        refine lv_lstore (lv' := [(17, .long xg), (22, .long v_38), (20, .long v_31), (0, .ref o), (1, .int (nI sl)), (2, .int (nI (8 * sl))), (3, .long xa), (5, .long xb), (7, .long xc), (9, .long xd), (11, .long xe), (13, .long xf), (15, .long xg), (19, .int (nI t))]) hx hb dX4_wideBlock_358 hl (by decide) rfl (fun ls hl => ?_)
        refine lv_lload hx hb dX4_wideBlock_360 (lv_at hl 11 rfl) ?_
        refine lv_lstore (lv' := [(15, .long xf), (17, .long xg), (22, .long v_38), (20, .long v_31), (0, .ref o), (1, .int (nI sl)), (2, .int (nI (8 * sl))), (3, .long xa), (5, .long xb), (7, .long xc), (9, .long xd), (11, .long xe), (13, .long xf), (19, .int (nI t))]) hx hb dX4_wideBlock_362 hl (by decide) rfl (fun ls hl => ?_)
        refine lv_lload hx hb dX4_wideBlock_364 (lv_at hl 11 rfl) ?_
        refine lv_lstore (lv' := [(13, .long xe), (15, .long xf), (17, .long xg), (22, .long v_38), (20, .long v_31), (0, .ref o), (1, .int (nI sl)), (2, .int (nI (8 * sl))), (3, .long xa), (5, .long xb), (7, .long xc), (9, .long xd), (11, .long xe), (19, .int (nI t))]) hx hb dX4_wideBlock_366 hl (by decide) rfl (fun ls hl => ?_)
        refine lv_lload hx hb dX4_wideBlock_368 (lv_at hl 11 rfl) ?_
        refine lv_lload hx hb dX4_wideBlock_370 (lv_at hl 4 rfl) ?_
        refine lv_ladd hx hb dX4_wideBlock_372 ?_
        refine lv_topl (fun v_39 ev_39 => ?_)
        refine lv_lstore (lv' := [(11, .long v_39), (13, .long xe), (15, .long xf), (17, .long xg), (22, .long v_38), (20, .long v_31), (0, .ref o), (1, .int (nI sl)), (2, .int (nI (8 * sl))), (3, .long xa), (5, .long xb), (7, .long xc), (9, .long xd), (19, .int (nI t))]) hx hb dX4_wideBlock_373 hl (by decide) rfl (fun ls hl => ?_)
        refine lv_lload hx hb dX4_wideBlock_375 (lv_at hl 11 rfl) ?_
        refine lv_lstore (lv' := [(9, .long xc), (11, .long v_39), (13, .long xe), (15, .long xf), (17, .long xg), (22, .long v_38), (20, .long v_31), (0, .ref o), (1, .int (nI sl)), (2, .int (nI (8 * sl))), (3, .long xa), (5, .long xb), (7, .long xc), (19, .int (nI t))]) hx hb dX4_wideBlock_377 hl (by decide) rfl (fun ls hl => ?_)
        refine lv_lload hx hb dX4_wideBlock_379 (lv_at hl 11 rfl) ?_
        refine lv_lstore (lv' := [(7, .long xb), (9, .long xc), (11, .long v_39), (13, .long xe), (15, .long xf), (17, .long xg), (22, .long v_38), (20, .long v_31), (0, .ref o), (1, .int (nI sl)), (2, .int (nI (8 * sl))), (3, .long xa), (5, .long xb), (19, .int (nI t))]) hx hb dX4_wideBlock_381 hl (by decide) rfl (fun ls hl => ?_)
        refine lv_lload_n hx hb dX4_wideBlock_383 rfl (lv_at hl 11 rfl) ?_
        refine lv_lstore (lv' := [(5, .long xa), (7, .long xb), (9, .long xc), (11, .long v_39), (13, .long xe), (15, .long xf), (17, .long xg), (22, .long v_38), (20, .long v_31), (0, .ref o), (1, .int (nI sl)), (2, .int (nI (8 * sl))), (3, .long xa), (19, .int (nI t))]) hx hb dX4_wideBlock_384 hl (by decide) rfl (fun ls hl => ?_)
        refine lv_lload hx hb dX4_wideBlock_386 (lv_at hl 8 rfl) ?_
        refine lv_lload hx hb dX4_wideBlock_388 (lv_at hl 7 rfl) ?_
        refine lv_ladd hx hb dX4_wideBlock_390 ?_
        refine lv_topl (fun v_40 ev_40 => ?_)
        refine lv_lstore_n (lv' := [(3, .long v_40), (5, .long xa), (7, .long xb), (9, .long xc), (11, .long v_39), (13, .long xe), (15, .long xf), (17, .long xg), (22, .long v_38), (20, .long v_31), (0, .ref o), (1, .int (nI sl)), (2, .int (nI (8 * sl))), (19, .int (nI t))]) hx hb dX4_wideBlock_391 rfl hl (by decide) rfl (fun ls hl => ?_)
        refine lv_iinc (v := nI (t + 1)) (lv' := [(19, .int (nI (t + 1))), (3, .long v_40), (5, .long xa), (7, .long xb), (9, .long xc), (11, .long v_39), (13, .long xe), (15, .long xf), (17, .long xg), (22, .long v_38), (20, .long v_31), (0, .ref o), (1, .int (nI sl)), (2, .int (nI (8 * sl)))]) hx hb dX4_wideBlock_392 hl (k := 13) rfl (nI_1 t) (by decide) rfl (fun ls hl => ?_)
        refine lv_goto (tgt := 251) hx hb dX4_wideBlock_395 (by decide) ?_
        exact ih_251 (t + 1, v_40, xa, xb, xc, v_39, xe, xf, xg) (show (t + 1) ≤ 80 ∧ (v_40, xa, xb, xc, v_39, xe, xf, xg) = rdsW g (v0W (wM sf sl)) (t + 1) from ⟨by omega, by rw [rdsW, ← hH.2]; subst_vars; rfl⟩) (by show 80 - (t + 1) < 80 - t; omega) _ _ _ (hP.sub [0, 1, 2, 3, 4] rfl) (hD.sub [0, 1, 2, 3, 4] (by decide) rfl) hS (lv_sub hl [11, 12, 13, 1, 2, 3, 4, 5, 6, 7, 8, 0] rfl)
    · skip
      have hg : t < 80 := ge_f (n := 80) c_70 (by omega)
      refine lv_aload_n hx hb dX4_wideBlock_73 rfl (lv_at hl 0 rfl) ?_
      refine va_get (D := G.1) (ci := 4) (v := .ref (ad 25)) (C := RX4) (T := TX4) (N := 29) hx hb htu iwX4 hown hK.1 hP 0 rfl rfl 25 (by decide) (htu _ uF_X4_78) (fun _ h9 => h9) rfl dX4_wideBlock_74 ?_
      refine lv_iload_n hx hb dX4_wideBlock_77 rfl (lv_at hl 2 rfl) ?_
      refine lv_iconst (v := 2) hx hb dX4_wideBlock_78 (by decide) ?_
      refine lv_isub hx hb dX4_wideBlock_79 ?_
      refine g_toi (y := nI (t - 2)) (pk_sub (b := 2) (by omega)) ?_
      refine g_lald hx hb hK.1 hP 3 2 rfl rfl ⟨by omega, by decide⟩ dX4_wideBlock_80 ?_
      refine lv_topl (fun v_41 ev_41 => ?_)
      refine lv_lstore_n (lv' := [(3, .long v_41), (0, .ref o), (1, .int (nI sl)), (2, .int (nI t))]) hx hb dX4_wideBlock_81 rfl hl (by decide) rfl (fun ls hl => ?_)
      refine lv_aload_n hx hb dX4_wideBlock_82 rfl (lv_at hl 1 rfl) ?_
      refine va_get (D := G.1) (ci := 4) (v := .ref (ad 25)) (C := RX4) (T := TX4) (N := 29) hx hb htu iwX4 hown hK.1 hP 0 rfl rfl 25 (by decide) (htu _ uF_X4_78) (fun _ h9 => h9) rfl dX4_wideBlock_83 ?_
      refine lv_iload_n hx hb dX4_wideBlock_86 rfl (lv_at hl 3 rfl) ?_
      refine lv_bipush (v := 15) hx hb dX4_wideBlock_87 (by decide) ?_
      refine lv_isub hx hb dX4_wideBlock_89 ?_
      refine g_toi (y := nI (t - 15)) (pk_sub (b := 15) (by omega)) ?_
      refine g_lald hx hb hK.1 hP 3 2 rfl rfl ⟨by omega, by decide⟩ dX4_wideBlock_90 ?_
      refine lv_topl (fun v_42 ev_42 => ?_)
      refine lv_lstore (lv' := [(5, .long v_42), (3, .long v_41), (0, .ref o), (1, .int (nI sl)), (2, .int (nI t))]) hx hb dX4_wideBlock_91 hl (by decide) rfl (fun ls hl => ?_)
      refine lv_aload_n hx hb dX4_wideBlock_93 rfl (lv_at hl 2 rfl) ?_
      refine va_get (D := G.1) (ci := 4) (v := .ref (ad 25)) (C := RX4) (T := TX4) (N := 29) hx hb htu iwX4 hown hK.1 hP 0 rfl rfl 25 (by decide) (htu _ uF_X4_78) (fun _ h9 => h9) rfl dX4_wideBlock_94 ?_
      refine lv_iload_n hx hb dX4_wideBlock_97 rfl (lv_at hl 4 rfl) ?_
      refine lv_lload_n hx hb dX4_wideBlock_98 rfl (lv_at hl 1 rfl) ?_
      refine lv_bipush (v := 19) hx hb dX4_wideBlock_99 (by decide) ?_
      refine g_calll (g_runS (As := [.long v_41, .int 19]) (rest := [.int (nI t), .ref (ad 25)]) ⟨hx, hb, hml, hown, htu⟩ (c_X4_turnLong l G _ v_41 19 (by decide)) uM_X4_118 ok_X4_turnLong uA_X4_turnLong rfl rfl ⟨Nat.le_of_ble_eq_true rfl, Nat.le_of_ble_eq_true rfl⟩ hK hP hD hS hA hZ [] rfl rfl rfl hl.1 rfl (Nat.le_of_ble_eq_true rfl) dX4_wideBlock_101 ⟨Nat.le_of_ble_eq_true rfl, Nat.le_of_ble_eq_true rfl⟩) hP hD hS hA [] rfl (fun r_43 u H locs hw_44 hP hD hS => ?_)
      have hw_44 : r_43 = rotL v_41 19 := hw_44
      subst hw_44
      have hP : va_P G.1 vwCl [(o, .inr (4, mF ad sz1 osz th hsz)), (ad 5, .inl (G.2.1 2, 72, .inr (.inl sf))), (ad 6, .inl (G.2.1 1, 1152, .inl bf)), (ad 25, .inl (G.2.1 2, 80, .inr (.inl g))), (ad 2, .inl (G.2.1 2, 80, .inr (.inl cf)))] H := hP
      have hD : va_D A [(o, .inr (4, mF ad sz1 osz th hsz)), (ad 5, .inl (G.2.1 2, 72, .inr (.inl sf))), (ad 6, .inl (G.2.1 1, 1152, .inl bf)), (ad 25, .inl (G.2.1 2, 80, .inr (.inl g))), (ad 2, .inl (G.2.1 2, 80, .inr (.inl cf)))] := hD
      refine lv_lload_n hx hb dX4_wideBlock_104 rfl (lv_at hl 1 rfl) ?_
      refine lv_bipush (v := 61) hx hb dX4_wideBlock_105 (by decide) ?_
      refine g_calll (g_runS (As := [.long v_41, .int 61]) (rest := [.long (rotL v_41 19), .int (nI t), .ref (ad 25)]) ⟨hx, hb, hml, hown, htu⟩ (c_X4_turnLong l G _ v_41 61 (by decide)) uM_X4_118 ok_X4_turnLong uA_X4_turnLong rfl rfl ⟨Nat.le_of_ble_eq_true rfl, Nat.le_of_ble_eq_true rfl⟩ hK hP hD hS hA hZ [] rfl rfl rfl hl.1 rfl (Nat.le_of_ble_eq_true rfl) dX4_wideBlock_107 ⟨Nat.le_of_ble_eq_true rfl, Nat.le_of_ble_eq_true rfl⟩) hP hD hS hA [] rfl (fun r_45 u H locs hw_46 hP hD hS => ?_)
      have hw_46 : r_45 = rotL v_41 61 := hw_46
      subst hw_46
      have hP : va_P G.1 vwCl [(o, .inr (4, mF ad sz1 osz th hsz)), (ad 5, .inl (G.2.1 2, 72, .inr (.inl sf))), (ad 6, .inl (G.2.1 1, 1152, .inl bf)), (ad 25, .inl (G.2.1 2, 80, .inr (.inl g))), (ad 2, .inl (G.2.1 2, 80, .inr (.inl cf)))] H := hP
      have hD : va_D A [(o, .inr (4, mF ad sz1 osz th hsz)), (ad 5, .inl (G.2.1 2, 72, .inr (.inl sf))), (ad 6, .inl (G.2.1 1, 1152, .inl bf)), (ad 25, .inl (G.2.1 2, 80, .inr (.inl g))), (ad 2, .inl (G.2.1 2, 80, .inr (.inl cf)))] := hD
      refine lv_lxor hx hb dX4_wideBlock_110 ?_
      refine lv_lload_n hx hb dX4_wideBlock_111 rfl (lv_at hl 1 rfl) ?_
      refine lv_bipush (v := 6) hx hb dX4_wideBlock_112 (by decide) ?_
      refine lv_lushr (v := ushL v_41 6) hx hb dX4_wideBlock_114 rfl ?_
      refine lv_lxor hx hb dX4_wideBlock_115 ?_
      refine lv_aload_n hx hb dX4_wideBlock_116 rfl (lv_at hl 2 rfl) ?_
      refine va_get (D := G.1) (ci := 4) (v := .ref (ad 25)) (C := RX4) (T := TX4) (N := 29) hx hb htu iwX4 hown hK.1 hP 0 rfl rfl 25 (by decide) (htu _ uF_X4_78) (fun _ h9 => h9) rfl dX4_wideBlock_117 ?_
      refine lv_iload_n hx hb dX4_wideBlock_120 rfl (lv_at hl 4 rfl) ?_
      refine lv_bipush (v := 7) hx hb dX4_wideBlock_121 (by decide) ?_
      refine lv_isub hx hb dX4_wideBlock_123 ?_
      refine g_toi (y := nI (t - 7)) (pk_sub (b := 7) (by omega)) ?_
      refine g_lald hx hb hK.1 hP 3 2 rfl rfl ⟨by omega, by decide⟩ dX4_wideBlock_124 ?_
      refine lv_ladd hx hb dX4_wideBlock_125 ?_
      refine lv_lload hx hb dX4_wideBlock_126 (lv_at hl 0 rfl) ?_
      refine lv_iconst (v := 1) hx hb dX4_wideBlock_128 (by decide) ?_
      refine g_calll (g_runS (As := [.long v_42, .int 1]) (rest := [.long ((((rotL v_41 19) ^^^ (rotL v_41 61)) ^^^ (ushL v_41 6)) + (g (t - 7))), .int (nI t), .ref (ad 25)]) ⟨hx, hb, hml, hown, htu⟩ (c_X4_turnLong l G _ v_42 1 (by decide)) uM_X4_118 ok_X4_turnLong uA_X4_turnLong rfl rfl ⟨Nat.le_of_ble_eq_true rfl, Nat.le_of_ble_eq_true rfl⟩ hK hP hD hS hA hZ [] rfl rfl rfl hl.1 rfl (Nat.le_of_ble_eq_true rfl) dX4_wideBlock_129 ⟨Nat.le_of_ble_eq_true rfl, Nat.le_of_ble_eq_true rfl⟩) hP hD hS hA [] rfl (fun r_47 u H locs hw_48 hP hD hS => ?_)
      have hw_48 : r_47 = rotL v_42 1 := hw_48
      subst hw_48
      have hP : va_P G.1 vwCl [(o, .inr (4, mF ad sz1 osz th hsz)), (ad 5, .inl (G.2.1 2, 72, .inr (.inl sf))), (ad 6, .inl (G.2.1 1, 1152, .inl bf)), (ad 25, .inl (G.2.1 2, 80, .inr (.inl g))), (ad 2, .inl (G.2.1 2, 80, .inr (.inl cf)))] H := hP
      have hD : va_D A [(o, .inr (4, mF ad sz1 osz th hsz)), (ad 5, .inl (G.2.1 2, 72, .inr (.inl sf))), (ad 6, .inl (G.2.1 1, 1152, .inl bf)), (ad 25, .inl (G.2.1 2, 80, .inr (.inl g))), (ad 2, .inl (G.2.1 2, 80, .inr (.inl cf)))] := hD
      refine lv_lload hx hb dX4_wideBlock_132 (lv_at hl 0 rfl) ?_
      refine lv_bipush (v := 8) hx hb dX4_wideBlock_134 (by decide) ?_
      refine g_calll (g_runS (As := [.long v_42, .int 8]) (rest := [.long (rotL v_42 1), .long ((((rotL v_41 19) ^^^ (rotL v_41 61)) ^^^ (ushL v_41 6)) + (g (t - 7))), .int (nI t), .ref (ad 25)]) ⟨hx, hb, hml, hown, htu⟩ (c_X4_turnLong l G _ v_42 8 (by decide)) uM_X4_118 ok_X4_turnLong uA_X4_turnLong rfl rfl ⟨Nat.le_of_ble_eq_true rfl, Nat.le_of_ble_eq_true rfl⟩ hK hP hD hS hA hZ [] rfl rfl rfl hl.1 rfl (Nat.le_of_ble_eq_true rfl) dX4_wideBlock_136 ⟨Nat.le_of_ble_eq_true rfl, Nat.le_of_ble_eq_true rfl⟩) hP hD hS hA [] rfl (fun r_49 u H locs hw_50 hP hD hS => ?_)
      have hw_50 : r_49 = rotL v_42 8 := hw_50
      subst hw_50
      have hP : va_P G.1 vwCl [(o, .inr (4, mF ad sz1 osz th hsz)), (ad 5, .inl (G.2.1 2, 72, .inr (.inl sf))), (ad 6, .inl (G.2.1 1, 1152, .inl bf)), (ad 25, .inl (G.2.1 2, 80, .inr (.inl g))), (ad 2, .inl (G.2.1 2, 80, .inr (.inl cf)))] H := hP
      have hD : va_D A [(o, .inr (4, mF ad sz1 osz th hsz)), (ad 5, .inl (G.2.1 2, 72, .inr (.inl sf))), (ad 6, .inl (G.2.1 1, 1152, .inl bf)), (ad 25, .inl (G.2.1 2, 80, .inr (.inl g))), (ad 2, .inl (G.2.1 2, 80, .inr (.inl cf)))] := hD
      refine lv_lxor hx hb dX4_wideBlock_139 ?_
      refine lv_lload hx hb dX4_wideBlock_140 (lv_at hl 0 rfl) ?_
      refine lv_bipush (v := 7) hx hb dX4_wideBlock_142 (by decide) ?_
      refine lv_lushr (v := ushL v_42 7) hx hb dX4_wideBlock_144 rfl ?_
      refine lv_lxor hx hb dX4_wideBlock_145 ?_
      refine lv_ladd hx hb dX4_wideBlock_146 ?_
      refine lv_aload_n hx hb dX4_wideBlock_147 rfl (lv_at hl 2 rfl) ?_
      refine va_get (D := G.1) (ci := 4) (v := .ref (ad 25)) (C := RX4) (T := TX4) (N := 29) hx hb htu iwX4 hown hK.1 hP 0 rfl rfl 25 (by decide) (htu _ uF_X4_78) (fun _ h9 => h9) rfl dX4_wideBlock_148 ?_
      refine lv_iload_n hx hb dX4_wideBlock_151 rfl (lv_at hl 4 rfl) ?_
      refine lv_bipush (v := 16) hx hb dX4_wideBlock_152 (by decide) ?_
      refine lv_isub hx hb dX4_wideBlock_154 ?_
      refine g_toi (y := nI (t - 16)) (pk_sub (b := 16) (by omega)) ?_
      refine g_lald hx hb hK.1 hP 3 2 rfl rfl ⟨by omega, by decide⟩ dX4_wideBlock_155 ?_
      refine lv_ladd hx hb dX4_wideBlock_156 ?_
      refine lv_topl (fun v_51 ev_51 => ?_)
      refine g_last hx hb hK.1 hP hD hS 3 2 rfl rfl ⟨by omega, by decide⟩ dX4_wideBlock_157 (fun H locs hP hD hS => ?_)
      obtain ⟨g_52, eg_52⟩ : ∃ gq9 : Nat → Int64, gq9 = vp_updL g t v_51 := ⟨_, rfl⟩
      rw [← eg_52] at hP hD
      have hP : va_P G.1 vwCl [(o, .inr (4, mF ad sz1 osz th hsz)), (ad 5, .inl (G.2.1 2, 72, .inr (.inl sf))), (ad 6, .inl (G.2.1 1, 1152, .inl bf)), (ad 25, .inl (G.2.1 2, 80, .inr (.inl g_52))), (ad 2, .inl (G.2.1 2, 80, .inr (.inl cf)))] H := hP
      have hD : va_D A [(o, .inr (4, mF ad sz1 osz th hsz)), (ad 5, .inl (G.2.1 2, 72, .inr (.inl sf))), (ad 6, .inl (G.2.1 1, 1152, .inl bf)), (ad 25, .inl (G.2.1 2, 80, .inr (.inl g_52))), (ad 2, .inl (G.2.1 2, 80, .inr (.inl cf)))] := hD
      refine lv_iinc (v := nI (t + 1)) (lv' := [(2, .int (nI (t + 1))), (5, .long v_42), (3, .long v_41), (0, .ref o), (1, .int (nI sl))]) hx hb dX4_wideBlock_158 hl (k := 4) rfl (nI_1 t) (by decide) rfl (fun ls hl => ?_)
      refine lv_goto (tgt := 67) hx hb dX4_wideBlock_161 (by decide) ?_
      exact ih_67 (t + 1, g_52) (show 16 ≤ (t + 1) ∧ (t + 1) ≤ 80 ∧ ∀ j, j < (t + 1) → g_52 j = sW (oM bf sl) j from sWM hI hg eg_52 (by subst_vars; rfl)) (by show 80 - (t + 1) < 80 - t; omega) _ _ _ (hP.sub [0, 1, 2, 3, 4] rfl) (hD.sub [0, 1, 2, 3, 4] (by decide) rfl) hS (lv_sub hl [3, 4, 0] rfl)
  · skip
    have hg : t < 16 := ge_f (n := 16) c_5 (by omega)
    refine lv_lconst (v := 0) hx hb dX4_wideBlock_8 (by decide) ?_
    refine lv_lstore_n (lv' := [(3, .long 0), (0, .ref o), (1, .int (nI sl)), (2, .int (nI t))]) hx hb dX4_wideBlock_9 rfl hl (by decide) rfl (fun ls hl => ?_)
    refine lv_iconst (v := 0) hx hb dX4_wideBlock_10 (by decide) ?_
    refine lv_istore (lv' := [(5, .int 0), (3, .long 0), (0, .ref o), (1, .int (nI sl)), (2, .int (nI t))]) hx hb dX4_wideBlock_11 hl (by decide) rfl (fun ls hl => ?_)
    refine g_loop (σ := Nat × Int64) (G := G) (fun xq9 : Nat × Int64 => [(o, .inr (4, mF ad sz1 osz th hsz)), (ad 5, .inl (G.2.1 2, 72, .inr (.inl sf))), (ad 6, .inl (G.2.1 1, 1152, .inl bf)), (ad 25, .inl (G.2.1 2, 80, .inr (.inl g))), (ad 2, .inl (G.2.1 2, 80, .inr (.inl cf)))]) (fun xq9 : Nat × Int64 => [(0, .ref o), (1, .int (nI sl)), (2, .int (nI t)), (3, .long xq9.2), (5, .int (nI xq9.1))]) (fun xq9 : Nat × Int64 => xq9.1 ≤ 8 ∧ xq9.2 = ly8 (oM bf sl) t xq9.1) (fun xq9 : Nat × Int64 => 8 - xq9.1) ?_ (0, 0) (show 0 ≤ 8 ∧ 0 = ly8 (oM bf sl) t 0 from ⟨Nat.zero_le _, rfl⟩) (hP.sub [0, 1, 2, 3, 4] rfl) (hD.sub [0, 1, 2, 3, 4] (by decide) rfl) hS (lv_sub hl [2, 3, 4, 1, 0] rfl)
    clear hP hD hS hl
    intro x hxI_13 ih_13 H locs ls hP hD hS hl
    obtain ⟨i, wd⟩ := x
    have hJ : i ≤ 8 ∧ wd = ly8 (oM bf sl) t i := hxI_13
    have hP : va_P G.1 vwCl [(o, .inr (4, mF ad sz1 osz th hsz)), (ad 5, .inl (G.2.1 2, 72, .inr (.inl sf))), (ad 6, .inl (G.2.1 1, 1152, .inl bf)), (ad 25, .inl (G.2.1 2, 80, .inr (.inl g))), (ad 2, .inl (G.2.1 2, 80, .inr (.inl cf)))] H := hP
    have hD : va_D A [(o, .inr (4, mF ad sz1 osz th hsz)), (ad 5, .inl (G.2.1 2, 72, .inr (.inl sf))), (ad 6, .inl (G.2.1 1, 1152, .inl bf)), (ad 25, .inl (G.2.1 2, 80, .inr (.inl g))), (ad 2, .inl (G.2.1 2, 80, .inr (.inl cf)))] := hD
    have hl : lv_has ls 24 [(0, .ref o), (1, .int (nI sl)), (2, .int (nI t)), (3, .long wd), (5, .int (nI i))] := hl
    refine lv_iload hx hb dX4_wideBlock_13 (lv_at hl 4 rfl) ?_
    refine lv_bipush (v := 8) hx hb dX4_wideBlock_15 (by decide) ?_
    refine lv_icmp_ge (tgt := 51) hx hb dX4_wideBlock_17 (by decide) (fun c_17 => ?_) (fun c_17 => ?_)
    · skip
      have hi : 8 ≤ i := ge_t (n := 8) c_17 (by decide)
      refine lv_aload_n hx hb dX4_wideBlock_51 rfl (lv_at hl 0 rfl) ?_
      refine va_get (D := G.1) (ci := 4) (v := .ref (ad 25)) (C := RX4) (T := TX4) (N := 29) hx hb htu iwX4 hown hK.1 hP 0 rfl rfl 25 (by decide) (htu _ uF_X4_78) (fun _ h9 => h9) rfl dX4_wideBlock_52 ?_
      refine lv_iload_n hx hb dX4_wideBlock_55 rfl (lv_at hl 2 rfl) ?_
      refine lv_lload_n hx hb dX4_wideBlock_56 rfl (lv_at hl 3 rfl) ?_
      refine g_last hx hb hK.1 hP hD hS 3 2 rfl rfl ⟨by omega, by decide⟩ dX4_wideBlock_57 (fun H locs hP hD hS => ?_)
      obtain ⟨g_53, eg_53⟩ : ∃ gq9 : Nat → Int64, gq9 = vp_updL g t wd := ⟨_, rfl⟩
      rw [← eg_53] at hP hD
      have hP : va_P G.1 vwCl [(o, .inr (4, mF ad sz1 osz th hsz)), (ad 5, .inl (G.2.1 2, 72, .inr (.inl sf))), (ad 6, .inl (G.2.1 1, 1152, .inl bf)), (ad 25, .inl (G.2.1 2, 80, .inr (.inl g_53))), (ad 2, .inl (G.2.1 2, 80, .inr (.inl cf)))] H := hP
      have hD : va_D A [(o, .inr (4, mF ad sz1 osz th hsz)), (ad 5, .inl (G.2.1 2, 72, .inr (.inl sf))), (ad 6, .inl (G.2.1 1, 1152, .inl bf)), (ad 25, .inl (G.2.1 2, 80, .inr (.inl g_53))), (ad 2, .inl (G.2.1 2, 80, .inr (.inl cf)))] := hD
      refine lv_iinc (v := nI (t + 1)) (lv' := [(2, .int (nI (t + 1))), (0, .ref o), (1, .int (nI sl)), (3, .long wd), (5, .int (nI i))]) hx hb dX4_wideBlock_58 hl (k := 2) rfl (nI_1 t) (by decide) rfl (fun ls hl => ?_)
      refine lv_goto (tgt := 2) hx hb dX4_wideBlock_61 (by decide) ?_
      exact ih_2 (t + 1, g_53) (show (t + 1) ≤ 16 ∧ ∀ j, j < (t + 1) → g_53 j = ly8 (oM bf sl) j 8 from lyM8 hI hg hJ hi eg_53) (by show 16 - (t + 1) < 16 - t; omega) _ _ _ (hP.sub [0, 1, 2, 3, 4] rfl) (hD.sub [0, 1, 2, 3, 4] (by decide) rfl) hS (lv_sub hl [1, 2, 0] rfl)
    · skip
      have hi : i < 8 := ge_f (n := 8) c_17 (by omega)
      refine lv_lload_n hx hb dX4_wideBlock_20 rfl (lv_at hl 3 rfl) ?_
      refine lv_bipush (v := 8) hx hb dX4_wideBlock_21 (by decide) ?_
      refine lv_lshl (v := shlL wd 8) hx hb dX4_wideBlock_23 rfl ?_
      refine lv_aload_n hx hb dX4_wideBlock_24 rfl (lv_at hl 0 rfl) ?_
      refine va_get (D := G.1) (ci := 4) (v := .ref (ad 6)) (C := RX4) (T := TX4) (N := 29) hx hb htu iwX4 hown hK.1 hP 0 rfl rfl 6 (by decide) (htu _ uF_X4_26) (fun _ h9 => h9) rfl dX4_wideBlock_25 ?_
      refine lv_sipush (v := nI 128) hx hb dX4_wideBlock_28 (by decide) ?_
      refine lv_iload_n hx hb dX4_wideBlock_31 rfl (lv_at hl 1 rfl) ?_
      refine lv_imul hx hb dX4_wideBlock_32 ?_
      refine g_toi (y := nI (128 * sl)) (pk_mul 128 sl) ?_
      refine lv_bipush (v := 8) hx hb dX4_wideBlock_33 (by decide) ?_
      refine lv_iload_n hx hb dX4_wideBlock_35 rfl (lv_at hl 2 rfl) ?_
      refine lv_imul hx hb dX4_wideBlock_36 ?_
      refine g_toi (y := nI (8 * t)) (pk_mul 8 t) ?_
      refine lv_iadd hx hb dX4_wideBlock_37 ?_
      refine g_toi (y := nI (128 * sl + 8 * t)) (nI_add (128 * sl) (8 * t)) ?_
      refine lv_iload hx hb dX4_wideBlock_38 (lv_at hl 4 rfl) ?_
      refine lv_iadd hx hb dX4_wideBlock_40 ?_
      refine g_toi (y := nI (128 * sl + 8 * t + i)) (nI_add (128 * sl + 8 * t) i) ?_
      refine g_iald hx hb hK.1 hP 2 1 rfl rfl ⟨by omega, by decide⟩ dX4_wideBlock_41 ?_
      refine lv_i2l (v := Int32.toInt64 (bf (128 * sl + 8 * t + i))) hx hb dX4_wideBlock_42 rfl ?_
      refine lv_lor hx hb dX4_wideBlock_43 ?_
      refine lv_topl (fun v_54 ev_54 => ?_)
      refine lv_lstore_n (lv' := [(3, .long v_54), (0, .ref o), (1, .int (nI sl)), (2, .int (nI t)), (5, .int (nI i))]) hx hb dX4_wideBlock_44 rfl hl (by decide) rfl (fun ls hl => ?_)
      refine lv_iinc (v := nI (i + 1)) (lv' := [(5, .int (nI (i + 1))), (3, .long v_54), (0, .ref o), (1, .int (nI sl)), (2, .int (nI t))]) hx hb dX4_wideBlock_45 hl (k := 4) rfl (nI_1 i) (by decide) rfl (fun ls hl => ?_)
      refine lv_goto (tgt := 13) hx hb dX4_wideBlock_48 (by decide) ?_
      exact ih_13 (i + 1, v_54) (show (i + 1) ≤ 8 ∧ v_54 = ly8 (oM bf sl) t (i + 1) from ⟨by omega, by rw [ev_54, hJ.2, Nat.add_assoc (128 * sl)]; rfl⟩) (by show 8 - (i + 1) < 8 - i; omega) _ _ _ (hP.sub [0, 1, 2, 3, 4] rfl) (hD.sub [0, 1, 2, 3, 4] (by decide) rfl) hS (lv_sub hl [2, 3, 4, 1, 0] rfl)
