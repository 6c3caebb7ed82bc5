/-! contracts: Row, and numbers -/
theorem blk_n {x : Int32} (h : wdI x = 0) : (64 : Int32) = bsI x := by
  unfold wdI at h; unfold bsI
  by_cases c : x < 2
  · rw [if_pos c]
  · rw [if_neg c] at h; exact absurd h (by decide)
theorem blk_w {x : Int32} (h : ¬ wdI x = 0) : (128 : Int32) = bsI x := by
  unfold wdI at h; unfold bsI
  by_cases c : x < 2
  · rw [if_pos c] at h; exact absurd rfl h
  · rw [if_neg c]
theorem take_snoc (q : List Nat) {i : Nat} (h : i < q.length) : q.take (i + 1) = q.take i ++ [q.getD i 0] := by
  rw [List.take_add_one, List.getD_eq_getElem?_getD, List.getElem?_eq_getElem h]
  rfl
theorem apU {n n2 z2 i m k : Nat} {f2 g g' : Nat → Int32} {q q2 : List Nat} {k' : Nat} (hR2 : RowR n2 f2 z2 q2) (hm : m ≤ n) (hI : i ≤ z2 ∧ (i = 0 ∨ q.length + i ≤ m) ∧ RowR n g k (q ++ q2.take i)) (hi : i < z2) (hk : k < m) (hw : RowR n g' k' (if k < n then (q ++ q2.take i) ++ [o8 (rowAtZ q2 (nI i))] else (q ++ q2.take i))) :
    i + 1 ≤ z2 ∧ (i + 1 = 0 ∨ q.length + (i + 1) ≤ m) ∧ RowR n g' k' (q ++ q2.take (i + 1)) := by
  have hl : q2.length < 2 ^ 31 := by have := hR2.1; have := hR2.2.1; have := hR2.2.2.1; omega
  have hiq : i < q2.length := hR2.1 ▸ hi
  refine ⟨hi, Or.inr ?_, ?_⟩
  · have h := hI.2.2.1
    rw [List.length_append, List.length_take, Nat.min_eq_left (Nat.le_of_lt hiq)] at h
    omega
  · rw [if_pos (Nat.lt_of_lt_of_le hk hm), o8_rowAtZ (by omega) hl hR2.2.2.2.1] at hw
    rw [take_snoc q2 hiq, ← List.append_assoc]
    exact hw
theorem apE {n n2 z2 i m k : Nat} {f2 g : Nat → Int32} {q q2 : List Nat} (hR2 : RowR n2 f2 z2 q2) (hI : i ≤ z2 ∧ (i = 0 ∨ q.length + i ≤ m) ∧ RowR n g k (q ++ q2.take i)) (h : z2 ≤ i ∨ m ≤ k) : RowR n g k (q ++ q2.take (m - q.length)) := by
  obtain ⟨h1, h2, h3⟩ := hI
  have hk := h3.1
  have hz := hR2.1
  rw [List.length_append, List.length_take, Nat.min_eq_left (by omega)] at hk
  have e : q2.take (m - q.length) = q2.take i := by
    rcases h with h | h
    · have : i = q2.length := by omega
      rcases h2 with h2 | h2
      · have : q2 = [] := List.length_eq_zero_iff.mp (by omega)
        subst this; simp
      · rw [List.take_of_length_le (by omega), List.take_of_length_le (by omega)]
    · rcases h2 with h2 | h2
      · subst h2
        have : m - q.length = 0 := by omega
        rw [this]
      · have : m - q.length = i := by omega
        rw [this]
  rw [e]
  exact h3
theorem xor256 {a b : Nat} (ha : a < 256) (hb : b < 256) : a ^^^ b < 256 := Nat.xor_lt_two_pow (n := 8) ha hb
theorem i2b_xor {a b : Nat} (ha : a < 256) (hb : b < 256) : i2b (i2b (nI a) ^^^ i2b (nI b)) = i2b (nI (a ^^^ b)) := by
  rw [i2b_o8]
  have h : o8 (i2b (nI a) ^^^ i2b (nI b)) = a ^^^ b := by
    have e : nI (o8 (i2b (nI a) ^^^ i2b (nI b))) = nI (a ^^^ b) := by
      rw [← o8_and, Int32.and_comm]
      have h1 : (255 : Int32) &&& (i2b (nI a) ^^^ i2b (nI b)) = (i2b (nI a) &&& 255) ^^^ (i2b (nI b) &&& 255) := by
        apply Int32.toBitVec_inj.mp
        ext k hk
        simp only [Int32.toBitVec_and, Int32.toBitVec_xor, BitVec.getElem_and, BitVec.getElem_xor]
        cases (255 : Int32).toBitVec[k] <;> simp
      rw [h1, i2b_and, i2b_and, o8_nI ha, o8_nI hb]
      apply Int32.toBitVec_inj.mp
      apply BitVec.eq_of_toNat_eq
      rw [Int32.toBitVec_xor, BitVec.toNat_xor, pk_tn (by omega), pk_tn (by omega), pk_tn (by have := xor256 ha hb; omega)]
    exact (nI_eq (Nat.lt_trans (o8_lt _) (by decide)) (Nat.lt_trans (xor256 ha hb) (by decide))).mp e
  rw [h]
theorem xoU {n n2 z z2 i : Nat} {f f2 g g' : Nat → Int32} {q q2 : List Nat} {v : Int32} (hR : RowR n f z q) (hR2 : RowR n2 f2 z2 q2) (hI : i ≤ z ∧ (∀ j, j < i → g j = i2b (nI (q.getD j 0 ^^^ q2.getD j 0))) ∧ ∀ j, i ≤ j → g j = f j) (hi : i < z) (e : g' = upd g i (vp_nar .byte v)) (hv : v = i2b (g i ^^^ i2b (rowAtZ q2 (nI i)))) :
    i + 1 ≤ z ∧ (∀ j, j < i + 1 → g' j = i2b (nI (q.getD j 0 ^^^ q2.getD j 0))) ∧ ∀ j, i + 1 ≤ j → g' j = f j := by
  have hl2 : q2.length < 2 ^ 31 := by have := hR2.1; have := hR2.2.1; have := hR2.2.2.1; omega
  have hi31 : i < 2 ^ 31 := by have := hR.2.1; have := hR.2.2.1; omega
  refine ⟨hi, fun j hj => ?_, fun j hj => ?_⟩
  · rcases Nat.lt_or_ge j i with h | h
    · rw [e, pk_un (by omega)]; exact hI.2.1 j h
    · have : j = i := by omega
      subst this
      rw [e, pk_us, hv, nar_i2b, hI.2.2 j (Nat.le_refl _), hR.2.2.2.2 j hi, rowAtZ_nI hi31 hl2 hR2.2.2.2.1]
      exact i2b_xor (getD_lt hR.2.2.2.1 j) (getD_lt hR2.2.2.2.1 j)
  · rw [e, pk_un (by omega)]; exact hI.2.2 j (by omega)
theorem xoE {n n2 z z2 i : Nat} {f f2 g : Nat → Int32} {q q2 : List Nat} (hR : RowR n f z q) (hR2 : RowR n2 f2 z2 q2) (hI : i ≤ z ∧ (∀ j, j < i → g j = i2b (nI (q.getD j 0 ^^^ q2.getD j 0))) ∧ ∀ j, i ≤ j → g j = f j) (hi : z ≤ i) (hq : q2.length = q.length) : RowR n g z (List.zipWith (fun a b => a ^^^ b) q q2) := by
  have hg : ∀ j, j < z → (List.zipWith (fun a b => a ^^^ b) q q2).getD j 0 = q.getD j 0 ^^^ q2.getD j 0 := by
    intro j hj
    have h1 : j < q.length := hR.1 ▸ hj
    simp only [List.getD_eq_getElem?_getD, List.getElem?_zipWith, List.getElem?_eq_getElem h1, List.getElem?_eq_getElem (show j < q2.length by omega)]
    rfl
  refine ⟨by rw [List.length_zipWith, hq, Nat.min_self]; exact hR.1, hR.2.1, hR.2.2.1, fun c hc => ?_, fun j hj => ?_⟩
  · obtain ⟨j, hj⟩ := List.mem_iff_getElem?.mp hc
    have hjl : j < (List.zipWith (fun a b => a ^^^ b) q q2).length := (List.getElem?_eq_some_iff.mp hj).1
    have hz : j < z := by rw [List.length_zipWith, hq, Nat.min_self] at hjl; rw [hR.1]; exact hjl
    have := hg j hz
    rw [List.getD_eq_getElem?_getD, hj] at this
    have h2 : c = q.getD j 0 ^^^ q2.getD j 0 := this
    rw [h2]
    exact xor256 (getD_lt hR.2.2.2.1 j) (getD_lt hR2.2.2.2.1 j)
  · rw [hg j hj]; exact hI.2.1 j (by omega)
theorem saC {n n2 z z2 i : Nat} {f f2 : Nat → Int32} {q q2 : List Nat} (hR : RowR n f z q) (hR2 : RowR n2 f2 z2 q2) (hz : z = z2) (hi : i < z) (h : rowAt q (nI i) = rowAt q2 (nI i)) : q.getD i 0 = q2.getD i 0 := by
  have hl : q.length < 2 ^ 31 := by have := hR.1; have := hR.2.1; have := hR.2.2.1; omega
  have hl2 : q2.length < 2 ^ 31 := by have := hR2.1; have := hR2.2.1; have := hR2.2.2.1; omega
  rw [rowAt_in (hR.1 ▸ hi) hl, rowAt_in (by have := hR2.1; omega) hl2] at h
  exact (nI_eq (Nat.lt_trans (getD_lt hR.2.2.2.1 i) (by decide)) (Nat.lt_trans (getD_lt hR2.2.2.2.1 i) (by decide))).mp h
theorem saE {n n2 z z2 i : Nat} {f f2 : Nat → Int32} {q q2 : List Nat} (hR : RowR n f z q) (hR2 : RowR n2 f2 z2 q2) (hz : z = z2) (h : ∀ j, j < i → q.getD j 0 = q2.getD j 0) (hi : z ≤ i) : q = q2 := by
  apply List.ext_getElem
  · have := hR.1; have := hR2.1; omega
  · intro j h1 h2
    have := h j (by have := hR.1; omega)
    rw [List.getD_eq_getElem?_getD, List.getD_eq_getElem?_getD, List.getElem?_eq_getElem h1, List.getElem?_eq_getElem h2] at this
    exact this
set_option maxHeartbeats 4000000 in
set_option maxRecDepth 100000 in
theorem c_J6_rotateRight_7cf53 (l : Launch) (G : GW) (sz : Nat) (x : Int32) (k : Int32)  : Met l yJ6_rotateRight_7cf53 (Cond.code yJ6_rotateRight_7cf53 cJ6_rotateRight_7cf53 2 (some FieldType.int) :: UW) ({ frames := 0, cells := 0, slots := 0, locals := 0 } : Room) (va_Pc [.int x, .int k] (gPre G [] sz)) (va_Qi (fun (r : Int32) (_ : Unit) => r = rotI x k) (fun u => gPost G (va_A [] sz) ((fun (_ : Unit) => ([] : va_W)) u)) (va_A [] sz)) 0 0 (va_A [] sz) := by
  refine gM_of (Qf := fun A => va_Qi (fun (r : Int32) (_ : Unit) => r = rotI x k) (fun u => gPost G A ((fun (_ : Unit) => ([] : va_W)) u)) A) (by decide) (Nat.le_of_ble_eq_true rfl) ?_
  intro p e s m below meth c A ls hx hb hml hr hown htu hlk hnm hA hP hD hS hK hZ hl
  have hown : s.vm.findClass RJ6 = some m.cls := hown
  have hl : lv_has ls 2 [(0, .int x), (1, .int k)] := hl
  refine lv_iload_n hx hb dJ6_rotateRight_7cf53_0 rfl (lv_at hl 0 rfl) ?_
  refine lv_iload_n hx hb dJ6_rotateRight_7cf53_1 rfl (lv_at hl 1 rfl) ?_
  refine lv_iushr (v := ushI x k) hx hb dJ6_rotateRight_7cf53_2 rfl ?_
  refine lv_iload_n hx hb dJ6_rotateRight_7cf53_3 rfl (lv_at hl 0 rfl) ?_
  refine lv_iload_n hx hb dJ6_rotateRight_7cf53_4 rfl (lv_at hl 1 rfl) ?_
  refine lv_ineg hx hb dJ6_rotateRight_7cf53_5 ?_
  refine lv_ishl hx hb dJ6_rotateRight_7cf53_6 ?_
  refine lv_ior hx hb dJ6_rotateRight_7cf53_7 ?_
  exact gret_i hx hb hr hlk dJ6_rotateRight_7cf53_8 hS () (hP.sub [] rfl) (hD.sub [] (by decide) rfl) (rfl)
set_option maxHeartbeats 4000000 in
set_option maxRecDepth 100000 in
theorem c_J13_rotateRight_b2ac5 (l : Launch) (G : GW) (sz : Nat) (x : Int64) (k : Int32)  : Met l yJ13_rotateRight_b2ac5 (Cond.code yJ13_rotateRight_b2ac5 cJ13_rotateRight_b2ac5 3 (some FieldType.long) :: UW) ({ frames := 0, cells := 0, slots := 0, locals := 0 } : Room) (va_Pc [.long x, .int k] (gPre G [] sz)) (va_Ql (fun (r : Int64) (_ : Unit) => r = rotL x k) (fun u => gPost G (va_A [] sz) ((fun (_ : Unit) => ([] : va_W)) u)) (va_A [] sz)) 0 0 (va_A [] sz) := by
  refine gM_of (Qf := fun A => va_Ql (fun (r : Int64) (_ : Unit) => r = rotL x k) (fun u => gPost G A ((fun (_ : Unit) => ([] : va_W)) u)) A) (by decide) (Nat.le_of_ble_eq_true rfl) ?_
  intro p e s m below meth c A ls hx hb hml hr hown htu hlk hnm hA hP hD hS hK hZ hl
  have hown : s.vm.findClass RJ13 = some m.cls := hown
  have hl : lv_has ls 3 [(0, .long x), (2, .int k)] := hl
  refine lv_lload_n hx hb dJ13_rotateRight_b2ac5_0 rfl (lv_at hl 0 rfl) ?_
  refine lv_iload_n hx hb dJ13_rotateRight_b2ac5_1 rfl (lv_at hl 1 rfl) ?_
  refine lv_lushr (v := ushL x k) hx hb dJ13_rotateRight_b2ac5_2 rfl ?_
  refine lv_lload_n hx hb dJ13_rotateRight_b2ac5_3 rfl (lv_at hl 0 rfl) ?_
  refine lv_iload_n hx hb dJ13_rotateRight_b2ac5_4 rfl (lv_at hl 1 rfl) ?_
  refine lv_ineg hx hb dJ13_rotateRight_b2ac5_5 ?_
  refine lv_lshl (v := shlL x (-k)) hx hb dJ13_rotateRight_b2ac5_6 rfl ?_
  refine lv_lor hx hb dJ13_rotateRight_b2ac5_7 ?_
  exact gret_l hx hb hr hlk dJ13_rotateRight_b2ac5_8 hS () (hP.sub [] rfl) (hD.sub [] (by decide) rfl) (rfl)
set_option maxHeartbeats 4000000 in
set_option maxRecDepth 100000 in
theorem c_X3_isWide (l : Launch) (G : GW) (sz : Nat) (x : Int32)  : Met l yX3_isWide (Cond.code yX3_isWide cX3_isWide 1 (some FieldType.boolean) :: UW) ({ frames := 0, cells := 0, slots := 0, locals := 0 } : Room) (va_Pc [.int x] (gPre G [] sz)) (va_Qi (fun (r : Int32) (_ : Unit) => r = wdI x) (fun u => gPost G (va_A [] sz) ((fun (_ : Unit) => ([] : va_W)) u)) (va_A [] sz)) 0 0 (va_A [] sz) := by
  refine gM_of (Qf := fun A => va_Qi (fun (r : Int32) (_ : Unit) => r = wdI x) (fun u => gPost G A ((fun (_ : Unit) => ([] : va_W)) u)) A) (by decide) (Nat.le_of_ble_eq_true rfl) ?_
  intro p e s m below meth c A ls hx hb hml hr hown htu hlk hnm hA hP hD hS hK hZ hl
  have hown : s.vm.findClass RX3 = some m.cls := hown
  have hl : lv_has ls 1 [(0, .int x)] := hl
  refine lv_iload_n hx hb dX3_isWide_0 rfl (lv_at hl 0 rfl) ?_
  refine lv_iconst (v := 2) hx hb dX3_isWide_1 (by decide) ?_
  refine lv_icmp_lt (tgt := 9) hx hb dX3_isWide_2 (by decide) (fun c_2 => ?_) (fun c_2 => ?_)
  · skip
    refine lv_iconst (v := 0) hx hb dX3_isWide_9 (by decide) ?_
    exact gret_z hx hb hr hlk dX3_isWide_10 hS (by first | exact Or.inl rfl | exact Or.inr rfl) () (hP.sub [] rfl) (hD.sub [] (by decide) rfl) (by unfold wdI; rw [if_pos c_2])
  · skip
    refine lv_iconst (v := 1) hx hb dX3_isWide_5 (by decide) ?_
    refine lv_goto (tgt := 10) hx hb dX3_isWide_6 (by decide) ?_
    exact gret_z hx hb hr hlk dX3_isWide_10 hS (by first | exact Or.inl rfl | exact Or.inr rfl) () (hP.sub [] rfl) (hD.sub [] (by decide) rfl) (by unfold wdI; rw [if_neg c_2])
set_option maxHeartbeats 4000000 in
set_option maxRecDepth 100000 in
theorem c_X3_blockSize (l : Launch) (G : GW) (sz : Nat) (x : Int32)  : Met l yX3_blockSize (Cond.code yX3_blockSize cX3_blockSize 1 (some FieldType.int) :: UW) ({ frames := 1, cells := 0, slots := 0, locals := 20 } : Room) (va_Pc [.int x] (gPre G [] sz)) (va_Qi (fun (r : Int32) (_ : Unit) => r = bsI x) (fun u => gPost G (va_A [] sz) ((fun (_ : Unit) => ([] : va_W)) u)) (va_A [] sz)) 0 0 (va_A [] sz) := by
  refine gM_of (Qf := fun A => va_Qi (fun (r : Int32) (_ : Unit) => r = bsI x) (fun u => gPost G A ((fun (_ : Unit) => ([] : va_W)) u)) A) (by decide) (Nat.le_of_ble_eq_true rfl) ?_
  intro p e s m below meth c A ls hx hb hml hr hown htu hlk hnm hA hP hD hS hK hZ hl
  have hown : s.vm.findClass RX3 = some m.cls := hown
  have hl : lv_has ls 1 [(0, .int x)] := hl
  refine lv_iload_n hx hb dX3_blockSize_0 rfl (lv_at hl 0 rfl) ?_
  refine g_calli (g_runS (As := [.int x]) (rest := []) ⟨hx, hb, hml, hown, htu⟩ (c_X3_isWide l G _ x ) uM_X3_174 ok_X3_isWide uA_X3_isWide rfl rfl ⟨Nat.le_of_ble_eq_true rfl, Nat.le_of_ble_eq_true rfl⟩ hK hP hD hS hA hZ [] rfl rfl rfl hl.1 rfl (Nat.le_of_ble_eq_true rfl) dX3_blockSize_1 ⟨Nat.le_of_ble_eq_true rfl, Nat.le_of_ble_eq_true rfl⟩) hP hD hS hA [] rfl (fun r_1 u H locs hw_2 hP hD hS => ?_)
  have hw_2 : r_1 = wdI x := hw_2
  subst hw_2
  have hP : va_P G.1 vwCl [] H := hP
  have hD : va_D A [] := hD
  refine lv_if_eq (tgt := 13) hx hb dX3_blockSize_4 (by decide) (fun c_4 => ?_) (fun c_4 => ?_)
  · skip
    refine lv_bipush (v := 64) hx hb dX3_blockSize_13 (by decide) ?_
    exact gret_i hx hb hr hlk dX3_blockSize_15 hS () (hP.sub [] rfl) (hD.sub [] (by decide) rfl) (blk_n c_4)
  · skip
    refine lv_sipush (v := 128) hx hb dX3_blockSize_7 (by decide) ?_
    refine lv_goto (tgt := 15) hx hb dX3_blockSize_10 (by decide) ?_
    exact gret_i hx hb hr hlk dX3_blockSize_15 hS () (hP.sub [] rfl) (hD.sub [] (by decide) rfl) (blk_w c_4)
set_option maxHeartbeats 4000000 in
set_option maxRecDepth 100000 in
theorem c_X3_digestSize (l : Launch) (G : GW) (sz : Nat) (x : Int32)  : Met l yX3_digestSize (Cond.code yX3_digestSize cX3_digestSize 1 (some FieldType.int) :: UW) ({ frames := 0, cells := 0, slots := 0, locals := 0 } : Room) (va_Pc [.int x] (gPre G [] sz)) (va_Qi (fun (r : Int32) (_ : Unit) => r = dsI x) (fun u => gPost G (va_A [] sz) ((fun (_ : Unit) => ([] : va_W)) u)) (va_A [] sz)) 0 0 (va_A [] sz) := by
  refine gM_of (Qf := fun A => va_Qi (fun (r : Int32) (_ : Unit) => r = dsI x) (fun u => gPost G A ((fun (_ : Unit) => ([] : va_W)) u)) A) (by decide) (Nat.le_of_ble_eq_true rfl) ?_
  intro p e s m below meth c A ls hx hb hml hr hown htu hlk hnm hA hP hD hS hK hZ hl
  have hown : s.vm.findClass RX3 = some m.cls := hown
  have hl : lv_has ls 1 [(0, .int x)] := hl
  refine lv_iload_n hx hb dX3_digestSize_0 rfl (lv_at hl 0 rfl) ?_
  refine lv_if_lt (tgt := 17) hx hb dX3_digestSize_1 (by decide) (fun c_1 => ?_) (fun c_1 => ?_)
  · skip
    refine lv_iconst (v := 0) hx hb dX3_digestSize_17 (by decide) ?_
    exact gret_i hx hb hr hlk dX3_digestSize_18 hS () (hP.sub [] rfl) (hD.sub [] (by decide) rfl) (by unfold dsI; first | rw [if_pos c_1] | rw [if_neg c_1, if_pos c_6])
  · skip
    refine lv_iload_n hx hb dX3_digestSize_4 rfl (lv_at hl 0 rfl) ?_
    refine lv_iconst (v := 4) hx hb dX3_digestSize_5 (by decide) ?_
    refine lv_icmp_ge (tgt := 17) hx hb dX3_digestSize_6 (by decide) (fun c_6 => ?_) (fun c_6 => ?_)
    · skip
      refine lv_iconst (v := 0) hx hb dX3_digestSize_17 (by decide) ?_
      exact gret_i hx hb hr hlk dX3_digestSize_18 hS () (hP.sub [] rfl) (hD.sub [] (by decide) rfl) (by unfold dsI; first | rw [if_pos c_1] | rw [if_neg c_1, if_pos c_6])
    · skip
      obtain ⟨j, hj, ej⟩ := row_ix (z := 4) c_1 c_6 (by decide)
      refine va_gets hx hb hZ.2.2.2.1.1 hS hown (htu _ uF_X3_170) (fun _ h9 => h9) dX3_digestSize_9 ?_
      refine lv_iload_n hx hb dX3_digestSize_12 rfl (lv_at hl 0 rfl) ?_
      refine g_toi (y := nI j) (ej) ?_
      refine g_ti hx hb hZ.2.2.2.1.2 hS ⟨hj, by decide⟩ dX3_digestSize_13 ?_
      refine lv_goto (tgt := 18) hx hb dX3_digestSize_14 (by decide) ?_
      exact gret_i hx hb hr hlk dX3_digestSize_18 hS () (hP.sub [] rfl) (hD.sub [] (by decide) rfl) (by unfold dsI; rw [ej, if_neg (nI_pos (by omega)), if_neg (show ¬ (4 : Int32) ≤ nI j from nI_ge (b := 4) hj (by decide)), nI_clamp (by omega)])
set_option maxHeartbeats 4000000 in
set_option maxRecDepth 100000 in
theorem c_X1_clear (l : Launch) (G : GW) (sz : Nat) (h0 : Nat) (h1 : Nat) (n : Nat) (f : Nat → Int32) (z : Nat)  : Met l yX1_clear (Cond.code yX1_clear cX1_clear 1 (none : Option FieldType) :: UW) ({ frames := 0, cells := 0, slots := 0, locals := 0 } : Room) (va_Pc [.ref h0] (gPre G [(h0, .inr (1, [.ref h1, .int (nI z)])), (h1, .inl (G.2.1 0, n, .inl f))] sz)) (va_Qv (fun (_ : Unit) => True) (fun u => gPost G (va_A [(h0, .inr (1, [.ref h1, .int (nI z)])), (h1, .inl (G.2.1 0, n, .inl f))] sz) ((fun (_ : Unit) => ([(h0, .inr (1, [.ref h1, .int (nI 0)])), (h1, .inl (G.2.1 0, n, .inl f))] : va_W)) u)) (va_A [(h0, .inr (1, [.ref h1, .int (nI z)])), (h1, .inl (G.2.1 0, n, .inl f))] sz)) 0 0 (va_A [(h0, .inr (1, [.ref h1, .int (nI z)])), (h1, .inl (G.2.1 0, n, .inl f))] sz) := by
  refine gM_of (Qf := fun A => va_Qv (fun (_ : Unit) => True) (fun u => gPost G A ((fun (_ : Unit) => ([(h0, .inr (1, [.ref h1, .int (nI 0)])), (h1, .inl (G.2.1 0, n, .inl f))] : va_W)) u)) A) (by decide) (Nat.le_of_ble_eq_true rfl) ?_
  intro p e s m below meth c A ls hx hb hml hr hown htu hlk hnm hA hP hD hS hK hZ hl
  have hown : s.vm.findClass RX1 = some m.cls := hown
  have hl : lv_has ls 1 [(0, .ref h0)] := hl
  refine lv_aload_n hx hb dX1_clear_0 rfl (lv_at hl 0 rfl) ?_
  refine lv_iconst (v := 0) hx hb dX1_clear_1 (by decide) ?_
  refine va_put (D := G.1) (ci := 1) (v := .int 0) (ty := .int) (C := RX1) (T := TX1) (N := 2) hx hb htu iwX1 tyX1 tyX1_ok nmX1 hown hK.1 hP hD hS 0 rfl rfl 1 (by decide) (htu _ uF_X1_15) (fun _ h9 => h9) rfl (by decide +kernel) rfl rfl (Nat.le_of_ble_eq_true rfl) dX1_clear_2 (fun H locs hP hD hS => ?_)
  have hP : va_P G.1 vwCl [(h0, .inr (1, [.ref h1, .int 0])), (h1, .inl (G.2.1 0, n, .inl f))] H := hP
  have hD : va_D A [(h0, .inr (1, [.ref h1, .int 0])), (h1, .inl (G.2.1 0, n, .inl f))] := hD
  exact gret_v hx hb hr hlk dX1_clear_5 hS () (hP.sub [0, 1] rfl) (hD.sub [0, 1] (by decide) rfl) (trivial)
set_option maxHeartbeats 4000000 in
set_option maxRecDepth 100000 in
theorem c_X1_append (l : Launch) (G : GW) (sz : Nat) (h0 : Nat) (h1 : Nat) (n : Nat) (f : Nat → Int32) (z : Nat) (x : Int32) (q : List Nat) (hR : RowR n f z q) : Met l yX1_append (Cond.code yX1_append cX1_append 2 (none : Option FieldType) :: UW) ({ frames := 0, cells := 0, slots := 0, locals := 0 } : Room) (va_Pc [.ref h0, .int x] (gPre G [(h0, .inr (1, [.ref h1, .int (nI z)])), (h1, .inl (G.2.1 0, n, .inl f))] sz)) (va_Qv (fun (uq9 : (Nat → Int32) × Nat) => RowR n uq9.1 uq9.2 (if z < n then q ++ [o8 x] else q)) (fun u => gPost G (va_A [(h0, .inr (1, [.ref h1, .int (nI z)])), (h1, .inl (G.2.1 0, n, .inl f))] sz) ((fun (uq9 : (Nat → Int32) × Nat) => ([(h0, .inr (1, [.ref h1, .int (nI uq9.2)])), (h1, .inl (G.2.1 0, n, .inl uq9.1))] : va_W)) u)) (va_A [(h0, .inr (1, [.ref h1, .int (nI z)])), (h1, .inl (G.2.1 0, n, .inl f))] sz)) 0 0 (va_A [(h0, .inr (1, [.ref h1, .int (nI z)])), (h1, .inl (G.2.1 0, n, .inl f))] sz) := by
  refine gM_of (Qf := fun A => va_Qv (fun (uq9 : (Nat → Int32) × Nat) => RowR n uq9.1 uq9.2 (if z < n then q ++ [o8 x] else q)) (fun u => gPost G A ((fun (uq9 : (Nat → Int32) × Nat) => ([(h0, .inr (1, [.ref h1, .int (nI uq9.2)])), (h1, .inl (G.2.1 0, n, .inl uq9.1))] : va_W)) u)) A) (by decide) (Nat.le_of_ble_eq_true rfl) ?_
  intro p e s m below meth c A ls hx hb hml hr hown htu hlk hnm hA hP hD hS hK hZ hl
  have hown : s.vm.findClass RX1 = some m.cls := hown
  have hl : lv_has ls 2 [(0, .ref h0), (1, .int x)] := hl
  refine lv_aload_n hx hb dX1_append_0 rfl (lv_at hl 0 rfl) ?_
  refine va_get (D := G.1) (ci := 1) (v := .int (nI z)) (C := RX1) (T := TX1) (N := 2) hx hb htu iwX1 hown hK.1 hP 0 rfl rfl 1 (by decide) (htu _ uF_X1_15) (fun _ h9 => h9) rfl dX1_append_1 ?_
  refine lv_if_lt (tgt := 40) hx hb dX1_append_4 (by decide) (fun c_4 => absurd c_4 (nI_pos (Nat.lt_of_le_of_lt hR.2.1 hR.2.2.1))) (fun _ => ?_)
  refine lv_aload_n hx hb dX1_append_7 rfl (lv_at hl 0 rfl) ?_
  refine va_get (D := G.1) (ci := 1) (v := .int (nI z)) (C := RX1) (T := TX1) (N := 2) hx hb htu iwX1 hown hK.1 hP 0 rfl rfl 1 (by decide) (htu _ uF_X1_15) (fun _ h9 => h9) rfl dX1_append_8 ?_
  refine lv_aload_n hx hb dX1_append_11 rfl (lv_at hl 0 rfl) ?_
  refine va_get (D := G.1) (ci := 1) (v := .ref h1) (C := RX1) (T := TX1) (N := 2) hx hb htu iwX1 hown hK.1 hP 0 rfl rfl 0 (by decide) (htu _ uF_X1_9) (fun _ h9 => h9) rfl dX1_append_12 ?_
  refine va_alen hx hb hK.1 hP 1 0 rfl rfl (v := nI n) rfl dX1_append_15 ?_
  refine lv_icmp_ge (tgt := 40) hx hb dX1_append_16 (by decide) (fun c_16 => ?_) (fun c_16 => ?_)
  · skip
    have hz : ¬ z < n := fun h => nI_ge h hR.2.2.1 c_16
    exact gret_v hx hb hr hlk dX1_append_40 hS (f, z) (hP.sub [0, 1] rfl) (hD.sub [0, 1] (by decide) rfl) (show RowR n f z (if z < n then q ++ [o8 x] else q) from by rw [if_neg hz]; exact hR)
  · skip
    have hz : z < n := Nat.lt_of_not_le (fun h => c_16 (nI_le h (Nat.lt_of_le_of_lt hR.2.1 hR.2.2.1)))
    refine lv_aload_n hx hb dX1_append_19 rfl (lv_at hl 0 rfl) ?_
    refine va_get (D := G.1) (ci := 1) (v := .ref h1) (C := RX1) (T := TX1) (N := 2) hx hb htu iwX1 hown hK.1 hP 0 rfl rfl 0 (by decide) (htu _ uF_X1_9) (fun _ h9 => h9) rfl dX1_append_20 ?_
    refine lv_aload_n hx hb dX1_append_23 rfl (lv_at hl 0 rfl) ?_
    refine va_get (D := G.1) (ci := 1) (v := .int (nI z)) (C := RX1) (T := TX1) (N := 2) hx hb htu iwX1 hown hK.1 hP 0 rfl rfl 1 (by decide) (htu _ uF_X1_15) (fun _ h9 => h9) rfl dX1_append_24 ?_
    refine lv_iload_n hx hb dX1_append_27 rfl (lv_at hl 1 rfl) ?_
    refine lv_i2b (v := i2b x) hx hb dX1_append_28 rfl ?_
    refine lv_topi (fun v_1 ev_1 => ?_)
    refine g_bast hx hb hK.1 hP hD hS 1 0 rfl rfl ⟨hz, hR.2.2.1⟩ dX1_append_29 (fun H locs hP hD hS => ?_)
    obtain ⟨g_2, eg_2⟩ : ∃ gq9 : Nat → Int32, gq9 = upd f z (vp_nar .byte v_1) := ⟨_, rfl⟩
    rw [← eg_2] at hP hD
    have hP : va_P G.1 vwCl [(h0, .inr (1, [.ref h1, .int (nI z)])), (h1, .inl (G.2.1 0, n, .inl g_2))] H := hP
    have hD : va_D A [(h0, .inr (1, [.ref h1, .int (nI z)])), (h1, .inl (G.2.1 0, n, .inl g_2))] := hD
    refine lv_aload_n hx hb dX1_append_30 rfl (lv_at hl 0 rfl) ?_
    refine lv_dup hx hb dX1_append_31 rfl ?_
    refine va_get (D := G.1) (ci := 1) (v := .int (nI z)) (C := RX1) (T := TX1) (N := 2) hx hb htu iwX1 hown hK.1 hP 0 rfl rfl 1 (by decide) (htu _ uF_X1_15) (fun _ h9 => h9) rfl dX1_append_32 ?_
    refine lv_iconst (v := 1) hx hb dX1_append_35 (by decide) ?_
    refine lv_iadd hx hb dX1_append_36 ?_
    refine g_toi (y := nI (z + 1)) (nI_1 z) ?_
    refine va_put (D := G.1) (ci := 1) (v := .int (nI (z + 1))) (ty := .int) (C := RX1) (T := TX1) (N := 2) hx hb htu iwX1 tyX1 tyX1_ok nmX1 hown hK.1 hP hD hS 0 rfl rfl 1 (by decide) (htu _ uF_X1_15) (fun _ h9 => h9) rfl (by decide +kernel) rfl rfl (Nat.le_of_ble_eq_true rfl) dX1_append_37 (fun H locs hP hD hS => ?_)
    have hP : va_P G.1 vwCl [(h0, .inr (1, [.ref h1, .int (nI (z + 1))])), (h1, .inl (G.2.1 0, n, .inl g_2))] H := hP
    have hD : va_D A [(h0, .inr (1, [.ref h1, .int (nI (z + 1))])), (h1, .inl (G.2.1 0, n, .inl g_2))] := hD
    exact gret_v hx hb hr hlk dX1_append_40 hS (g_2, (z + 1)) (hP.sub [0, 1] rfl) (hD.sub [0, 1] (by decide) rfl) (show RowR n g_2 (z + 1) (if z < n then q ++ [o8 x] else q) from by rw [if_pos hz, eg_2, ev_1]; exact hR.push hz)
set_option maxHeartbeats 4000000 in
set_option maxRecDepth 100000 in
theorem c_X1_at (l : Launch) (G : GW) (sz : Nat) (h0 : Nat) (h1 : Nat) (n : Nat) (f : Nat → Int32) (z : Nat) (i : Int32) (q : List Nat) (hR : RowR n f z q) : Met l yX1_at (Cond.code yX1_at cX1_at 2 (some FieldType.int) :: UW) ({ frames := 0, cells := 0, slots := 0, locals := 0 } : Room) (va_Pc [.ref h0, .int i] (gPre G [(h0, .inr (1, [.ref h1, .int (nI z)])), (h1, .inl (G.2.1 0, n, .inl f))] sz)) (va_Qi (fun (r : Int32) (_ : Unit) => r = rowAt q i) (fun u => gPost G (va_A [(h0, .inr (1, [.ref h1, .int (nI z)])), (h1, .inl (G.2.1 0, n, .inl f))] sz) ((fun (_ : Unit) => ([(h0, .inr (1, [.ref h1, .int (nI z)])), (h1, .inl (G.2.1 0, n, .inl f))] : va_W)) u)) (va_A [(h0, .inr (1, [.ref h1, .int (nI z)])), (h1, .inl (G.2.1 0, n, .inl f))] sz)) 0 0 (va_A [(h0, .inr (1, [.ref h1, .int (nI z)])), (h1, .inl (G.2.1 0, n, .inl f))] sz) := by
  refine gM_of (Qf := fun A => va_Qi (fun (r : Int32) (_ : Unit) => r = rowAt q i) (fun u => gPost G A ((fun (_ : Unit) => ([(h0, .inr (1, [.ref h1, .int (nI z)])), (h1, .inl (G.2.1 0, n, .inl f))] : va_W)) u)) A) (by decide) (Nat.le_of_ble_eq_true rfl) ?_
  intro p e s m below meth c A ls hx hb hml hr hown htu hlk hnm hA hP hD hS hK hZ hl
  have hown : s.vm.findClass RX1 = some m.cls := hown
  have hl : lv_has ls 2 [(0, .ref h0), (1, .int i)] := hl
  refine lv_iload_n hx hb dX1_at_0 rfl (lv_at hl 1 rfl) ?_
  refine lv_if_lt (tgt := 34) hx hb dX1_at_1 (by decide) (fun c_1 => ?_) (fun c_1 => ?_)
  · skip
    refine lv_iconst (v := (-1)) hx hb dX1_at_34 (by decide) ?_
    exact gret_i hx hb hr hlk dX1_at_35 hS () (hP.sub [0, 1] rfl) (hD.sub [0, 1] (by decide) rfl) (by unfold rowAt; first | rw [if_pos c_1] | rw [if_neg c_1, if_pos (hR.1 ▸ c_9)])
  · skip
    refine lv_iload_n hx hb dX1_at_4 rfl (lv_at hl 1 rfl) ?_
    refine lv_aload_n hx hb dX1_at_5 rfl (lv_at hl 0 rfl) ?_
    refine va_get (D := G.1) (ci := 1) (v := .int (nI z)) (C := RX1) (T := TX1) (N := 2) hx hb htu iwX1 hown hK.1 hP 0 rfl rfl 1 (by decide) (htu _ uF_X1_15) (fun _ h9 => h9) rfl dX1_at_6 ?_
    refine lv_icmp_ge (tgt := 34) hx hb dX1_at_9 (by decide) (fun c_9 => ?_) (fun c_9 => ?_)
    · skip
      refine lv_iconst (v := (-1)) hx hb dX1_at_34 (by decide) ?_
      exact gret_i hx hb hr hlk dX1_at_35 hS () (hP.sub [0, 1] rfl) (hD.sub [0, 1] (by decide) rfl) (by unfold rowAt; first | rw [if_pos c_1] | rw [if_neg c_1, if_pos (hR.1 ▸ c_9)])
    · skip
      refine lv_iload_n hx hb dX1_at_12 rfl (lv_at hl 1 rfl) ?_
      refine lv_aload_n hx hb dX1_at_13 rfl (lv_at hl 0 rfl) ?_
      refine va_get (D := G.1) (ci := 1) (v := .ref h1) (C := RX1) (T := TX1) (N := 2) hx hb htu iwX1 hown hK.1 hP 0 rfl rfl 0 (by decide) (htu _ uF_X1_9) (fun _ h9 => h9) rfl dX1_at_14 ?_
      refine va_alen hx hb hK.1 hP 1 0 rfl rfl (v := nI n) rfl dX1_at_17 ?_
      refine lv_icmp_ge (tgt := 34) hx hb dX1_at_18 (by decide) (fun c_18 => absurd c_18 (fun h => c_9 (Int32.le_trans (nI_le hR.2.1 hR.2.2.1) h))) (fun _ => ?_)
      obtain ⟨j, hj, ej⟩ := row_ix c_1 c_9 (Nat.lt_of_le_of_lt hR.2.1 hR.2.2.1)
      refine lv_aload_n hx hb dX1_at_21 rfl (lv_at hl 0 rfl) ?_
      refine va_get (D := G.1) (ci := 1) (v := .ref h1) (C := RX1) (T := TX1) (N := 2) hx hb htu iwX1 hown hK.1 hP 0 rfl rfl 0 (by decide) (htu _ uF_X1_9) (fun _ h9 => h9) rfl dX1_at_22 ?_
      refine lv_iload_n hx hb dX1_at_25 rfl (lv_at hl 1 rfl) ?_
      refine g_toi (y := nI j) (ej) ?_
      refine g_bald hx hb hK.1 hP 1 0 rfl rfl ⟨Nat.lt_of_lt_of_le hj hR.2.1, hR.2.2.1⟩ dX1_at_26 ?_
      refine lv_sipush (v := 255) hx hb dX1_at_27 (by decide) ?_
      refine lv_iand hx hb dX1_at_30 ?_
      refine lv_goto (tgt := 35) hx hb dX1_at_31 (by decide) ?_
      exact gret_i hx hb hr hlk dX1_at_35 hS () (hP.sub [0, 1] rfl) (hD.sub [0, 1] (by decide) rfl) (by rw [hR.at hj, ej, rowAt_in (hR.1 ▸ hj) (hR.1 ▸ Nat.lt_of_le_of_lt hR.2.1 hR.2.2.1)])
set_option maxHeartbeats 4000000 in
set_option maxRecDepth 100000 in
theorem c_X1_atOrZero (l : Launch) (G : GW) (sz : Nat) (h0 : Nat) (h1 : Nat) (n : Nat) (f : Nat → Int32) (z : Nat) (i : Int32) (q : List Nat) (hR : RowR n f z q) : Met l yX1_atOrZero (Cond.code yX1_atOrZero cX1_atOrZero 2 (some FieldType.int) :: UW) ({ frames := 1, cells := 0, slots := 0, locals := 21 } : Room) (va_Pc [.ref h0, .int i] (gPre G [(h0, .inr (1, [.ref h1, .int (nI z)])), (h1, .inl (G.2.1 0, n, .inl f))] sz)) (va_Qi (fun (r : Int32) (_ : Unit) => r = rowAtZ q i) (fun u => gPost G (va_A [(h0, .inr (1, [.ref h1, .int (nI z)])), (h1, .inl (G.2.1 0, n, .inl f))] sz) ((fun (_ : Unit) => ([(h0, .inr (1, [.ref h1, .int (nI z)])), (h1, .inl (G.2.1 0, n, .inl f))] : va_W)) u)) (va_A [(h0, .inr (1, [.ref h1, .int (nI z)])), (h1, .inl (G.2.1 0, n, .inl f))] sz)) 0 0 (va_A [(h0, .inr (1, [.ref h1, .int (nI z)])), (h1, .inl (G.2.1 0, n, .inl f))] sz) := by
  refine gM_of (Qf := fun A => va_Qi (fun (r : Int32) (_ : Unit) => r = rowAtZ q i) (fun u => gPost G A ((fun (_ : Unit) => ([(h0, .inr (1, [.ref h1, .int (nI z)])), (h1, .inl (G.2.1 0, n, .inl f))] : va_W)) u)) A) (by decide) (Nat.le_of_ble_eq_true rfl) ?_
  intro p e s m below meth c A ls hx hb hml hr hown htu hlk hnm hA hP hD hS hK hZ hl
  have hown : s.vm.findClass RX1 = some m.cls := hown
  have hl : lv_has ls 2 [(0, .ref h0), (1, .int i)] := hl
  refine lv_aload_n hx hb dX1_atOrZero_0 rfl (lv_at hl 0 rfl) ?_
  refine lv_iload_n hx hb dX1_atOrZero_1 rfl (lv_at hl 1 rfl) ?_
  refine g_calli (g_runV (As := [.int i]) (rest := []) ⟨hx, hb, hml, hown, htu⟩ (c_X1_at l G _ h0 h1 n f z i q hR) uM_X1_34 ok_X1_at in_X1_at rfl rfl ⟨Nat.le_of_ble_eq_true rfl, Nat.le_of_ble_eq_true rfl⟩ hK hP hD hS hA hZ [0, 1] rfl rfl 0 rfl rfl rfl rfl hl.1 rfl (Nat.le_of_ble_eq_true rfl) dX1_atOrZero_2 ⟨Nat.le_of_ble_eq_true rfl, Nat.le_of_ble_eq_true rfl⟩) hP hD hS hA [0, 1] rfl (fun r_1 u H locs hw_2 hP hD hS => ?_)
  have hw_2 : r_1 = rowAt q i := hw_2
  subst hw_2
  have hP : va_P G.1 vwCl [(h0, .inr (1, [.ref h1, .int (nI z)])), (h1, .inl (G.2.1 0, n, .inl f))] H := hP
  have hD : va_D A [(h0, .inr (1, [.ref h1, .int (nI z)])), (h1, .inl (G.2.1 0, n, .inl f))] := hD
  refine lv_iconst (v := 0) hx hb dX1_atOrZero_5 (by decide) ?_
  refine va_mmax hx hb (hml.trans hl.1.symm) hown (htu _ uM_X1_37) (htu _ uA_J9_max_7cf53) (htu _ uN_J9) (htu _ uC_J9_max_7cf53) (Nat.le_of_ble_eq_true rfl) (Nat.le_of_ble_eq_true rfl) (Nat.le_of_ble_eq_true rfl) (Nat.le_of_ble_eq_true rfl) dX1_atOrZero_6 ?_
  exact gret_i hx hb hr hlk dX1_atOrZero_9 hS () (hP.sub [0, 1] rfl) (hD.sub [0, 1] (by decide) rfl) (rfl)
set_option maxHeartbeats 4000000 in
set_option maxRecDepth 100000 in
theorem c_X1_appendUpTo (l : Launch) (G : GW) (sz : Nat) (h0 : Nat) (h1 : Nat) (n : Nat) (f : Nat → Int32) (z : Nat) (h2 : Nat) (h3 : Nat) (n2 : Nat) (f2 : Nat → Int32) (z2 : Nat) (mm : Nat) (q : List Nat) (q2 : List Nat) (hR : RowR n f z q) (hR2 : RowR n2 f2 z2 q2) (hm : mm ≤ n) : Met l yX1_appendUpTo (Cond.code yX1_appendUpTo cX1_appendUpTo 4 (none : Option FieldType) :: UW) ({ frames := 2, cells := 0, slots := 0, locals := 42 } : Room) (va_Pc [.ref h0, .int (nI mm), .ref h2] (gPre G [(h0, .inr (1, [.ref h1, .int (nI z)])), (h1, .inl (G.2.1 0, n, .inl f)), (h2, .inr (1, [.ref h3, .int (nI z2)])), (h3, .inl (G.2.1 0, n2, .inl f2))] sz)) (va_Qv (fun (uq9 : (Nat → Int32) × Nat) => RowR n uq9.1 uq9.2 (q ++ q2.take (mm - q.length))) (fun u => gPost G (va_A [(h0, .inr (1, [.ref h1, .int (nI z)])), (h1, .inl (G.2.1 0, n, .inl f)), (h2, .inr (1, [.ref h3, .int (nI z2)])), (h3, .inl (G.2.1 0, n2, .inl f2))] sz) ((fun (uq9 : (Nat → Int32) × Nat) => ([(h0, .inr (1, [.ref h1, .int (nI uq9.2)])), (h1, .inl (G.2.1 0, n, .inl uq9.1)), (h2, .inr (1, [.ref h3, .int (nI z2)])), (h3, .inl (G.2.1 0, n2, .inl f2))] : va_W)) u)) (va_A [(h0, .inr (1, [.ref h1, .int (nI z)])), (h1, .inl (G.2.1 0, n, .inl f)), (h2, .inr (1, [.ref h3, .int (nI z2)])), (h3, .inl (G.2.1 0, n2, .inl f2))] sz)) 0 0 (va_A [(h0, .inr (1, [.ref h1, .int (nI z)])), (h1, .inl (G.2.1 0, n, .inl f)), (h2, .inr (1, [.ref h3, .int (nI z2)])), (h3, .inl (G.2.1 0, n2, .inl f2))] sz) := by
  refine gM_of (Qf := fun A => va_Qv (fun (uq9 : (Nat → Int32) × Nat) => RowR n uq9.1 uq9.2 (q ++ q2.take (mm - q.length))) (fun u => gPost G A ((fun (uq9 : (Nat → Int32) × Nat) => ([(h0, .inr (1, [.ref h1, .int (nI uq9.2)])), (h1, .inl (G.2.1 0, n, .inl uq9.1)), (h2, .inr (1, [.ref h3, .int (nI z2)])), (h3, .inl (G.2.1 0, n2, .inl f2))] : va_W)) u)) A) (by decide) (Nat.le_of_ble_eq_true rfl) ?_
  intro p e s m below meth c A ls hx hb hml hr hown htu hlk hnm hA hP hD hS hK hZ hl
  have hown : s.vm.findClass RX1 = some m.cls := hown
  have hl : lv_has ls 4 [(0, .ref h0), (1, .int (nI mm)), (2, .ref h2)] := hl
  refine lv_iconst (v := 0) hx hb dX1_appendUpTo_0 (by decide) ?_
  refine lv_istore_n (lv' := [(3, .int 0), (0, .ref h0), (1, .int (nI mm)), (2, .ref h2)]) hx hb dX1_appendUpTo_1 rfl hl (by decide) rfl (fun ls hl => ?_)
  refine g_loop (σ := Nat × (Nat → Int32) × Nat) (G := G) (fun xq9 : Nat × (Nat → Int32) × Nat => [(h0, .inr (1, [.ref h1, .int (nI xq9.2.2)])), (h1, .inl (G.2.1 0, n, .inl xq9.2.1)), (h2, .inr (1, [.ref h3, .int (nI z2)])), (h3, .inl (G.2.1 0, n2, .inl f2))]) (fun xq9 : Nat × (Nat → Int32) × Nat => [(0, .ref h0), (1, .int (nI mm)), (2, .ref h2), (3, .int (nI xq9.1))]) (fun xq9 : Nat × (Nat → Int32) × Nat => xq9.1 ≤ z2 ∧ (xq9.1 = 0 ∨ q.length + xq9.1 ≤ mm) ∧ RowR n xq9.2.1 xq9.2.2 (q ++ q2.take xq9.1)) (fun xq9 : Nat × (Nat → Int32) × Nat => z2 - xq9.1) ?_ (0, f, z) (show 0 ≤ z2 ∧ (0 = 0 ∨ q.length + 0 ≤ mm) ∧ RowR n f z (q ++ q2.take 0) from ⟨Nat.zero_le _, Or.inl rfl, by simpa using hR⟩) (hP.sub [0, 1, 2, 3] rfl) (hD.sub [0, 1, 2, 3] (by decide) rfl) hS (lv_sub hl [1, 2, 3, 0] rfl)
  clear hP hD hS hl
  intro x hxI_2 ih_2 H locs ls hP hD hS hl
  obtain ⟨i, g, k⟩ := x
  have hI : i ≤ z2 ∧ (i = 0 ∨ q.length + i ≤ mm) ∧ RowR n g k (q ++ q2.take i) := hxI_2
  have hP : va_P G.1 vwCl [(h0, .inr (1, [.ref h1, .int (nI k)])), (h1, .inl (G.2.1 0, n, .inl g)), (h2, .inr (1, [.ref h3, .int (nI z2)])), (h3, .inl (G.2.1 0, n2, .inl f2))] H := hP
  have hD : va_D A [(h0, .inr (1, [.ref h1, .int (nI k)])), (h1, .inl (G.2.1 0, n, .inl g)), (h2, .inr (1, [.ref h3, .int (nI z2)])), (h3, .inl (G.2.1 0, n2, .inl f2))] := hD
  have hl : lv_has ls 4 [(0, .ref h0), (1, .int (nI mm)), (2, .ref h2), (3, .int (nI i))] := hl
  refine lv_iload_n hx hb dX1_appendUpTo_2 rfl (lv_at hl 3 rfl) ?_
  refine lv_aload_n hx hb dX1_appendUpTo_3 rfl (lv_at hl 2 rfl) ?_
  refine va_get (D := G.1) (ci := 1) (v := .int (nI z2)) (C := RX1) (T := TX1) (N := 2) hx hb htu iwX1 hown hK.1 hP 2 rfl rfl 1 (by decide) (htu _ uF_X1_15) (fun _ h9 => h9) rfl dX1_appendUpTo_4 ?_
  refine lv_icmp_ge (tgt := 33) hx hb dX1_appendUpTo_7 (by decide) (fun c_7 => ?_) (fun c_7 => ?_)
  · skip
    have hi : z2 ≤ i := Nat.le_of_not_lt (fun h => nI_ge h (Nat.lt_of_le_of_lt hR2.2.1 hR2.2.2.1) c_7)
    exact gret_v hx hb hr hlk dX1_appendUpTo_33 hS (g, k) (hP.sub [0, 1, 2, 3] rfl) (hD.sub [0, 1, 2, 3] (by decide) rfl) (show RowR n g k (q ++ q2.take (mm - q.length)) from apE hR2 hI (by first | exact Or.inl hi | exact Or.inr hk))
  · skip
    have hi : i < z2 := Nat.lt_of_not_le (fun h => c_7 (nI_le h (Nat.lt_of_le_of_lt hI.1 (Nat.lt_of_le_of_lt hR2.2.1 hR2.2.2.1))))
    refine lv_aload_n hx hb dX1_appendUpTo_10 rfl (lv_at hl 0 rfl) ?_
    refine va_get (D := G.1) (ci := 1) (v := .int (nI k)) (C := RX1) (T := TX1) (N := 2) hx hb htu iwX1 hown hK.1 hP 0 rfl rfl 1 (by decide) (htu _ uF_X1_15) (fun _ h9 => h9) rfl dX1_appendUpTo_11 ?_
    refine lv_iload_n hx hb dX1_appendUpTo_14 rfl (lv_at hl 1 rfl) ?_
    refine lv_icmp_ge (tgt := 33) hx hb dX1_appendUpTo_15 (by decide) (fun c_15 => ?_) (fun c_15 => ?_)
    · skip
      have hk : mm ≤ k := Nat.le_of_not_lt (fun h => nI_ge h (Nat.lt_of_le_of_lt hm hR.2.2.1) c_15)
      exact gret_v hx hb hr hlk dX1_appendUpTo_33 hS (g, k) (hP.sub [0, 1, 2, 3] rfl) (hD.sub [0, 1, 2, 3] (by decide) rfl) (show RowR n g k (q ++ q2.take (mm - q.length)) from apE hR2 hI (by first | exact Or.inl hi | exact Or.inr hk))
    · skip
      have hk : k < mm := Nat.lt_of_not_le (fun h => c_15 (nI_le h (Nat.lt_of_le_of_lt hI.2.2.2.1 hR.2.2.1)))
      refine lv_aload_n hx hb dX1_appendUpTo_18 rfl (lv_at hl 0 rfl) ?_
      refine lv_aload_n hx hb dX1_appendUpTo_19 rfl (lv_at hl 2 rfl) ?_
      refine lv_iload_n hx hb dX1_appendUpTo_20 rfl (lv_at hl 3 rfl) ?_
      refine g_calli (g_runV (As := [.int (nI i)]) (rest := [.ref h0]) ⟨hx, hb, hml, hown, htu⟩ (c_X1_atOrZero l G _ h2 h3 n2 f2 z2 (nI i) q2 hR2) uM_X1_19 ok_X1_atOrZero in_X1_atOrZero rfl rfl ⟨Nat.le_of_ble_eq_true rfl, Nat.le_of_ble_eq_true rfl⟩ hK hP hD hS hA hZ [2, 3] rfl rfl 2 rfl rfl rfl rfl hl.1 rfl (Nat.le_of_ble_eq_true rfl) dX1_appendUpTo_21 ⟨Nat.le_of_ble_eq_true rfl, Nat.le_of_ble_eq_true rfl⟩) hP hD hS hA [2, 3] rfl (fun r_1 u H locs hw_2 hP hD hS => ?_)
      have hw_2 : r_1 = rowAtZ q2 (nI i) := hw_2
      subst hw_2
      have hP : va_P G.1 vwCl [(h0, .inr (1, [.ref h1, .int (nI k)])), (h1, .inl (G.2.1 0, n, .inl g)), (h2, .inr (1, [.ref h3, .int (nI z2)])), (h3, .inl (G.2.1 0, n2, .inl f2))] H := hP
      have hD : va_D A [(h0, .inr (1, [.ref h1, .int (nI k)])), (h1, .inl (G.2.1 0, n, .inl g)), (h2, .inr (1, [.ref h3, .int (nI z2)])), (h3, .inl (G.2.1 0, n2, .inl f2))] := hD
      refine g_callv (g_runV (As := [.int (rowAtZ q2 (nI i))]) (rest := []) ⟨hx, hb, hml, hown, htu⟩ (c_X1_append l G _ h0 h1 n g k (rowAtZ q2 (nI i)) (q ++ q2.take i) hI.2.2) uM_X1_23 ok_X1_append in_X1_append rfl rfl ⟨Nat.le_of_ble_eq_true rfl, Nat.le_of_ble_eq_true rfl⟩ hK hP hD hS hA hZ [0, 1] rfl rfl 0 rfl rfl rfl rfl hl.1 rfl (Nat.le_of_ble_eq_true rfl) dX1_appendUpTo_24 ⟨Nat.le_of_ble_eq_true rfl, Nat.le_of_ble_eq_true rfl⟩) hP hD hS hA [0, 1] rfl (fun u H locs hwA hP hD hS => ?_)
      obtain ⟨f_4, z_5⟩ := u
      have hwA : RowR n f_4 z_5 (if k < n then (q ++ q2.take i) ++ [o8 (rowAtZ q2 (nI i))] else (q ++ q2.take i)) := hwA
      have hP : va_P G.1 vwCl [(h2, .inr (1, [.ref h3, .int (nI z2)])), (h3, .inl (G.2.1 0, n2, .inl f2)), (h0, .inr (1, [.ref h1, .int (nI z_5)])), (h1, .inl (G.2.1 0, n, .inl f_4))] H := hP
      have hD : va_D A [(h2, .inr (1, [.ref h3, .int (nI z2)])), (h3, .inl (G.2.1 0, n2, .inl f2)), (h0, .inr (1, [.ref h1, .int (nI z_5)])), (h1, .inl (G.2.1 0, n, .inl f_4))] := hD
      refine lv_iinc (v := nI (i + 1)) (lv' := [(3, .int (nI (i + 1))), (0, .ref h0), (1, .int (nI mm)), (2, .ref h2)]) hx hb dX1_appendUpTo_27 hl (k := 3) rfl (nI_1 i) (by decide) rfl (fun ls hl => ?_)
      refine lv_goto (tgt := 2) hx hb dX1_appendUpTo_30 (by decide) ?_
      exact ih_2 (i + 1, f_4, z_5) (show (i + 1) ≤ z2 ∧ ((i + 1) = 0 ∨ q.length + (i + 1) ≤ mm) ∧ RowR n f_4 z_5 (q ++ q2.take (i + 1)) from apU hR2 hm hI hi hk hwA) (by show z2 - (i + 1) < z2 - i; omega) _ _ _ (hP.sub [2, 3, 0, 1] rfl) (hD.sub [2, 3, 0, 1] (by decide) rfl) hS (lv_sub hl [1, 2, 3, 0] rfl)
set_option maxHeartbeats 4000000 in
set_option maxRecDepth 100000 in
theorem c_X1_become (l : Launch) (G : GW) (sz : Nat) (h0 : Nat) (h1 : Nat) (n : Nat) (f : Nat → Int32) (z : Nat) (h2 : Nat) (h3 : Nat) (n2 : Nat) (f2 : Nat → Int32) (z2 : Nat) (q2 : List Nat) (hR2 : RowR n2 f2 z2 q2) (hn : n < 2 ^ 31) (hq : q2.length ≤ n) : Met l yX1_become (Cond.code yX1_become cX1_become 2 (none : Option FieldType) :: UW) ({ frames := 3, cells := 0, slots := 0, locals := 65 } : Room) (va_Pc [.ref h0, .ref h2] (gPre G [(h0, .inr (1, [.ref h1, .int (nI z)])), (h1, .inl (G.2.1 0, n, .inl f)), (h2, .inr (1, [.ref h3, .int (nI z2)])), (h3, .inl (G.2.1 0, n2, .inl f2))] sz)) (va_Qv (fun (uq9 : (Nat → Int32) × Nat) => RowR n uq9.1 uq9.2 q2) (fun u => gPost G (va_A [(h0, .inr (1, [.ref h1, .int (nI z)])), (h1, .inl (G.2.1 0, n, .inl f)), (h2, .inr (1, [.ref h3, .int (nI z2)])), (h3, .inl (G.2.1 0, n2, .inl f2))] sz) ((fun (uq9 : (Nat → Int32) × Nat) => ([(h0, .inr (1, [.ref h1, .int (nI uq9.2)])), (h1, .inl (G.2.1 0, n, .inl uq9.1)), (h2, .inr (1, [.ref h3, .int (nI z2)])), (h3, .inl (G.2.1 0, n2, .inl f2))] : va_W)) u)) (va_A [(h0, .inr (1, [.ref h1, .int (nI z)])), (h1, .inl (G.2.1 0, n, .inl f)), (h2, .inr (1, [.ref h3, .int (nI z2)])), (h3, .inl (G.2.1 0, n2, .inl f2))] sz)) 0 0 (va_A [(h0, .inr (1, [.ref h1, .int (nI z)])), (h1, .inl (G.2.1 0, n, .inl f)), (h2, .inr (1, [.ref h3, .int (nI z2)])), (h3, .inl (G.2.1 0, n2, .inl f2))] sz) := by
  refine gM_of (Qf := fun A => va_Qv (fun (uq9 : (Nat → Int32) × Nat) => RowR n uq9.1 uq9.2 q2) (fun u => gPost G A ((fun (uq9 : (Nat → Int32) × Nat) => ([(h0, .inr (1, [.ref h1, .int (nI uq9.2)])), (h1, .inl (G.2.1 0, n, .inl uq9.1)), (h2, .inr (1, [.ref h3, .int (nI z2)])), (h3, .inl (G.2.1 0, n2, .inl f2))] : va_W)) u)) A) (by decide) (Nat.le_of_ble_eq_true rfl) ?_
  intro p e s m below meth c A ls hx hb hml hr hown htu hlk hnm hA hP hD hS hK hZ hl
  have hown : s.vm.findClass RX1 = some m.cls := hown
  have hl : lv_has ls 2 [(0, .ref h0), (1, .ref h2)] := hl
  refine lv_aload_n hx hb dX1_become_0 rfl (lv_at hl 0 rfl) ?_
  refine g_callv (g_runV (As := []) (rest := []) ⟨hx, hb, hml, hown, htu⟩ (c_X1_clear l G _ h0 h1 n f z ) uM_X1_27 ok_X1_clear in_X1_clear rfl rfl ⟨Nat.le_of_ble_eq_true rfl, Nat.le_of_ble_eq_true rfl⟩ hK hP hD hS hA hZ [0, 1] rfl rfl 0 rfl rfl rfl rfl hl.1 rfl (Nat.le_of_ble_eq_true rfl) dX1_become_1 ⟨Nat.le_of_ble_eq_true rfl, Nat.le_of_ble_eq_true rfl⟩) hP hD hS hA [0, 1] rfl (fun u H locs hw_2 hP hD hS => ?_)
  have hP : va_P G.1 vwCl [(h2, .inr (1, [.ref h3, .int (nI z2)])), (h3, .inl (G.2.1 0, n2, .inl f2)), (h0, .inr (1, [.ref h1, .int (nI 0)])), (h1, .inl (G.2.1 0, n, .inl f))] H := hP
  have hD : va_D A [(h2, .inr (1, [.ref h3, .int (nI z2)])), (h3, .inl (G.2.1 0, n2, .inl f2)), (h0, .inr (1, [.ref h1, .int (nI 0)])), (h1, .inl (G.2.1 0, n, .inl f))] := hD
  refine lv_aload_n hx hb dX1_become_4 rfl (lv_at hl 0 rfl) ?_
  refine lv_aload_n hx hb dX1_become_5 rfl (lv_at hl 0 rfl) ?_
  refine va_get (D := G.1) (ci := 1) (v := .ref h1) (C := RX1) (T := TX1) (N := 2) hx hb htu iwX1 hown hK.1 hP 2 rfl rfl 0 (by decide) (htu _ uF_X1_9) (fun _ h9 => h9) rfl dX1_become_6 ?_
  refine va_alen hx hb hK.1 hP 3 0 rfl rfl (v := nI n) rfl dX1_become_9 ?_
  refine lv_aload_n hx hb dX1_become_10 rfl (lv_at hl 1 rfl) ?_
  refine g_callv (g_runV (As := [.int (nI n), .ref h2]) (rest := []) ⟨hx, hb, hml, hown, htu⟩ (c_X1_appendUpTo l G _ h0 h1 n f 0 h2 h3 n2 f2 z2 n ([]) q2 (RowR.nil hn) hR2 (Nat.le_refl n)) uM_X1_30 ok_X1_appendUpTo in_X1_appendUpTo rfl rfl ⟨Nat.le_of_ble_eq_true rfl, Nat.le_of_ble_eq_true rfl⟩ hK hP hD hS hA hZ [2, 3, 0, 1] rfl rfl 2 rfl rfl rfl rfl hl.1 rfl (Nat.le_of_ble_eq_true rfl) dX1_become_11 ⟨Nat.le_of_ble_eq_true rfl, Nat.le_of_ble_eq_true rfl⟩) hP hD hS hA [2, 3, 0, 1] rfl (fun u H locs hwA hP hD hS => ?_)
  obtain ⟨f_4, z_5⟩ := u
  have hwA : RowR n f_4 z_5 (([]) ++ q2.take (n - ([]).length)) := hwA
  have hP : va_P G.1 vwCl [(h0, .inr (1, [.ref h1, .int (nI z_5)])), (h1, .inl (G.2.1 0, n, .inl f_4)), (h2, .inr (1, [.ref h3, .int (nI z2)])), (h3, .inl (G.2.1 0, n2, .inl f2))] H := hP
  have hD : va_D A [(h0, .inr (1, [.ref h1, .int (nI z_5)])), (h1, .inl (G.2.1 0, n, .inl f_4)), (h2, .inr (1, [.ref h3, .int (nI z2)])), (h3, .inl (G.2.1 0, n2, .inl f2))] := hD
  exact gret_v hx hb hr hlk dX1_become_14 hS (f_4, z_5) (hP.sub [0, 1, 2, 3] rfl) (hD.sub [0, 1, 2, 3] (by decide) rfl) (show RowR n f_4 z_5 q2 from by simpa [List.take_of_length_le hq] using hwA)
set_option maxHeartbeats 4000000 in
set_option maxRecDepth 100000 in
theorem c_X1_xorWith (l : Launch) (G : GW) (sz : Nat) (h0 : Nat) (h1 : Nat) (n : Nat) (f : Nat → Int32) (z : Nat) (h2 : Nat) (h3 : Nat) (n2 : Nat) (f2 : Nat → Int32) (z2 : Nat) (q : List Nat) (q2 : List Nat) (hR : RowR n f z q) (hR2 : RowR n2 f2 z2 q2) (hq : q2.length = q.length) : Met l yX1_xorWith (Cond.code yX1_xorWith cX1_xorWith 3 (none : Option FieldType) :: UW) ({ frames := 2, cells := 0, slots := 0, locals := 42 } : Room) (va_Pc [.ref h0, .ref h2] (gPre G [(h0, .inr (1, [.ref h1, .int (nI z)])), (h1, .inl (G.2.1 0, n, .inl f)), (h2, .inr (1, [.ref h3, .int (nI z2)])), (h3, .inl (G.2.1 0, n2, .inl f2))] sz)) (va_Qv (fun (f' : Nat → Int32) => RowR n f' z (List.zipWith (fun a b => a ^^^ b) q q2)) (fun u => gPost G (va_A [(h0, .inr (1, [.ref h1, .int (nI z)])), (h1, .inl (G.2.1 0, n, .inl f)), (h2, .inr (1, [.ref h3, .int (nI z2)])), (h3, .inl (G.2.1 0, n2, .inl f2))] sz) ((fun (f' : Nat → Int32) => ([(h0, .inr (1, [.ref h1, .int (nI z)])), (h1, .inl (G.2.1 0, n, .inl f')), (h2, .inr (1, [.ref h3, .int (nI z2)])), (h3, .inl (G.2.1 0, n2, .inl f2))] : va_W)) u)) (va_A [(h0, .inr (1, [.ref h1, .int (nI z)])), (h1, .inl (G.2.1 0, n, .inl f)), (h2, .inr (1, [.ref h3, .int (nI z2)])), (h3, .inl (G.2.1 0, n2, .inl f2))] sz)) 0 0 (va_A [(h0, .inr (1, [.ref h1, .int (nI z)])), (h1, .inl (G.2.1 0, n, .inl f)), (h2, .inr (1, [.ref h3, .int (nI z2)])), (h3, .inl (G.2.1 0, n2, .inl f2))] sz) := by
  refine gM_of (Qf := fun A => va_Qv (fun (f' : Nat → Int32) => RowR n f' z (List.zipWith (fun a b => a ^^^ b) q q2)) (fun u => gPost G A ((fun (f' : Nat → Int32) => ([(h0, .inr (1, [.ref h1, .int (nI z)])), (h1, .inl (G.2.1 0, n, .inl f')), (h2, .inr (1, [.ref h3, .int (nI z2)])), (h3, .inl (G.2.1 0, n2, .inl f2))] : va_W)) u)) A) (by decide) (Nat.le_of_ble_eq_true rfl) ?_
  intro p e s m below meth c A ls hx hb hml hr hown htu hlk hnm hA hP hD hS hK hZ hl
  have hown : s.vm.findClass RX1 = some m.cls := hown
  have hl : lv_has ls 3 [(0, .ref h0), (1, .ref h2)] := hl
  refine lv_iconst (v := 0) hx hb dX1_xorWith_0 (by decide) ?_
  refine lv_istore_n (lv' := [(2, .int 0), (0, .ref h0), (1, .ref h2)]) hx hb dX1_xorWith_1 rfl hl (by decide) rfl (fun ls hl => ?_)
  refine g_loop (σ := Nat × (Nat → Int32)) (G := G) (fun xq9 : Nat × (Nat → Int32) => [(h0, .inr (1, [.ref h1, .int (nI z)])), (h1, .inl (G.2.1 0, n, .inl xq9.2)), (h2, .inr (1, [.ref h3, .int (nI z2)])), (h3, .inl (G.2.1 0, n2, .inl f2))]) (fun xq9 : Nat × (Nat → Int32) => [(0, .ref h0), (1, .ref h2), (2, .int (nI xq9.1))]) (fun xq9 : Nat × (Nat → Int32) => xq9.1 ≤ z ∧ (∀ j, j < xq9.1 → xq9.2 j = i2b (nI (q.getD j 0 ^^^ q2.getD j 0))) ∧ ∀ j, xq9.1 ≤ j → xq9.2 j = f j) (fun xq9 : Nat × (Nat → Int32) => z - xq9.1) ?_ (0, f) (show 0 ≤ z ∧ (∀ j, j < 0 → f j = i2b (nI (q.getD j 0 ^^^ q2.getD j 0))) ∧ ∀ j, 0 ≤ j → f j = f j from ⟨Nat.zero_le _, fun _ h => absurd h (Nat.not_lt_zero _), fun _ _ => rfl⟩) (hP.sub [0, 1, 2, 3] rfl) (hD.sub [0, 1, 2, 3] (by decide) rfl) hS (lv_sub hl [1, 2, 0] rfl)
  clear hP hD hS hl
  intro x hxI_2 ih_2 H locs ls hP hD hS hl
  obtain ⟨i, g⟩ := x
  have hI : i ≤ z ∧ (∀ j, j < i → g j = i2b (nI (q.getD j 0 ^^^ q2.getD j 0))) ∧ ∀ j, i ≤ j → g j = f j := hxI_2
  have hP : va_P G.1 vwCl [(h0, .inr (1, [.ref h1, .int (nI z)])), (h1, .inl (G.2.1 0, n, .inl g)), (h2, .inr (1, [.ref h3, .int (nI z2)])), (h3, .inl (G.2.1 0, n2, .inl f2))] H := hP
  have hD : va_D A [(h0, .inr (1, [.ref h1, .int (nI z)])), (h1, .inl (G.2.1 0, n, .inl g)), (h2, .inr (1, [.ref h3, .int (nI z2)])), (h3, .inl (G.2.1 0, n2, .inl f2))] := hD
  have hl : lv_has ls 3 [(0, .ref h0), (1, .ref h2), (2, .int (nI i))] := hl
  refine lv_iload_n hx hb dX1_xorWith_2 rfl (lv_at hl 2 rfl) ?_
  refine lv_aload_n hx hb dX1_xorWith_3 rfl (lv_at hl 0 rfl) ?_
  refine va_get (D := G.1) (ci := 1) (v := .int (nI z)) (C := RX1) (T := TX1) (N := 2) hx hb htu iwX1 hown hK.1 hP 0 rfl rfl 1 (by decide) (htu _ uF_X1_15) (fun _ h9 => h9) rfl dX1_xorWith_4 ?_
  refine lv_icmp_ge (tgt := 41) hx hb dX1_xorWith_7 (by decide) (fun c_7 => ?_) (fun c_7 => ?_)
  · skip
    have hi : z ≤ i := Nat.le_of_not_lt (fun h => nI_ge h (Nat.lt_of_le_of_lt hR.2.1 hR.2.2.1) c_7)
    exact gret_v hx hb hr hlk dX1_xorWith_41 hS g (hP.sub [0, 1, 2, 3] rfl) (hD.sub [0, 1, 2, 3] (by decide) rfl) (show RowR n g z (List.zipWith (fun a b => a ^^^ b) q q2) from xoE hR hR2 hI hi hq)
  · skip
    have hi : i < z := Nat.lt_of_not_le (fun h => c_7 (nI_le h (Nat.lt_of_le_of_lt hI.1 (Nat.lt_of_le_of_lt hR.2.1 hR.2.2.1))))
    refine lv_iload_n hx hb dX1_xorWith_10 rfl (lv_at hl 2 rfl) ?_
    refine lv_aload_n hx hb dX1_xorWith_11 rfl (lv_at hl 0 rfl) ?_
    refine va_get (D := G.1) (ci := 1) (v := .ref h1) (C := RX1) (T := TX1) (N := 2) hx hb htu iwX1 hown hK.1 hP 0 rfl rfl 0 (by decide) (htu _ uF_X1_9) (fun _ h9 => h9) rfl dX1_xorWith_12 ?_
    refine va_alen hx hb hK.1 hP 1 0 rfl rfl (v := nI n) rfl dX1_xorWith_15 ?_
    refine lv_icmp_ge (tgt := 41) hx hb dX1_xorWith_16 (by decide) (fun c_16 => absurd c_16 (nI_ge (Nat.lt_of_lt_of_le hi hR.2.1) hR.2.2.1)) (fun _ => ?_)
    refine lv_aload_n hx hb dX1_xorWith_19 rfl (lv_at hl 0 rfl) ?_
    refine va_get (D := G.1) (ci := 1) (v := .ref h1) (C := RX1) (T := TX1) (N := 2) hx hb htu iwX1 hown hK.1 hP 0 rfl rfl 0 (by decide) (htu _ uF_X1_9) (fun _ h9 => h9) rfl dX1_xorWith_20 ?_
    refine lv_iload_n hx hb dX1_xorWith_23 rfl (lv_at hl 2 rfl) ?_
    refine lv_dup2_11 hx hb dX1_xorWith_24 rfl rfl ?_
    refine g_bald hx hb hK.1 hP 1 0 rfl rfl ⟨Nat.lt_of_lt_of_le hi hR.2.1, hR.2.2.1⟩ dX1_xorWith_25 ?_
    refine lv_aload_n hx hb dX1_xorWith_26 rfl (lv_at hl 1 rfl) ?_
    refine lv_iload_n hx hb dX1_xorWith_27 rfl (lv_at hl 2 rfl) ?_
    refine g_calli (g_runV (As := [.int (nI i)]) (rest := [.int (g i), .int (nI i), .ref h1]) ⟨hx, hb, hml, hown, htu⟩ (c_X1_atOrZero l G _ h2 h3 n2 f2 z2 (nI i) q2 hR2) uM_X1_19 ok_X1_atOrZero in_X1_atOrZero rfl rfl ⟨Nat.le_of_ble_eq_true rfl, Nat.le_of_ble_eq_true rfl⟩ hK hP hD hS hA hZ [2, 3] rfl rfl 2 rfl rfl rfl rfl hl.1 rfl (Nat.le_of_ble_eq_true rfl) dX1_xorWith_28 ⟨Nat.le_of_ble_eq_true rfl, Nat.le_of_ble_eq_true rfl⟩) hP hD hS hA [2, 3] rfl (fun r_1 u H locs hw_2 hP hD hS => ?_)
    have hw_2 : r_1 = rowAtZ q2 (nI i) := hw_2
    subst hw_2
    have hP : va_P G.1 vwCl [(h0, .inr (1, [.ref h1, .int (nI z)])), (h1, .inl (G.2.1 0, n, .inl g)), (h2, .inr (1, [.ref h3, .int (nI z2)])), (h3, .inl (G.2.1 0, n2, .inl f2))] H := hP
    have hD : va_D A [(h0, .inr (1, [.ref h1, .int (nI z)])), (h1, .inl (G.2.1 0, n, .inl g)), (h2, .inr (1, [.ref h3, .int (nI z2)])), (h3, .inl (G.2.1 0, n2, .inl f2))] := hD
    refine lv_i2b (v := i2b (rowAtZ q2 (nI i))) hx hb dX1_xorWith_31 rfl ?_
    refine lv_ixor hx hb dX1_xorWith_32 ?_
    refine lv_i2b (v := i2b ((g i) ^^^ (i2b (rowAtZ q2 (nI i))))) hx hb dX1_xorWith_33 rfl ?_
    refine lv_topi (fun v_3 ev_3 => ?_)
    refine g_bast hx hb hK.1 hP hD hS 1 0 rfl rfl ⟨Nat.lt_of_lt_of_le hi hR.2.1, hR.2.2.1⟩ dX1_xorWith_34 (fun H locs hP hD hS => ?_)
    obtain ⟨g_4, eg_4⟩ : ∃ gq9 : Nat → Int32, gq9 = upd g i (vp_nar .byte v_3) := ⟨_, rfl⟩
    rw [← eg_4] at hP hD
    have hP : va_P G.1 vwCl [(h0, .inr (1, [.ref h1, .int (nI z)])), (h1, .inl (G.2.1 0, n, .inl g_4)), (h2, .inr (1, [.ref h3, .int (nI z2)])), (h3, .inl (G.2.1 0, n2, .inl f2))] H := hP
    have hD : va_D A [(h0, .inr (1, [.ref h1, .int (nI z)])), (h1, .inl (G.2.1 0, n, .inl g_4)), (h2, .inr (1, [.ref h3, .int (nI z2)])), (h3, .inl (G.2.1 0, n2, .inl f2))] := hD
    refine lv_iinc (v := nI (i + 1)) (lv' := [(2, .int (nI (i + 1))), (0, .ref h0), (1, .ref h2)]) hx hb dX1_xorWith_35 hl (k := 2) rfl (nI_1 i) (by decide) rfl (fun ls hl => ?_)
    refine lv_goto (tgt := 2) hx hb dX1_xorWith_38 (by decide) ?_
    exact ih_2 (i + 1, g_4) (show (i + 1) ≤ z ∧ (∀ j, j < (i + 1) → g_4 j = i2b (nI (q.getD j 0 ^^^ q2.getD j 0))) ∧ ∀ j, (i + 1) ≤ j → g_4 j = f j from xoU hR hR2 hI hi eg_4 ev_3) (by show z - (i + 1) < z - i; omega) _ _ _ (hP.sub [0, 1, 2, 3] rfl) (hD.sub [0, 1, 2, 3] (by decide) rfl) hS (lv_sub hl [1, 2, 0] rfl)
set_option maxHeartbeats 4000000 in
set_option maxRecDepth 100000 in
theorem c_X1_sameAs (l : Launch) (G : GW) (sz : Nat) (h0 : Nat) (h1 : Nat) (n : Nat) (f : Nat → Int32) (z : Nat) (h2 : Nat) (h3 : Nat) (n2 : Nat) (f2 : Nat → Int32) (z2 : Nat) (q : List Nat) (q2 : List Nat) (hR : RowR n f z q) (hR2 : RowR n2 f2 z2 q2) : Met l yX1_sameAs (Cond.code yX1_sameAs cX1_sameAs 3 (some FieldType.boolean) :: UW) ({ frames := 1, cells := 0, slots := 0, locals := 21 } : Room) (va_Pc [.ref h0, .ref h2] (gPre G [(h0, .inr (1, [.ref h1, .int (nI z)])), (h1, .inl (G.2.1 0, n, .inl f)), (h2, .inr (1, [.ref h3, .int (nI z2)])), (h3, .inl (G.2.1 0, n2, .inl f2))] sz)) (va_Qi (fun (r : Int32) (_ : Unit) => r = if q = q2 then 1 else 0) (fun u => gPost G (va_A [(h0, .inr (1, [.ref h1, .int (nI z)])), (h1, .inl (G.2.1 0, n, .inl f)), (h2, .inr (1, [.ref h3, .int (nI z2)])), (h3, .inl (G.2.1 0, n2, .inl f2))] sz) ((fun (_ : Unit) => ([(h0, .inr (1, [.ref h1, .int (nI z)])), (h1, .inl (G.2.1 0, n, .inl f)), (h2, .inr (1, [.ref h3, .int (nI z2)])), (h3, .inl (G.2.1 0, n2, .inl f2))] : va_W)) u)) (va_A [(h0, .inr (1, [.ref h1, .int (nI z)])), (h1, .inl (G.2.1 0, n, .inl f)), (h2, .inr (1, [.ref h3, .int (nI z2)])), (h3, .inl (G.2.1 0, n2, .inl f2))] sz)) 0 0 (va_A [(h0, .inr (1, [.ref h1, .int (nI z)])), (h1, .inl (G.2.1 0, n, .inl f)), (h2, .inr (1, [.ref h3, .int (nI z2)])), (h3, .inl (G.2.1 0, n2, .inl f2))] sz) := by
  refine gM_of (Qf := fun A => va_Qi (fun (r : Int32) (_ : Unit) => r = if q = q2 then 1 else 0) (fun u => gPost G A ((fun (_ : Unit) => ([(h0, .inr (1, [.ref h1, .int (nI z)])), (h1, .inl (G.2.1 0, n, .inl f)), (h2, .inr (1, [.ref h3, .int (nI z2)])), (h3, .inl (G.2.1 0, n2, .inl f2))] : va_W)) u)) A) (by decide) (Nat.le_of_ble_eq_true rfl) ?_
  intro p e s m below meth c A ls hx hb hml hr hown htu hlk hnm hA hP hD hS hK hZ hl
  have hown : s.vm.findClass RX1 = some m.cls := hown
  have hl : lv_has ls 3 [(0, .ref h0), (1, .ref h2)] := hl
  refine lv_aload_n hx hb dX1_sameAs_0 rfl (lv_at hl 0 rfl) ?_
  refine va_get (D := G.1) (ci := 1) (v := .int (nI z)) (C := RX1) (T := TX1) (N := 2) hx hb htu iwX1 hown hK.1 hP 0 rfl rfl 1 (by decide) (htu _ uF_X1_15) (fun _ h9 => h9) rfl dX1_sameAs_1 ?_
  refine lv_aload_n hx hb dX1_sameAs_4 rfl (lv_at hl 1 rfl) ?_
  refine va_get (D := G.1) (ci := 1) (v := .int (nI z2)) (C := RX1) (T := TX1) (N := 2) hx hb htu iwX1 hown hK.1 hP 2 rfl rfl 1 (by decide) (htu _ uF_X1_15) (fun _ h9 => h9) rfl dX1_sameAs_5 ?_
  refine lv_icmp_eq (tgt := 13) hx hb dX1_sameAs_8 (by decide) (fun c_8 => ?_) (fun c_8 => ?_)
  · skip
    have hz : z = z2 := (nI_eq (Nat.lt_of_le_of_lt hR.2.1 hR.2.2.1) (Nat.lt_of_le_of_lt hR2.2.1 hR2.2.2.1)).mp c_8
    refine lv_iconst (v := 0) hx hb dX1_sameAs_13 (by decide) ?_
    refine lv_istore_n (lv' := [(2, .int 0), (0, .ref h0), (1, .ref h2)]) hx hb dX1_sameAs_14 rfl hl (by decide) rfl (fun ls hl => ?_)
    refine g_loop (σ := Nat) (G := G) (fun xq9 : Nat => [(h0, .inr (1, [.ref h1, .int (nI z)])), (h1, .inl (G.2.1 0, n, .inl f)), (h2, .inr (1, [.ref h3, .int (nI z2)])), (h3, .inl (G.2.1 0, n2, .inl f2))]) (fun xq9 : Nat => [(0, .ref h0), (1, .ref h2), (2, .int (nI xq9))]) (fun xq9 : Nat => xq9 ≤ z ∧ ∀ j, j < xq9 → q.getD j 0 = q2.getD j 0) (fun xq9 : Nat => z - xq9) ?_ 0 (show 0 ≤ z ∧ ∀ j, j < 0 → q.getD j 0 = q2.getD j 0 from ⟨Nat.zero_le _, fun _ h => absurd h (Nat.not_lt_zero _)⟩) (hP.sub [0, 1, 2, 3] rfl) (hD.sub [0, 1, 2, 3] (by decide) rfl) hS (lv_sub hl [1, 2, 0] rfl)
    clear hP hD hS hl
    intro x hxI_15 ih_15 H locs ls hP hD hS hl
    obtain ⟨i, rfl⟩ : ∃ z, z = x := ⟨_, rfl⟩
    have hI : i ≤ z ∧ ∀ j, j < i → q.getD j 0 = q2.getD j 0 := hxI_15
    have hP : va_P G.1 vwCl [(h0, .inr (1, [.ref h1, .int (nI z)])), (h1, .inl (G.2.1 0, n, .inl f)), (h2, .inr (1, [.ref h3, .int (nI z2)])), (h3, .inl (G.2.1 0, n2, .inl f2))] H := hP
    have hD : va_D A [(h0, .inr (1, [.ref h1, .int (nI z)])), (h1, .inl (G.2.1 0, n, .inl f)), (h2, .inr (1, [.ref h3, .int (nI z2)])), (h3, .inl (G.2.1 0, n2, .inl f2))] := hD
    have hl : lv_has ls 3 [(0, .ref h0), (1, .ref h2), (2, .int (nI i))] := hl
    refine lv_iload_n hx hb dX1_sameAs_15 rfl (lv_at hl 2 rfl) ?_
    refine lv_aload_n hx hb dX1_sameAs_16 rfl (lv_at hl 0 rfl) ?_
    refine va_get (D := G.1) (ci := 1) (v := .int (nI z)) (C := RX1) (T := TX1) (N := 2) hx hb htu iwX1 hown hK.1 hP 0 rfl rfl 1 (by decide) (htu _ uF_X1_15) (fun _ h9 => h9) rfl dX1_sameAs_17 ?_
    refine lv_icmp_ge (tgt := 44) hx hb dX1_sameAs_20 (by decide) (fun c_20 => ?_) (fun c_20 => ?_)
    · skip
      have hi : z ≤ i := Nat.le_of_not_lt (fun h => nI_ge h (Nat.lt_of_le_of_lt hR.2.1 hR.2.2.1) c_20)
      refine lv_iconst (v := 1) hx hb dX1_sameAs_44 (by decide) ?_
      exact gret_z hx hb hr hlk dX1_sameAs_45 hS (by first | exact Or.inl rfl | exact Or.inr rfl) () (hP.sub [0, 1, 2, 3] rfl) (hD.sub [0, 1, 2, 3] (by decide) rfl) (by rw [if_pos (saE hR hR2 hz hI.2 hi)])
    · skip
      have hi : i < z := Nat.lt_of_not_le (fun h => c_20 (nI_le h (Nat.lt_of_le_of_lt hI.1 (Nat.lt_of_le_of_lt hR.2.1 hR.2.2.1))))
      refine lv_aload_n hx hb dX1_sameAs_23 rfl (lv_at hl 0 rfl) ?_
      refine lv_iload_n hx hb dX1_sameAs_24 rfl (lv_at hl 2 rfl) ?_
      refine g_calli (g_runV (As := [.int (nI i)]) (rest := []) ⟨hx, hb, hml, hown, htu⟩ (c_X1_at l G _ h0 h1 n f z (nI i) q hR) uM_X1_34 ok_X1_at in_X1_at rfl rfl ⟨Nat.le_of_ble_eq_true rfl, Nat.le_of_ble_eq_true rfl⟩ hK hP hD hS hA hZ [0, 1] rfl rfl 0 rfl rfl rfl rfl hl.1 rfl (Nat.le_of_ble_eq_true rfl) dX1_sameAs_25 ⟨Nat.le_of_ble_eq_true rfl, Nat.le_of_ble_eq_true rfl⟩) hP hD hS hA [0, 1] rfl (fun r_1 u H locs hw_2 hP hD hS => ?_)
      have hw_2 : r_1 = rowAt q (nI i) := hw_2
      subst hw_2
      have hP : va_P G.1 vwCl [(h2, .inr (1, [.ref h3, .int (nI z2)])), (h3, .inl (G.2.1 0, n2, .inl f2)), (h0, .inr (1, [.ref h1, .int (nI z)])), (h1, .inl (G.2.1 0, n, .inl f))] H := hP
      have hD : va_D A [(h2, .inr (1, [.ref h3, .int (nI z2)])), (h3, .inl (G.2.1 0, n2, .inl f2)), (h0, .inr (1, [.ref h1, .int (nI z)])), (h1, .inl (G.2.1 0, n, .inl f))] := hD
      refine lv_aload_n hx hb dX1_sameAs_28 rfl (lv_at hl 1 rfl) ?_
      refine lv_iload_n hx hb dX1_sameAs_29 rfl (lv_at hl 2 rfl) ?_
      refine g_calli (g_runV (As := [.int (nI i)]) (rest := [.int (rowAt q (nI i))]) ⟨hx, hb, hml, hown, htu⟩ (c_X1_at l G _ h2 h3 n2 f2 z2 (nI i) q2 hR2) uM_X1_34 ok_X1_at in_X1_at rfl rfl ⟨Nat.le_of_ble_eq_true rfl, Nat.le_of_ble_eq_true rfl⟩ hK hP hD hS hA hZ [0, 1] rfl rfl 0 rfl rfl rfl rfl hl.1 rfl (Nat.le_of_ble_eq_true rfl) dX1_sameAs_30 ⟨Nat.le_of_ble_eq_true rfl, Nat.le_of_ble_eq_true rfl⟩) hP hD hS hA [0, 1] rfl (fun r_3 u H locs hw_4 hP hD hS => ?_)
      have hw_4 : r_3 = rowAt q2 (nI i) := hw_4
      subst hw_4
      have hP : va_P G.1 vwCl [(h0, .inr (1, [.ref h1, .int (nI z)])), (h1, .inl (G.2.1 0, n, .inl f)), (h2, .inr (1, [.ref h3, .int (nI z2)])), (h3, .inl (G.2.1 0, n2, .inl f2))] H := hP
      have hD : va_D A [(h0, .inr (1, [.ref h1, .int (nI z)])), (h1, .inl (G.2.1 0, n, .inl f)), (h2, .inr (1, [.ref h3, .int (nI z2)])), (h3, .inl (G.2.1 0, n2, .inl f2))] := hD
      refine lv_icmp_eq (tgt := 38) hx hb dX1_sameAs_33 (by decide) (fun c_33 => ?_) (fun c_33 => ?_)
      · skip
        have hc : q.getD i 0 = q2.getD i 0 := saC hR hR2 hz hi c_33
        refine lv_iinc (v := nI (i + 1)) (lv' := [(2, .int (nI (i + 1))), (0, .ref h0), (1, .ref h2)]) hx hb dX1_sameAs_38 hl (k := 2) rfl (nI_1 i) (by decide) rfl (fun ls hl => ?_)
        refine lv_goto (tgt := 15) hx hb dX1_sameAs_41 (by decide) ?_
        exact ih_15 (i + 1) (show (i + 1) ≤ z ∧ ∀ j, j < (i + 1) → q.getD j 0 = q2.getD j 0 from ⟨hi, fun j hj => (Nat.lt_or_ge j i).elim (hI.2 j) (fun h => (Nat.le_antisymm h (Nat.le_of_lt_succ hj)) ▸ hc)⟩) (by show z - (i + 1) < z - i; omega) _ _ _ (hP.sub [0, 1, 2, 3] rfl) (hD.sub [0, 1, 2, 3] (by decide) rfl) hS (lv_sub hl [1, 2, 0] rfl)
      · skip
        have hc : ¬ q = q2 := fun h => c_33 (by rw [h])
        refine lv_iconst (v := 0) hx hb dX1_sameAs_36 (by decide) ?_
        exact gret_z hx hb hr hlk dX1_sameAs_37 hS (by first | exact Or.inl rfl | exact Or.inr rfl) () (hP.sub [0, 1, 2, 3] rfl) (hD.sub [0, 1, 2, 3] (by decide) rfl) (by rw [if_neg hc])
  · skip
    have hz : ¬ q = q2 := fun h => c_8 (by rw [hR.1, hR2.1, h])
    refine lv_iconst (v := 0) hx hb dX1_sameAs_11 (by decide) ?_
    exact gret_z hx hb hr hlk dX1_sameAs_12 hS (by first | exact Or.inl rfl | exact Or.inr rfl) () (hP.sub [0, 1, 2, 3] rfl) (hD.sub [0, 1, 2, 3] (by decide) rfl) (by rw [if_neg hz])
