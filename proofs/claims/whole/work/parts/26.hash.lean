/-! contracts: Hash -/
theorem uA_arraycopy : Cond.static arraycopyName ∈ UW := mem_UW (in_t2 (List.mem_of_getElem? (i := 235) rfl)) rfl
theorem upL {j : Nat} {g g' F : Nat → Int64} {v : Int64} (h : ∀ i, i < j → g i = F i) (e : g' = vp_updL g j v) (ev : v = F j) : ∀ i, i < j + 1 → g' i = F i := by
  intro i hi
  rcases Nat.lt_or_ge i j with c | c
  · rw [e, pk_uLn (by omega)]; exact h i c
  · have : i = j := by omega
    subst this
    rw [e, pk_uLs, ev]
theorem HsR.z128 {k z : Nat} {wf : Nat → Int64} {bf : Nat → Int32} {h : HS} (hR : HsR k z wf bf h) : z < 128 := by have := hR.2.1; have := hR.2.2.1; have := bs_le k; omega
theorem HsR.zb {k z : Nat} {wf : Nat → Int64} {bf : Nat → Int32} {h : HS} (hR : HsR k z wf bf h) : z < bs k := by have := hR.2.1; have := hR.2.2.1; omega
theorem HsR.z31 {k z : Nat} {wf : Nat → Int64} {bf : Nat → Int32} {h : HS} (hR : HsR k z wf bf h) : z < 2 ^ 31 := Nat.lt_trans hR.z128 (by decide)
theorem RowR.z31 {n z : Nat} {f : Nat → Int32} {q : List Nat} (h : RowR n f z q) : z < 2 ^ 31 := Nat.lt_of_le_of_lt h.2.1 h.2.2.1
theorem fit_i2b (x : Int32) : fits .byte (.int (i2b x)) = true := pk_fb x
theorem getD_snoc (l : List Nat) (x : Nat) : (l ++ [x]).getD l.length 0 = x := by simp
theorem getD_app {l : List Nat} {j : Nat} (x : Nat) (h : j < l.length) : (l ++ [x]).getD j 0 = l.getD j 0 := by
  rw [List.getD_eq_getElem?_getD, List.getD_eq_getElem?_getD, List.getElem?_append_left h]
theorem blk_snoc {k z : Nat} {wf : Nat → Int64} {bf bf' : Nat → Int32} {h : HS} {x v : Int32} (hR : HsR k z wf bf h) (e : bf' = upd bf z (vp_nar .byte v)) (ev : v = i2b x) : (∀ c ∈ h.2 ++ [o8 x], c < 256) ∧ sb_Fit bf' ∧ ∀ j, j < z + 1 → bf' j = i2b (nI ((h.2 ++ [o8 x]).getD j 0)) := by
  obtain ⟨h1, h2, h3, h4, h5, h6, h7⟩ := hR
  refine ⟨fun c hc => ?_, ?_, fun j hj => ?_⟩
  · rcases List.mem_append.mp hc with g | g
    · exact h4 c g
    · rw [List.mem_singleton.mp g]; exact o8_lt x
  · rw [e, ev, nar_i2b]; exact sb_fitU h6 (fit_i2b x)
  · rcases Nat.lt_or_ge j z with c | c
    · rw [e, pk_un (by omega), h7 j c, getD_app _ (by omega)]
    · have : j = h.2.length := by omega
      rw [e, h2, this, pk_us, ev, nar_i2b, getD_snoc, i2b_o8]
theorem plcA {k z : Nat} {wf : Nat → Int64} {bf bf' : Nat → Int32} {h : HS} {x v : Int32} (hR : HsR k z wf bf h) (hg : z + 1 < bs k) (e : bf' = upd bf z (vp_nar .byte v)) (ev : v = i2b x) : HsR k (z + 1) wf bf' (plc k h (o8 x)) := by
  obtain ⟨a1, a2, a3⟩ := blk_snoc hR e ev
  have hz := hR.2.1
  unfold plc
  rw [if_pos (by omega)]
  exact ⟨hR.1, by simp [hz], by simp only [List.length_append, List.length_singleton]; omega, a1, hR.2.2.2.2.1, a2, a3⟩
theorem oB_oL {z : Nat} {bf : Nat → Int32} {l : List Nat} (h4 : ∀ c ∈ l, c < 256) (h : ∀ j, j < z → bf j = i2b (nI (l.getD j 0))) : ∀ j, j < z → oB bf j = oL l j := by
  intro j hj
  unfold oB oL
  rw [h j hj, i2b_and, o8_nI (getD_lt h4 j)]
theorem plcN {k z : Nat} {wf wf' : Nat → Int64} {bf bf' nf' : Nat → Int32} {h : HS} {x v : Int32} (hR : HsR k z wf bf h) (hg : bs k ≤ z + 1) (hk : k < 2) (hw1 : ∀ t, t < 64 → nf' t = sN (oB bf') t) (hw2 : ∀ j, j < 8 → wf' j = mxN wf nf' j) (e : bf' = upd bf z (vp_nar .byte v)) (ev : v = i2b x) : HsR k 0 wf' bf' (plc k h (o8 x)) := by
  obtain ⟨a1, a2, a3⟩ := blk_snoc hR e ev
  have hz := hR.2.1
  have h64 : bs k = 64 := by unfold bs; rw [if_pos hk]
  have h3 := hR.2.2.1
  unfold plc
  rw [if_neg (by omega)]
  refine ⟨hR.1, rfl, bs_pos k, fun _ h => absurd h List.not_mem_nil, fun j hj => ?_, a2, fun _ h => absurd h (Nat.not_lt_zero _)⟩
  show wf' j = cmpr k h.1 (h.2 ++ [o8 x]) j
  unfold cmpr
  rw [if_pos hk, hw2 j hj]
  exact mxN_congr hR.2.2.2.2.1 (fun t ht => by rw [hw1 t ht]; exact sN_congr (fun i hi => oB_oL a1 a3 i (by omega)) t) j
theorem plcW {k z : Nat} {wf wf' df' : Nat → Int64} {bf bf' : Nat → Int32} {h : HS} {x v : Int32} (hR : HsR k z wf bf h) (hg : bs k ≤ z + 1) (hk : ¬ k < 2) (hw1 : ∀ t, t < 80 → df' t = sW (oB bf') t) (hw2 : ∀ j, j < 8 → wf' j = mxW wf df' j) (e : bf' = upd bf z (vp_nar .byte v)) (ev : v = i2b x) : HsR k 0 wf' bf' (plc k h (o8 x)) := by
  obtain ⟨a1, a2, a3⟩ := blk_snoc hR e ev
  have hz := hR.2.1
  have h64 : bs k = 128 := by unfold bs; rw [if_neg hk]
  have h3 := hR.2.2.1
  unfold plc
  rw [if_neg (by omega)]
  refine ⟨hR.1, rfl, bs_pos k, fun _ h => absurd h List.not_mem_nil, fun j hj => ?_, a2, fun _ h => absurd h (Nat.not_lt_zero _)⟩
  show wf' j = cmpr k h.1 (h.2 ++ [o8 x]) j
  unfold cmpr
  rw [if_neg hk, hw2 j hj]
  exact mxW_congr hR.2.2.2.2.1 (fun t ht => by rw [hw1 t ht]; exact sW_congr (fun i hi => oB_oL a1 a3 i (by omega)) t) j
theorem plcs_snoc {n z : Nat} {f : Nat → Int32} {q : List Nat} (hQ : RowR n f z q) {k i z' : Nat} {wf' : Nat → Int64} {bf' : Nat → Int32} {h : HS} (hi : i < z) (hw : HsR k z' wf' bf' (plc k (plcs k h (q.take i)) (o8 (rowAtZ q (nI i))))) : HsR k z' wf' bf' (plcs k h (q.take (i + 1))) := by
  have hl := hQ.1
  have h31 := hQ.z31
  rw [o8_rowAtZ (by omega) (by omega) hQ.2.2.2.1] at hw
  rw [take_snoc q (by omega)]
  unfold plcs at hw ⊢
  rw [List.foldl_append]
  exact hw
def octW (k : Nat) (w : Nat → Int64) (i : Nat) : Int32 := if k < 2 then Int64.toInt32 (ushL (w (i / 4)) (nI (24 - 8 * (i % 4)))) else Int64.toInt32 (ushL (w (i / 8)) (nI (56 - 8 * (i % 8))))
def dgO (k : Nat) (w : Nat → Int64) : List Nat := (List.range (ds k)).map (fun i => o8 (octW k w i))
theorem dgO_len (k : Nat) (w : Nat → Int64) : (dgO k w).length = ds k := by simp [dgO]
theorem dgO_snoc {k n i y y' : Nat} {w : Nat → Int64} {g g' : Nat → Int32} (hi : i < ds k) (hR : RowR n g y ((dgO k w).take i)) (hn : 64 ≤ n) (hw : RowR n g' y' (if y < n then (dgO k w).take i ++ [o8 (octW k w i)] else (dgO k w).take i)) : RowR n g' y' ((dgO k w).take (i + 1)) := by
  have hy := hR.1
  have hd := ds_le k
  rw [List.length_take, dgO_len, Nat.min_eq_left (by omega)] at hy
  rw [if_pos (by omega)] at hw
  rw [take_snoc _ (by rw [dgO_len]; exact hi)]
  have e : (dgO k w).getD i 0 = o8 (octW k w i) := by
    unfold dgO
    rw [List.getD_eq_getElem?_getD, List.getElem?_map, List.getElem?_range hi]
    rfl
  rw [e]
  exact hw
theorem ds_lt2 {k : Nat} (h : k < 2) : ds k ≤ 32 := by unfold ds; rcases (show k = 0 ∨ k = 1 by omega) with rfl | rfl <;> decide
theorem sh_3 {i : Nat} (h : i < 64) : nI i >>> ((3 : Int32) &&& 31) = nI (i / 8) := (by decide : ∀ i : Fin 64, nI i.val >>> ((3 : Int32) &&& 31) = nI (i.val / 8)) ⟨i, h⟩
theorem sh_2 {i : Nat} (h : i < 64) : nI i >>> ((2 : Int32) &&& 31) = nI (i / 4) := (by decide : ∀ i : Fin 64, nI i.val >>> ((2 : Int32) &&& 31) = nI (i.val / 4)) ⟨i, h⟩
theorem an_7 {i : Nat} (h : i < 64) : nI i &&& 7 = nI (i % 8) := (by decide : ∀ i : Fin 64, nI i.val &&& 7 = nI (i.val % 8)) ⟨i, h⟩
theorem an_3 {i : Nat} (h : i < 64) : nI i &&& 3 = nI (i % 4) := (by decide : ∀ i : Fin 64, nI i.val &&& 3 = nI (i.val % 4)) ⟨i, h⟩
/-- padding -/
def rmK (k : Nat) : Nat := if k < 2 then 8 else 16
def zc (k z : Nat) : Nat := (bs k + bs k - rmK k - z) % bs k
def lenB (b : Int64) : List Nat := (List.range 8).map (fun j => o8 (Int64.toInt32 (ushL b (nI (56 - 8 * j)))))
def padL (k z : Nat) (t : Int64) : List Nat := 128 :: (List.replicate (zc k (if z + 1 < bs k then z + 1 else 0) + rmK k - 8) 0 ++ lenB (t * 8))
theorem rm_ge (k : Nat) : 8 ≤ rmK k := by unfold rmK; split <;> decide
theorem rm_le (k : Nat) : rmK k ≤ 16 := by unfold rmK; split <;> decide
theorem zc_31 (k z : Nat) : zc k z + rmK k - 8 < 2 ^ 31 := by
  have h : zc k z < bs k := Nat.mod_lt _ (bs_pos k)
  have := bs_le k
  have := rm_le k
  omega
theorem zc_I {k z : Nat} (hk : k < 4) (hz : z < bs k) : (nI (bs k) - nI (rmK k) - nI z) &&& (nI (bs k) - 1) = nI (zc k z) :=
  (by decide +kernel : ∀ k : Fin 4, ∀ z : Fin 128, z.val < bs k.val → (nI (bs k.val) - nI (rmK k.val) - nI z.val) &&& (nI (bs k.val) - 1) = nI (zc k.val z.val)) ⟨k, hk⟩ ⟨z, Nat.lt_of_lt_of_le hz (bs_le k)⟩ hz
theorem sh_lt {j : Nat} (h : j ≤ 8) (c : nI 56 - nI (8 * j) < 0) : j = 8 := by
  have : ∀ j : Fin 9, nI 56 - nI (8 * j.val) < 0 → j.val = 8 := by decide
  exact this ⟨j, by omega⟩ c
theorem sh_ge {j : Nat} (h : j ≤ 8) (c : ¬ nI 56 - nI (8 * j) < 0) : j < 8 := by
  have : ∀ j : Fin 9, ¬ nI 56 - nI (8 * j.val) < 0 → j.val < 8 := by decide
  exact this ⟨j, by omega⟩ c
theorem sh_inc {j : Nat} (h : j < 8) : nI 56 - nI (8 * j) + Int32.ofInt (-8) = nI 56 - nI (8 * (j + 1)) := (by decide : ∀ j : Fin 8, nI 56 - nI (8 * j.val) + Int32.ofInt (-8) = nI 56 - nI (8 * (j.val + 1))) ⟨j, h⟩
theorem sh_eq {j : Nat} (h : j < 8) : nI 56 - nI (8 * j) = nI (56 - 8 * j) := pk_sub (by omega)
theorem plcs_rep {k i z' : Nat} {wf' : Nat → Int64} {bf' : Nat → Int32} {h : HS} (hw : HsR k z' wf' bf' (plc k (plcs k h (List.replicate i 0)) (o8 0))) : HsR k z' wf' bf' (plcs k h (List.replicate (i + 1) 0)) := by
  rw [List.replicate_succ', plcs, List.foldl_append]
  exact hw
theorem lenB_len (b : Int64) : (lenB b).length = 8 := by simp [lenB]
theorem lenB_snoc {k j z' : Nat} {wf' : Nat → Int64} {bf' : Nat → Int32} {h : HS} {b : Int64} (hj : j < 8) (hw : HsR k z' wf' bf' (plc k (plcs k h ((lenB b).take j)) (o8 (Int64.toInt32 (ushL b (nI 56 - nI (8 * j))))))) : HsR k z' wf' bf' (plcs k h ((lenB b).take (j + 1))) := by
  rw [take_snoc _ (by rw [lenB_len]; exact hj)]
  have e : (lenB b).getD j 0 = o8 (Int64.toInt32 (ushL b (nI (56 - 8 * j)))) := by
    unfold lenB
    rw [List.getD_eq_getElem?_getD, List.getElem?_map, List.getElem?_range hj]
    rfl
  rw [sh_eq hj] at hw
  rw [e, plcs, List.foldl_append]
  exact hw
theorem plc_len (k : Nat) (h : HS) (c : Nat) : (plc k h c).2.length = if h.2.length + 1 < bs k then h.2.length + 1 else 0 := by
  unfold plc
  split <;> simp
theorem padE {k z Z1 j z' : Nat} {wf wf' w0 : Nat → Int64} {bf bf' b0 : Nat → Int32} {h : HS} {t : Int64} (hR : HsR k z wf bf h) (hw0 : HsR k Z1 w0 b0 (plc k h (o8 128))) (hg : j = 8) (hI : HsR k z' wf' bf' (plcs k (plcs k (plc k h (o8 128)) (List.replicate (zc k Z1 + rmK k - 8) 0)) ((lenB (t * 8)).take j))) : HsR k z' wf' bf' (plcs k h (padL k z t)) := by
  have e1 : Z1 = if z + 1 < bs k then z + 1 else 0 := by rw [hw0.2.1, plc_len, ← hR.2.1]
  rw [hg, List.take_of_length_le (Nat.le_of_eq (lenB_len _))] at hI
  have e2 : plcs k h (padL k z t) = plcs k (plcs k (plc k h (o8 128)) (List.replicate (zc k Z1 + rmK k - 8) 0)) (lenB (t * 8)) := by
    unfold padL plcs
    rw [List.foldl_cons, List.foldl_append, e1]
    rfl
  rw [e2]
  exact hI
set_option maxHeartbeats 4000000 in
set_option maxRecDepth 100000 in
theorem c_X0_firstWord (l : Launch) (G : GW) (sz : Nat) (k : Nat) (j : Nat) (hk : k < 4) (hj : j < 8) : Met l yX0_firstWord (Cond.code yX0_firstWord cX0_firstWord 2 (some FieldType.long) :: UW) ({ frames := 0, cells := 0, slots := 0, locals := 0 } : Room) (va_Pc [.int (nI k), .int (nI j)] (gPre G [] sz)) (va_Ql (fun (r : Int64) (_ : Unit) => r = fstW k j) (fun u => gPost G (va_A [] sz) ((fun (_ : Unit) => ([] : va_W)) u)) (va_A [] sz)) 0 0 (va_A [] sz) := by
  refine gM_of (Qf := fun A => va_Ql (fun (r : Int64) (_ : Unit) => r = fstW k j) (fun u => gPost G A ((fun (_ : Unit) => ([] : va_W)) u)) A) (by decide) (Nat.le_of_ble_eq_true rfl) ?_
  intro p e s m below meth c A ls hx hb hml hr hown htu hlk hnm hA hP hD hS hK hZ hl
  have hown : s.vm.findClass RX0 = some m.cls := hown
  have hl : lv_has ls 2 [(0, .int (nI k)), (1, .int (nI j))] := hl
  refine lv_iload_n hx hb dX0_firstWord_0 rfl (lv_at hl 1 rfl) ?_
  refine lv_if_lt (tgt := 10) hx hb dX0_firstWord_1 (by decide) (fun c_1 => absurd c_1 (nI_pos (by omega))) (fun _ => ?_)
  refine lv_iload_n hx hb dX0_firstWord_4 rfl (lv_at hl 1 rfl) ?_
  refine lv_bipush (v := 8) hx hb dX0_firstWord_5 (by decide) ?_
  refine lv_icmp_lt (tgt := 12) hx hb dX0_firstWord_7 (by decide) (fun _ => ?_) (fun c_7 => absurd (nI_lt (b := 8) hj (by decide)) c_7)
  refine lv_iload_n hx hb dX0_firstWord_12 rfl (lv_at hl 0 rfl) ?_
  rcases (show k = 0 ∨ k = 1 ∨ k = 2 ∨ k = 3 by omega) with rfl | rfl | rfl | rfl
  · skip
    refine lv_tableIn (tgt := 40) (off := 27) hx hb dX0_firstWord_13 (by decide) (by decide) rfl (by decide) ?_
    refine va_getsN hx hb hZ.2.2.1.1 hS hown (va_Nw.use rfl (hK.2.1 _ nF_X0_41)) (fun _ h9 => h9) dX0_firstWord_40 ?_
    refine lv_iload_n hx hb dX0_firstWord_43 rfl (lv_at hl 1 rfl) ?_
    refine g_tl hx hb hZ.2.2.1.2 hS ⟨hj, by decide⟩ dX0_firstWord_44 ?_
    refine lv_ldc2 hx hb hown (htu _ uL_X0_44) dX0_firstWord_45 ?_
    refine lv_land hx hb dX0_firstWord_48 ?_
    exact gret_l hx hb hr hlk dX0_firstWord_49 hS () (hP.sub [] rfl) (hD.sub [] (by decide) rfl) (rfl)
  · skip
    refine lv_tableIn (tgt := 50) (off := 37) hx hb dX0_firstWord_13 (by decide) (by decide) rfl (by decide) ?_
    refine va_getsN hx hb hZ.2.1.1 hS hown (va_Nw.use rfl (hK.2.1 _ nF_X0_46)) (fun _ h9 => h9) dX0_firstWord_50 ?_
    refine lv_iload_n hx hb dX0_firstWord_53 rfl (lv_at hl 1 rfl) ?_
    refine g_tl hx hb hZ.2.1.2 hS ⟨hj, by decide⟩ dX0_firstWord_54 ?_
    refine lv_bipush (v := 32) hx hb dX0_firstWord_55 (by decide) ?_
    refine lv_lushr (v := ushL (sqA j) 32) hx hb dX0_firstWord_57 rfl ?_
    exact gret_l hx hb hr hlk dX0_firstWord_58 hS () (hP.sub [] rfl) (hD.sub [] (by decide) rfl) (rfl)
  · skip
    refine lv_tableIn (tgt := 59) (off := 46) hx hb dX0_firstWord_13 (by decide) (by decide) rfl (by decide) ?_
    refine va_getsN hx hb hZ.2.2.1.1 hS hown (va_Nw.use rfl (hK.2.1 _ nF_X0_41)) (fun _ h9 => h9) dX0_firstWord_59 ?_
    refine lv_iload_n hx hb dX0_firstWord_62 rfl (lv_at hl 1 rfl) ?_
    refine g_tl hx hb hZ.2.2.1.2 hS ⟨hj, by decide⟩ dX0_firstWord_63 ?_
    exact gret_l hx hb hr hlk dX0_firstWord_64 hS () (hP.sub [] rfl) (hD.sub [] (by decide) rfl) (rfl)
  · skip
    refine lv_tableOut (tgt := 65) hx hb dX0_firstWord_13 (by decide) (by decide) ?_
    refine va_getsN hx hb hZ.2.1.1 hS hown (va_Nw.use rfl (hK.2.1 _ nF_X0_46)) (fun _ h9 => h9) dX0_firstWord_65 ?_
    refine lv_iload_n hx hb dX0_firstWord_68 rfl (lv_at hl 1 rfl) ?_
    refine g_tl hx hb hZ.2.1.2 hS ⟨hj, by decide⟩ dX0_firstWord_69 ?_
    exact gret_l hx hb hr hlk dX0_firstWord_70 hS () (hP.sub [] rfl) (hD.sub [] (by decide) rfl) (rfl)
set_option maxHeartbeats 4000000 in
set_option maxRecDepth 100000 in
theorem c_X0_start (l : Launch) (G : GW) (sz : Nat) (a0 : Nat) (a1 : Nat) (a2 : Nat) (a3 : Nat) (a4 : Nat) (k : Nat) (k0 : Int32) (z0 : Int32) (t0 : Int64) (wf : Nat → Int64) (hk : k < 4) : Met l yX0_start (Cond.code yX0_start cX0_start 3 (none : Option FieldType) :: UW) ({ frames := 1, cells := 0, slots := 0, locals := 21 } : Room) (va_Pc [.ref a0, .int (nI k)] (gPre G [(a0, .inr (0, [.ref a1, .ref a2, .ref a3, .ref a4, .int k0, .int z0, .long t0])), (a1, .inl (G.2.1 2, 8, .inr (.inl wf)))] sz)) (va_Qv (fun (wf' : Nat → Int64) => ∀ j, j < 8 → wf' j = fstW k j) (fun u => gPost G (va_A [(a0, .inr (0, [.ref a1, .ref a2, .ref a3, .ref a4, .int k0, .int z0, .long t0])), (a1, .inl (G.2.1 2, 8, .inr (.inl wf)))] sz) ((fun (wf' : Nat → Int64) => ([(a0, .inr (0, [.ref a1, .ref a2, .ref a3, .ref a4, .int (nI k), .int (nI 0), .long (lN 0)])), (a1, .inl (G.2.1 2, 8, .inr (.inl wf')))] : va_W)) u)) (va_A [(a0, .inr (0, [.ref a1, .ref a2, .ref a3, .ref a4, .int k0, .int z0, .long t0])), (a1, .inl (G.2.1 2, 8, .inr (.inl wf)))] sz)) 0 0 (va_A [(a0, .inr (0, [.ref a1, .ref a2, .ref a3, .ref a4, .int k0, .int z0, .long t0])), (a1, .inl (G.2.1 2, 8, .inr (.inl wf)))] sz) := by
  refine gM_of (Qf := fun A => va_Qv (fun (wf' : Nat → Int64) => ∀ j, j < 8 → wf' j = fstW k j) (fun u => gPost G A ((fun (wf' : Nat → Int64) => ([(a0, .inr (0, [.ref a1, .ref a2, .ref a3, .ref a4, .int (nI k), .int (nI 0), .long (lN 0)])), (a1, .inl (G.2.1 2, 8, .inr (.inl wf')))] : va_W)) u)) A) (by decide) (Nat.le_of_ble_eq_true rfl) ?_
  intro p e s m below meth c A ls hx hb hml hr hown htu hlk hnm hA hP hD hS hK hZ hl
  have hown : s.vm.findClass RX0 = some m.cls := hown
  have hl : lv_has ls 3 [(0, .ref a0), (1, .int (nI k))] := hl
  refine lv_aload_n hx hb dX0_start_0 rfl (lv_at hl 0 rfl) ?_
  refine lv_iload_n hx hb dX0_start_1 rfl (lv_at hl 1 rfl) ?_
  refine va_put (D := G.1) (ci := 0) (v := .int (nI k)) (ty := .int) (C := RX0) (T := TX0) (N := 7) hx hb htu iwX0 tyX0 tyX0_ok nmX0 hown hK.1 hP hD hS 0 rfl rfl 4 (by decide) (htu _ uF_X0_26) (fun _ h9 => h9) rfl (by decide +kernel) rfl rfl (Nat.le_of_ble_eq_true rfl) dX0_start_2 (fun H locs hP hD hS => ?_)
  have hP : va_P G.1 vwCl [(a0, .inr (0, [.ref a1, .ref a2, .ref a3, .ref a4, .int (nI k), .int z0, .long t0])), (a1, .inl (G.2.1 2, 8, .inr (.inl wf)))] H := hP
  have hD : va_D A [(a0, .inr (0, [.ref a1, .ref a2, .ref a3, .ref a4, .int (nI k), .int z0, .long t0])), (a1, .inl (G.2.1 2, 8, .inr (.inl wf)))] := hD
  refine lv_aload_n hx hb dX0_start_5 rfl (lv_at hl 0 rfl) ?_
  refine lv_iconst (v := 0) hx hb dX0_start_6 (by decide) ?_
  refine g_toi (y := nI 0) (rfl) ?_
  refine va_put (D := G.1) (ci := 0) (v := .int (nI 0)) (ty := .int) (C := RX0) (T := TX0) (N := 7) hx hb htu iwX0 tyX0 tyX0_ok nmX0 hown hK.1 hP hD hS 0 rfl rfl 5 (by decide) (htu _ uF_X0_30) (fun _ h9 => h9) rfl (by decide +kernel) rfl rfl (Nat.le_of_ble_eq_true rfl) dX0_start_7 (fun H locs hP hD hS => ?_)
  have hP : va_P G.1 vwCl [(a0, .inr (0, [.ref a1, .ref a2, .ref a3, .ref a4, .int (nI k), .int (nI 0), .long t0])), (a1, .inl (G.2.1 2, 8, .inr (.inl wf)))] H := hP
  have hD : va_D A [(a0, .inr (0, [.ref a1, .ref a2, .ref a3, .ref a4, .int (nI k), .int (nI 0), .long t0])), (a1, .inl (G.2.1 2, 8, .inr (.inl wf)))] := hD
  refine lv_aload_n hx hb dX0_start_10 rfl (lv_at hl 0 rfl) ?_
  refine lv_lconst (v := 0) hx hb dX0_start_11 (by decide) ?_
  refine g_tol (y := lN 0) (rfl) ?_
  refine va_put (D := G.1) (ci := 0) (v := .long (lN 0)) (ty := .long) (C := RX0) (T := TX0) (N := 7) hx hb htu iwX0 tyX0 tyX0_ok nmX0 hown hK.1 hP hD hS 0 rfl rfl 6 (by decide) (htu _ uF_X0_33) (fun _ h9 => h9) rfl (by decide +kernel) rfl rfl (Nat.le_of_ble_eq_true rfl) dX0_start_12 (fun H locs hP hD hS => ?_)
  have hP : va_P G.1 vwCl [(a0, .inr (0, [.ref a1, .ref a2, .ref a3, .ref a4, .int (nI k), .int (nI 0), .long (lN 0)])), (a1, .inl (G.2.1 2, 8, .inr (.inl wf)))] H := hP
  have hD : va_D A [(a0, .inr (0, [.ref a1, .ref a2, .ref a3, .ref a4, .int (nI k), .int (nI 0), .long (lN 0)])), (a1, .inl (G.2.1 2, 8, .inr (.inl wf)))] := hD
  refine lv_iconst (v := 0) hx hb dX0_start_15 (by decide) ?_
  refine lv_istore_n (lv' := [(2, .int 0), (0, .ref a0), (1, .int (nI k))]) hx hb dX0_start_16 rfl hl (by decide) rfl (fun ls hl => ?_)
  refine g_loop (σ := Nat × (Nat → Int64)) (G := G) (fun xq9 : Nat × (Nat → Int64) => [(a0, .inr (0, [.ref a1, .ref a2, .ref a3, .ref a4, .int (nI k), .int (nI 0), .long (lN 0)])), (a1, .inl (G.2.1 2, 8, .inr (.inl xq9.2)))]) (fun xq9 : Nat × (Nat → Int64) => [(0, .ref a0), (1, .int (nI k)), (2, .int (nI xq9.1))]) (fun xq9 : Nat × (Nat → Int64) => xq9.1 ≤ 8 ∧ ∀ i, i < xq9.1 → xq9.2 i = fstW k i) (fun xq9 : Nat × (Nat → Int64) => 8 - xq9.1) ?_ (0, wf) (show 0 ≤ 8 ∧ ∀ i, i < 0 → wf i = fstW k i from ⟨Nat.zero_le _, fun _ h => absurd h (Nat.not_lt_zero _)⟩) (hP.sub [0, 1] rfl) (hD.sub [0, 1] (by decide) rfl) hS (lv_sub hl [1, 2, 0] rfl)
  clear hP hD hS hl
  intro x hxI_17 ih_17 H locs ls hP hD hS hl
  obtain ⟨j, g⟩ := x
  have hI : j ≤ 8 ∧ ∀ i, i < j → g i = fstW k i := hxI_17
  have hP : va_P G.1 vwCl [(a0, .inr (0, [.ref a1, .ref a2, .ref a3, .ref a4, .int (nI k), .int (nI 0), .long (lN 0)])), (a1, .inl (G.2.1 2, 8, .inr (.inl g)))] H := hP
  have hD : va_D A [(a0, .inr (0, [.ref a1, .ref a2, .ref a3, .ref a4, .int (nI k), .int (nI 0), .long (lN 0)])), (a1, .inl (G.2.1 2, 8, .inr (.inl g)))] := hD
  have hl : lv_has ls 3 [(0, .ref a0), (1, .int (nI k)), (2, .int (nI j))] := hl
  refine lv_iload_n hx hb dX0_start_17 rfl (lv_at hl 2 rfl) ?_
  refine lv_bipush (v := 8) hx hb dX0_start_18 (by decide) ?_
  refine lv_icmp_ge (tgt := 40) hx hb dX0_start_20 (by decide) (fun c_20 => ?_) (fun c_20 => ?_)
  · skip
    have hg : 8 ≤ j := ge_t (n := 8) c_20 (by decide)
    exact gret_v hx hb hr hlk dX0_start_40 hS g (hP.sub [0, 1] rfl) (hD.sub [0, 1] (by decide) rfl) (show ∀ j, j < 8 → g j = fstW k j from fun j hj => hI.2 j (by omega))
  · skip
    have hg : j < 8 := ge_f (n := 8) c_20 (by omega)
    refine lv_aload_n hx hb dX0_start_23 rfl (lv_at hl 0 rfl) ?_
    refine va_get (D := G.1) (ci := 0) (v := .ref a1) (C := RX0) (T := TX0) (N := 7) hx hb htu iwX0 hown hK.1 hP 0 rfl rfl 0 (by decide) (htu _ uF_X0_9) (fun _ h9 => h9) rfl dX0_start_24 ?_
    refine lv_iload_n hx hb dX0_start_27 rfl (lv_at hl 2 rfl) ?_
    refine lv_iload_n hx hb dX0_start_28 rfl (lv_at hl 1 rfl) ?_
    refine lv_iload_n hx hb dX0_start_29 rfl (lv_at hl 2 rfl) ?_
    refine g_calll (g_runS (As := [.int (nI k), .int (nI j)]) (rest := [.int (nI j), .ref a1]) ⟨hx, hb, hml, hown, htu⟩ (c_X0_firstWord l G _ k j hk hg) uM_X0_37 ok_X0_firstWord uA_X0_firstWord rfl rfl ⟨Nat.le_of_ble_eq_true rfl, Nat.le_of_ble_eq_true rfl⟩ hK hP hD hS hA hZ [] rfl rfl rfl hl.1 rfl (Nat.le_of_ble_eq_true rfl) dX0_start_30 ⟨Nat.le_of_ble_eq_true rfl, Nat.le_of_ble_eq_true rfl⟩) hP hD hS hA [] rfl (fun r_1 u H locs hw_2 hP hD hS => ?_)
    have hw_2 : r_1 = fstW k j := hw_2
    subst hw_2
    have hP : va_P G.1 vwCl [(a0, .inr (0, [.ref a1, .ref a2, .ref a3, .ref a4, .int (nI k), .int (nI 0), .long (lN 0)])), (a1, .inl (G.2.1 2, 8, .inr (.inl g)))] H := hP
    have hD : va_D A [(a0, .inr (0, [.ref a1, .ref a2, .ref a3, .ref a4, .int (nI k), .int (nI 0), .long (lN 0)])), (a1, .inl (G.2.1 2, 8, .inr (.inl g)))] := hD
    refine lv_topl (fun v_3 ev_3 => ?_)
    refine g_last hx hb hK.1 hP hD hS 1 2 rfl rfl ⟨hg, by decide⟩ dX0_start_33 (fun H locs hP hD hS => ?_)
    obtain ⟨g_4, eg_4⟩ : ∃ gq9 : Nat → Int64, gq9 = vp_updL g j v_3 := ⟨_, rfl⟩
    rw [← eg_4] at hP hD
    have hP : va_P G.1 vwCl [(a0, .inr (0, [.ref a1, .ref a2, .ref a3, .ref a4, .int (nI k), .int (nI 0), .long (lN 0)])), (a1, .inl (G.2.1 2, 8, .inr (.inl g_4)))] H := hP
    have hD : va_D A [(a0, .inr (0, [.ref a1, .ref a2, .ref a3, .ref a4, .int (nI k), .int (nI 0), .long (lN 0)])), (a1, .inl (G.2.1 2, 8, .inr (.inl g_4)))] := hD
    refine lv_iinc (v := nI (j + 1)) (lv' := [(2, .int (nI (j + 1))), (0, .ref a0), (1, .int (nI k))]) hx hb dX0_start_34 hl (k := 2) rfl (nI_1 j) (by decide) rfl (fun ls hl => ?_)
    refine lv_goto (tgt := 17) hx hb dX0_start_37 (by decide) ?_
    exact ih_17 (j + 1, g_4) (show (j + 1) ≤ 8 ∧ ∀ i, i < (j + 1) → g_4 i = fstW k i from ⟨hg, fun i hi => upL hI.2 eg_4 ev_3 i hi⟩) (by show 8 - (j + 1) < 8 - j; omega) _ _ _ (hP.sub [0, 1] rfl) (hD.sub [0, 1] (by decide) rfl) hS (lv_sub hl [1, 2, 0] rfl)
set_option maxHeartbeats 4000000 in
set_option maxRecDepth 100000 in
theorem c_X0_startBehindBlock (l : Launch) (G : GW) (sz : Nat) (a0 : Nat) (a1 : Nat) (a2 : Nat) (a3 : Nat) (a4 : Nat) (b0 : Nat) (k : Nat) (k0 : Int32) (z0 : Int32) (t0 : Int64) (wf : Nat → Int64) (sf : Nat → Int64) (hk : k < 4) : Met l yX0_startBehindBlock (Cond.code yX0_startBehindBlock cX0_startBehindBlock 4 (none : Option FieldType) :: UW) ({ frames := 2, cells := 0, slots := 0, locals := 40 } : Room) (va_Pc [.ref a0, .int (nI k), .ref b0] (gPre G [(a0, .inr (0, [.ref a1, .ref a2, .ref a3, .ref a4, .int k0, .int z0, .long t0])), (a1, .inl (G.2.1 2, 8, .inr (.inl wf))), (b0, .inl (G.2.1 2, 8, .inr (.inl sf)))] sz)) (va_Qv (fun (wf' : Nat → Int64) => ∀ j, j < 8 → wf' j = sf j) (fun u => gPost G (va_A [(a0, .inr (0, [.ref a1, .ref a2, .ref a3, .ref a4, .int k0, .int z0, .long t0])), (a1, .inl (G.2.1 2, 8, .inr (.inl wf))), (b0, .inl (G.2.1 2, 8, .inr (.inl sf)))] sz) ((fun (wf' : Nat → Int64) => ([(a0, .inr (0, [.ref a1, .ref a2, .ref a3, .ref a4, .int (nI k), .int (nI 0), .long (lN (bs k))])), (a1, .inl (G.2.1 2, 8, .inr (.inl wf'))), (b0, .inl (G.2.1 2, 8, .inr (.inl sf)))] : va_W)) u)) (va_A [(a0, .inr (0, [.ref a1, .ref a2, .ref a3, .ref a4, .int k0, .int z0, .long t0])), (a1, .inl (G.2.1 2, 8, .inr (.inl wf))), (b0, .inl (G.2.1 2, 8, .inr (.inl sf)))] sz)) 0 0 (va_A [(a0, .inr (0, [.ref a1, .ref a2, .ref a3, .ref a4, .int k0, .int z0, .long t0])), (a1, .inl (G.2.1 2, 8, .inr (.inl wf))), (b0, .inl (G.2.1 2, 8, .inr (.inl sf)))] sz) := by
  refine gM_of (Qf := fun A => va_Qv (fun (wf' : Nat → Int64) => ∀ j, j < 8 → wf' j = sf j) (fun u => gPost G A ((fun (wf' : Nat → Int64) => ([(a0, .inr (0, [.ref a1, .ref a2, .ref a3, .ref a4, .int (nI k), .int (nI 0), .long (lN (bs k))])), (a1, .inl (G.2.1 2, 8, .inr (.inl wf'))), (b0, .inl (G.2.1 2, 8, .inr (.inl sf)))] : va_W)) u)) A) (by decide) (Nat.le_of_ble_eq_true rfl) ?_
  intro p e s m below meth c A ls hx hb hml hr hown htu hlk hnm hA hP hD hS hK hZ hl
  have hown : s.vm.findClass RX0 = some m.cls := hown
  have hl : lv_has ls 4 [(0, .ref a0), (1, .int (nI k)), (2, .ref b0)] := hl
  refine lv_aload_n hx hb dX0_startBehindBlock_0 rfl (lv_at hl 0 rfl) ?_
  refine lv_iload_n hx hb dX0_startBehindBlock_1 rfl (lv_at hl 1 rfl) ?_
  refine va_put (D := G.1) (ci := 0) (v := .int (nI k)) (ty := .int) (C := RX0) (T := TX0) (N := 7) hx hb htu iwX0 tyX0 tyX0_ok nmX0 hown hK.1 hP hD hS 0 rfl rfl 4 (by decide) (htu _ uF_X0_26) (fun _ h9 => h9) rfl (by decide +kernel) rfl rfl (Nat.le_of_ble_eq_true rfl) dX0_startBehindBlock_2 (fun H locs hP hD hS => ?_)
  have hP : va_P G.1 vwCl [(a0, .inr (0, [.ref a1, .ref a2, .ref a3, .ref a4, .int (nI k), .int z0, .long t0])), (a1, .inl (G.2.1 2, 8, .inr (.inl wf))), (b0, .inl (G.2.1 2, 8, .inr (.inl sf)))] H := hP
  have hD : va_D A [(a0, .inr (0, [.ref a1, .ref a2, .ref a3, .ref a4, .int (nI k), .int z0, .long t0])), (a1, .inl (G.2.1 2, 8, .inr (.inl wf))), (b0, .inl (G.2.1 2, 8, .inr (.inl sf)))] := hD
  refine lv_aload_n hx hb dX0_startBehindBlock_5 rfl (lv_at hl 0 rfl) ?_
  refine lv_iconst (v := 0) hx hb dX0_startBehindBlock_6 (by decide) ?_
  refine g_toi (y := nI 0) (rfl) ?_
  refine va_put (D := G.1) (ci := 0) (v := .int (nI 0)) (ty := .int) (C := RX0) (T := TX0) (N := 7) hx hb htu iwX0 tyX0 tyX0_ok nmX0 hown hK.1 hP hD hS 0 rfl rfl 5 (by decide) (htu _ uF_X0_30) (fun _ h9 => h9) rfl (by decide +kernel) rfl rfl (Nat.le_of_ble_eq_true rfl) dX0_startBehindBlock_7 (fun H locs hP hD hS => ?_)
  have hP : va_P G.1 vwCl [(a0, .inr (0, [.ref a1, .ref a2, .ref a3, .ref a4, .int (nI k), .int (nI 0), .long t0])), (a1, .inl (G.2.1 2, 8, .inr (.inl wf))), (b0, .inl (G.2.1 2, 8, .inr (.inl sf)))] H := hP
  have hD : va_D A [(a0, .inr (0, [.ref a1, .ref a2, .ref a3, .ref a4, .int (nI k), .int (nI 0), .long t0])), (a1, .inl (G.2.1 2, 8, .inr (.inl wf))), (b0, .inl (G.2.1 2, 8, .inr (.inl sf)))] := hD
  refine lv_aload_n hx hb dX0_startBehindBlock_10 rfl (lv_at hl 0 rfl) ?_
  refine lv_iload_n hx hb dX0_startBehindBlock_11 rfl (lv_at hl 1 rfl) ?_
  refine g_calli (g_runSN (As := [.int (nI k)]) (rest := [.ref a0]) ⟨hx, hb, hml, hown, htu⟩ (c_X3_blockSize l G _ (nI k) ) nM_X0_49 ok_X3_blockSize uA_X3_blockSize rfl rfl ⟨Nat.le_of_ble_eq_true rfl, Nat.le_of_ble_eq_true rfl⟩ hK hP hD hS hA hZ [] rfl rfl rfl hl.1 rfl (Nat.le_of_ble_eq_true rfl) dX0_startBehindBlock_12 ⟨Nat.le_of_ble_eq_true rfl, Nat.le_of_ble_eq_true rfl⟩) hP hD hS hA [] rfl (fun r_1 u H locs hw_2 hP hD hS => ?_)
  have hw_2 : r_1 = bsI (nI k) := hw_2
  subst hw_2
  have hP : va_P G.1 vwCl [(a0, .inr (0, [.ref a1, .ref a2, .ref a3, .ref a4, .int (nI k), .int (nI 0), .long t0])), (a1, .inl (G.2.1 2, 8, .inr (.inl wf))), (b0, .inl (G.2.1 2, 8, .inr (.inl sf)))] H := hP
  have hD : va_D A [(a0, .inr (0, [.ref a1, .ref a2, .ref a3, .ref a4, .int (nI k), .int (nI 0), .long t0])), (a1, .inl (G.2.1 2, 8, .inr (.inl wf))), (b0, .inl (G.2.1 2, 8, .inr (.inl sf)))] := hD
  refine g_toi (y := nI (bs k)) (bsI_nI hk) ?_
  refine lv_i2l (v := Int32.toInt64 (nI (bs k))) hx hb dX0_startBehindBlock_15 rfl ?_
  refine g_tol (y := lN (bs k)) (nI_l (Nat.lt_of_le_of_lt (bs_le k) (by decide))) ?_
  refine va_put (D := G.1) (ci := 0) (v := .long (lN (bs k))) (ty := .long) (C := RX0) (T := TX0) (N := 7) hx hb htu iwX0 tyX0 tyX0_ok nmX0 hown hK.1 hP hD hS 0 rfl rfl 6 (by decide) (htu _ uF_X0_33) (fun _ h9 => h9) rfl (by decide +kernel) rfl rfl (Nat.le_of_ble_eq_true rfl) dX0_startBehindBlock_16 (fun H locs hP hD hS => ?_)
  have hP : va_P G.1 vwCl [(a0, .inr (0, [.ref a1, .ref a2, .ref a3, .ref a4, .int (nI k), .int (nI 0), .long (lN (bs k))])), (a1, .inl (G.2.1 2, 8, .inr (.inl wf))), (b0, .inl (G.2.1 2, 8, .inr (.inl sf)))] H := hP
  have hD : va_D A [(a0, .inr (0, [.ref a1, .ref a2, .ref a3, .ref a4, .int (nI k), .int (nI 0), .long (lN (bs k))])), (a1, .inl (G.2.1 2, 8, .inr (.inl wf))), (b0, .inl (G.2.1 2, 8, .inr (.inl sf)))] := hD
  refine lv_iconst (v := 0) hx hb dX0_startBehindBlock_19 (by decide) ?_
  refine lv_istore_n (lv' := [(3, .int 0), (0, .ref a0), (1, .int (nI k)), (2, .ref b0)]) hx hb dX0_startBehindBlock_20 rfl hl (by decide) rfl (fun ls hl => ?_)
  refine g_loop (σ := Nat × (Nat → Int64)) (G := G) (fun xq9 : Nat × (Nat → Int64) => [(a0, .inr (0, [.ref a1, .ref a2, .ref a3, .ref a4, .int (nI k), .int (nI 0), .long (lN (bs k))])), (a1, .inl (G.2.1 2, 8, .inr (.inl xq9.2))), (b0, .inl (G.2.1 2, 8, .inr (.inl sf)))]) (fun xq9 : Nat × (Nat → Int64) => [(0, .ref a0), (1, .int (nI k)), (2, .ref b0), (3, .int (nI xq9.1))]) (fun xq9 : Nat × (Nat → Int64) => xq9.1 ≤ 8 ∧ ∀ i, i < xq9.1 → xq9.2 i = sf i) (fun xq9 : Nat × (Nat → Int64) => 8 - xq9.1) ?_ (0, wf) (show 0 ≤ 8 ∧ ∀ i, i < 0 → wf i = sf i from ⟨Nat.zero_le _, fun _ h => absurd h (Nat.not_lt_zero _)⟩) (hP.sub [0, 1, 2] rfl) (hD.sub [0, 1, 2] (by decide) rfl) hS (lv_sub hl [1, 2, 3, 0] rfl)
  clear hP hD hS hl
  intro x hxI_21 ih_21 H locs ls hP hD hS hl
  obtain ⟨j, g⟩ := x
  have hI : j ≤ 8 ∧ ∀ i, i < j → g i = sf i := hxI_21
  have hP : va_P G.1 vwCl [(a0, .inr (0, [.ref a1, .ref a2, .ref a3, .ref a4, .int (nI k), .int (nI 0), .long (lN (bs k))])), (a1, .inl (G.2.1 2, 8, .inr (.inl g))), (b0, .inl (G.2.1 2, 8, .inr (.inl sf)))] H := hP
  have hD : va_D A [(a0, .inr (0, [.ref a1, .ref a2, .ref a3, .ref a4, .int (nI k), .int (nI 0), .long (lN (bs k))])), (a1, .inl (G.2.1 2, 8, .inr (.inl g))), (b0, .inl (G.2.1 2, 8, .inr (.inl sf)))] := hD
  have hl : lv_has ls 4 [(0, .ref a0), (1, .int (nI k)), (2, .ref b0), (3, .int (nI j))] := hl
  refine lv_iload_n hx hb dX0_startBehindBlock_21 rfl (lv_at hl 3 rfl) ?_
  refine lv_bipush (v := 8) hx hb dX0_startBehindBlock_22 (by decide) ?_
  refine lv_icmp_ge (tgt := 48) hx hb dX0_startBehindBlock_24 (by decide) (fun c_24 => ?_) (fun c_24 => ?_)
  · skip
    have hg : 8 ≤ j := ge_t (n := 8) c_24 (by decide)
    exact gret_v hx hb hr hlk dX0_startBehindBlock_48 hS g (hP.sub [0, 1, 2] rfl) (hD.sub [0, 1, 2] (by decide) rfl) (show ∀ j, j < 8 → g j = sf j from fun j hj => hI.2 j (by omega))
  · skip
    have hg : j < 8 := ge_f (n := 8) c_24 (by omega)
    refine lv_iload_n hx hb dX0_startBehindBlock_27 rfl (lv_at hl 3 rfl) ?_
    refine lv_aload_n hx hb dX0_startBehindBlock_28 rfl (lv_at hl 2 rfl) ?_
    refine va_alen hx hb hK.1 hP 2 2 rfl rfl (v := nI 8) rfl dX0_startBehindBlock_29 ?_
    refine lv_icmp_ge (tgt := 48) hx hb dX0_startBehindBlock_30 (by decide) (fun c_30 => absurd c_30 (nI_ge hg (by decide))) (fun _ => ?_)
    refine lv_aload_n hx hb dX0_startBehindBlock_33 rfl (lv_at hl 0 rfl) ?_
    refine va_get (D := G.1) (ci := 0) (v := .ref a1) (C := RX0) (T := TX0) (N := 7) hx hb htu iwX0 hown hK.1 hP 0 rfl rfl 0 (by decide) (htu _ uF_X0_9) (fun _ h9 => h9) rfl dX0_startBehindBlock_34 ?_
    refine lv_iload_n hx hb dX0_startBehindBlock_37 rfl (lv_at hl 3 rfl) ?_
    refine lv_aload_n hx hb dX0_startBehindBlock_38 rfl (lv_at hl 2 rfl) ?_
    refine lv_iload_n hx hb dX0_startBehindBlock_39 rfl (lv_at hl 3 rfl) ?_
    refine g_lald hx hb hK.1 hP 2 2 rfl rfl ⟨hg, by decide⟩ dX0_startBehindBlock_40 ?_
    refine lv_topl (fun v_3 ev_3 => ?_)
    refine g_last hx hb hK.1 hP hD hS 1 2 rfl rfl ⟨hg, by decide⟩ dX0_startBehindBlock_41 (fun H locs hP hD hS => ?_)
    obtain ⟨g_4, eg_4⟩ : ∃ gq9 : Nat → Int64, gq9 = vp_updL g j v_3 := ⟨_, rfl⟩
    rw [← eg_4] at hP hD
    have hP : va_P G.1 vwCl [(a0, .inr (0, [.ref a1, .ref a2, .ref a3, .ref a4, .int (nI k), .int (nI 0), .long (lN (bs k))])), (a1, .inl (G.2.1 2, 8, .inr (.inl g_4))), (b0, .inl (G.2.1 2, 8, .inr (.inl sf)))] H := hP
    have hD : va_D A [(a0, .inr (0, [.ref a1, .ref a2, .ref a3, .ref a4, .int (nI k), .int (nI 0), .long (lN (bs k))])), (a1, .inl (G.2.1 2, 8, .inr (.inl g_4))), (b0, .inl (G.2.1 2, 8, .inr (.inl sf)))] := hD
    refine lv_iinc (v := nI (j + 1)) (lv' := [(3, .int (nI (j + 1))), (0, .ref a0), (1, .int (nI k)), (2, .ref b0)]) hx hb dX0_startBehindBlock_42 hl (k := 3) rfl (nI_1 j) (by decide) rfl (fun ls hl => ?_)
    refine lv_goto (tgt := 21) hx hb dX0_startBehindBlock_45 (by decide) ?_
    exact ih_21 (j + 1, g_4) (show (j + 1) ≤ 8 ∧ ∀ i, i < (j + 1) → g_4 i = sf i from ⟨hg, fun i hi => upL hI.2 eg_4 ev_3 i hi⟩) (by show 8 - (j + 1) < 8 - j; omega) _ _ _ (hP.sub [0, 1, 2] rfl) (hD.sub [0, 1, 2] (by decide) rfl) hS (lv_sub hl [1, 2, 3, 0] rfl)
set_option maxHeartbeats 4000000 in
set_option maxRecDepth 100000 in
theorem c_X0_saveWords (l : Launch) (G : GW) (sz : Nat) (a0 : Nat) (a1 : Nat) (a2 : Nat) (a3 : Nat) (a4 : Nat) (b0 : Nat) (k0 : Int32) (z0 : Int32) (t0 : Int64) (wf : Nat → Int64) (sf : Nat → Int64)  : Met l yX0_saveWords (Cond.code yX0_saveWords cX0_saveWords 3 (none : Option FieldType) :: UW) ({ frames := 0, cells := 0, slots := 0, locals := 0 } : Room) (va_Pc [.ref a0, .ref b0] (gPre G [(a0, .inr (0, [.ref a1, .ref a2, .ref a3, .ref a4, .int k0, .int z0, .long t0])), (a1, .inl (G.2.1 2, 8, .inr (.inl wf))), (b0, .inl (G.2.1 2, 8, .inr (.inl sf)))] sz)) (va_Qv (fun (sf' : Nat → Int64) => ∀ j, j < 8 → sf' j = wf j) (fun u => gPost G (va_A [(a0, .inr (0, [.ref a1, .ref a2, .ref a3, .ref a4, .int k0, .int z0, .long t0])), (a1, .inl (G.2.1 2, 8, .inr (.inl wf))), (b0, .inl (G.2.1 2, 8, .inr (.inl sf)))] sz) ((fun (sf' : Nat → Int64) => ([(a0, .inr (0, [.ref a1, .ref a2, .ref a3, .ref a4, .int k0, .int z0, .long t0])), (a1, .inl (G.2.1 2, 8, .inr (.inl wf))), (b0, .inl (G.2.1 2, 8, .inr (.inl sf')))] : va_W)) u)) (va_A [(a0, .inr (0, [.ref a1, .ref a2, .ref a3, .ref a4, .int k0, .int z0, .long t0])), (a1, .inl (G.2.1 2, 8, .inr (.inl wf))), (b0, .inl (G.2.1 2, 8, .inr (.inl sf)))] sz)) 0 0 (va_A [(a0, .inr (0, [.ref a1, .ref a2, .ref a3, .ref a4, .int k0, .int z0, .long t0])), (a1, .inl (G.2.1 2, 8, .inr (.inl wf))), (b0, .inl (G.2.1 2, 8, .inr (.inl sf)))] sz) := by
  refine gM_of (Qf := fun A => va_Qv (fun (sf' : Nat → Int64) => ∀ j, j < 8 → sf' j = wf j) (fun u => gPost G A ((fun (sf' : Nat → Int64) => ([(a0, .inr (0, [.ref a1, .ref a2, .ref a3, .ref a4, .int k0, .int z0, .long t0])), (a1, .inl (G.2.1 2, 8, .inr (.inl wf))), (b0, .inl (G.2.1 2, 8, .inr (.inl sf')))] : va_W)) u)) A) (by decide) (Nat.le_of_ble_eq_true rfl) ?_
  intro p e s m below meth c A ls hx hb hml hr hown htu hlk hnm hA hP hD hS hK hZ hl
  have hown : s.vm.findClass RX0 = some m.cls := hown
  have hl : lv_has ls 3 [(0, .ref a0), (1, .ref b0)] := hl
  refine lv_iconst (v := 0) hx hb dX0_saveWords_0 (by decide) ?_
  refine lv_istore_n (lv' := [(2, .int 0), (0, .ref a0), (1, .ref b0)]) hx hb dX0_saveWords_1 rfl hl (by decide) rfl (fun ls hl => ?_)
  refine g_loop (σ := Nat × (Nat → Int64)) (G := G) (fun xq9 : Nat × (Nat → Int64) => [(a0, .inr (0, [.ref a1, .ref a2, .ref a3, .ref a4, .int k0, .int z0, .long t0])), (a1, .inl (G.2.1 2, 8, .inr (.inl wf))), (b0, .inl (G.2.1 2, 8, .inr (.inl xq9.2)))]) (fun xq9 : Nat × (Nat → Int64) => [(0, .ref a0), (1, .ref b0), (2, .int (nI xq9.1))]) (fun xq9 : Nat × (Nat → Int64) => xq9.1 ≤ 8 ∧ ∀ i, i < xq9.1 → xq9.2 i = wf i) (fun xq9 : Nat × (Nat → Int64) => 8 - xq9.1) ?_ (0, sf) (show 0 ≤ 8 ∧ ∀ i, i < 0 → sf i = wf i from ⟨Nat.zero_le _, fun _ h => absurd h (Nat.not_lt_zero _)⟩) (hP.sub [0, 1, 2] rfl) (hD.sub [0, 1, 2] (by decide) rfl) hS (lv_sub hl [1, 2, 0] rfl)
  clear hP hD hS hl
  intro x hxI_2 ih_2 H locs ls hP hD hS hl
  obtain ⟨j, g⟩ := x
  have hI : j ≤ 8 ∧ ∀ i, i < j → g i = wf i := hxI_2
  have hP : va_P G.1 vwCl [(a0, .inr (0, [.ref a1, .ref a2, .ref a3, .ref a4, .int k0, .int z0, .long t0])), (a1, .inl (G.2.1 2, 8, .inr (.inl wf))), (b0, .inl (G.2.1 2, 8, .inr (.inl g)))] H := hP
  have hD : va_D A [(a0, .inr (0, [.ref a1, .ref a2, .ref a3, .ref a4, .int k0, .int z0, .long t0])), (a1, .inl (G.2.1 2, 8, .inr (.inl wf))), (b0, .inl (G.2.1 2, 8, .inr (.inl g)))] := hD
  have hl : lv_has ls 3 [(0, .ref a0), (1, .ref b0), (2, .int (nI j))] := hl
  refine lv_iload_n hx hb dX0_saveWords_2 rfl (lv_at hl 2 rfl) ?_
  refine lv_bipush (v := 8) hx hb dX0_saveWords_3 (by decide) ?_
  refine lv_icmp_ge (tgt := 29) hx hb dX0_saveWords_5 (by decide) (fun c_5 => ?_) (fun c_5 => ?_)
  · skip
    have hg : 8 ≤ j := ge_t (n := 8) c_5 (by decide)
    exact gret_v hx hb hr hlk dX0_saveWords_29 hS g (hP.sub [0, 1, 2] rfl) (hD.sub [0, 1, 2] (by decide) rfl) (show ∀ j, j < 8 → g j = wf j from fun j hj => hI.2 j (by omega))
  · skip
    have hg : j < 8 := ge_f (n := 8) c_5 (by omega)
    refine lv_iload_n hx hb dX0_saveWords_8 rfl (lv_at hl 2 rfl) ?_
    refine lv_aload_n hx hb dX0_saveWords_9 rfl (lv_at hl 1 rfl) ?_
    refine va_alen hx hb hK.1 hP 2 2 rfl rfl (v := nI 8) rfl dX0_saveWords_10 ?_
    refine lv_icmp_ge (tgt := 29) hx hb dX0_saveWords_11 (by decide) (fun c_11 => absurd c_11 (nI_ge hg (by decide))) (fun _ => ?_)
    refine lv_aload_n hx hb dX0_saveWords_14 rfl (lv_at hl 1 rfl) ?_
    refine lv_iload_n hx hb dX0_saveWords_15 rfl (lv_at hl 2 rfl) ?_
    refine lv_aload_n hx hb dX0_saveWords_16 rfl (lv_at hl 0 rfl) ?_
    refine va_get (D := G.1) (ci := 0) (v := .ref a1) (C := RX0) (T := TX0) (N := 7) hx hb htu iwX0 hown hK.1 hP 0 rfl rfl 0 (by decide) (htu _ uF_X0_9) (fun _ h9 => h9) rfl dX0_saveWords_17 ?_
    refine lv_iload_n hx hb dX0_saveWords_20 rfl (lv_at hl 2 rfl) ?_
    refine g_lald hx hb hK.1 hP 1 2 rfl rfl ⟨hg, by decide⟩ dX0_saveWords_21 ?_
    refine lv_topl (fun v_1 ev_1 => ?_)
    refine g_last hx hb hK.1 hP hD hS 2 2 rfl rfl ⟨hg, by decide⟩ dX0_saveWords_22 (fun H locs hP hD hS => ?_)
    obtain ⟨g_2, eg_2⟩ : ∃ gq9 : Nat → Int64, gq9 = vp_updL g j v_1 := ⟨_, rfl⟩
    rw [← eg_2] at hP hD
    have hP : va_P G.1 vwCl [(a0, .inr (0, [.ref a1, .ref a2, .ref a3, .ref a4, .int k0, .int z0, .long t0])), (a1, .inl (G.2.1 2, 8, .inr (.inl wf))), (b0, .inl (G.2.1 2, 8, .inr (.inl g_2)))] H := hP
    have hD : va_D A [(a0, .inr (0, [.ref a1, .ref a2, .ref a3, .ref a4, .int k0, .int z0, .long t0])), (a1, .inl (G.2.1 2, 8, .inr (.inl wf))), (b0, .inl (G.2.1 2, 8, .inr (.inl g_2)))] := hD
    refine lv_iinc (v := nI (j + 1)) (lv' := [(2, .int (nI (j + 1))), (0, .ref a0), (1, .ref b0)]) hx hb dX0_saveWords_23 hl (k := 2) rfl (nI_1 j) (by decide) rfl (fun ls hl => ?_)
    refine lv_goto (tgt := 2) hx hb dX0_saveWords_26 (by decide) ?_
    exact ih_2 (j + 1, g_2) (show (j + 1) ≤ 8 ∧ ∀ i, i < (j + 1) → g_2 i = wf i from ⟨hg, fun i hi => upL hI.2 eg_2 ev_1 i hi⟩) (by show 8 - (j + 1) < 8 - j; omega) _ _ _ (hP.sub [0, 1, 2] rfl) (hD.sub [0, 1, 2] (by decide) rfl) hS (lv_sub hl [1, 2, 0] rfl)
set_option maxHeartbeats 4000000 in
set_option maxRecDepth 100000 in
theorem c_X0_become (l : Launch) (G : GW) (sz : Nat) (a0 : Nat) (a1 : Nat) (a2 : Nat) (a3 : Nat) (a4 : Nat) (k0 : Int32) (z0 : Int32) (t0 : Int64) (wf : Nat → Int64) (bf : Nat → Int32) (b0 : Nat) (b1 : Nat) (b2 : Nat) (b3 : Nat) (b4 : Nat) (k2 : Int32) (z2 : Int32) (t2 : Int64) (wf2 : Nat → Int64) (bf2 : Nat → Int32) (hF : sb_Fit bf2) (hF0 : sb_Fit bf) : Met l yX0_become (Cond.code yX0_become cX0_become 2 (none : Option FieldType) :: UW) ({ frames := 1, cells := 0, slots := 0, locals := 26 } : Room) (va_Pc [.ref a0, .ref b0] (gPre G [(a0, .inr (0, [.ref a1, .ref a2, .ref a3, .ref a4, .int k0, .int z0, .long t0])), (a1, .inl (G.2.1 2, 8, .inr (.inl wf))), (a2, .inl (G.2.1 0, 128, .inl bf)), (b0, .inr (0, [.ref b1, .ref b2, .ref b3, .ref b4, .int k2, .int z2, .long t2])), (b1, .inl (G.2.1 2, 8, .inr (.inl wf2))), (b2, .inl (G.2.1 0, 128, .inl bf2))] sz)) (va_Qv (fun (uq9 : (Nat → Int64) × (Nat → Int32)) => (∀ j, j < 8 → uq9.1 j = wf2 j) ∧ sb_Fit uq9.2 ∧ (∀ j, j < 128 → uq9.2 j = bf2 j)) (fun u => gPost G (va_A [(a0, .inr (0, [.ref a1, .ref a2, .ref a3, .ref a4, .int k0, .int z0, .long t0])), (a1, .inl (G.2.1 2, 8, .inr (.inl wf))), (a2, .inl (G.2.1 0, 128, .inl bf)), (b0, .inr (0, [.ref b1, .ref b2, .ref b3, .ref b4, .int k2, .int z2, .long t2])), (b1, .inl (G.2.1 2, 8, .inr (.inl wf2))), (b2, .inl (G.2.1 0, 128, .inl bf2))] sz) ((fun (uq9 : (Nat → Int64) × (Nat → Int32)) => ([(a0, .inr (0, [.ref a1, .ref a2, .ref a3, .ref a4, .int k2, .int z2, .long t2])), (a1, .inl (G.2.1 2, 8, .inr (.inl uq9.1))), (a2, .inl (G.2.1 0, 128, .inl uq9.2)), (b0, .inr (0, [.ref b1, .ref b2, .ref b3, .ref b4, .int k2, .int z2, .long t2])), (b1, .inl (G.2.1 2, 8, .inr (.inl wf2))), (b2, .inl (G.2.1 0, 128, .inl bf2))] : va_W)) u)) (va_A [(a0, .inr (0, [.ref a1, .ref a2, .ref a3, .ref a4, .int k0, .int z0, .long t0])), (a1, .inl (G.2.1 2, 8, .inr (.inl wf))), (a2, .inl (G.2.1 0, 128, .inl bf)), (b0, .inr (0, [.ref b1, .ref b2, .ref b3, .ref b4, .int k2, .int z2, .long t2])), (b1, .inl (G.2.1 2, 8, .inr (.inl wf2))), (b2, .inl (G.2.1 0, 128, .inl bf2))] sz)) 0 0 (va_A [(a0, .inr (0, [.ref a1, .ref a2, .ref a3, .ref a4, .int k0, .int z0, .long t0])), (a1, .inl (G.2.1 2, 8, .inr (.inl wf))), (a2, .inl (G.2.1 0, 128, .inl bf)), (b0, .inr (0, [.ref b1, .ref b2, .ref b3, .ref b4, .int k2, .int z2, .long t2])), (b1, .inl (G.2.1 2, 8, .inr (.inl wf2))), (b2, .inl (G.2.1 0, 128, .inl bf2))] sz) := by
  refine gM_of (Qf := fun A => va_Qv (fun (uq9 : (Nat → Int64) × (Nat → Int32)) => (∀ j, j < 8 → uq9.1 j = wf2 j) ∧ sb_Fit uq9.2 ∧ (∀ j, j < 128 → uq9.2 j = bf2 j)) (fun u => gPost G A ((fun (uq9 : (Nat → Int64) × (Nat → Int32)) => ([(a0, .inr (0, [.ref a1, .ref a2, .ref a3, .ref a4, .int k2, .int z2, .long t2])), (a1, .inl (G.2.1 2, 8, .inr (.inl uq9.1))), (a2, .inl (G.2.1 0, 128, .inl uq9.2)), (b0, .inr (0, [.ref b1, .ref b2, .ref b3, .ref b4, .int k2, .int z2, .long t2])), (b1, .inl (G.2.1 2, 8, .inr (.inl wf2))), (b2, .inl (G.2.1 0, 128, .inl bf2))] : va_W)) u)) A) (by decide) (Nat.le_of_ble_eq_true rfl) ?_
  intro p e s m below meth c A ls hx hb hml hr hown htu hlk hnm hA hP hD hS hK hZ hl
  have hown : s.vm.findClass RX0 = some m.cls := hown
  have hl : lv_has ls 2 [(0, .ref a0), (1, .ref b0)] := hl
  refine lv_aload_n hx hb dX0_become_0 rfl (lv_at hl 0 rfl) ?_
  refine lv_aload_n hx hb dX0_become_1 rfl (lv_at hl 1 rfl) ?_
  refine va_get (D := G.1) (ci := 0) (v := .int k2) (C := RX0) (T := TX0) (N := 7) hx hb htu iwX0 hown hK.1 hP 3 rfl rfl 4 (by decide) (htu _ uF_X0_26) (fun _ h9 => h9) rfl dX0_become_2 ?_
  refine va_put (D := G.1) (ci := 0) (v := .int k2) (ty := .int) (C := RX0) (T := TX0) (N := 7) hx hb htu iwX0 tyX0 tyX0_ok nmX0 hown hK.1 hP hD hS 0 rfl rfl 4 (by decide) (htu _ uF_X0_26) (fun _ h9 => h9) rfl (by decide +kernel) rfl rfl (Nat.le_of_ble_eq_true rfl) dX0_become_5 (fun H locs hP hD hS => ?_)
  have hP : va_P G.1 vwCl [(a0, .inr (0, [.ref a1, .ref a2, .ref a3, .ref a4, .int k2, .int z0, .long t0])), (a1, .inl (G.2.1 2, 8, .inr (.inl wf))), (a2, .inl (G.2.1 0, 128, .inl bf)), (b0, .inr (0, [.ref b1, .ref b2, .ref b3, .ref b4, .int k2, .int z2, .long t2])), (b1, .inl (G.2.1 2, 8, .inr (.inl wf2))), (b2, .inl (G.2.1 0, 128, .inl bf2))] H := hP
  have hD : va_D A [(a0, .inr (0, [.ref a1, .ref a2, .ref a3, .ref a4, .int k2, .int z0, .long t0])), (a1, .inl (G.2.1 2, 8, .inr (.inl wf))), (a2, .inl (G.2.1 0, 128, .inl bf)), (b0, .inr (0, [.ref b1, .ref b2, .ref b3, .ref b4, .int k2, .int z2, .long t2])), (b1, .inl (G.2.1 2, 8, .inr (.inl wf2))), (b2, .inl (G.2.1 0, 128, .inl bf2))] := hD
  refine lv_aload_n hx hb dX0_become_8 rfl (lv_at hl 0 rfl) ?_
  refine lv_aload_n hx hb dX0_become_9 rfl (lv_at hl 1 rfl) ?_
  refine va_get (D := G.1) (ci := 0) (v := .int z2) (C := RX0) (T := TX0) (N := 7) hx hb htu iwX0 hown hK.1 hP 3 rfl rfl 5 (by decide) (htu _ uF_X0_30) (fun _ h9 => h9) rfl dX0_become_10 ?_
  refine va_put (D := G.1) (ci := 0) (v := .int z2) (ty := .int) (C := RX0) (T := TX0) (N := 7) hx hb htu iwX0 tyX0 tyX0_ok nmX0 hown hK.1 hP hD hS 0 rfl rfl 5 (by decide) (htu _ uF_X0_30) (fun _ h9 => h9) rfl (by decide +kernel) rfl rfl (Nat.le_of_ble_eq_true rfl) dX0_become_13 (fun H locs hP hD hS => ?_)
  have hP : va_P G.1 vwCl [(a0, .inr (0, [.ref a1, .ref a2, .ref a3, .ref a4, .int k2, .int z2, .long t0])), (a1, .inl (G.2.1 2, 8, .inr (.inl wf))), (a2, .inl (G.2.1 0, 128, .inl bf)), (b0, .inr (0, [.ref b1, .ref b2, .ref b3, .ref b4, .int k2, .int z2, .long t2])), (b1, .inl (G.2.1 2, 8, .inr (.inl wf2))), (b2, .inl (G.2.1 0, 128, .inl bf2))] H := hP
  have hD : va_D A [(a0, .inr (0, [.ref a1, .ref a2, .ref a3, .ref a4, .int k2, .int z2, .long t0])), (a1, .inl (G.2.1 2, 8, .inr (.inl wf))), (a2, .inl (G.2.1 0, 128, .inl bf)), (b0, .inr (0, [.ref b1, .ref b2, .ref b3, .ref b4, .int k2, .int z2, .long t2])), (b1, .inl (G.2.1 2, 8, .inr (.inl wf2))), (b2, .inl (G.2.1 0, 128, .inl bf2))] := hD
  refine lv_aload_n hx hb dX0_become_16 rfl (lv_at hl 0 rfl) ?_
  refine lv_aload_n hx hb dX0_become_17 rfl (lv_at hl 1 rfl) ?_
  refine va_get (D := G.1) (ci := 0) (v := .long t2) (C := RX0) (T := TX0) (N := 7) hx hb htu iwX0 hown hK.1 hP 3 rfl rfl 6 (by decide) (htu _ uF_X0_33) (fun _ h9 => h9) rfl dX0_become_18 ?_
  refine va_put (D := G.1) (ci := 0) (v := .long t2) (ty := .long) (C := RX0) (T := TX0) (N := 7) hx hb htu iwX0 tyX0 tyX0_ok nmX0 hown hK.1 hP hD hS 0 rfl rfl 6 (by decide) (htu _ uF_X0_33) (fun _ h9 => h9) rfl (by decide +kernel) rfl rfl (Nat.le_of_ble_eq_true rfl) dX0_become_21 (fun H locs hP hD hS => ?_)
  have hP : va_P G.1 vwCl [(a0, .inr (0, [.ref a1, .ref a2, .ref a3, .ref a4, .int k2, .int z2, .long t2])), (a1, .inl (G.2.1 2, 8, .inr (.inl wf))), (a2, .inl (G.2.1 0, 128, .inl bf)), (b0, .inr (0, [.ref b1, .ref b2, .ref b3, .ref b4, .int k2, .int z2, .long t2])), (b1, .inl (G.2.1 2, 8, .inr (.inl wf2))), (b2, .inl (G.2.1 0, 128, .inl bf2))] H := hP
  have hD : va_D A [(a0, .inr (0, [.ref a1, .ref a2, .ref a3, .ref a4, .int k2, .int z2, .long t2])), (a1, .inl (G.2.1 2, 8, .inr (.inl wf))), (a2, .inl (G.2.1 0, 128, .inl bf)), (b0, .inr (0, [.ref b1, .ref b2, .ref b3, .ref b4, .int k2, .int z2, .long t2])), (b1, .inl (G.2.1 2, 8, .inr (.inl wf2))), (b2, .inl (G.2.1 0, 128, .inl bf2))] := hD
  refine lv_aload_n hx hb dX0_become_24 rfl (lv_at hl 1 rfl) ?_
  refine va_get (D := G.1) (ci := 0) (v := .ref b1) (C := RX0) (T := TX0) (N := 7) hx hb htu iwX0 hown hK.1 hP 3 rfl rfl 0 (by decide) (htu _ uF_X0_9) (fun _ h9 => h9) rfl dX0_become_25 ?_
  refine lv_iconst (v := nI 0) hx hb dX0_become_28 (by decide) ?_
  refine lv_aload_n hx hb dX0_become_29 rfl (lv_at hl 0 rfl) ?_
  refine va_get (D := G.1) (ci := 0) (v := .ref a1) (C := RX0) (T := TX0) (N := 7) hx hb htu iwX0 hown hK.1 hP 0 rfl rfl 0 (by decide) (htu _ uF_X0_9) (fun _ h9 => h9) rfl dX0_become_30 ?_
  refine lv_iconst (v := nI 0) hx hb dX0_become_33 (by decide) ?_
  refine lv_bipush (v := 8) hx hb dX0_become_34 (by decide) ?_
  refine va_copyl hx hb (hml.trans hl.1.symm) hown (htu _ uM_X0_53) (htu _ uV_arraycopy) (htu _ uA_arraycopy) (htu _ uN_J10) hK.1 hP hD hS 4 1 2 2 rfl rfl rfl rfl rfl (by decide) (by decide) (by decide) (by decide) (by decide) (fun _ _ => rfl) (Nat.le_of_ble_eq_true rfl) (Nat.le_of_ble_eq_true rfl) dX0_become_36 (fun H locs hP hD hS => ?_)
  have hP : va_P G.1 vwCl [(a0, .inr (0, [.ref a1, .ref a2, .ref a3, .ref a4, .int k2, .int z2, .long t2])), (a1, .inl (G.2.1 2, 8, .inr (.inl (va_cpy wf2 wf 0 0 8)))), (a2, .inl (G.2.1 0, 128, .inl bf)), (b0, .inr (0, [.ref b1, .ref b2, .ref b3, .ref b4, .int k2, .int z2, .long t2])), (b1, .inl (G.2.1 2, 8, .inr (.inl wf2))), (b2, .inl (G.2.1 0, 128, .inl bf2))] H := hP
  have hD : va_D A [(a0, .inr (0, [.ref a1, .ref a2, .ref a3, .ref a4, .int k2, .int z2, .long t2])), (a1, .inl (G.2.1 2, 8, .inr (.inl (va_cpy wf2 wf 0 0 8)))), (a2, .inl (G.2.1 0, 128, .inl bf)), (b0, .inr (0, [.ref b1, .ref b2, .ref b3, .ref b4, .int k2, .int z2, .long t2])), (b1, .inl (G.2.1 2, 8, .inr (.inl wf2))), (b2, .inl (G.2.1 0, 128, .inl bf2))] := hD
  obtain ⟨g_1, eg_1⟩ : ∃ gq9 : Nat → Int64, gq9 = va_cpy wf2 wf 0 0 8 := ⟨_, rfl⟩
  rw [← eg_1] at hP hD
  have hP : va_P G.1 vwCl [(a0, .inr (0, [.ref a1, .ref a2, .ref a3, .ref a4, .int k2, .int z2, .long t2])), (a1, .inl (G.2.1 2, 8, .inr (.inl g_1))), (a2, .inl (G.2.1 0, 128, .inl bf)), (b0, .inr (0, [.ref b1, .ref b2, .ref b3, .ref b4, .int k2, .int z2, .long t2])), (b1, .inl (G.2.1 2, 8, .inr (.inl wf2))), (b2, .inl (G.2.1 0, 128, .inl bf2))] H := hP
  have hD : va_D A [(a0, .inr (0, [.ref a1, .ref a2, .ref a3, .ref a4, .int k2, .int z2, .long t2])), (a1, .inl (G.2.1 2, 8, .inr (.inl g_1))), (a2, .inl (G.2.1 0, 128, .inl bf)), (b0, .inr (0, [.ref b1, .ref b2, .ref b3, .ref b4, .int k2, .int z2, .long t2])), (b1, .inl (G.2.1 2, 8, .inr (.inl wf2))), (b2, .inl (G.2.1 0, 128, .inl bf2))] := hD
  refine lv_aload_n hx hb dX0_become_39 rfl (lv_at hl 1 rfl) ?_
  refine va_get (D := G.1) (ci := 0) (v := .ref b2) (C := RX0) (T := TX0) (N := 7) hx hb htu iwX0 hown hK.1 hP 3 rfl rfl 1 (by decide) (htu _ uF_X0_15) (fun _ h9 => h9) rfl dX0_become_40 ?_
  refine lv_iconst (v := nI 0) hx hb dX0_become_43 (by decide) ?_
  refine lv_aload_n hx hb dX0_become_44 rfl (lv_at hl 0 rfl) ?_
  refine va_get (D := G.1) (ci := 0) (v := .ref a2) (C := RX0) (T := TX0) (N := 7) hx hb htu iwX0 hown hK.1 hP 0 rfl rfl 1 (by decide) (htu _ uF_X0_15) (fun _ h9 => h9) rfl dX0_become_45 ?_
  refine lv_iconst (v := nI 0) hx hb dX0_become_48 (by decide) ?_
  refine lv_sipush (v := 128) hx hb dX0_become_49 (by decide) ?_
  refine va_copyi hx hb (hml.trans hl.1.symm) hown (htu _ uM_X0_53) (htu _ uV_arraycopy) (htu _ uA_arraycopy) (htu _ uN_J10) hK.1 hP hD hS 5 2 0 0 rfl rfl rfl rfl rfl (by decide) (by decide) (by decide) (by decide) (by decide) (fun i _ => hF _) (Nat.le_of_ble_eq_true rfl) (Nat.le_of_ble_eq_true rfl) dX0_become_52 (fun H locs hP hD hS => ?_)
  have hP : va_P G.1 vwCl [(a0, .inr (0, [.ref a1, .ref a2, .ref a3, .ref a4, .int k2, .int z2, .long t2])), (a1, .inl (G.2.1 2, 8, .inr (.inl g_1))), (a2, .inl (G.2.1 0, 128, .inl (va_cpy bf2 bf 0 0 128))), (b0, .inr (0, [.ref b1, .ref b2, .ref b3, .ref b4, .int k2, .int z2, .long t2])), (b1, .inl (G.2.1 2, 8, .inr (.inl wf2))), (b2, .inl (G.2.1 0, 128, .inl bf2))] H := hP
  have hD : va_D A [(a0, .inr (0, [.ref a1, .ref a2, .ref a3, .ref a4, .int k2, .int z2, .long t2])), (a1, .inl (G.2.1 2, 8, .inr (.inl g_1))), (a2, .inl (G.2.1 0, 128, .inl (va_cpy bf2 bf 0 0 128))), (b0, .inr (0, [.ref b1, .ref b2, .ref b3, .ref b4, .int k2, .int z2, .long t2])), (b1, .inl (G.2.1 2, 8, .inr (.inl wf2))), (b2, .inl (G.2.1 0, 128, .inl bf2))] := hD
  obtain ⟨g_2, eg_2⟩ : ∃ gq9 : Nat → Int32, gq9 = va_cpy bf2 bf 0 0 128 := ⟨_, rfl⟩
  rw [← eg_2] at hP hD
  have hP : va_P G.1 vwCl [(a0, .inr (0, [.ref a1, .ref a2, .ref a3, .ref a4, .int k2, .int z2, .long t2])), (a1, .inl (G.2.1 2, 8, .inr (.inl g_1))), (a2, .inl (G.2.1 0, 128, .inl g_2)), (b0, .inr (0, [.ref b1, .ref b2, .ref b3, .ref b4, .int k2, .int z2, .long t2])), (b1, .inl (G.2.1 2, 8, .inr (.inl wf2))), (b2, .inl (G.2.1 0, 128, .inl bf2))] H := hP
  have hD : va_D A [(a0, .inr (0, [.ref a1, .ref a2, .ref a3, .ref a4, .int k2, .int z2, .long t2])), (a1, .inl (G.2.1 2, 8, .inr (.inl g_1))), (a2, .inl (G.2.1 0, 128, .inl g_2)), (b0, .inr (0, [.ref b1, .ref b2, .ref b3, .ref b4, .int k2, .int z2, .long t2])), (b1, .inl (G.2.1 2, 8, .inr (.inl wf2))), (b2, .inl (G.2.1 0, 128, .inl bf2))] := hD
  exact gret_v hx hb hr hlk dX0_become_55 hS (g_1, g_2) (hP.sub [0, 1, 2, 3, 4, 5] rfl) (hD.sub [0, 1, 2, 3, 4, 5] (by decide) rfl) (show (∀ j, j < 8 → g_1 j = wf2 j) ∧ (sb_Fit g_2) ∧ (∀ j, j < 128 → g_2 j = bf2 j) from ⟨fun j hj => by rw [eg_1, pk_cpy_in (Nat.zero_le _) (by omega)]; simp, by rw [eg_2]; exact sb_fitC hF hF0, fun j hj => by rw [eg_2, pk_cpy_in (Nat.zero_le _) (by omega)]; simp⟩)
set_option maxHeartbeats 4000000 in
set_option maxRecDepth 100000 in
theorem c_X0_becomeS (l : Launch) (G : GW) (sz : Nat) (a0 : Nat) (a1 : Nat) (a2 : Nat) (a3 : Nat) (a4 : Nat) (k0 : Int32) (z0 : Int32) (t0 : Int64) (wf : Nat → Int64) (bf : Nat → Int32) (hF0 : sb_Fit bf) : Met l yX0_become (Cond.code yX0_become cX0_become 2 (none : Option FieldType) :: UW) ({ frames := 1, cells := 0, slots := 0, locals := 26 } : Room) (va_Pc [.ref a0, .ref a0] (gPre G [(a0, .inr (0, [.ref a1, .ref a2, .ref a3, .ref a4, .int k0, .int z0, .long t0])), (a1, .inl (G.2.1 2, 8, .inr (.inl wf))), (a2, .inl (G.2.1 0, 128, .inl bf))] sz)) (va_Qv (fun (uq9 : (Nat → Int64) × (Nat → Int32)) => (∀ j, j < 8 → uq9.1 j = wf j) ∧ sb_Fit uq9.2 ∧ (∀ j, j < 128 → uq9.2 j = bf j)) (fun u => gPost G (va_A [(a0, .inr (0, [.ref a1, .ref a2, .ref a3, .ref a4, .int k0, .int z0, .long t0])), (a1, .inl (G.2.1 2, 8, .inr (.inl wf))), (a2, .inl (G.2.1 0, 128, .inl bf))] sz) ((fun (uq9 : (Nat → Int64) × (Nat → Int32)) => ([(a0, .inr (0, [.ref a1, .ref a2, .ref a3, .ref a4, .int k0, .int z0, .long t0])), (a1, .inl (G.2.1 2, 8, .inr (.inl uq9.1))), (a2, .inl (G.2.1 0, 128, .inl uq9.2))] : va_W)) u)) (va_A [(a0, .inr (0, [.ref a1, .ref a2, .ref a3, .ref a4, .int k0, .int z0, .long t0])), (a1, .inl (G.2.1 2, 8, .inr (.inl wf))), (a2, .inl (G.2.1 0, 128, .inl bf))] sz)) 0 0 (va_A [(a0, .inr (0, [.ref a1, .ref a2, .ref a3, .ref a4, .int k0, .int z0, .long t0])), (a1, .inl (G.2.1 2, 8, .inr (.inl wf))), (a2, .inl (G.2.1 0, 128, .inl bf))] sz) := by
  refine gM_of (Qf := fun A => va_Qv (fun (uq9 : (Nat → Int64) × (Nat → Int32)) => (∀ j, j < 8 → uq9.1 j = wf j) ∧ sb_Fit uq9.2 ∧ (∀ j, j < 128 → uq9.2 j = bf j)) (fun u => gPost G A ((fun (uq9 : (Nat → Int64) × (Nat → Int32)) => ([(a0, .inr (0, [.ref a1, .ref a2, .ref a3, .ref a4, .int k0, .int z0, .long t0])), (a1, .inl (G.2.1 2, 8, .inr (.inl uq9.1))), (a2, .inl (G.2.1 0, 128, .inl uq9.2))] : va_W)) u)) A) (by decide) (Nat.le_of_ble_eq_true rfl) ?_
  intro p e s m below meth c A ls hx hb hml hr hown htu hlk hnm hA hP hD hS hK hZ hl
  have hown : s.vm.findClass RX0 = some m.cls := hown
  have hl : lv_has ls 2 [(0, .ref a0), (1, .ref a0)] := hl
  refine lv_aload_n hx hb dX0_become_0 rfl (lv_at hl 0 rfl) ?_
  refine lv_aload_n hx hb dX0_become_1 rfl (lv_at hl 1 rfl) ?_
  refine va_get (D := G.1) (ci := 0) (v := .int k0) (C := RX0) (T := TX0) (N := 7) hx hb htu iwX0 hown hK.1 hP 0 rfl rfl 4 (by decide) (htu _ uF_X0_26) (fun _ h9 => h9) rfl dX0_become_2 ?_
  refine va_put (D := G.1) (ci := 0) (v := .int k0) (ty := .int) (C := RX0) (T := TX0) (N := 7) hx hb htu iwX0 tyX0 tyX0_ok nmX0 hown hK.1 hP hD hS 0 rfl rfl 4 (by decide) (htu _ uF_X0_26) (fun _ h9 => h9) rfl (by decide +kernel) rfl rfl (Nat.le_of_ble_eq_true rfl) dX0_become_5 (fun H locs hP hD hS => ?_)
  have hP : va_P G.1 vwCl [(a0, .inr (0, [.ref a1, .ref a2, .ref a3, .ref a4, .int k0, .int z0, .long t0])), (a1, .inl (G.2.1 2, 8, .inr (.inl wf))), (a2, .inl (G.2.1 0, 128, .inl bf))] H := hP
  have hD : va_D A [(a0, .inr (0, [.ref a1, .ref a2, .ref a3, .ref a4, .int k0, .int z0, .long t0])), (a1, .inl (G.2.1 2, 8, .inr (.inl wf))), (a2, .inl (G.2.1 0, 128, .inl bf))] := hD
  refine lv_aload_n hx hb dX0_become_8 rfl (lv_at hl 0 rfl) ?_
  refine lv_aload_n hx hb dX0_become_9 rfl (lv_at hl 1 rfl) ?_
  refine va_get (D := G.1) (ci := 0) (v := .int z0) (C := RX0) (T := TX0) (N := 7) hx hb htu iwX0 hown hK.1 hP 0 rfl rfl 5 (by decide) (htu _ uF_X0_30) (fun _ h9 => h9) rfl dX0_become_10 ?_
  refine va_put (D := G.1) (ci := 0) (v := .int z0) (ty := .int) (C := RX0) (T := TX0) (N := 7) hx hb htu iwX0 tyX0 tyX0_ok nmX0 hown hK.1 hP hD hS 0 rfl rfl 5 (by decide) (htu _ uF_X0_30) (fun _ h9 => h9) rfl (by decide +kernel) rfl rfl (Nat.le_of_ble_eq_true rfl) dX0_become_13 (fun H locs hP hD hS => ?_)
  have hP : va_P G.1 vwCl [(a0, .inr (0, [.ref a1, .ref a2, .ref a3, .ref a4, .int k0, .int z0, .long t0])), (a1, .inl (G.2.1 2, 8, .inr (.inl wf))), (a2, .inl (G.2.1 0, 128, .inl bf))] H := hP
  have hD : va_D A [(a0, .inr (0, [.ref a1, .ref a2, .ref a3, .ref a4, .int k0, .int z0, .long t0])), (a1, .inl (G.2.1 2, 8, .inr (.inl wf))), (a2, .inl (G.2.1 0, 128, .inl bf))] := hD
  refine lv_aload_n hx hb dX0_become_16 rfl (lv_at hl 0 rfl) ?_
  refine lv_aload_n hx hb dX0_become_17 rfl (lv_at hl 1 rfl) ?_
  refine va_get (D := G.1) (ci := 0) (v := .long t0) (C := RX0) (T := TX0) (N := 7) hx hb htu iwX0 hown hK.1 hP 0 rfl rfl 6 (by decide) (htu _ uF_X0_33) (fun _ h9 => h9) rfl dX0_become_18 ?_
  refine va_put (D := G.1) (ci := 0) (v := .long t0) (ty := .long) (C := RX0) (T := TX0) (N := 7) hx hb htu iwX0 tyX0 tyX0_ok nmX0 hown hK.1 hP hD hS 0 rfl rfl 6 (by decide) (htu _ uF_X0_33) (fun _ h9 => h9) rfl (by decide +kernel) rfl rfl (Nat.le_of_ble_eq_true rfl) dX0_become_21 (fun H locs hP hD hS => ?_)
  have hP : va_P G.1 vwCl [(a0, .inr (0, [.ref a1, .ref a2, .ref a3, .ref a4, .int k0, .int z0, .long t0])), (a1, .inl (G.2.1 2, 8, .inr (.inl wf))), (a2, .inl (G.2.1 0, 128, .inl bf))] H := hP
  have hD : va_D A [(a0, .inr (0, [.ref a1, .ref a2, .ref a3, .ref a4, .int k0, .int z0, .long t0])), (a1, .inl (G.2.1 2, 8, .inr (.inl wf))), (a2, .inl (G.2.1 0, 128, .inl bf))] := hD
  refine lv_aload_n hx hb dX0_become_24 rfl (lv_at hl 1 rfl) ?_
  refine va_get (D := G.1) (ci := 0) (v := .ref a1) (C := RX0) (T := TX0) (N := 7) hx hb htu iwX0 hown hK.1 hP 0 rfl rfl 0 (by decide) (htu _ uF_X0_9) (fun _ h9 => h9) rfl dX0_become_25 ?_
  refine lv_iconst (v := nI 0) hx hb dX0_become_28 (by decide) ?_
  refine lv_aload_n hx hb dX0_become_29 rfl (lv_at hl 0 rfl) ?_
  refine va_get (D := G.1) (ci := 0) (v := .ref a1) (C := RX0) (T := TX0) (N := 7) hx hb htu iwX0 hown hK.1 hP 0 rfl rfl 0 (by decide) (htu _ uF_X0_9) (fun _ h9 => h9) rfl dX0_become_30 ?_
  refine lv_iconst (v := nI 0) hx hb dX0_become_33 (by decide) ?_
  refine lv_bipush (v := 8) hx hb dX0_become_34 (by decide) ?_
  refine va_copyl hx hb (hml.trans hl.1.symm) hown (htu _ uM_X0_53) (htu _ uV_arraycopy) (htu _ uA_arraycopy) (htu _ uN_J10) hK.1 hP hD hS 1 1 2 2 rfl rfl rfl rfl rfl (by decide) (by decide) (by decide) (by decide) (by decide) (fun _ _ => rfl) (Nat.le_of_ble_eq_true rfl) (Nat.le_of_ble_eq_true rfl) dX0_become_36 (fun H locs hP hD hS => ?_)
  have hP : va_P G.1 vwCl [(a0, .inr (0, [.ref a1, .ref a2, .ref a3, .ref a4, .int k0, .int z0, .long t0])), (a1, .inl (G.2.1 2, 8, .inr (.inl (va_cpy wf wf 0 0 8)))), (a2, .inl (G.2.1 0, 128, .inl bf))] H := hP
  have hD : va_D A [(a0, .inr (0, [.ref a1, .ref a2, .ref a3, .ref a4, .int k0, .int z0, .long t0])), (a1, .inl (G.2.1 2, 8, .inr (.inl (va_cpy wf wf 0 0 8)))), (a2, .inl (G.2.1 0, 128, .inl bf))] := hD
  obtain ⟨g_1, eg_1⟩ : ∃ gq9 : Nat → Int64, gq9 = va_cpy wf wf 0 0 8 := ⟨_, rfl⟩
  rw [← eg_1] at hP hD
  have hP : va_P G.1 vwCl [(a0, .inr (0, [.ref a1, .ref a2, .ref a3, .ref a4, .int k0, .int z0, .long t0])), (a1, .inl (G.2.1 2, 8, .inr (.inl g_1))), (a2, .inl (G.2.1 0, 128, .inl bf))] H := hP
  have hD : va_D A [(a0, .inr (0, [.ref a1, .ref a2, .ref a3, .ref a4, .int k0, .int z0, .long t0])), (a1, .inl (G.2.1 2, 8, .inr (.inl g_1))), (a2, .inl (G.2.1 0, 128, .inl bf))] := hD
  refine lv_aload_n hx hb dX0_become_39 rfl (lv_at hl 1 rfl) ?_
  refine va_get (D := G.1) (ci := 0) (v := .ref a2) (C := RX0) (T := TX0) (N := 7) hx hb htu iwX0 hown hK.1 hP 0 rfl rfl 1 (by decide) (htu _ uF_X0_15) (fun _ h9 => h9) rfl dX0_become_40 ?_
  refine lv_iconst (v := nI 0) hx hb dX0_become_43 (by decide) ?_
  refine lv_aload_n hx hb dX0_become_44 rfl (lv_at hl 0 rfl) ?_
  refine va_get (D := G.1) (ci := 0) (v := .ref a2) (C := RX0) (T := TX0) (N := 7) hx hb htu iwX0 hown hK.1 hP 0 rfl rfl 1 (by decide) (htu _ uF_X0_15) (fun _ h9 => h9) rfl dX0_become_45 ?_
  refine lv_iconst (v := nI 0) hx hb dX0_become_48 (by decide) ?_
  refine lv_sipush (v := 128) hx hb dX0_become_49 (by decide) ?_
  refine va_copyi hx hb (hml.trans hl.1.symm) hown (htu _ uM_X0_53) (htu _ uV_arraycopy) (htu _ uA_arraycopy) (htu _ uN_J10) hK.1 hP hD hS 2 2 0 0 rfl rfl rfl rfl rfl (by decide) (by decide) (by decide) (by decide) (by decide) (fun i _ => hF0 _) (Nat.le_of_ble_eq_true rfl) (Nat.le_of_ble_eq_true rfl) dX0_become_52 (fun H locs hP hD hS => ?_)
  have hP : va_P G.1 vwCl [(a0, .inr (0, [.ref a1, .ref a2, .ref a3, .ref a4, .int k0, .int z0, .long t0])), (a1, .inl (G.2.1 2, 8, .inr (.inl g_1))), (a2, .inl (G.2.1 0, 128, .inl (va_cpy bf bf 0 0 128)))] H := hP
  have hD : va_D A [(a0, .inr (0, [.ref a1, .ref a2, .ref a3, .ref a4, .int k0, .int z0, .long t0])), (a1, .inl (G.2.1 2, 8, .inr (.inl g_1))), (a2, .inl (G.2.1 0, 128, .inl (va_cpy bf bf 0 0 128)))] := hD
  obtain ⟨g_2, eg_2⟩ : ∃ gq9 : Nat → Int32, gq9 = va_cpy bf bf 0 0 128 := ⟨_, rfl⟩
  rw [← eg_2] at hP hD
  have hP : va_P G.1 vwCl [(a0, .inr (0, [.ref a1, .ref a2, .ref a3, .ref a4, .int k0, .int z0, .long t0])), (a1, .inl (G.2.1 2, 8, .inr (.inl g_1))), (a2, .inl (G.2.1 0, 128, .inl g_2))] H := hP
  have hD : va_D A [(a0, .inr (0, [.ref a1, .ref a2, .ref a3, .ref a4, .int k0, .int z0, .long t0])), (a1, .inl (G.2.1 2, 8, .inr (.inl g_1))), (a2, .inl (G.2.1 0, 128, .inl g_2))] := hD
  exact gret_v hx hb hr hlk dX0_become_55 hS (g_1, g_2) (hP.sub [0, 1, 2] rfl) (hD.sub [0, 1, 2] (by decide) rfl) (show (∀ j, j < 8 → g_1 j = wf j) ∧ (sb_Fit g_2) ∧ (∀ j, j < 128 → g_2 j = bf j) from ⟨fun j hj => by rw [eg_1, pk_cpy_in (Nat.zero_le _) (by omega)]; simp, by rw [eg_2]; exact sb_fitC hF0 hF0, fun j hj => by rw [eg_2, pk_cpy_in (Nat.zero_le _) (by omega)]; simp⟩)
set_option maxHeartbeats 4000000 in
set_option maxRecDepth 100000 in
theorem c_X0_place (l : Launch) (G : GW) (sz : Nat) (a0 : Nat) (a1 : Nat) (a2 : Nat) (a3 : Nat) (a4 : Nat) (k : Nat) (z : Nat) (t : Nat) (wf : Nat → Int64) (bf : Nat → Int32) (nf : Nat → Int32) (df : Nat → Int64) (x : Int32) (h : HS) (hR : HsR k z wf bf h) : Met l yX0_place (Cond.code yX0_place cX0_place 2 (none : Option FieldType) :: UW) ({ frames := 2, cells := 0, slots := 0, locals := 67 } : Room) (va_Pc [.ref a0, .int x] (gPre G [(a0, .inr (0, [.ref a1, .ref a2, .ref a3, .ref a4, .int (nI k), .int (nI z), .long (lN t)])), (a1, .inl (G.2.1 2, 8, .inr (.inl wf))), (a2, .inl (G.2.1 0, 128, .inl bf)), (a3, .inl (G.2.1 1, 64, .inl nf)), (a4, .inl (G.2.1 2, 80, .inr (.inl df)))] sz)) (va_Qv (fun (uq9 : Nat × (Nat → Int64) × (Nat → Int32) × (Nat → Int32) × (Nat → Int64)) => HsR k uq9.1 uq9.2.1 uq9.2.2.1 (plc k h (o8 x))) (fun u => gPost G (va_A [(a0, .inr (0, [.ref a1, .ref a2, .ref a3, .ref a4, .int (nI k), .int (nI z), .long (lN t)])), (a1, .inl (G.2.1 2, 8, .inr (.inl wf))), (a2, .inl (G.2.1 0, 128, .inl bf)), (a3, .inl (G.2.1 1, 64, .inl nf)), (a4, .inl (G.2.1 2, 80, .inr (.inl df)))] sz) ((fun (uq9 : Nat × (Nat → Int64) × (Nat → Int32) × (Nat → Int32) × (Nat → Int64)) => ([(a0, .inr (0, [.ref a1, .ref a2, .ref a3, .ref a4, .int (nI k), .int (nI uq9.1), .long (lN t)])), (a1, .inl (G.2.1 2, 8, .inr (.inl uq9.2.1))), (a2, .inl (G.2.1 0, 128, .inl uq9.2.2.1)), (a3, .inl (G.2.1 1, 64, .inl uq9.2.2.2.1)), (a4, .inl (G.2.1 2, 80, .inr (.inl uq9.2.2.2.2)))] : va_W)) u)) (va_A [(a0, .inr (0, [.ref a1, .ref a2, .ref a3, .ref a4, .int (nI k), .int (nI z), .long (lN t)])), (a1, .inl (G.2.1 2, 8, .inr (.inl wf))), (a2, .inl (G.2.1 0, 128, .inl bf)), (a3, .inl (G.2.1 1, 64, .inl nf)), (a4, .inl (G.2.1 2, 80, .inr (.inl df)))] sz)) 0 0 (va_A [(a0, .inr (0, [.ref a1, .ref a2, .ref a3, .ref a4, .int (nI k), .int (nI z), .long (lN t)])), (a1, .inl (G.2.1 2, 8, .inr (.inl wf))), (a2, .inl (G.2.1 0, 128, .inl bf)), (a3, .inl (G.2.1 1, 64, .inl nf)), (a4, .inl (G.2.1 2, 80, .inr (.inl df)))] sz) := by
  refine gM_of (Qf := fun A => va_Qv (fun (uq9 : Nat × (Nat → Int64) × (Nat → Int32) × (Nat → Int32) × (Nat → Int64)) => HsR k uq9.1 uq9.2.1 uq9.2.2.1 (plc k h (o8 x))) (fun u => gPost G A ((fun (uq9 : Nat × (Nat → Int64) × (Nat → Int32) × (Nat → Int32) × (Nat → Int64)) => ([(a0, .inr (0, [.ref a1, .ref a2, .ref a3, .ref a4, .int (nI k), .int (nI uq9.1), .long (lN t)])), (a1, .inl (G.2.1 2, 8, .inr (.inl uq9.2.1))), (a2, .inl (G.2.1 0, 128, .inl uq9.2.2.1)), (a3, .inl (G.2.1 1, 64, .inl uq9.2.2.2.1)), (a4, .inl (G.2.1 2, 80, .inr (.inl uq9.2.2.2.2)))] : va_W)) u)) A) (by decide) (Nat.le_of_ble_eq_true rfl) ?_
  intro p e s m below meth c A ls hx hb hml hr hown htu hlk hnm hA hP hD hS hK hZ hl
  have hown : s.vm.findClass RX0 = some m.cls := hown
  have hl : lv_has ls 2 [(0, .ref a0), (1, .int x)] := hl
  refine lv_aload_n hx hb dX0_place_0 rfl (lv_at hl 0 rfl) ?_
  refine va_get (D := G.1) (ci := 0) (v := .int (nI z)) (C := RX0) (T := TX0) (N := 7) hx hb htu iwX0 hown hK.1 hP 0 rfl rfl 5 (by decide) (htu _ uF_X0_30) (fun _ h9 => h9) rfl dX0_place_1 ?_
  refine lv_if_lt (tgt := 28) hx hb dX0_place_4 (by decide) (fun c_4 => absurd c_4 (nI_pos (hR.z31))) (fun _ => ?_)
  refine lv_aload_n hx hb dX0_place_7 rfl (lv_at hl 0 rfl) ?_
  refine va_get (D := G.1) (ci := 0) (v := .int (nI z)) (C := RX0) (T := TX0) (N := 7) hx hb htu iwX0 hown hK.1 hP 0 rfl rfl 5 (by decide) (htu _ uF_X0_30) (fun _ h9 => h9) rfl dX0_place_8 ?_
  refine lv_sipush (v := 128) hx hb dX0_place_11 (by decide) ?_
  refine lv_icmp_ge (tgt := 28) hx hb dX0_place_14 (by decide) (fun c_14 => absurd c_14 (nI_ge (b := 128) hR.z128 (by decide))) (fun _ => ?_)
  refine lv_aload_n hx hb dX0_place_17 rfl (lv_at hl 0 rfl) ?_
  refine va_get (D := G.1) (ci := 0) (v := .ref a2) (C := RX0) (T := TX0) (N := 7) hx hb htu iwX0 hown hK.1 hP 0 rfl rfl 1 (by decide) (htu _ uF_X0_15) (fun _ h9 => h9) rfl dX0_place_18 ?_
  refine lv_aload_n hx hb dX0_place_21 rfl (lv_at hl 0 rfl) ?_
  refine va_get (D := G.1) (ci := 0) (v := .int (nI z)) (C := RX0) (T := TX0) (N := 7) hx hb htu iwX0 hown hK.1 hP 0 rfl rfl 5 (by decide) (htu _ uF_X0_30) (fun _ h9 => h9) rfl dX0_place_22 ?_
  refine lv_iload_n hx hb dX0_place_25 rfl (lv_at hl 1 rfl) ?_
  refine lv_i2b (v := i2b x) hx hb dX0_place_26 rfl ?_
  refine lv_topi (fun v_1 ev_1 => ?_)
  refine g_bast hx hb hK.1 hP hD hS 2 0 rfl rfl ⟨hR.z128, by decide⟩ dX0_place_27 (fun H locs hP hD hS => ?_)
  obtain ⟨g_2, eg_2⟩ : ∃ gq9 : Nat → Int32, gq9 = upd bf z (vp_nar .byte v_1) := ⟨_, rfl⟩
  rw [← eg_2] at hP hD
  have hP : va_P G.1 vwCl [(a0, .inr (0, [.ref a1, .ref a2, .ref a3, .ref a4, .int (nI k), .int (nI z), .long (lN t)])), (a1, .inl (G.2.1 2, 8, .inr (.inl wf))), (a2, .inl (G.2.1 0, 128, .inl g_2)), (a3, .inl (G.2.1 1, 64, .inl nf)), (a4, .inl (G.2.1 2, 80, .inr (.inl df)))] H := hP
  have hD : va_D A [(a0, .inr (0, [.ref a1, .ref a2, .ref a3, .ref a4, .int (nI k), .int (nI z), .long (lN t)])), (a1, .inl (G.2.1 2, 8, .inr (.inl wf))), (a2, .inl (G.2.1 0, 128, .inl g_2)), (a3, .inl (G.2.1 1, 64, .inl nf)), (a4, .inl (G.2.1 2, 80, .inr (.inl df)))] := hD
  refine lv_aload_n hx hb dX0_place_28 rfl (lv_at hl 0 rfl) ?_
  refine lv_dup hx hb dX0_place_29 rfl ?_
  refine va_get (D := G.1) (ci := 0) (v := .int (nI z)) (C := RX0) (T := TX0) (N := 7) hx hb htu iwX0 hown hK.1 hP 0 rfl rfl 5 (by decide) (htu _ uF_X0_30) (fun _ h9 => h9) rfl dX0_place_30 ?_
  refine lv_iconst (v := 1) hx hb dX0_place_33 (by decide) ?_
  refine lv_iadd hx hb dX0_place_34 ?_
  refine g_toi (y := nI (z + 1)) (nI_1 z) ?_
  refine va_put (D := G.1) (ci := 0) (v := .int (nI (z + 1))) (ty := .int) (C := RX0) (T := TX0) (N := 7) hx hb htu iwX0 tyX0 tyX0_ok nmX0 hown hK.1 hP hD hS 0 rfl rfl 5 (by decide) (htu _ uF_X0_30) (fun _ h9 => h9) rfl (by decide +kernel) rfl rfl (Nat.le_of_ble_eq_true rfl) dX0_place_35 (fun H locs hP hD hS => ?_)
  have hP : va_P G.1 vwCl [(a0, .inr (0, [.ref a1, .ref a2, .ref a3, .ref a4, .int (nI k), .int (nI (z + 1)), .long (lN t)])), (a1, .inl (G.2.1 2, 8, .inr (.inl wf))), (a2, .inl (G.2.1 0, 128, .inl g_2)), (a3, .inl (G.2.1 1, 64, .inl nf)), (a4, .inl (G.2.1 2, 80, .inr (.inl df)))] H := hP
  have hD : va_D A [(a0, .inr (0, [.ref a1, .ref a2, .ref a3, .ref a4, .int (nI k), .int (nI (z + 1)), .long (lN t)])), (a1, .inl (G.2.1 2, 8, .inr (.inl wf))), (a2, .inl (G.2.1 0, 128, .inl g_2)), (a3, .inl (G.2.1 1, 64, .inl nf)), (a4, .inl (G.2.1 2, 80, .inr (.inl df)))] := hD
  refine lv_aload_n hx hb dX0_place_38 rfl (lv_at hl 0 rfl) ?_
  refine va_get (D := G.1) (ci := 0) (v := .int (nI (z + 1))) (C := RX0) (T := TX0) (N := 7) hx hb htu iwX0 hown hK.1 hP 0 rfl rfl 5 (by decide) (htu _ uF_X0_30) (fun _ h9 => h9) rfl dX0_place_39 ?_
  refine lv_aload_n hx hb dX0_place_42 rfl (lv_at hl 0 rfl) ?_
  refine va_get (D := G.1) (ci := 0) (v := .int (nI k)) (C := RX0) (T := TX0) (N := 7) hx hb htu iwX0 hown hK.1 hP 0 rfl rfl 4 (by decide) (htu _ uF_X0_26) (fun _ h9 => h9) rfl dX0_place_43 ?_
  refine g_calli (g_runSN (As := [.int (nI k)]) (rest := [.int (nI (z + 1))]) ⟨hx, hb, hml, hown, htu⟩ (c_X3_blockSize l G _ (nI k) ) nM_X0_49 ok_X3_blockSize uA_X3_blockSize rfl rfl ⟨Nat.le_of_ble_eq_true rfl, Nat.le_of_ble_eq_true rfl⟩ hK hP hD hS hA hZ [] rfl rfl rfl hl.1 rfl (Nat.le_of_ble_eq_true rfl) dX0_place_46 ⟨Nat.le_of_ble_eq_true rfl, Nat.le_of_ble_eq_true rfl⟩) hP hD hS hA [] rfl (fun r_3 u H locs hw_4 hP hD hS => ?_)
  have hw_4 : r_3 = bsI (nI k) := hw_4
  subst hw_4
  have hP : va_P G.1 vwCl [(a0, .inr (0, [.ref a1, .ref a2, .ref a3, .ref a4, .int (nI k), .int (nI (z + 1)), .long (lN t)])), (a1, .inl (G.2.1 2, 8, .inr (.inl wf))), (a2, .inl (G.2.1 0, 128, .inl g_2)), (a3, .inl (G.2.1 1, 64, .inl nf)), (a4, .inl (G.2.1 2, 80, .inr (.inl df)))] H := hP
  have hD : va_D A [(a0, .inr (0, [.ref a1, .ref a2, .ref a3, .ref a4, .int (nI k), .int (nI (z + 1)), .long (lN t)])), (a1, .inl (G.2.1 2, 8, .inr (.inl wf))), (a2, .inl (G.2.1 0, 128, .inl g_2)), (a3, .inl (G.2.1 1, 64, .inl nf)), (a4, .inl (G.2.1 2, 80, .inr (.inl df)))] := hD
  refine g_toi (y := nI (bs k)) (bsI_nI hR.1) ?_
  refine lv_icmp_ge (tgt := 53) hx hb dX0_place_49 (by decide) (fun c_49 => ?_) (fun c_49 => ?_)
  · skip
    have hg : bs k ≤ z + 1 := ge_t (n := bs k) c_49 (Nat.lt_of_le_of_lt (bs_le k) (by decide))
    refine lv_aload_n hx hb dX0_place_53 rfl (lv_at hl 0 rfl) ?_
    refine lv_iconst (v := 0) hx hb dX0_place_54 (by decide) ?_
    refine g_toi (y := nI 0) (rfl) ?_
    refine va_put (D := G.1) (ci := 0) (v := .int (nI 0)) (ty := .int) (C := RX0) (T := TX0) (N := 7) hx hb htu iwX0 tyX0 tyX0_ok nmX0 hown hK.1 hP hD hS 0 rfl rfl 5 (by decide) (htu _ uF_X0_30) (fun _ h9 => h9) rfl (by decide +kernel) rfl rfl (Nat.le_of_ble_eq_true rfl) dX0_place_55 (fun H locs hP hD hS => ?_)
    have hP : va_P G.1 vwCl [(a0, .inr (0, [.ref a1, .ref a2, .ref a3, .ref a4, .int (nI k), .int (nI 0), .long (lN t)])), (a1, .inl (G.2.1 2, 8, .inr (.inl wf))), (a2, .inl (G.2.1 0, 128, .inl g_2)), (a3, .inl (G.2.1 1, 64, .inl nf)), (a4, .inl (G.2.1 2, 80, .inr (.inl df)))] H := hP
    have hD : va_D A [(a0, .inr (0, [.ref a1, .ref a2, .ref a3, .ref a4, .int (nI k), .int (nI 0), .long (lN t)])), (a1, .inl (G.2.1 2, 8, .inr (.inl wf))), (a2, .inl (G.2.1 0, 128, .inl g_2)), (a3, .inl (G.2.1 1, 64, .inl nf)), (a4, .inl (G.2.1 2, 80, .inr (.inl df)))] := hD
    refine lv_aload_n hx hb dX0_place_58 rfl (lv_at hl 0 rfl) ?_
    refine va_get (D := G.1) (ci := 0) (v := .int (nI k)) (C := RX0) (T := TX0) (N := 7) hx hb htu iwX0 hown hK.1 hP 0 rfl rfl 4 (by decide) (htu _ uF_X0_26) (fun _ h9 => h9) rfl dX0_place_59 ?_
    refine g_calli (g_runSN (As := [.int (nI k)]) (rest := []) ⟨hx, hb, hml, hown, htu⟩ (c_X3_isWide l G _ (nI k) ) nM_X0_71 ok_X3_isWide uA_X3_isWide rfl rfl ⟨Nat.le_of_ble_eq_true rfl, Nat.le_of_ble_eq_true rfl⟩ hK hP hD hS hA hZ [] rfl rfl rfl hl.1 rfl (Nat.le_of_ble_eq_true rfl) dX0_place_62 ⟨Nat.le_of_ble_eq_true rfl, Nat.le_of_ble_eq_true rfl⟩) hP hD hS hA [] rfl (fun r_5 u H locs hw_6 hP hD hS => ?_)
    have hw_6 : r_5 = wdI (nI k) := hw_6
    subst hw_6
    have hP : va_P G.1 vwCl [(a0, .inr (0, [.ref a1, .ref a2, .ref a3, .ref a4, .int (nI k), .int (nI 0), .long (lN t)])), (a1, .inl (G.2.1 2, 8, .inr (.inl wf))), (a2, .inl (G.2.1 0, 128, .inl g_2)), (a3, .inl (G.2.1 1, 64, .inl nf)), (a4, .inl (G.2.1 2, 80, .inr (.inl df)))] H := hP
    have hD : va_D A [(a0, .inr (0, [.ref a1, .ref a2, .ref a3, .ref a4, .int (nI k), .int (nI 0), .long (lN t)])), (a1, .inl (G.2.1 2, 8, .inr (.inl wf))), (a2, .inl (G.2.1 0, 128, .inl g_2)), (a3, .inl (G.2.1 1, 64, .inl nf)), (a4, .inl (G.2.1 2, 80, .inr (.inl df)))] := hD
    refine lv_if_eq (tgt := 79) hx hb dX0_place_65 (by decide) (fun c_65 => ?_) (fun c_65 => ?_)
    · skip
      have hk : k < 2 := wdI_0 hR.1 c_65
      refine lv_aload_n hx hb dX0_place_79 rfl (lv_at hl 0 rfl) ?_
      refine g_callv (g_runV (As := []) (rest := []) ⟨hx, hb, hml, hown, htu⟩ (c_X0_layNarrow l G _ a0 a1 a2 a3 a4 (nI k) (nI 0) (lN t) g_2 nf ) uM_X0_81 ok_X0_layNarrow in_X0_layNarrow rfl rfl ⟨Nat.le_of_ble_eq_true rfl, Nat.le_of_ble_eq_true rfl⟩ hK hP hD hS hA hZ [0, 2, 3] rfl rfl 0 rfl rfl rfl rfl hl.1 rfl (Nat.le_of_ble_eq_true rfl) dX0_place_80 ⟨Nat.le_of_ble_eq_true rfl, Nat.le_of_ble_eq_true rfl⟩) hP hD hS hA [0, 2, 3] rfl (fun u H locs hw1 hP hD hS => ?_)
      obtain ⟨nf_8, rfl⟩ : ∃ z, z = u := ⟨_, rfl⟩
      have hw1 : ∀ tq8, tq8 < 64 → nf_8 tq8 = sN (oB g_2) tq8 := hw1
      have hP : va_P G.1 vwCl [(a1, .inl (G.2.1 2, 8, .inr (.inl wf))), (a4, .inl (G.2.1 2, 80, .inr (.inl df))), (a0, .inr (0, [.ref a1, .ref a2, .ref a3, .ref a4, .int (nI k), .int (nI 0), .long (lN t)])), (a2, .inl (G.2.1 0, 128, .inl g_2)), (a3, .inl (G.2.1 1, 64, .inl nf_8))] H := hP
      have hD : va_D A [(a1, .inl (G.2.1 2, 8, .inr (.inl wf))), (a4, .inl (G.2.1 2, 80, .inr (.inl df))), (a0, .inr (0, [.ref a1, .ref a2, .ref a3, .ref a4, .int (nI k), .int (nI 0), .long (lN t)])), (a2, .inl (G.2.1 0, 128, .inl g_2)), (a3, .inl (G.2.1 1, 64, .inl nf_8))] := hD
      refine lv_aload_n hx hb dX0_place_83 rfl (lv_at hl 0 rfl) ?_
      refine g_callv (g_runV (As := []) (rest := []) ⟨hx, hb, hml, hown, htu⟩ (c_X0_mixNarrow l G _ a0 a1 a2 a3 a4 (nI k) (nI 0) (lN t) wf nf_8 ) uM_X0_84 ok_X0_mixNarrow in_X0_mixNarrow rfl rfl ⟨Nat.le_of_ble_eq_true rfl, Nat.le_of_ble_eq_true rfl⟩ hK hP hD hS hA hZ [2, 0, 4] rfl rfl 2 rfl rfl rfl rfl hl.1 rfl (Nat.le_of_ble_eq_true rfl) dX0_place_84 ⟨Nat.le_of_ble_eq_true rfl, Nat.le_of_ble_eq_true rfl⟩) hP hD hS hA [2, 0, 4] rfl (fun u H locs hw2 hP hD hS => ?_)
      obtain ⟨wf_10, rfl⟩ : ∃ z, z = u := ⟨_, rfl⟩
      have hw2 : ∀ jq8, jq8 < 8 → wf_10 jq8 = mxN wf nf_8 jq8 := hw2
      have hP : va_P G.1 vwCl [(a4, .inl (G.2.1 2, 80, .inr (.inl df))), (a2, .inl (G.2.1 0, 128, .inl g_2)), (a0, .inr (0, [.ref a1, .ref a2, .ref a3, .ref a4, .int (nI k), .int (nI 0), .long (lN t)])), (a1, .inl (G.2.1 2, 8, .inr (.inl wf_10))), (a3, .inl (G.2.1 1, 64, .inl nf_8))] H := hP
      have hD : va_D A [(a4, .inl (G.2.1 2, 80, .inr (.inl df))), (a2, .inl (G.2.1 0, 128, .inl g_2)), (a0, .inr (0, [.ref a1, .ref a2, .ref a3, .ref a4, .int (nI k), .int (nI 0), .long (lN t)])), (a1, .inl (G.2.1 2, 8, .inr (.inl wf_10))), (a3, .inl (G.2.1 1, 64, .inl nf_8))] := hD
      exact gret_v hx hb hr hlk dX0_place_87 hS (0, wf_10, g_2, nf_8, df) (hP.sub [2, 3, 1, 4, 0] rfl) (hD.sub [2, 3, 1, 4, 0] (by decide) rfl) (show HsR k 0 wf_10 g_2 (plc k h (o8 x)) from plcN hR hg hk hw1 hw2 eg_2 ev_1)
    · skip
      have hk : ¬ k < 2 := wdI_1 hR.1 c_65
      refine lv_aload_n hx hb dX0_place_68 rfl (lv_at hl 0 rfl) ?_
      refine g_callv (g_runV (As := []) (rest := []) ⟨hx, hb, hml, hown, htu⟩ (c_X0_layWide l G _ a0 a1 a2 a3 a4 (nI k) (nI 0) (lN t) g_2 df ) uM_X0_75 ok_X0_layWide in_X0_layWide rfl rfl ⟨Nat.le_of_ble_eq_true rfl, Nat.le_of_ble_eq_true rfl⟩ hK hP hD hS hA hZ [0, 2, 4] rfl rfl 0 rfl rfl rfl rfl hl.1 rfl (Nat.le_of_ble_eq_true rfl) dX0_place_69 ⟨Nat.le_of_ble_eq_true rfl, Nat.le_of_ble_eq_true rfl⟩) hP hD hS hA [0, 2, 4] rfl (fun u H locs hw1 hP hD hS => ?_)
      obtain ⟨nf_12, rfl⟩ : ∃ z, z = u := ⟨_, rfl⟩
      have hw1 : ∀ tq8, tq8 < 80 → nf_12 tq8 = sW (oB g_2) tq8 := hw1
      have hP : va_P G.1 vwCl [(a1, .inl (G.2.1 2, 8, .inr (.inl wf))), (a3, .inl (G.2.1 1, 64, .inl nf)), (a0, .inr (0, [.ref a1, .ref a2, .ref a3, .ref a4, .int (nI k), .int (nI 0), .long (lN t)])), (a2, .inl (G.2.1 0, 128, .inl g_2)), (a4, .inl (G.2.1 2, 80, .inr (.inl nf_12)))] H := hP
      have hD : va_D A [(a1, .inl (G.2.1 2, 8, .inr (.inl wf))), (a3, .inl (G.2.1 1, 64, .inl nf)), (a0, .inr (0, [.ref a1, .ref a2, .ref a3, .ref a4, .int (nI k), .int (nI 0), .long (lN t)])), (a2, .inl (G.2.1 0, 128, .inl g_2)), (a4, .inl (G.2.1 2, 80, .inr (.inl nf_12)))] := hD
      refine lv_aload_n hx hb dX0_place_72 rfl (lv_at hl 0 rfl) ?_
      refine g_callv (g_runV (As := []) (rest := []) ⟨hx, hb, hml, hown, htu⟩ (c_X0_mixWide l G _ a0 a1 a2 a3 a4 (nI k) (nI 0) (lN t) wf nf_12 ) uM_X0_78 ok_X0_mixWide in_X0_mixWide rfl rfl ⟨Nat.le_of_ble_eq_true rfl, Nat.le_of_ble_eq_true rfl⟩ hK hP hD hS hA hZ [2, 0, 4] rfl rfl 2 rfl rfl rfl rfl hl.1 rfl (Nat.le_of_ble_eq_true rfl) dX0_place_73 ⟨Nat.le_of_ble_eq_true rfl, Nat.le_of_ble_eq_true rfl⟩) hP hD hS hA [2, 0, 4] rfl (fun u H locs hw2 hP hD hS => ?_)
      obtain ⟨wf_14, rfl⟩ : ∃ z, z = u := ⟨_, rfl⟩
      have hw2 : ∀ jq8, jq8 < 8 → wf_14 jq8 = mxW wf nf_12 jq8 := hw2
      have hP : va_P G.1 vwCl [(a3, .inl (G.2.1 1, 64, .inl nf)), (a2, .inl (G.2.1 0, 128, .inl g_2)), (a0, .inr (0, [.ref a1, .ref a2, .ref a3, .ref a4, .int (nI k), .int (nI 0), .long (lN t)])), (a1, .inl (G.2.1 2, 8, .inr (.inl wf_14))), (a4, .inl (G.2.1 2, 80, .inr (.inl nf_12)))] H := hP
      have hD : va_D A [(a3, .inl (G.2.1 1, 64, .inl nf)), (a2, .inl (G.2.1 0, 128, .inl g_2)), (a0, .inr (0, [.ref a1, .ref a2, .ref a3, .ref a4, .int (nI k), .int (nI 0), .long (lN t)])), (a1, .inl (G.2.1 2, 8, .inr (.inl wf_14))), (a4, .inl (G.2.1 2, 80, .inr (.inl nf_12)))] := hD
      refine lv_goto (tgt := 87) hx hb dX0_place_76 (by decide) ?_
      exact gret_v hx hb hr hlk dX0_place_87 hS (0, wf_14, g_2, nf, nf_12) (hP.sub [2, 3, 1, 0, 4] rfl) (hD.sub [2, 3, 1, 0, 4] (by decide) rfl) (show HsR k 0 wf_14 g_2 (plc k h (o8 x)) from plcW hR hg hk hw1 hw2 eg_2 ev_1)
  · skip
    have hg : z + 1 < bs k := ge_f (n := bs k) c_49 (by have := hR.z128; omega)
    exact gret_v hx hb hr hlk dX0_place_52 hS ((z + 1), wf, g_2, nf, df) (hP.sub [0, 1, 2, 3, 4] rfl) (hD.sub [0, 1, 2, 3, 4] (by decide) rfl) (show HsR k (z + 1) wf g_2 (plc k h (o8 x)) from plcA hR hg eg_2 ev_1)
set_option maxHeartbeats 4000000 in
set_option maxRecDepth 100000 in
theorem c_X0_add (l : Launch) (G : GW) (sz : Nat) (a0 : Nat) (a1 : Nat) (a2 : Nat) (a3 : Nat) (a4 : Nat) (k : Nat) (z : Nat) (t : Nat) (wf : Nat → Int64) (bf : Nat → Int32) (nf : Nat → Int32) (df : Nat → Int64) (x : Int32) (h : HS) (hR : HsR k z wf bf h) : Met l yX0_add (Cond.code yX0_add cX0_add 2 (none : Option FieldType) :: UW) ({ frames := 3, cells := 0, slots := 0, locals := 88 } : Room) (va_Pc [.ref a0, .int x] (gPre G [(a0, .inr (0, [.ref a1, .ref a2, .ref a3, .ref a4, .int (nI k), .int (nI z), .long (lN t)])), (a1, .inl (G.2.1 2, 8, .inr (.inl wf))), (a2, .inl (G.2.1 0, 128, .inl bf)), (a3, .inl (G.2.1 1, 64, .inl nf)), (a4, .inl (G.2.1 2, 80, .inr (.inl df)))] sz)) (va_Qv (fun (uq9 : Nat × (Nat → Int64) × (Nat → Int32) × (Nat → Int32) × (Nat → Int64)) => HsR k uq9.1 uq9.2.1 uq9.2.2.1 (plc k h (o8 x))) (fun u => gPost G (va_A [(a0, .inr (0, [.ref a1, .ref a2, .ref a3, .ref a4, .int (nI k), .int (nI z), .long (lN t)])), (a1, .inl (G.2.1 2, 8, .inr (.inl wf))), (a2, .inl (G.2.1 0, 128, .inl bf)), (a3, .inl (G.2.1 1, 64, .inl nf)), (a4, .inl (G.2.1 2, 80, .inr (.inl df)))] sz) ((fun (uq9 : Nat × (Nat → Int64) × (Nat → Int32) × (Nat → Int32) × (Nat → Int64)) => ([(a0, .inr (0, [.ref a1, .ref a2, .ref a3, .ref a4, .int (nI k), .int (nI uq9.1), .long (lN (t + 1))])), (a1, .inl (G.2.1 2, 8, .inr (.inl uq9.2.1))), (a2, .inl (G.2.1 0, 128, .inl uq9.2.2.1)), (a3, .inl (G.2.1 1, 64, .inl uq9.2.2.2.1)), (a4, .inl (G.2.1 2, 80, .inr (.inl uq9.2.2.2.2)))] : va_W)) u)) (va_A [(a0, .inr (0, [.ref a1, .ref a2, .ref a3, .ref a4, .int (nI k), .int (nI z), .long (lN t)])), (a1, .inl (G.2.1 2, 8, .inr (.inl wf))), (a2, .inl (G.2.1 0, 128, .inl bf)), (a3, .inl (G.2.1 1, 64, .inl nf)), (a4, .inl (G.2.1 2, 80, .inr (.inl df)))] sz)) 0 0 (va_A [(a0, .inr (0, [.ref a1, .ref a2, .ref a3, .ref a4, .int (nI k), .int (nI z), .long (lN t)])), (a1, .inl (G.2.1 2, 8, .inr (.inl wf))), (a2, .inl (G.2.1 0, 128, .inl bf)), (a3, .inl (G.2.1 1, 64, .inl nf)), (a4, .inl (G.2.1 2, 80, .inr (.inl df)))] sz) := by
  refine gM_of (Qf := fun A => va_Qv (fun (uq9 : Nat × (Nat → Int64) × (Nat → Int32) × (Nat → Int32) × (Nat → Int64)) => HsR k uq9.1 uq9.2.1 uq9.2.2.1 (plc k h (o8 x))) (fun u => gPost G A ((fun (uq9 : Nat × (Nat → Int64) × (Nat → Int32) × (Nat → Int32) × (Nat → Int64)) => ([(a0, .inr (0, [.ref a1, .ref a2, .ref a3, .ref a4, .int (nI k), .int (nI uq9.1), .long (lN (t + 1))])), (a1, .inl (G.2.1 2, 8, .inr (.inl uq9.2.1))), (a2, .inl (G.2.1 0, 128, .inl uq9.2.2.1)), (a3, .inl (G.2.1 1, 64, .inl uq9.2.2.2.1)), (a4, .inl (G.2.1 2, 80, .inr (.inl uq9.2.2.2.2)))] : va_W)) u)) A) (by decide) (Nat.le_of_ble_eq_true rfl) ?_
  intro p e s m below meth c A ls hx hb hml hr hown htu hlk hnm hA hP hD hS hK hZ hl
  have hown : s.vm.findClass RX0 = some m.cls := hown
  have hl : lv_has ls 2 [(0, .ref a0), (1, .int x)] := hl
  refine lv_aload_n hx hb dX0_add_0 rfl (lv_at hl 0 rfl) ?_
  refine lv_dup hx hb dX0_add_1 rfl ?_
  refine va_get (D := G.1) (ci := 0) (v := .long (lN t)) (C := RX0) (T := TX0) (N := 7) hx hb htu iwX0 hown hK.1 hP 0 rfl rfl 6 (by decide) (htu _ uF_X0_33) (fun _ h9 => h9) rfl dX0_add_2 ?_
  refine lv_lconst (v := 1) hx hb dX0_add_5 (by decide) ?_
  refine lv_ladd hx hb dX0_add_6 ?_
  refine g_tol (y := lN (t + 1)) (lN_1 t) ?_
  refine va_put (D := G.1) (ci := 0) (v := .long (lN (t + 1))) (ty := .long) (C := RX0) (T := TX0) (N := 7) hx hb htu iwX0 tyX0 tyX0_ok nmX0 hown hK.1 hP hD hS 0 rfl rfl 6 (by decide) (htu _ uF_X0_33) (fun _ h9 => h9) rfl (by decide +kernel) rfl rfl (Nat.le_of_ble_eq_true rfl) dX0_add_7 (fun H locs hP hD hS => ?_)
  have hP : va_P G.1 vwCl [(a0, .inr (0, [.ref a1, .ref a2, .ref a3, .ref a4, .int (nI k), .int (nI z), .long (lN (t + 1))])), (a1, .inl (G.2.1 2, 8, .inr (.inl wf))), (a2, .inl (G.2.1 0, 128, .inl bf)), (a3, .inl (G.2.1 1, 64, .inl nf)), (a4, .inl (G.2.1 2, 80, .inr (.inl df)))] H := hP
  have hD : va_D A [(a0, .inr (0, [.ref a1, .ref a2, .ref a3, .ref a4, .int (nI k), .int (nI z), .long (lN (t + 1))])), (a1, .inl (G.2.1 2, 8, .inr (.inl wf))), (a2, .inl (G.2.1 0, 128, .inl bf)), (a3, .inl (G.2.1 1, 64, .inl nf)), (a4, .inl (G.2.1 2, 80, .inr (.inl df)))] := hD
  refine lv_aload_n hx hb dX0_add_10 rfl (lv_at hl 0 rfl) ?_
  refine lv_iload_n hx hb dX0_add_11 rfl (lv_at hl 1 rfl) ?_
  refine g_callv (g_runV (As := [.int x]) (rest := []) ⟨hx, hb, hml, hown, htu⟩ (c_X0_place l G _ a0 a1 a2 a3 a4 k z (t + 1) wf bf nf df x h hR) uM_X0_59 ok_X0_place in_X0_place rfl rfl ⟨Nat.le_of_ble_eq_true rfl, Nat.le_of_ble_eq_true rfl⟩ hK hP hD hS hA hZ [0, 1, 2, 3, 4] rfl rfl 0 rfl rfl rfl rfl hl.1 rfl (Nat.le_of_ble_eq_true rfl) dX0_add_12 ⟨Nat.le_of_ble_eq_true rfl, Nat.le_of_ble_eq_true rfl⟩) hP hD hS hA [0, 1, 2, 3, 4] rfl (fun u H locs hw1 hP hD hS => ?_)
  obtain ⟨z_2, wf_3, bf_4, nf_5, df_6⟩ := u
  have hw1 : HsR k z_2 wf_3 bf_4 (plc k h (o8 x)) := hw1
  have hP : va_P G.1 vwCl [(a0, .inr (0, [.ref a1, .ref a2, .ref a3, .ref a4, .int (nI k), .int (nI z_2), .long (lN (t + 1))])), (a1, .inl (G.2.1 2, 8, .inr (.inl wf_3))), (a2, .inl (G.2.1 0, 128, .inl bf_4)), (a3, .inl (G.2.1 1, 64, .inl nf_5)), (a4, .inl (G.2.1 2, 80, .inr (.inl df_6)))] H := hP
  have hD : va_D A [(a0, .inr (0, [.ref a1, .ref a2, .ref a3, .ref a4, .int (nI k), .int (nI z_2), .long (lN (t + 1))])), (a1, .inl (G.2.1 2, 8, .inr (.inl wf_3))), (a2, .inl (G.2.1 0, 128, .inl bf_4)), (a3, .inl (G.2.1 1, 64, .inl nf_5)), (a4, .inl (G.2.1 2, 80, .inr (.inl df_6)))] := hD
  exact gret_v hx hb hr hlk dX0_add_15 hS (z_2, wf_3, bf_4, nf_5, df_6) (hP.sub [0, 1, 2, 3, 4] rfl) (hD.sub [0, 1, 2, 3, 4] (by decide) rfl) (show HsR k z_2 wf_3 bf_4 (plc k h (o8 x)) from hw1)
set_option maxHeartbeats 4000000 in
set_option maxRecDepth 100000 in
theorem c_X0_addRow (l : Launch) (G : GW) (sz : Nat) (a0 : Nat) (a1 : Nat) (a2 : Nat) (a3 : Nat) (a4 : Nat) (k : Nat) (z : Nat) (t : Nat) (wf : Nat → Int64) (bf : Nat → Int32) (nf : Nat → Int32) (df : Nat → Int64) (r0 : Nat) (r1 : Nat) (nr : Nat) (fr : Nat → Int32) (zr : Nat) (q : List Nat) (h : HS) (hR : HsR k z wf bf h) (hQ : RowR nr fr zr q) : Met l yX0_addRow (Cond.code yX0_addRow cX0_addRow 3 (none : Option FieldType) :: UW) ({ frames := 3, cells := 0, slots := 0, locals := 88 } : Room) (va_Pc [.ref a0, .ref r0] (gPre G [(a0, .inr (0, [.ref a1, .ref a2, .ref a3, .ref a4, .int (nI k), .int (nI z), .long (lN t)])), (a1, .inl (G.2.1 2, 8, .inr (.inl wf))), (a2, .inl (G.2.1 0, 128, .inl bf)), (a3, .inl (G.2.1 1, 64, .inl nf)), (a4, .inl (G.2.1 2, 80, .inr (.inl df))), (r0, .inr (1, [.ref r1, .int (nI zr)])), (r1, .inl (G.2.1 0, nr, .inl fr))] sz)) (va_Qv (fun (uq9 : Nat × (Nat → Int64) × (Nat → Int32) × (Nat → Int32) × (Nat → Int64)) => HsR k uq9.1 uq9.2.1 uq9.2.2.1 (plcs k h q)) (fun u => gPost G (va_A [(a0, .inr (0, [.ref a1, .ref a2, .ref a3, .ref a4, .int (nI k), .int (nI z), .long (lN t)])), (a1, .inl (G.2.1 2, 8, .inr (.inl wf))), (a2, .inl (G.2.1 0, 128, .inl bf)), (a3, .inl (G.2.1 1, 64, .inl nf)), (a4, .inl (G.2.1 2, 80, .inr (.inl df))), (r0, .inr (1, [.ref r1, .int (nI zr)])), (r1, .inl (G.2.1 0, nr, .inl fr))] sz) ((fun (uq9 : Nat × (Nat → Int64) × (Nat → Int32) × (Nat → Int32) × (Nat → Int64)) => ([(a0, .inr (0, [.ref a1, .ref a2, .ref a3, .ref a4, .int (nI k), .int (nI uq9.1), .long (lN (t + zr))])), (a1, .inl (G.2.1 2, 8, .inr (.inl uq9.2.1))), (a2, .inl (G.2.1 0, 128, .inl uq9.2.2.1)), (a3, .inl (G.2.1 1, 64, .inl uq9.2.2.2.1)), (a4, .inl (G.2.1 2, 80, .inr (.inl uq9.2.2.2.2))), (r0, .inr (1, [.ref r1, .int (nI zr)])), (r1, .inl (G.2.1 0, nr, .inl fr))] : va_W)) u)) (va_A [(a0, .inr (0, [.ref a1, .ref a2, .ref a3, .ref a4, .int (nI k), .int (nI z), .long (lN t)])), (a1, .inl (G.2.1 2, 8, .inr (.inl wf))), (a2, .inl (G.2.1 0, 128, .inl bf)), (a3, .inl (G.2.1 1, 64, .inl nf)), (a4, .inl (G.2.1 2, 80, .inr (.inl df))), (r0, .inr (1, [.ref r1, .int (nI zr)])), (r1, .inl (G.2.1 0, nr, .inl fr))] sz)) 0 0 (va_A [(a0, .inr (0, [.ref a1, .ref a2, .ref a3, .ref a4, .int (nI k), .int (nI z), .long (lN t)])), (a1, .inl (G.2.1 2, 8, .inr (.inl wf))), (a2, .inl (G.2.1 0, 128, .inl bf)), (a3, .inl (G.2.1 1, 64, .inl nf)), (a4, .inl (G.2.1 2, 80, .inr (.inl df))), (r0, .inr (1, [.ref r1, .int (nI zr)])), (r1, .inl (G.2.1 0, nr, .inl fr))] sz) := by
  refine gM_of (Qf := fun A => va_Qv (fun (uq9 : Nat × (Nat → Int64) × (Nat → Int32) × (Nat → Int32) × (Nat → Int64)) => HsR k uq9.1 uq9.2.1 uq9.2.2.1 (plcs k h q)) (fun u => gPost G A ((fun (uq9 : Nat × (Nat → Int64) × (Nat → Int32) × (Nat → Int32) × (Nat → Int64)) => ([(a0, .inr (0, [.ref a1, .ref a2, .ref a3, .ref a4, .int (nI k), .int (nI uq9.1), .long (lN (t + zr))])), (a1, .inl (G.2.1 2, 8, .inr (.inl uq9.2.1))), (a2, .inl (G.2.1 0, 128, .inl uq9.2.2.1)), (a3, .inl (G.2.1 1, 64, .inl uq9.2.2.2.1)), (a4, .inl (G.2.1 2, 80, .inr (.inl uq9.2.2.2.2))), (r0, .inr (1, [.ref r1, .int (nI zr)])), (r1, .inl (G.2.1 0, nr, .inl fr))] : va_W)) u)) A) (by decide) (Nat.le_of_ble_eq_true rfl) ?_
  intro p e s m below meth c A ls hx hb hml hr hown htu hlk hnm hA hP hD hS hK hZ hl
  have hown : s.vm.findClass RX0 = some m.cls := hown
  have hl : lv_has ls 3 [(0, .ref a0), (1, .ref r0)] := hl
  refine lv_aload_n hx hb dX0_addRow_0 rfl (lv_at hl 0 rfl) ?_
  refine lv_dup hx hb dX0_addRow_1 rfl ?_
  refine va_get (D := G.1) (ci := 0) (v := .long (lN t)) (C := RX0) (T := TX0) (N := 7) hx hb htu iwX0 hown hK.1 hP 0 rfl rfl 6 (by decide) (htu _ uF_X0_33) (fun _ h9 => h9) rfl dX0_addRow_2 ?_
  refine lv_aload_n hx hb dX0_addRow_5 rfl (lv_at hl 1 rfl) ?_
  refine va_getN (D := G.1) (ci := 1) (v := .int (nI zr)) (C := RX1) (T := TX1) (N := 2) hx hb htu iwX1 hown hK.1 hP 5 rfl rfl 1 (by decide) (va_Nw.use rfl (hK.2.1 _ nF_X0_63)) (fun _ h9 => h9) rfl dX0_addRow_6 ?_
  refine lv_i2l (v := Int32.toInt64 (nI zr)) hx hb dX0_addRow_9 rfl ?_
  refine g_tol (y := lN zr) (nI_l hQ.z31) ?_
  refine lv_ladd hx hb dX0_addRow_10 ?_
  refine g_tol (y := lN (t + zr)) (lN_add t zr) ?_
  refine va_put (D := G.1) (ci := 0) (v := .long (lN (t + zr))) (ty := .long) (C := RX0) (T := TX0) (N := 7) hx hb htu iwX0 tyX0 tyX0_ok nmX0 hown hK.1 hP hD hS 0 rfl rfl 6 (by decide) (htu _ uF_X0_33) (fun _ h9 => h9) rfl (by decide +kernel) rfl rfl (Nat.le_of_ble_eq_true rfl) dX0_addRow_11 (fun H locs hP hD hS => ?_)
  have hP : va_P G.1 vwCl [(a0, .inr (0, [.ref a1, .ref a2, .ref a3, .ref a4, .int (nI k), .int (nI z), .long (lN (t + zr))])), (a1, .inl (G.2.1 2, 8, .inr (.inl wf))), (a2, .inl (G.2.1 0, 128, .inl bf)), (a3, .inl (G.2.1 1, 64, .inl nf)), (a4, .inl (G.2.1 2, 80, .inr (.inl df))), (r0, .inr (1, [.ref r1, .int (nI zr)])), (r1, .inl (G.2.1 0, nr, .inl fr))] H := hP
  have hD : va_D A [(a0, .inr (0, [.ref a1, .ref a2, .ref a3, .ref a4, .int (nI k), .int (nI z), .long (lN (t + zr))])), (a1, .inl (G.2.1 2, 8, .inr (.inl wf))), (a2, .inl (G.2.1 0, 128, .inl bf)), (a3, .inl (G.2.1 1, 64, .inl nf)), (a4, .inl (G.2.1 2, 80, .inr (.inl df))), (r0, .inr (1, [.ref r1, .int (nI zr)])), (r1, .inl (G.2.1 0, nr, .inl fr))] := hD
  refine lv_iconst (v := 0) hx hb dX0_addRow_14 (by decide) ?_
  refine lv_istore_n (lv' := [(2, .int 0), (0, .ref a0), (1, .ref r0)]) hx hb dX0_addRow_15 rfl hl (by decide) rfl (fun ls hl => ?_)
  refine g_loop (σ := Nat × Nat × (Nat → Int64) × (Nat → Int32) × (Nat → Int32) × (Nat → Int64)) (G := G) (fun xq9 : Nat × Nat × (Nat → Int64) × (Nat → Int32) × (Nat → Int32) × (Nat → Int64) => [(a0, .inr (0, [.ref a1, .ref a2, .ref a3, .ref a4, .int (nI k), .int (nI xq9.2.1), .long (lN (t + zr))])), (a1, .inl (G.2.1 2, 8, .inr (.inl xq9.2.2.1))), (a2, .inl (G.2.1 0, 128, .inl xq9.2.2.2.1)), (a3, .inl (G.2.1 1, 64, .inl xq9.2.2.2.2.1)), (a4, .inl (G.2.1 2, 80, .inr (.inl xq9.2.2.2.2.2))), (r0, .inr (1, [.ref r1, .int (nI zr)])), (r1, .inl (G.2.1 0, nr, .inl fr))]) (fun xq9 : Nat × Nat × (Nat → Int64) × (Nat → Int32) × (Nat → Int32) × (Nat → Int64) => [(0, .ref a0), (1, .ref r0), (2, .int (nI xq9.1))]) (fun xq9 : Nat × Nat × (Nat → Int64) × (Nat → Int32) × (Nat → Int32) × (Nat → Int64) => xq9.1 ≤ zr ∧ HsR k xq9.2.1 xq9.2.2.1 xq9.2.2.2.1 (plcs k h (q.take xq9.1))) (fun xq9 : Nat × Nat × (Nat → Int64) × (Nat → Int32) × (Nat → Int32) × (Nat → Int64) => zr - xq9.1) ?_ (0, z, wf, bf, nf, df) (show 0 ≤ zr ∧ HsR k z wf bf (plcs k h (q.take 0)) from ⟨Nat.zero_le _, hR⟩) (hP.sub [0, 1, 2, 3, 4, 5, 6] rfl) (hD.sub [0, 1, 2, 3, 4, 5, 6] (by decide) rfl) hS (lv_sub hl [1, 2, 0] rfl)
  clear hP hD hS hl
  intro x hxI_16 ih_16 H locs ls hP hD hS hl
  obtain ⟨i, z1, w1, b1, n1, d1⟩ := x
  have hI : i ≤ zr ∧ HsR k z1 w1 b1 (plcs k h (q.take i)) := hxI_16
  have hP : va_P G.1 vwCl [(a0, .inr (0, [.ref a1, .ref a2, .ref a3, .ref a4, .int (nI k), .int (nI z1), .long (lN (t + zr))])), (a1, .inl (G.2.1 2, 8, .inr (.inl w1))), (a2, .inl (G.2.1 0, 128, .inl b1)), (a3, .inl (G.2.1 1, 64, .inl n1)), (a4, .inl (G.2.1 2, 80, .inr (.inl d1))), (r0, .inr (1, [.ref r1, .int (nI zr)])), (r1, .inl (G.2.1 0, nr, .inl fr))] H := hP
  have hD : va_D A [(a0, .inr (0, [.ref a1, .ref a2, .ref a3, .ref a4, .int (nI k), .int (nI z1), .long (lN (t + zr))])), (a1, .inl (G.2.1 2, 8, .inr (.inl w1))), (a2, .inl (G.2.1 0, 128, .inl b1)), (a3, .inl (G.2.1 1, 64, .inl n1)), (a4, .inl (G.2.1 2, 80, .inr (.inl d1))), (r0, .inr (1, [.ref r1, .int (nI zr)])), (r1, .inl (G.2.1 0, nr, .inl fr))] := hD
  have hl : lv_has ls 3 [(0, .ref a0), (1, .ref r0), (2, .int (nI i))] := hl
  refine lv_iload_n hx hb dX0_addRow_16 rfl (lv_at hl 2 rfl) ?_
  refine lv_aload_n hx hb dX0_addRow_17 rfl (lv_at hl 1 rfl) ?_
  refine va_getN (D := G.1) (ci := 1) (v := .int (nI zr)) (C := RX1) (T := TX1) (N := 2) hx hb htu iwX1 hown hK.1 hP 5 rfl rfl 1 (by decide) (va_Nw.use rfl (hK.2.1 _ nF_X0_63)) (fun _ h9 => h9) rfl dX0_addRow_18 ?_
  refine lv_icmp_ge (tgt := 39) hx hb dX0_addRow_21 (by decide) (fun c_21 => ?_) (fun c_21 => ?_)
  · skip
    have hg : zr ≤ i := ge_t (n := zr) c_21 hQ.z31
    exact gret_v hx hb hr hlk dX0_addRow_39 hS (z1, w1, b1, n1, d1) (hP.sub [0, 1, 2, 3, 4, 5, 6] rfl) (hD.sub [0, 1, 2, 3, 4, 5, 6] (by decide) rfl) (show HsR k z1 w1 b1 (plcs k h q) from by have h2 := hI.2; rw [List.take_of_length_le (by have := hQ.1; omega)] at h2; exact h2)
  · skip
    have hg : i < zr := ge_f (n := zr) c_21 (Nat.lt_of_le_of_lt hI.1 hQ.z31)
    refine lv_aload_n hx hb dX0_addRow_24 rfl (lv_at hl 0 rfl) ?_
    refine lv_aload_n hx hb dX0_addRow_25 rfl (lv_at hl 1 rfl) ?_
    refine lv_iload_n hx hb dX0_addRow_26 rfl (lv_at hl 2 rfl) ?_
    refine g_calli (g_runV (As := [.int (nI i)]) (rest := [.ref a0]) ⟨hx, hb, hml, hown, htu⟩ (c_X1_atOrZero l G _ r0 r1 nr fr zr (nI i) q hQ) uM_X0_68 ok_X1_atOrZero in_X1_atOrZero rfl rfl ⟨Nat.le_of_ble_eq_true rfl, Nat.le_of_ble_eq_true rfl⟩ hK hP hD hS hA hZ [5, 6] rfl rfl 5 rfl rfl rfl rfl hl.1 rfl (Nat.le_of_ble_eq_true rfl) dX0_addRow_27 ⟨Nat.le_of_ble_eq_true rfl, Nat.le_of_ble_eq_true rfl⟩) hP hD hS hA [5, 6] rfl (fun r_1 u H locs hw_2 hP hD hS => ?_)
    have hw_2 : r_1 = rowAtZ q (nI i) := hw_2
    subst hw_2
    have hP : va_P G.1 vwCl [(a0, .inr (0, [.ref a1, .ref a2, .ref a3, .ref a4, .int (nI k), .int (nI z1), .long (lN (t + zr))])), (a1, .inl (G.2.1 2, 8, .inr (.inl w1))), (a2, .inl (G.2.1 0, 128, .inl b1)), (a3, .inl (G.2.1 1, 64, .inl n1)), (a4, .inl (G.2.1 2, 80, .inr (.inl d1))), (r0, .inr (1, [.ref r1, .int (nI zr)])), (r1, .inl (G.2.1 0, nr, .inl fr))] H := hP
    have hD : va_D A [(a0, .inr (0, [.ref a1, .ref a2, .ref a3, .ref a4, .int (nI k), .int (nI z1), .long (lN (t + zr))])), (a1, .inl (G.2.1 2, 8, .inr (.inl w1))), (a2, .inl (G.2.1 0, 128, .inl b1)), (a3, .inl (G.2.1 1, 64, .inl n1)), (a4, .inl (G.2.1 2, 80, .inr (.inl d1))), (r0, .inr (1, [.ref r1, .int (nI zr)])), (r1, .inl (G.2.1 0, nr, .inl fr))] := hD
    refine g_callv (g_runV (As := [.int (rowAtZ q (nI i))]) (rest := []) ⟨hx, hb, hml, hown, htu⟩ (c_X0_place l G _ a0 a1 a2 a3 a4 k z1 (t + zr) w1 b1 n1 d1 (rowAtZ q (nI i)) (plcs k h (q.take i)) hI.2) uM_X0_59 ok_X0_place in_X0_place rfl rfl ⟨Nat.le_of_ble_eq_true rfl, Nat.le_of_ble_eq_true rfl⟩ hK hP hD hS hA hZ [0, 1, 2, 3, 4] rfl rfl 0 rfl rfl rfl rfl hl.1 rfl (Nat.le_of_ble_eq_true rfl) dX0_addRow_30 ⟨Nat.le_of_ble_eq_true rfl, Nat.le_of_ble_eq_true rfl⟩) hP hD hS hA [0, 1, 2, 3, 4] rfl (fun u H locs hw1 hP hD hS => ?_)
    obtain ⟨z_4, wf_5, bf_6, nf_7, df_8⟩ := u
    have hw1 : HsR k z_4 wf_5 bf_6 (plc k (plcs k h (q.take i)) (o8 (rowAtZ q (nI i)))) := hw1
    have hP : va_P G.1 vwCl [(r0, .inr (1, [.ref r1, .int (nI zr)])), (r1, .inl (G.2.1 0, nr, .inl fr)), (a0, .inr (0, [.ref a1, .ref a2, .ref a3, .ref a4, .int (nI k), .int (nI z_4), .long (lN (t + zr))])), (a1, .inl (G.2.1 2, 8, .inr (.inl wf_5))), (a2, .inl (G.2.1 0, 128, .inl bf_6)), (a3, .inl (G.2.1 1, 64, .inl nf_7)), (a4, .inl (G.2.1 2, 80, .inr (.inl df_8)))] H := hP
    have hD : va_D A [(r0, .inr (1, [.ref r1, .int (nI zr)])), (r1, .inl (G.2.1 0, nr, .inl fr)), (a0, .inr (0, [.ref a1, .ref a2, .ref a3, .ref a4, .int (nI k), .int (nI z_4), .long (lN (t + zr))])), (a1, .inl (G.2.1 2, 8, .inr (.inl wf_5))), (a2, .inl (G.2.1 0, 128, .inl bf_6)), (a3, .inl (G.2.1 1, 64, .inl nf_7)), (a4, .inl (G.2.1 2, 80, .inr (.inl df_8)))] := hD
    refine lv_iinc (v := nI (i + 1)) (lv' := [(2, .int (nI (i + 1))), (0, .ref a0), (1, .ref r0)]) hx hb dX0_addRow_33 hl (k := 2) rfl (nI_1 i) (by decide) rfl (fun ls hl => ?_)
    refine lv_goto (tgt := 16) hx hb dX0_addRow_36 (by decide) ?_
    exact ih_16 (i + 1, z_4, wf_5, bf_6, nf_7, df_8) (show (i + 1) ≤ zr ∧ HsR k z_4 wf_5 bf_6 (plcs k h (q.take (i + 1))) from ⟨hg, plcs_snoc hQ hg hw1⟩) (by show zr - (i + 1) < zr - i; omega) _ _ _ (hP.sub [2, 3, 4, 5, 6, 0, 1] rfl) (hD.sub [2, 3, 4, 5, 6, 0, 1] (by decide) rfl) hS (lv_sub hl [1, 2, 0] rfl)
set_option maxHeartbeats 4000000 in
set_option maxRecDepth 100000 in
theorem c_X0_octetOfWords (l : Launch) (G : GW) (sz : Nat) (a0 : Nat) (a1 : Nat) (a2 : Nat) (a3 : Nat) (a4 : Nat) (k : Nat) (z0 : Int32) (t0 : Int64) (wf : Nat → Int64) (i : Nat) (hk : k < 4) (hi : i < ds k) : Met l yX0_octetOfWords (Cond.code yX0_octetOfWords cX0_octetOfWords 2 (some FieldType.int) :: UW) ({ frames := 1, cells := 0, slots := 0, locals := 20 } : Room) (va_Pc [.ref a0, .int (nI i)] (gPre G [(a0, .inr (0, [.ref a1, .ref a2, .ref a3, .ref a4, .int (nI k), .int z0, .long t0])), (a1, .inl (G.2.1 2, 8, .inr (.inl wf)))] sz)) (va_Qi (fun (r : Int32) (_ : Unit) => r = octW k wf i) (fun u => gPost G (va_A [(a0, .inr (0, [.ref a1, .ref a2, .ref a3, .ref a4, .int (nI k), .int z0, .long t0])), (a1, .inl (G.2.1 2, 8, .inr (.inl wf)))] sz) ((fun (_ : Unit) => ([(a0, .inr (0, [.ref a1, .ref a2, .ref a3, .ref a4, .int (nI k), .int z0, .long t0])), (a1, .inl (G.2.1 2, 8, .inr (.inl wf)))] : va_W)) u)) (va_A [(a0, .inr (0, [.ref a1, .ref a2, .ref a3, .ref a4, .int (nI k), .int z0, .long t0])), (a1, .inl (G.2.1 2, 8, .inr (.inl wf)))] sz)) 0 0 (va_A [(a0, .inr (0, [.ref a1, .ref a2, .ref a3, .ref a4, .int (nI k), .int z0, .long t0])), (a1, .inl (G.2.1 2, 8, .inr (.inl wf)))] sz) := by
  refine gM_of (Qf := fun A => va_Qi (fun (r : Int32) (_ : Unit) => r = octW k wf i) (fun u => gPost G A ((fun (_ : Unit) => ([(a0, .inr (0, [.ref a1, .ref a2, .ref a3, .ref a4, .int (nI k), .int z0, .long t0])), (a1, .inl (G.2.1 2, 8, .inr (.inl wf)))] : va_W)) u)) A) (by decide) (Nat.le_of_ble_eq_true rfl) ?_
  intro p e s m below meth c A ls hx hb hml hr hown htu hlk hnm hA hP hD hS hK hZ hl
  have hown : s.vm.findClass RX0 = some m.cls := hown
  have hl : lv_has ls 2 [(0, .ref a0), (1, .int (nI i))] := hl
  refine lv_iload_n hx hb dX0_octetOfWords_0 rfl (lv_at hl 1 rfl) ?_
  refine lv_if_lt (tgt := 15) hx hb dX0_octetOfWords_1 (by decide) (fun c_1 => absurd c_1 (nI_pos (Nat.lt_trans hi (Nat.lt_of_le_of_lt (ds_le k) (by decide))))) (fun _ => ?_)
  refine lv_iload_n hx hb dX0_octetOfWords_4 rfl (lv_at hl 1 rfl) ?_
  refine lv_aload_n hx hb dX0_octetOfWords_5 rfl (lv_at hl 0 rfl) ?_
  refine va_get (D := G.1) (ci := 0) (v := .int (nI k)) (C := RX0) (T := TX0) (N := 7) hx hb htu iwX0 hown hK.1 hP 0 rfl rfl 4 (by decide) (htu _ uF_X0_26) (fun _ h9 => h9) rfl dX0_octetOfWords_6 ?_
  refine g_calli (g_runSN (As := [.int (nI k)]) (rest := [.int (nI i)]) ⟨hx, hb, hml, hown, htu⟩ (c_X3_digestSize l G _ (nI k) ) nM_X0_90 ok_X3_digestSize uA_X3_digestSize rfl rfl ⟨Nat.le_of_ble_eq_true rfl, Nat.le_of_ble_eq_true rfl⟩ hK hP hD hS hA hZ [] rfl rfl rfl hl.1 rfl (Nat.le_of_ble_eq_true rfl) dX0_octetOfWords_9 ⟨Nat.le_of_ble_eq_true rfl, Nat.le_of_ble_eq_true rfl⟩) hP hD hS hA [] rfl (fun r_1 u H locs hw_2 hP hD hS => ?_)
  have hw_2 : r_1 = dsI (nI k) := hw_2
  subst hw_2
  have hP : va_P G.1 vwCl [(a0, .inr (0, [.ref a1, .ref a2, .ref a3, .ref a4, .int (nI k), .int z0, .long t0])), (a1, .inl (G.2.1 2, 8, .inr (.inl wf)))] H := hP
  have hD : va_D A [(a0, .inr (0, [.ref a1, .ref a2, .ref a3, .ref a4, .int (nI k), .int z0, .long t0])), (a1, .inl (G.2.1 2, 8, .inr (.inl wf)))] := hD
  refine g_toi (y := nI (ds k)) (dsI_nI hk) ?_
  refine lv_icmp_lt (tgt := 17) hx hb dX0_octetOfWords_12 (by decide) (fun _ => ?_) (fun c_12 => absurd (nI_lt hi (Nat.lt_of_le_of_lt (ds_le k) (by decide))) c_12)
  refine lv_aload_n hx hb dX0_octetOfWords_17 rfl (lv_at hl 0 rfl) ?_
  refine va_get (D := G.1) (ci := 0) (v := .int (nI k)) (C := RX0) (T := TX0) (N := 7) hx hb htu iwX0 hown hK.1 hP 0 rfl rfl 4 (by decide) (htu _ uF_X0_26) (fun _ h9 => h9) rfl dX0_octetOfWords_18 ?_
  refine g_calli (g_runSN (As := [.int (nI k)]) (rest := []) ⟨hx, hb, hml, hown, htu⟩ (c_X3_isWide l G _ (nI k) ) nM_X0_71 ok_X3_isWide uA_X3_isWide rfl rfl ⟨Nat.le_of_ble_eq_true rfl, Nat.le_of_ble_eq_true rfl⟩ hK hP hD hS hA hZ [] rfl rfl rfl hl.1 rfl (Nat.le_of_ble_eq_true rfl) dX0_octetOfWords_21 ⟨Nat.le_of_ble_eq_true rfl, Nat.le_of_ble_eq_true rfl⟩) hP hD hS hA [] rfl (fun r_3 u H locs hw_4 hP hD hS => ?_)
  have hw_4 : r_3 = wdI (nI k) := hw_4
  subst hw_4
  have hP : va_P G.1 vwCl [(a0, .inr (0, [.ref a1, .ref a2, .ref a3, .ref a4, .int (nI k), .int z0, .long t0])), (a1, .inl (G.2.1 2, 8, .inr (.inl wf)))] H := hP
  have hD : va_D A [(a0, .inr (0, [.ref a1, .ref a2, .ref a3, .ref a4, .int (nI k), .int z0, .long t0])), (a1, .inl (G.2.1 2, 8, .inr (.inl wf)))] := hD
  refine lv_if_eq (tgt := 48) hx hb dX0_octetOfWords_24 (by decide) (fun c_24 => ?_) (fun c_24 => ?_)
  · skip
    have hk2 : k < 2 := wdI_0 hk c_24
    refine lv_aload_n hx hb dX0_octetOfWords_48 rfl (lv_at hl 0 rfl) ?_
    refine va_get (D := G.1) (ci := 0) (v := .ref a1) (C := RX0) (T := TX0) (N := 7) hx hb htu iwX0 hown hK.1 hP 0 rfl rfl 0 (by decide) (htu _ uF_X0_9) (fun _ h9 => h9) rfl dX0_octetOfWords_49 ?_
    refine lv_iload_n hx hb dX0_octetOfWords_52 rfl (lv_at hl 1 rfl) ?_
    refine lv_iconst (v := 2) hx hb dX0_octetOfWords_53 (by decide) ?_
    refine lv_ishr hx hb dX0_octetOfWords_54 ?_
    refine g_toi (y := nI (i / 4)) (sh_2 (Nat.lt_of_lt_of_le hi (ds_le k))) ?_
    refine g_lald hx hb hK.1 hP 1 2 rfl rfl ⟨by have := ds_lt2 hk2; omega, by decide⟩ dX0_octetOfWords_55 ?_
    refine lv_bipush (v := 24) hx hb dX0_octetOfWords_56 (by decide) ?_
    refine lv_bipush (v := 8) hx hb dX0_octetOfWords_58 (by decide) ?_
    refine lv_iload_n hx hb dX0_octetOfWords_60 rfl (lv_at hl 1 rfl) ?_
    refine lv_iconst (v := 3) hx hb dX0_octetOfWords_61 (by decide) ?_
    refine lv_iand hx hb dX0_octetOfWords_62 ?_
    refine g_toi (y := nI (i % 4)) (an_3 (Nat.lt_of_lt_of_le hi (ds_le k))) ?_
    refine lv_imul hx hb dX0_octetOfWords_63 ?_
    refine g_toi (y := nI (8 * (i % 4))) (pk_mul 8 (i % 4)) ?_
    refine lv_isub hx hb dX0_octetOfWords_64 ?_
    refine g_toi (y := nI (24 - 8 * (i % 4))) (pk_sub (a := 24) (by omega)) ?_
    refine lv_lushr (v := ushL (wf (i / 4)) (nI (24 - 8 * (i % 4)))) hx hb dX0_octetOfWords_65 rfl ?_
    refine lv_l2i (v := Int64.toInt32 (ushL (wf (i / 4)) (nI (24 - 8 * (i % 4))))) hx hb dX0_octetOfWords_66 rfl ?_
    exact gret_i hx hb hr hlk dX0_octetOfWords_67 hS () (hP.sub [0, 1] rfl) (hD.sub [0, 1] (by decide) rfl) (by unfold octW; rw [if_pos hk2])
  · skip
    have hk2 : ¬ k < 2 := wdI_1 hk c_24
    refine lv_aload_n hx hb dX0_octetOfWords_27 rfl (lv_at hl 0 rfl) ?_
    refine va_get (D := G.1) (ci := 0) (v := .ref a1) (C := RX0) (T := TX0) (N := 7) hx hb htu iwX0 hown hK.1 hP 0 rfl rfl 0 (by decide) (htu _ uF_X0_9) (fun _ h9 => h9) rfl dX0_octetOfWords_28 ?_
    refine lv_iload_n hx hb dX0_octetOfWords_31 rfl (lv_at hl 1 rfl) ?_
    refine lv_iconst (v := 3) hx hb dX0_octetOfWords_32 (by decide) ?_
    refine lv_ishr hx hb dX0_octetOfWords_33 ?_
    refine g_toi (y := nI (i / 8)) (sh_3 (Nat.lt_of_lt_of_le hi (ds_le k))) ?_
    refine g_lald hx hb hK.1 hP 1 2 rfl rfl ⟨by have := ds_le k; omega, by decide⟩ dX0_octetOfWords_34 ?_
    refine lv_bipush (v := 56) hx hb dX0_octetOfWords_35 (by decide) ?_
    refine lv_bipush (v := 8) hx hb dX0_octetOfWords_37 (by decide) ?_
    refine lv_iload_n hx hb dX0_octetOfWords_39 rfl (lv_at hl 1 rfl) ?_
    refine lv_bipush (v := 7) hx hb dX0_octetOfWords_40 (by decide) ?_
    refine lv_iand hx hb dX0_octetOfWords_42 ?_
    refine g_toi (y := nI (i % 8)) (an_7 (Nat.lt_of_lt_of_le hi (ds_le k))) ?_
    refine lv_imul hx hb dX0_octetOfWords_43 ?_
    refine g_toi (y := nI (8 * (i % 8))) (pk_mul 8 (i % 8)) ?_
    refine lv_isub hx hb dX0_octetOfWords_44 ?_
    refine g_toi (y := nI (56 - 8 * (i % 8))) (pk_sub (a := 56) (by omega)) ?_
    refine lv_lushr (v := ushL (wf (i / 8)) (nI (56 - 8 * (i % 8)))) hx hb dX0_octetOfWords_45 rfl ?_
    refine lv_l2i (v := Int64.toInt32 (ushL (wf (i / 8)) (nI (56 - 8 * (i % 8))))) hx hb dX0_octetOfWords_46 rfl ?_
    exact gret_i hx hb hr hlk dX0_octetOfWords_47 hS () (hP.sub [0, 1] rfl) (hD.sub [0, 1] (by decide) rfl) (by unfold octW; rw [if_neg hk2])
set_option maxHeartbeats 4000000 in
set_option maxRecDepth 100000 in
theorem c_X0_writeDigest (l : Launch) (G : GW) (sz : Nat) (a0 : Nat) (a1 : Nat) (a2 : Nat) (a3 : Nat) (a4 : Nat) (k : Nat) (z0 : Int32) (t0 : Int64) (wf : Nat → Int64) (r0 : Nat) (r1 : Nat) (nr : Nat) (fr : Nat → Int32) (zr : Nat) (hk : k < 4) (hn : 64 ≤ nr ∧ nr < 2 ^ 31) : Met l yX0_writeDigest (Cond.code yX0_writeDigest cX0_writeDigest 3 (none : Option FieldType) :: UW) ({ frames := 2, cells := 0, slots := 0, locals := 41 } : Room) (va_Pc [.ref a0, .ref r0] (gPre G [(a0, .inr (0, [.ref a1, .ref a2, .ref a3, .ref a4, .int (nI k), .int z0, .long t0])), (a1, .inl (G.2.1 2, 8, .inr (.inl wf))), (r0, .inr (1, [.ref r1, .int (nI zr)])), (r1, .inl (G.2.1 0, nr, .inl fr))] sz)) (va_Qv (fun (uq9 : (Nat → Int32) × Nat) => RowR nr uq9.1 uq9.2 (dgO k wf)) (fun u => gPost G (va_A [(a0, .inr (0, [.ref a1, .ref a2, .ref a3, .ref a4, .int (nI k), .int z0, .long t0])), (a1, .inl (G.2.1 2, 8, .inr (.inl wf))), (r0, .inr (1, [.ref r1, .int (nI zr)])), (r1, .inl (G.2.1 0, nr, .inl fr))] sz) ((fun (uq9 : (Nat → Int32) × Nat) => ([(a0, .inr (0, [.ref a1, .ref a2, .ref a3, .ref a4, .int (nI k), .int z0, .long t0])), (a1, .inl (G.2.1 2, 8, .inr (.inl wf))), (r0, .inr (1, [.ref r1, .int (nI uq9.2)])), (r1, .inl (G.2.1 0, nr, .inl uq9.1))] : va_W)) u)) (va_A [(a0, .inr (0, [.ref a1, .ref a2, .ref a3, .ref a4, .int (nI k), .int z0, .long t0])), (a1, .inl (G.2.1 2, 8, .inr (.inl wf))), (r0, .inr (1, [.ref r1, .int (nI zr)])), (r1, .inl (G.2.1 0, nr, .inl fr))] sz)) 0 0 (va_A [(a0, .inr (0, [.ref a1, .ref a2, .ref a3, .ref a4, .int (nI k), .int z0, .long t0])), (a1, .inl (G.2.1 2, 8, .inr (.inl wf))), (r0, .inr (1, [.ref r1, .int (nI zr)])), (r1, .inl (G.2.1 0, nr, .inl fr))] sz) := by
  refine gM_of (Qf := fun A => va_Qv (fun (uq9 : (Nat → Int32) × Nat) => RowR nr uq9.1 uq9.2 (dgO k wf)) (fun u => gPost G A ((fun (uq9 : (Nat → Int32) × Nat) => ([(a0, .inr (0, [.ref a1, .ref a2, .ref a3, .ref a4, .int (nI k), .int z0, .long t0])), (a1, .inl (G.2.1 2, 8, .inr (.inl wf))), (r0, .inr (1, [.ref r1, .int (nI uq9.2)])), (r1, .inl (G.2.1 0, nr, .inl uq9.1))] : va_W)) u)) A) (by decide) (Nat.le_of_ble_eq_true rfl) ?_
  intro p e s m below meth c A ls hx hb hml hr hown htu hlk hnm hA hP hD hS hK hZ hl
  have hown : s.vm.findClass RX0 = some m.cls := hown
  have hl : lv_has ls 3 [(0, .ref a0), (1, .ref r0)] := hl
  refine lv_aload_n hx hb dX0_writeDigest_0 rfl (lv_at hl 1 rfl) ?_
  refine g_callv (g_runV (As := []) (rest := []) ⟨hx, hb, hml, hown, htu⟩ (c_X1_clear l G _ r0 r1 nr fr zr ) uM_X0_87 ok_X1_clear in_X1_clear rfl rfl ⟨Nat.le_of_ble_eq_true rfl, Nat.le_of_ble_eq_true rfl⟩ hK hP hD hS hA hZ [2, 3] rfl rfl 2 rfl rfl rfl rfl hl.1 rfl (Nat.le_of_ble_eq_true rfl) dX0_writeDigest_1 ⟨Nat.le_of_ble_eq_true rfl, Nat.le_of_ble_eq_true rfl⟩) hP hD hS hA [2, 3] rfl (fun u H locs hw_2 hP hD hS => ?_)
  have hP : va_P G.1 vwCl [(a0, .inr (0, [.ref a1, .ref a2, .ref a3, .ref a4, .int (nI k), .int z0, .long t0])), (a1, .inl (G.2.1 2, 8, .inr (.inl wf))), (r0, .inr (1, [.ref r1, .int (nI 0)])), (r1, .inl (G.2.1 0, nr, .inl fr))] H := hP
  have hD : va_D A [(a0, .inr (0, [.ref a1, .ref a2, .ref a3, .ref a4, .int (nI k), .int z0, .long t0])), (a1, .inl (G.2.1 2, 8, .inr (.inl wf))), (r0, .inr (1, [.ref r1, .int (nI 0)])), (r1, .inl (G.2.1 0, nr, .inl fr))] := hD
  refine lv_iconst (v := 0) hx hb dX0_writeDigest_4 (by decide) ?_
  refine lv_istore_n (lv' := [(2, .int 0), (0, .ref a0), (1, .ref r0)]) hx hb dX0_writeDigest_5 rfl hl (by decide) rfl (fun ls hl => ?_)
  refine g_loop (σ := Nat × (Nat → Int32) × Nat) (G := G) (fun xq9 : Nat × (Nat → Int32) × Nat => [(a0, .inr (0, [.ref a1, .ref a2, .ref a3, .ref a4, .int (nI k), .int z0, .long t0])), (a1, .inl (G.2.1 2, 8, .inr (.inl wf))), (r0, .inr (1, [.ref r1, .int (nI xq9.2.2)])), (r1, .inl (G.2.1 0, nr, .inl xq9.2.1))]) (fun xq9 : Nat × (Nat → Int32) × Nat => [(0, .ref a0), (1, .ref r0), (2, .int (nI xq9.1))]) (fun xq9 : Nat × (Nat → Int32) × Nat => xq9.1 ≤ ds k ∧ RowR nr xq9.2.1 xq9.2.2 ((dgO k wf).take xq9.1)) (fun xq9 : Nat × (Nat → Int32) × Nat => ds k - xq9.1) ?_ (0, fr, 0) (show 0 ≤ ds k ∧ RowR nr fr 0 ((dgO k wf).take 0) from ⟨Nat.zero_le _, RowR.nil hn.2⟩) (hP.sub [0, 1, 2, 3] rfl) (hD.sub [0, 1, 2, 3] (by decide) rfl) hS (lv_sub hl [1, 2, 0] rfl)
  clear hP hD hS hl
  intro x hxI_6 ih_6 H locs ls hP hD hS hl
  obtain ⟨i, g, y⟩ := x
  have hI : i ≤ ds k ∧ RowR nr g y ((dgO k wf).take i) := hxI_6
  have hP : va_P G.1 vwCl [(a0, .inr (0, [.ref a1, .ref a2, .ref a3, .ref a4, .int (nI k), .int z0, .long t0])), (a1, .inl (G.2.1 2, 8, .inr (.inl wf))), (r0, .inr (1, [.ref r1, .int (nI y)])), (r1, .inl (G.2.1 0, nr, .inl g))] H := hP
  have hD : va_D A [(a0, .inr (0, [.ref a1, .ref a2, .ref a3, .ref a4, .int (nI k), .int z0, .long t0])), (a1, .inl (G.2.1 2, 8, .inr (.inl wf))), (r0, .inr (1, [.ref r1, .int (nI y)])), (r1, .inl (G.2.1 0, nr, .inl g))] := hD
  have hl : lv_has ls 3 [(0, .ref a0), (1, .ref r0), (2, .int (nI i))] := hl
  refine lv_iload_n hx hb dX0_writeDigest_6 rfl (lv_at hl 2 rfl) ?_
  refine lv_aload_n hx hb dX0_writeDigest_7 rfl (lv_at hl 0 rfl) ?_
  refine va_get (D := G.1) (ci := 0) (v := .int (nI k)) (C := RX0) (T := TX0) (N := 7) hx hb htu iwX0 hown hK.1 hP 0 rfl rfl 4 (by decide) (htu _ uF_X0_26) (fun _ h9 => h9) rfl dX0_writeDigest_8 ?_
  refine g_calli (g_runSN (As := [.int (nI k)]) (rest := [.int (nI i)]) ⟨hx, hb, hml, hown, htu⟩ (c_X3_digestSize l G _ (nI k) ) nM_X0_90 ok_X3_digestSize uA_X3_digestSize rfl rfl ⟨Nat.le_of_ble_eq_true rfl, Nat.le_of_ble_eq_true rfl⟩ hK hP hD hS hA hZ [] rfl rfl rfl hl.1 rfl (Nat.le_of_ble_eq_true rfl) dX0_writeDigest_11 ⟨Nat.le_of_ble_eq_true rfl, Nat.le_of_ble_eq_true rfl⟩) hP hD hS hA [] rfl (fun r_3 u H locs hw_4 hP hD hS => ?_)
  have hw_4 : r_3 = dsI (nI k) := hw_4
  subst hw_4
  have hP : va_P G.1 vwCl [(a0, .inr (0, [.ref a1, .ref a2, .ref a3, .ref a4, .int (nI k), .int z0, .long t0])), (a1, .inl (G.2.1 2, 8, .inr (.inl wf))), (r0, .inr (1, [.ref r1, .int (nI y)])), (r1, .inl (G.2.1 0, nr, .inl g))] H := hP
  have hD : va_D A [(a0, .inr (0, [.ref a1, .ref a2, .ref a3, .ref a4, .int (nI k), .int z0, .long t0])), (a1, .inl (G.2.1 2, 8, .inr (.inl wf))), (r0, .inr (1, [.ref r1, .int (nI y)])), (r1, .inl (G.2.1 0, nr, .inl g))] := hD
  refine g_toi (y := nI (ds k)) (dsI_nI hk) ?_
  refine lv_icmp_ge (tgt := 32) hx hb dX0_writeDigest_14 (by decide) (fun c_14 => ?_) (fun c_14 => ?_)
  · skip
    have hg : ds k ≤ i := ge_t (n := ds k) c_14 (Nat.lt_of_le_of_lt (ds_le k) (by decide))
    exact gret_v hx hb hr hlk dX0_writeDigest_32 hS (g, y) (hP.sub [0, 1, 2, 3] rfl) (hD.sub [0, 1, 2, 3] (by decide) rfl) (show RowR nr g y (dgO k wf) from by have h2 := hI.2; rw [List.take_of_length_le (by rw [dgO_len]; exact hg)] at h2; exact h2)
  · skip
    have hg : i < ds k := ge_f (n := ds k) c_14 (Nat.lt_of_le_of_lt hI.1 (Nat.lt_of_le_of_lt (ds_le k) (by decide)))
    refine lv_aload_n hx hb dX0_writeDigest_17 rfl (lv_at hl 1 rfl) ?_
    refine lv_aload_n hx hb dX0_writeDigest_18 rfl (lv_at hl 0 rfl) ?_
    refine lv_iload_n hx hb dX0_writeDigest_19 rfl (lv_at hl 2 rfl) ?_
    refine g_calli (g_runV (As := [.int (nI i)]) (rest := [.ref r0]) ⟨hx, hb, hml, hown, htu⟩ (c_X0_octetOfWords l G _ a0 a1 a2 a3 a4 k z0 t0 wf i hk hg) uM_X0_93 ok_X0_octetOfWords in_X0_octetOfWords rfl rfl ⟨Nat.le_of_ble_eq_true rfl, Nat.le_of_ble_eq_true rfl⟩ hK hP hD hS hA hZ [0, 1] rfl rfl 0 rfl rfl rfl rfl hl.1 rfl (Nat.le_of_ble_eq_true rfl) dX0_writeDigest_20 ⟨Nat.le_of_ble_eq_true rfl, Nat.le_of_ble_eq_true rfl⟩) hP hD hS hA [0, 1] rfl (fun r_5 u H locs hw_6 hP hD hS => ?_)
    have hw_6 : r_5 = octW k wf i := hw_6
    subst hw_6
    have hP : va_P G.1 vwCl [(r0, .inr (1, [.ref r1, .int (nI y)])), (r1, .inl (G.2.1 0, nr, .inl g)), (a0, .inr (0, [.ref a1, .ref a2, .ref a3, .ref a4, .int (nI k), .int z0, .long t0])), (a1, .inl (G.2.1 2, 8, .inr (.inl wf)))] H := hP
    have hD : va_D A [(r0, .inr (1, [.ref r1, .int (nI y)])), (r1, .inl (G.2.1 0, nr, .inl g)), (a0, .inr (0, [.ref a1, .ref a2, .ref a3, .ref a4, .int (nI k), .int z0, .long t0])), (a1, .inl (G.2.1 2, 8, .inr (.inl wf)))] := hD
    refine g_callv (g_runV (As := [.int (octW k wf i)]) (rest := []) ⟨hx, hb, hml, hown, htu⟩ (c_X1_append l G _ r0 r1 nr g y (octW k wf i) ((dgO k wf).take i) hI.2) uM_X0_96 ok_X1_append in_X1_append rfl rfl ⟨Nat.le_of_ble_eq_true rfl, Nat.le_of_ble_eq_true rfl⟩ hK hP hD hS hA hZ [0, 1] rfl rfl 0 rfl rfl rfl rfl hl.1 rfl (Nat.le_of_ble_eq_true rfl) dX0_writeDigest_23 ⟨Nat.le_of_ble_eq_true rfl, Nat.le_of_ble_eq_true rfl⟩) hP hD hS hA [0, 1] rfl (fun u H locs hw1 hP hD hS => ?_)
    obtain ⟨f_8, z_9⟩ := u
    have hw1 : RowR nr f_8 z_9 (if y < nr then ((dgO k wf).take i) ++ [o8 (octW k wf i)] else ((dgO k wf).take i)) := hw1
    have hP : va_P G.1 vwCl [(a0, .inr (0, [.ref a1, .ref a2, .ref a3, .ref a4, .int (nI k), .int z0, .long t0])), (a1, .inl (G.2.1 2, 8, .inr (.inl wf))), (r0, .inr (1, [.ref r1, .int (nI z_9)])), (r1, .inl (G.2.1 0, nr, .inl f_8))] H := hP
    have hD : va_D A [(a0, .inr (0, [.ref a1, .ref a2, .ref a3, .ref a4, .int (nI k), .int z0, .long t0])), (a1, .inl (G.2.1 2, 8, .inr (.inl wf))), (r0, .inr (1, [.ref r1, .int (nI z_9)])), (r1, .inl (G.2.1 0, nr, .inl f_8))] := hD
    refine lv_iinc (v := nI (i + 1)) (lv' := [(2, .int (nI (i + 1))), (0, .ref a0), (1, .ref r0)]) hx hb dX0_writeDigest_26 hl (k := 2) rfl (nI_1 i) (by decide) rfl (fun ls hl => ?_)
    refine lv_goto (tgt := 6) hx hb dX0_writeDigest_29 (by decide) ?_
    exact ih_6 (i + 1, f_8, z_9) (show (i + 1) ≤ ds k ∧ RowR nr f_8 z_9 ((dgO k wf).take (i + 1)) from ⟨hg, dgO_snoc hg hI.2 hn.1 hw1⟩) (by show ds k - (i + 1) < ds k - i; omega) _ _ _ (hP.sub [0, 1, 2, 3] rfl) (hD.sub [0, 1, 2, 3] (by decide) rfl) hS (lv_sub hl [1, 2, 0] rfl)
set_option maxHeartbeats 4000000 in
set_option maxRecDepth 100000 in
theorem c_X0_pad (l : Launch) (G : GW) (sz : Nat) (a0 : Nat) (a1 : Nat) (a2 : Nat) (a3 : Nat) (a4 : Nat) (k : Nat) (z : Nat) (t : Nat) (wf : Nat → Int64) (bf : Nat → Int32) (nf : Nat → Int32) (df : Nat → Int64) (h : HS) (hR : HsR k z wf bf h) : Met l yX0_pad (Cond.code yX0_pad cX0_pad 6 (none : Option FieldType) :: UW) ({ frames := 3, cells := 0, slots := 0, locals := 88 } : Room) (va_Pc [.ref a0] (gPre G [(a0, .inr (0, [.ref a1, .ref a2, .ref a3, .ref a4, .int (nI k), .int (nI z), .long (lN t)])), (a1, .inl (G.2.1 2, 8, .inr (.inl wf))), (a2, .inl (G.2.1 0, 128, .inl bf)), (a3, .inl (G.2.1 1, 64, .inl nf)), (a4, .inl (G.2.1 2, 80, .inr (.inl df)))] sz)) (va_Qv (fun (uq9 : Nat × (Nat → Int64) × (Nat → Int32) × (Nat → Int32) × (Nat → Int64)) => HsR k uq9.1 uq9.2.1 uq9.2.2.1 (plcs k h (padL k z (lN t)))) (fun u => gPost G (va_A [(a0, .inr (0, [.ref a1, .ref a2, .ref a3, .ref a4, .int (nI k), .int (nI z), .long (lN t)])), (a1, .inl (G.2.1 2, 8, .inr (.inl wf))), (a2, .inl (G.2.1 0, 128, .inl bf)), (a3, .inl (G.2.1 1, 64, .inl nf)), (a4, .inl (G.2.1 2, 80, .inr (.inl df)))] sz) ((fun (uq9 : Nat × (Nat → Int64) × (Nat → Int32) × (Nat → Int32) × (Nat → Int64)) => ([(a0, .inr (0, [.ref a1, .ref a2, .ref a3, .ref a4, .int (nI k), .int (nI uq9.1), .long (lN t)])), (a1, .inl (G.2.1 2, 8, .inr (.inl uq9.2.1))), (a2, .inl (G.2.1 0, 128, .inl uq9.2.2.1)), (a3, .inl (G.2.1 1, 64, .inl uq9.2.2.2.1)), (a4, .inl (G.2.1 2, 80, .inr (.inl uq9.2.2.2.2)))] : va_W)) u)) (va_A [(a0, .inr (0, [.ref a1, .ref a2, .ref a3, .ref a4, .int (nI k), .int (nI z), .long (lN t)])), (a1, .inl (G.2.1 2, 8, .inr (.inl wf))), (a2, .inl (G.2.1 0, 128, .inl bf)), (a3, .inl (G.2.1 1, 64, .inl nf)), (a4, .inl (G.2.1 2, 80, .inr (.inl df)))] sz)) 0 0 (va_A [(a0, .inr (0, [.ref a1, .ref a2, .ref a3, .ref a4, .int (nI k), .int (nI z), .long (lN t)])), (a1, .inl (G.2.1 2, 8, .inr (.inl wf))), (a2, .inl (G.2.1 0, 128, .inl bf)), (a3, .inl (G.2.1 1, 64, .inl nf)), (a4, .inl (G.2.1 2, 80, .inr (.inl df)))] sz) := by
  refine gM_of (Qf := fun A => va_Qv (fun (uq9 : Nat × (Nat → Int64) × (Nat → Int32) × (Nat → Int32) × (Nat → Int64)) => HsR k uq9.1 uq9.2.1 uq9.2.2.1 (plcs k h (padL k z (lN t)))) (fun u => gPost G A ((fun (uq9 : Nat × (Nat → Int64) × (Nat → Int32) × (Nat → Int32) × (Nat → Int64)) => ([(a0, .inr (0, [.ref a1, .ref a2, .ref a3, .ref a4, .int (nI k), .int (nI uq9.1), .long (lN t)])), (a1, .inl (G.2.1 2, 8, .inr (.inl uq9.2.1))), (a2, .inl (G.2.1 0, 128, .inl uq9.2.2.1)), (a3, .inl (G.2.1 1, 64, .inl uq9.2.2.2.1)), (a4, .inl (G.2.1 2, 80, .inr (.inl uq9.2.2.2.2)))] : va_W)) u)) A) (by decide) (Nat.le_of_ble_eq_true rfl) ?_
  intro p e s m below meth c A ls hx hb hml hr hown htu hlk hnm hA hP hD hS hK hZ hl
  have hown : s.vm.findClass RX0 = some m.cls := hown
  have hl : lv_has ls 6 [(0, .ref a0)] := hl
  refine lv_aload_n hx hb dX0_pad_0 rfl (lv_at hl 0 rfl) ?_
  refine va_get (D := G.1) (ci := 0) (v := .long (lN t)) (C := RX0) (T := TX0) (N := 7) hx hb htu iwX0 hown hK.1 hP 0 rfl rfl 6 (by decide) (htu _ uF_X0_33) (fun _ h9 => h9) rfl dX0_pad_1 ?_
  refine lv_ldc2 hx hb hown (htu _ uL_X0_99) dX0_pad_4 ?_
  refine lv_lmul hx hb dX0_pad_7 ?_
  refine lv_lstore_n (lv' := [(1, .long ((lN t) * 8)), (0, .ref a0)]) hx hb dX0_pad_8 rfl hl (by decide) rfl (fun ls hl => ?_)
  refine lv_aload_n hx hb dX0_pad_9 rfl (lv_at hl 1 rfl) ?_
  refine lv_sipush (v := 128) hx hb dX0_pad_10 (by decide) ?_
  refine g_callv (g_runV (As := [.int 128]) (rest := []) ⟨hx, hb, hml, hown, htu⟩ (c_X0_place l G _ a0 a1 a2 a3 a4 k z t wf bf nf df 128 h hR) uM_X0_59 ok_X0_place in_X0_place rfl rfl ⟨Nat.le_of_ble_eq_true rfl, Nat.le_of_ble_eq_true rfl⟩ hK hP hD hS hA hZ [0, 1, 2, 3, 4] rfl rfl 0 rfl rfl rfl rfl hl.1 rfl (Nat.le_of_ble_eq_true rfl) dX0_pad_13 ⟨Nat.le_of_ble_eq_true rfl, Nat.le_of_ble_eq_true rfl⟩) hP hD hS hA [0, 1, 2, 3, 4] rfl (fun u H locs hw0 hP hD hS => ?_)
  obtain ⟨Z1, wf_2, bf_3, nf_4, df_5⟩ := u
  have hw0 : HsR k Z1 wf_2 bf_3 (plc k h (o8 128)) := hw0
  have hP : va_P G.1 vwCl [(a0, .inr (0, [.ref a1, .ref a2, .ref a3, .ref a4, .int (nI k), .int (nI Z1), .long (lN t)])), (a1, .inl (G.2.1 2, 8, .inr (.inl wf_2))), (a2, .inl (G.2.1 0, 128, .inl bf_3)), (a3, .inl (G.2.1 1, 64, .inl nf_4)), (a4, .inl (G.2.1 2, 80, .inr (.inl df_5)))] H := hP
  have hD : va_D A [(a0, .inr (0, [.ref a1, .ref a2, .ref a3, .ref a4, .int (nI k), .int (nI Z1), .long (lN t)])), (a1, .inl (G.2.1 2, 8, .inr (.inl wf_2))), (a2, .inl (G.2.1 0, 128, .inl bf_3)), (a3, .inl (G.2.1 1, 64, .inl nf_4)), (a4, .inl (G.2.1 2, 80, .inr (.inl df_5)))] := hD
  refine g_meet (σ := Unit) (G := G) (A := A) (nL := 6) 34 (fun _ => [(a0, .inr (0, [.ref a1, .ref a2, .ref a3, .ref a4, .int (nI k), .int (nI Z1), .long (lN t)])), (a1, .inl (G.2.1 2, 8, .inr (.inl wf_2))), (a2, .inl (G.2.1 0, 128, .inl bf_3)), (a3, .inl (G.2.1 1, 64, .inl nf_4)), (a4, .inl (G.2.1 2, 80, .inr (.inl df_5)))]) (fun _ => [(0, .ref a0), (1, .long ((lN t) * 8)), (3, .int (nI (rmK k)))]) (fun _ => []) (fun _ => True) (fun _ _ H locs ls hP hD hS hl => ?_) (fun hmeet => ?_)
  · skip
    have hP : va_P G.1 vwCl [(a0, .inr (0, [.ref a1, .ref a2, .ref a3, .ref a4, .int (nI k), .int (nI Z1), .long (lN t)])), (a1, .inl (G.2.1 2, 8, .inr (.inl wf_2))), (a2, .inl (G.2.1 0, 128, .inl bf_3)), (a3, .inl (G.2.1 1, 64, .inl nf_4)), (a4, .inl (G.2.1 2, 80, .inr (.inl df_5)))] H := hP
    have hD : va_D A [(a0, .inr (0, [.ref a1, .ref a2, .ref a3, .ref a4, .int (nI k), .int (nI Z1), .long (lN t)])), (a1, .inl (G.2.1 2, 8, .inr (.inl wf_2))), (a2, .inl (G.2.1 0, 128, .inl bf_3)), (a3, .inl (G.2.1 1, 64, .inl nf_4)), (a4, .inl (G.2.1 2, 80, .inr (.inl df_5)))] := hD
    have hl : lv_has ls 6 [(0, .ref a0), (1, .long ((lN t) * 8)), (3, .int (nI (rmK k)))] := hl
    refine lv_aload_n hx hb dX0_pad_34 rfl (lv_at hl 0 rfl) ?_
    refine va_get (D := G.1) (ci := 0) (v := .int (nI k)) (C := RX0) (T := TX0) (N := 7) hx hb htu iwX0 hown hK.1 hP 0 rfl rfl 4 (by decide) (htu _ uF_X0_26) (fun _ h9 => h9) rfl dX0_pad_35 ?_
    refine g_calli (g_runSN (As := [.int (nI k)]) (rest := []) ⟨hx, hb, hml, hown, htu⟩ (c_X3_blockSize l G _ (nI k) ) nM_X0_49 ok_X3_blockSize uA_X3_blockSize rfl rfl ⟨Nat.le_of_ble_eq_true rfl, Nat.le_of_ble_eq_true rfl⟩ hK hP hD hS hA hZ [] rfl rfl rfl hl.1 rfl (Nat.le_of_ble_eq_true rfl) dX0_pad_38 ⟨Nat.le_of_ble_eq_true rfl, Nat.le_of_ble_eq_true rfl⟩) hP hD hS hA [] rfl (fun r_6 u H locs hw_7 hP hD hS => ?_)
    have hw_7 : r_6 = bsI (nI k) := hw_7
    subst hw_7
    have hP : va_P G.1 vwCl [(a0, .inr (0, [.ref a1, .ref a2, .ref a3, .ref a4, .int (nI k), .int (nI Z1), .long (lN t)])), (a1, .inl (G.2.1 2, 8, .inr (.inl wf_2))), (a2, .inl (G.2.1 0, 128, .inl bf_3)), (a3, .inl (G.2.1 1, 64, .inl nf_4)), (a4, .inl (G.2.1 2, 80, .inr (.inl df_5)))] H := hP
    have hD : va_D A [(a0, .inr (0, [.ref a1, .ref a2, .ref a3, .ref a4, .int (nI k), .int (nI Z1), .long (lN t)])), (a1, .inl (G.2.1 2, 8, .inr (.inl wf_2))), (a2, .inl (G.2.1 0, 128, .inl bf_3)), (a3, .inl (G.2.1 1, 64, .inl nf_4)), (a4, .inl (G.2.1 2, 80, .inr (.inl df_5)))] := hD
    refine g_toi (y := nI (bs k)) (bsI_nI hR.1) ?_
    refine lv_iload_n hx hb dX0_pad_41 rfl (lv_at hl 2 rfl) ?_
    refine lv_isub hx hb dX0_pad_42 ?_
    refine lv_aload_n hx hb dX0_pad_43 rfl (lv_at hl 0 rfl) ?_
    refine va_get (D := G.1) (ci := 0) (v := .int (nI Z1)) (C := RX0) (T := TX0) (N := 7) hx hb htu iwX0 hown hK.1 hP 0 rfl rfl 5 (by decide) (htu _ uF_X0_30) (fun _ h9 => h9) rfl dX0_pad_44 ?_
    refine lv_isub hx hb dX0_pad_47 ?_
    refine lv_aload_n hx hb dX0_pad_48 rfl (lv_at hl 0 rfl) ?_
    refine va_get (D := G.1) (ci := 0) (v := .int (nI k)) (C := RX0) (T := TX0) (N := 7) hx hb htu iwX0 hown hK.1 hP 0 rfl rfl 4 (by decide) (htu _ uF_X0_26) (fun _ h9 => h9) rfl dX0_pad_49 ?_
    refine g_calli (g_runSN (As := [.int (nI k)]) (rest := [.int (((nI (bs k)) - (nI (rmK k))) - (nI Z1))]) ⟨hx, hb, hml, hown, htu⟩ (c_X3_blockSize l G _ (nI k) ) nM_X0_49 ok_X3_blockSize uA_X3_blockSize rfl rfl ⟨Nat.le_of_ble_eq_true rfl, Nat.le_of_ble_eq_true rfl⟩ hK hP hD hS hA hZ [] rfl rfl rfl hl.1 rfl (Nat.le_of_ble_eq_true rfl) dX0_pad_52 ⟨Nat.le_of_ble_eq_true rfl, Nat.le_of_ble_eq_true rfl⟩) hP hD hS hA [] rfl (fun r_8 u H locs hw_9 hP hD hS => ?_)
    have hw_9 : r_8 = bsI (nI k) := hw_9
    subst hw_9
    have hP : va_P G.1 vwCl [(a0, .inr (0, [.ref a1, .ref a2, .ref a3, .ref a4, .int (nI k), .int (nI Z1), .long (lN t)])), (a1, .inl (G.2.1 2, 8, .inr (.inl wf_2))), (a2, .inl (G.2.1 0, 128, .inl bf_3)), (a3, .inl (G.2.1 1, 64, .inl nf_4)), (a4, .inl (G.2.1 2, 80, .inr (.inl df_5)))] H := hP
    have hD : va_D A [(a0, .inr (0, [.ref a1, .ref a2, .ref a3, .ref a4, .int (nI k), .int (nI Z1), .long (lN t)])), (a1, .inl (G.2.1 2, 8, .inr (.inl wf_2))), (a2, .inl (G.2.1 0, 128, .inl bf_3)), (a3, .inl (G.2.1 1, 64, .inl nf_4)), (a4, .inl (G.2.1 2, 80, .inr (.inl df_5)))] := hD
    refine g_toi (y := nI (bs k)) (bsI_nI hR.1) ?_
    refine lv_iconst (v := 1) hx hb dX0_pad_55 (by decide) ?_
    refine lv_isub hx hb dX0_pad_56 ?_
    refine lv_iand hx hb dX0_pad_57 ?_
    refine g_toi (y := nI (zc k Z1)) (zc_I hR.1 hw0.zb) ?_
    refine lv_istore (lv' := [(4, .int (nI (zc k Z1))), (0, .ref a0), (1, .long ((lN t) * 8)), (3, .int (nI (rmK k)))]) hx hb dX0_pad_58 hl (by decide) rfl (fun ls hl => ?_)
    refine lv_iconst (v := 0) hx hb dX0_pad_60 (by decide) ?_
    refine lv_istore (lv' := [(5, .int 0), (4, .int (nI (zc k Z1))), (0, .ref a0), (1, .long ((lN t) * 8)), (3, .int (nI (rmK k)))]) hx hb dX0_pad_61 hl (by decide) rfl (fun ls hl => ?_)
    refine g_loop (σ := Nat × Nat × (Nat → Int64) × (Nat → Int32) × (Nat → Int32) × (Nat → Int64)) (G := G) (fun xq9 : Nat × Nat × (Nat → Int64) × (Nat → Int32) × (Nat → Int32) × (Nat → Int64) => [(a0, .inr (0, [.ref a1, .ref a2, .ref a3, .ref a4, .int (nI k), .int (nI xq9.2.1), .long (lN t)])), (a1, .inl (G.2.1 2, 8, .inr (.inl xq9.2.2.1))), (a2, .inl (G.2.1 0, 128, .inl xq9.2.2.2.1)), (a3, .inl (G.2.1 1, 64, .inl xq9.2.2.2.2.1)), (a4, .inl (G.2.1 2, 80, .inr (.inl xq9.2.2.2.2.2)))]) (fun xq9 : Nat × Nat × (Nat → Int64) × (Nat → Int32) × (Nat → Int32) × (Nat → Int64) => [(0, .ref a0), (1, .long ((lN t) * 8)), (3, .int (nI (rmK k))), (4, .int (nI (zc k Z1))), (5, .int (nI xq9.1))]) (fun xq9 : Nat × Nat × (Nat → Int64) × (Nat → Int32) × (Nat → Int32) × (Nat → Int64) => xq9.1 ≤ zc k Z1 + rmK k - 8 ∧ HsR k xq9.2.1 xq9.2.2.1 xq9.2.2.2.1 (plcs k (plc k h (o8 128)) (List.replicate xq9.1 0))) (fun xq9 : Nat × Nat × (Nat → Int64) × (Nat → Int32) × (Nat → Int32) × (Nat → Int64) => zc k Z1 + rmK k - 8 - xq9.1) ?_ (0, Z1, wf_2, bf_3, nf_4, df_5) (show 0 ≤ zc k Z1 + rmK k - 8 ∧ HsR k Z1 wf_2 bf_3 (plcs k (plc k h (o8 128)) (List.replicate 0 0)) from ⟨Nat.zero_le _, hw0⟩) (hP.sub [0, 1, 2, 3, 4] rfl) (hD.sub [0, 1, 2, 3, 4] (by decide) rfl) hS (lv_sub hl [2, 3, 4, 1, 0] rfl)
    clear hP hD hS hl
    intro x hxI_63 ih_63 H locs ls hP hD hS hl
    obtain ⟨i, z1, w1, b1, n1, d1⟩ := x
    have hI : i ≤ zc k Z1 + rmK k - 8 ∧ HsR k z1 w1 b1 (plcs k (plc k h (o8 128)) (List.replicate i 0)) := hxI_63
    have hP : va_P G.1 vwCl [(a0, .inr (0, [.ref a1, .ref a2, .ref a3, .ref a4, .int (nI k), .int (nI z1), .long (lN t)])), (a1, .inl (G.2.1 2, 8, .inr (.inl w1))), (a2, .inl (G.2.1 0, 128, .inl b1)), (a3, .inl (G.2.1 1, 64, .inl n1)), (a4, .inl (G.2.1 2, 80, .inr (.inl d1)))] H := hP
    have hD : va_D A [(a0, .inr (0, [.ref a1, .ref a2, .ref a3, .ref a4, .int (nI k), .int (nI z1), .long (lN t)])), (a1, .inl (G.2.1 2, 8, .inr (.inl w1))), (a2, .inl (G.2.1 0, 128, .inl b1)), (a3, .inl (G.2.1 1, 64, .inl n1)), (a4, .inl (G.2.1 2, 80, .inr (.inl d1)))] := hD
    have hl : lv_has ls 6 [(0, .ref a0), (1, .long ((lN t) * 8)), (3, .int (nI (rmK k))), (4, .int (nI (zc k Z1))), (5, .int (nI i))] := hl
    refine lv_iload hx hb dX0_pad_63 (lv_at hl 4 rfl) ?_
    refine lv_iload hx hb dX0_pad_65 (lv_at hl 3 rfl) ?_
    refine lv_iload_n hx hb dX0_pad_67 rfl (lv_at hl 2 rfl) ?_
    refine lv_iadd hx hb dX0_pad_68 ?_
    refine g_toi (y := nI (zc k Z1 + rmK k)) (nI_add _ _) ?_
    refine lv_bipush (v := 8) hx hb dX0_pad_69 (by decide) ?_
    refine lv_isub hx hb dX0_pad_71 ?_
    refine g_toi (y := nI (zc k Z1 + rmK k - 8)) (pk_sub (b := 8) (by have := rm_ge k; omega)) ?_
    refine lv_icmp_ge (tgt := 86) hx hb dX0_pad_72 (by decide) (fun c_72 => ?_) (fun c_72 => ?_)
    · skip
      have hg : zc k Z1 + rmK k - 8 ≤ i := ge_t (n := zc k Z1 + rmK k - 8) c_72 (zc_31 k _)
      refine lv_bipush (v := 56) hx hb dX0_pad_86 (by decide) ?_
      refine g_toi (y := nI 56 - nI (8 * 0)) (by decide) ?_
      refine lv_istore (lv' := [(5, .int (nI 56 - nI (8 * 0))), (0, .ref a0), (1, .long ((lN t) * 8)), (3, .int (nI (rmK k))), (4, .int (nI (zc k Z1)))]) hx hb dX0_pad_88 hl (by decide) rfl (fun ls hl => ?_)
      refine g_loop (σ := Nat × Nat × (Nat → Int64) × (Nat → Int32) × (Nat → Int32) × (Nat → Int64)) (G := G) (fun xq9 : Nat × Nat × (Nat → Int64) × (Nat → Int32) × (Nat → Int32) × (Nat → Int64) => [(a0, .inr (0, [.ref a1, .ref a2, .ref a3, .ref a4, .int (nI k), .int (nI xq9.2.1), .long (lN t)])), (a1, .inl (G.2.1 2, 8, .inr (.inl xq9.2.2.1))), (a2, .inl (G.2.1 0, 128, .inl xq9.2.2.2.1)), (a3, .inl (G.2.1 1, 64, .inl xq9.2.2.2.2.1)), (a4, .inl (G.2.1 2, 80, .inr (.inl xq9.2.2.2.2.2)))]) (fun xq9 : Nat × Nat × (Nat → Int64) × (Nat → Int32) × (Nat → Int32) × (Nat → Int64) => [(0, .ref a0), (1, .long ((lN t) * 8)), (5, .int (nI 56 - nI (8 * xq9.1)))]) (fun xq9 : Nat × Nat × (Nat → Int64) × (Nat → Int32) × (Nat → Int32) × (Nat → Int64) => xq9.1 ≤ 8 ∧ HsR k xq9.2.1 xq9.2.2.1 xq9.2.2.2.1 (plcs k (plcs k (plc k h (o8 128)) (List.replicate (zc k Z1 + rmK k - 8) 0)) ((lenB (lN t * 8)).take xq9.1))) (fun xq9 : Nat × Nat × (Nat → Int64) × (Nat → Int32) × (Nat → Int32) × (Nat → Int64) => 8 - xq9.1) ?_ (0, z1, w1, b1, n1, d1) (show 0 ≤ 8 ∧ HsR k z1 w1 b1 (plcs k (plcs k (plc k h (o8 128)) (List.replicate (zc k Z1 + rmK k - 8) 0)) ((lenB (lN t * 8)).take 0)) from ⟨Nat.zero_le _, by have h2 := hI.2; rw [show i = zc k Z1 + rmK k - 8 by omega] at h2; exact h2⟩) (hP.sub [0, 1, 2, 3, 4] rfl) (hD.sub [0, 1, 2, 3, 4] (by decide) rfl) hS (lv_sub hl [1, 2, 0] rfl)
      clear hP hD hS hl
      intro x hxI_90 ih_90 H locs ls hP hD hS hl
      obtain ⟨j, z1, w1, b1, n1, d1⟩ := x
      have hI : j ≤ 8 ∧ HsR k z1 w1 b1 (plcs k (plcs k (plc k h (o8 128)) (List.replicate (zc k Z1 + rmK k - 8) 0)) ((lenB (lN t * 8)).take j)) := hxI_90
      have hP : va_P G.1 vwCl [(a0, .inr (0, [.ref a1, .ref a2, .ref a3, .ref a4, .int (nI k), .int (nI z1), .long (lN t)])), (a1, .inl (G.2.1 2, 8, .inr (.inl w1))), (a2, .inl (G.2.1 0, 128, .inl b1)), (a3, .inl (G.2.1 1, 64, .inl n1)), (a4, .inl (G.2.1 2, 80, .inr (.inl d1)))] H := hP
      have hD : va_D A [(a0, .inr (0, [.ref a1, .ref a2, .ref a3, .ref a4, .int (nI k), .int (nI z1), .long (lN t)])), (a1, .inl (G.2.1 2, 8, .inr (.inl w1))), (a2, .inl (G.2.1 0, 128, .inl b1)), (a3, .inl (G.2.1 1, 64, .inl n1)), (a4, .inl (G.2.1 2, 80, .inr (.inl d1)))] := hD
      have hl : lv_has ls 6 [(0, .ref a0), (1, .long ((lN t) * 8)), (5, .int (nI 56 - nI (8 * j)))] := hl
      refine lv_iload hx hb dX0_pad_90 (lv_at hl 2 rfl) ?_
      refine lv_if_lt (tgt := 110) hx hb dX0_pad_92 (by decide) (fun c_92 => ?_) (fun c_92 => ?_)
      · skip
        have hg : j = 8 := sh_lt hI.1 c_92
        exact gret_v hx hb hr hlk dX0_pad_110 hS (z1, w1, b1, n1, d1) (hP.sub [0, 1, 2, 3, 4] rfl) (hD.sub [0, 1, 2, 3, 4] (by decide) rfl) (show HsR k z1 w1 b1 (plcs k h (padL k z (lN t))) from padE hR hw0 hg hI.2)
      · skip
        have hg : j < 8 := sh_ge hI.1 c_92
        refine lv_aload_n hx hb dX0_pad_95 rfl (lv_at hl 0 rfl) ?_
        refine lv_lload_n hx hb dX0_pad_96 rfl (lv_at hl 1 rfl) ?_
        refine lv_iload hx hb dX0_pad_97 (lv_at hl 2 rfl) ?_
        refine lv_lushr (v := ushL ((lN t) * 8) (nI 56 - nI (8 * j))) hx hb dX0_pad_99 rfl ?_
        refine lv_l2i (v := Int64.toInt32 (ushL ((lN t) * 8) (nI 56 - nI (8 * j)))) hx hb dX0_pad_100 rfl ?_
        refine g_callv (g_runV (As := [.int (Int64.toInt32 (ushL ((lN t) * 8) (nI 56 - nI (8 * j))))]) (rest := []) ⟨hx, hb, hml, hown, htu⟩ (c_X0_place l G _ a0 a1 a2 a3 a4 k z1 t w1 b1 n1 d1 (Int64.toInt32 (ushL ((lN t) * 8) (nI 56 - nI (8 * j)))) (plcs k (plcs k (plc k h (o8 128)) (List.replicate (zc k Z1 + rmK k - 8) 0)) ((lenB (lN t * 8)).take j)) hI.2) uM_X0_59 ok_X0_place in_X0_place rfl rfl ⟨Nat.le_of_ble_eq_true rfl, Nat.le_of_ble_eq_true rfl⟩ hK hP hD hS hA hZ [0, 1, 2, 3, 4] rfl rfl 0 rfl rfl rfl rfl hl.1 rfl (Nat.le_of_ble_eq_true rfl) dX0_pad_101 ⟨Nat.le_of_ble_eq_true rfl, Nat.le_of_ble_eq_true rfl⟩) hP hD hS hA [0, 1, 2, 3, 4] rfl (fun u H locs hw1 hP hD hS => ?_)
        obtain ⟨z_11, wf_12, bf_13, nf_14, df_15⟩ := u
        have hw1 : HsR k z_11 wf_12 bf_13 (plc k (plcs k (plcs k (plc k h (o8 128)) (List.replicate (zc k Z1 + rmK k - 8) 0)) ((lenB (lN t * 8)).take j)) (o8 (Int64.toInt32 (ushL ((lN t) * 8) (nI 56 - nI (8 * j)))))) := hw1
        have hP : va_P G.1 vwCl [(a0, .inr (0, [.ref a1, .ref a2, .ref a3, .ref a4, .int (nI k), .int (nI z_11), .long (lN t)])), (a1, .inl (G.2.1 2, 8, .inr (.inl wf_12))), (a2, .inl (G.2.1 0, 128, .inl bf_13)), (a3, .inl (G.2.1 1, 64, .inl nf_14)), (a4, .inl (G.2.1 2, 80, .inr (.inl df_15)))] H := hP
        have hD : va_D A [(a0, .inr (0, [.ref a1, .ref a2, .ref a3, .ref a4, .int (nI k), .int (nI z_11), .long (lN t)])), (a1, .inl (G.2.1 2, 8, .inr (.inl wf_12))), (a2, .inl (G.2.1 0, 128, .inl bf_13)), (a3, .inl (G.2.1 1, 64, .inl nf_14)), (a4, .inl (G.2.1 2, 80, .inr (.inl df_15)))] := hD
        refine lv_iinc (v := nI 56 - nI (8 * (j + 1))) (lv' := [(5, .int (nI 56 - nI (8 * (j + 1)))), (0, .ref a0), (1, .long ((lN t) * 8))]) hx hb dX0_pad_104 hl (k := 2) rfl (sh_inc hg) (by decide) rfl (fun ls hl => ?_)
        refine lv_goto (tgt := 90) hx hb dX0_pad_107 (by decide) ?_
        exact ih_90 (j + 1, z_11, wf_12, bf_13, nf_14, df_15) (show (j + 1) ≤ 8 ∧ HsR k z_11 wf_12 bf_13 (plcs k (plcs k (plc k h (o8 128)) (List.replicate (zc k Z1 + rmK k - 8) 0)) ((lenB (lN t * 8)).take (j + 1))) from ⟨hg, lenB_snoc hg hw1⟩) (by show 8 - (j + 1) < 8 - j; omega) _ _ _ (hP.sub [0, 1, 2, 3, 4] rfl) (hD.sub [0, 1, 2, 3, 4] (by decide) rfl) hS (lv_sub hl [1, 2, 0] rfl)
    · skip
      have hg : i < zc k Z1 + rmK k - 8 := ge_f (n := zc k Z1 + rmK k - 8) c_72 (by have := hI.1; have := zc_31 k Z1; omega)
      refine lv_aload_n hx hb dX0_pad_75 rfl (lv_at hl 0 rfl) ?_
      refine lv_iconst (v := 0) hx hb dX0_pad_76 (by decide) ?_
      refine g_callv (g_runV (As := [.int 0]) (rest := []) ⟨hx, hb, hml, hown, htu⟩ (c_X0_place l G _ a0 a1 a2 a3 a4 k z1 t w1 b1 n1 d1 0 (plcs k (plc k h (o8 128)) (List.replicate i 0)) hI.2) uM_X0_59 ok_X0_place in_X0_place rfl rfl ⟨Nat.le_of_ble_eq_true rfl, Nat.le_of_ble_eq_true rfl⟩ hK hP hD hS hA hZ [0, 1, 2, 3, 4] rfl rfl 0 rfl rfl rfl rfl hl.1 rfl (Nat.le_of_ble_eq_true rfl) dX0_pad_77 ⟨Nat.le_of_ble_eq_true rfl, Nat.le_of_ble_eq_true rfl⟩) hP hD hS hA [0, 1, 2, 3, 4] rfl (fun u H locs hw1 hP hD hS => ?_)
      obtain ⟨z_17, wf_18, bf_19, nf_20, df_21⟩ := u
      have hw1 : HsR k z_17 wf_18 bf_19 (plc k (plcs k (plc k h (o8 128)) (List.replicate i 0)) (o8 0)) := hw1
      have hP : va_P G.1 vwCl [(a0, .inr (0, [.ref a1, .ref a2, .ref a3, .ref a4, .int (nI k), .int (nI z_17), .long (lN t)])), (a1, .inl (G.2.1 2, 8, .inr (.inl wf_18))), (a2, .inl (G.2.1 0, 128, .inl bf_19)), (a3, .inl (G.2.1 1, 64, .inl nf_20)), (a4, .inl (G.2.1 2, 80, .inr (.inl df_21)))] H := hP
      have hD : va_D A [(a0, .inr (0, [.ref a1, .ref a2, .ref a3, .ref a4, .int (nI k), .int (nI z_17), .long (lN t)])), (a1, .inl (G.2.1 2, 8, .inr (.inl wf_18))), (a2, .inl (G.2.1 0, 128, .inl bf_19)), (a3, .inl (G.2.1 1, 64, .inl nf_20)), (a4, .inl (G.2.1 2, 80, .inr (.inl df_21)))] := hD
      refine lv_iinc (v := nI (i + 1)) (lv' := [(5, .int (nI (i + 1))), (0, .ref a0), (1, .long ((lN t) * 8)), (3, .int (nI (rmK k))), (4, .int (nI (zc k Z1)))]) hx hb dX0_pad_80 hl (k := 4) rfl (nI_1 i) (by decide) rfl (fun ls hl => ?_)
      refine lv_goto (tgt := 63) hx hb dX0_pad_83 (by decide) ?_
      exact ih_63 (i + 1, z_17, wf_18, bf_19, nf_20, df_21) (show (i + 1) ≤ zc k Z1 + rmK k - 8 ∧ HsR k z_17 wf_18 bf_19 (plcs k (plc k h (o8 128)) (List.replicate (i + 1) 0)) from ⟨hg, plcs_rep hw1⟩) (by show zc k Z1 + rmK k - 8 - (i + 1) < zc k Z1 + rmK k - 8 - i; omega) _ _ _ (hP.sub [0, 1, 2, 3, 4] rfl) (hD.sub [0, 1, 2, 3, 4] (by decide) rfl) hS (lv_sub hl [1, 2, 3, 4, 0] rfl)
  · skip
    refine lv_aload_n hx hb dX0_pad_16 rfl (lv_at hl 1 rfl) ?_
    refine va_get (D := G.1) (ci := 0) (v := .int (nI k)) (C := RX0) (T := TX0) (N := 7) hx hb htu iwX0 hown hK.1 hP 0 rfl rfl 4 (by decide) (htu _ uF_X0_26) (fun _ h9 => h9) rfl dX0_pad_17 ?_
    refine g_calli (g_runSN (As := [.int (nI k)]) (rest := []) ⟨hx, hb, hml, hown, htu⟩ (c_X3_isWide l G _ (nI k) ) nM_X0_71 ok_X3_isWide uA_X3_isWide rfl rfl ⟨Nat.le_of_ble_eq_true rfl, Nat.le_of_ble_eq_true rfl⟩ hK hP hD hS hA hZ [] rfl rfl rfl hl.1 rfl (Nat.le_of_ble_eq_true rfl) dX0_pad_20 ⟨Nat.le_of_ble_eq_true rfl, Nat.le_of_ble_eq_true rfl⟩) hP hD hS hA [] rfl (fun r_22 u H locs hw_23 hP hD hS => ?_)
    have hw_23 : r_22 = wdI (nI k) := hw_23
    subst hw_23
    have hP : va_P G.1 vwCl [(a0, .inr (0, [.ref a1, .ref a2, .ref a3, .ref a4, .int (nI k), .int (nI Z1), .long (lN t)])), (a1, .inl (G.2.1 2, 8, .inr (.inl wf_2))), (a2, .inl (G.2.1 0, 128, .inl bf_3)), (a3, .inl (G.2.1 1, 64, .inl nf_4)), (a4, .inl (G.2.1 2, 80, .inr (.inl df_5)))] H := hP
    have hD : va_D A [(a0, .inr (0, [.ref a1, .ref a2, .ref a3, .ref a4, .int (nI k), .int (nI Z1), .long (lN t)])), (a1, .inl (G.2.1 2, 8, .inr (.inl wf_2))), (a2, .inl (G.2.1 0, 128, .inl bf_3)), (a3, .inl (G.2.1 1, 64, .inl nf_4)), (a4, .inl (G.2.1 2, 80, .inr (.inl df_5)))] := hD
    refine lv_if_eq (tgt := 31) hx hb dX0_pad_23 (by decide) (fun c_23 => ?_) (fun c_23 => ?_)
    · skip
      have hk2 : k < 2 := wdI_0 hR.1 c_23
      have hrm : rmK k = 8 := by unfold rmK; rw [if_pos hk2]
      refine lv_bipush (v := 8) hx hb dX0_pad_31 (by decide) ?_
      refine lv_istore_n (lv' := [(3, .int 8), (1, .long ((lN t) * 8)), (0, .ref a0)]) hx hb dX0_pad_33 rfl hl (by decide) rfl (fun ls hl => ?_)
      exact hmeet () trivial _ _ _ (hP.sub [0, 1, 2, 3, 4] rfl) (hD.sub [0, 1, 2, 3, 4] (by decide) rfl) hS (by rw [hrm]; exact lv_sub hl [2, 1, 0] rfl)
    · skip
      have hk2 : ¬ k < 2 := wdI_1 hR.1 c_23
      have hrm : rmK k = 16 := by unfold rmK; rw [if_neg hk2]
      refine lv_bipush (v := 16) hx hb dX0_pad_26 (by decide) ?_
      refine lv_goto (tgt := 33) hx hb dX0_pad_28 (by decide) ?_
      refine lv_istore_n (lv' := [(3, .int 16), (1, .long ((lN t) * 8)), (0, .ref a0)]) hx hb dX0_pad_33 rfl hl (by decide) rfl (fun ls hl => ?_)
      exact hmeet () trivial _ _ _ (hP.sub [0, 1, 2, 3, 4] rfl) (hD.sub [0, 1, 2, 3, 4] (by decide) rfl) hS (by rw [hrm]; exact lv_sub hl [2, 1, 0] rfl)
