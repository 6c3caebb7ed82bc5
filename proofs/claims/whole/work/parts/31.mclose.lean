/-! the reference: closing, keys -/
theorem plc_l (k : Nat) (h : HS) (c : Nat) (hl : h.2.length < bs k) : (plc k h c).2.length = (h.2.length + 1) % bs k := by
  rw [plc_len]
  rcases Nat.lt_or_ge (h.2.length + 1) (bs k) with g | g
  · rw [if_pos g, Nat.mod_eq_of_lt g]
  · rw [if_neg (by omega), show h.2.length + 1 = bs k by omega, Nat.mod_self]
theorem plcs_len {k : Nat} : ∀ (l : List Nat) (h : HS), h.2.length < bs k → (plcs k h l).2.length = (h.2.length + l.length) % bs k
  | [], h, hl => by simp [plcs, Nat.mod_eq_of_lt hl]
  | c :: l, h, hl => by
    have e : plcs k h (c :: l) = plcs k (plc k h c) l := rfl
    rw [e, plcs_len l (plc k h c) (by rw [plc_l k h c hl]; exact Nat.mod_lt _ (bs_pos k)), plc_l k h c hl, Nat.mod_add_mod, List.length_cons]
    congr 1
    omega
theorem zc_stop {k z i : Nat} (hz : z < bs k) (hi : i ≤ zc k z) : (z + i) % bs k = bs k - rmK k ↔ i = zc k z := by
  unfold zc rmK bs at *
  by_cases c : k < 2
  · simp only [if_pos c] at *; omega
  · simp only [if_neg c] at *; omega
def lenT (k : Nat) (b : Int64) : List Nat := List.replicate (rmK k - 8) 0 ++ lenB b
theorem lenT_len (k : Nat) (b : Int64) : (lenT k b).length = rmK k := by unfold lenT; rw [List.length_append, List.length_replicate, lenB_len]; have := rm_ge k; omega
theorem lenT_lt (k : Nat) (b : Int64) : ∀ c ∈ lenT k b, c < 256 := by
  intro c hc
  rcases List.mem_append.mp hc with h | h
  · rw [(List.mem_replicate.mp h).2]; decide
  · obtain ⟨i, -, rfl⟩ := List.mem_map.mp h; exact o8_lt _
theorem l255 (x : Int64) : Int64.toInt32 (x &&& 255) = nI (o8 (Int64.toInt32 x)) := by
  rw [← o8_and]
  apply Int32.toBitVec_inj.mp
  rw [Int64.toBitVec_toInt32, Int32.toBitVec_and, Int64.toBitVec_toInt32, Int64.toBitVec_and]
  apply BitVec.eq_of_getLsbD_eq
  intro i hi
  simp only [BitVec.getLsbD_signExtend, BitVec.getLsbD_and, BitVec.getLsbD_setWidth]
  have h1 : ∀ k : Fin 32, (255 : Int64).toBitVec.getLsbD k.val = (255 : Int32).toBitVec.getLsbD k.val := by decide
  rw [h1 ⟨i, hi⟩]
  simp [show i < 64 by omega, Bool.and_assoc]
theorem lenT_lo {k j : Nat} {b : Int64} (hj : j < rmK k) (h : ¬ rmK k - (j + 1) ≤ 7) : nI 0 = nI ((lenT k b).getD j 0) := by
  unfold lenT
  rw [List.getD_eq_getElem?_getD, List.getElem?_append_left (by rw [List.length_replicate]; omega), List.getElem?_replicate, if_pos (by omega)]
  rfl
theorem lenT_hi {k j : Nat} {b : Int64} (hj : j < rmK k) (h : rmK k - (j + 1) ≤ 7) : Int64.toInt32 (ushL b (nI (8 * (rmK k - (j + 1)))) &&& 255) = nI ((lenT k b).getD j 0) := by
  have hr := rm_ge k
  unfold lenT
  rw [List.getD_eq_getElem?_getD, List.getElem?_append_right (by rw [List.length_replicate]; omega), List.length_replicate, l255]
  unfold lenB
  rw [List.getElem?_map, List.getElem?_range (by omega)]
  show _ = nI (o8 (Int64.toInt32 (ushL b (nI (56 - 8 * (j - (rmK k - 8)))))))
  rw [show 56 - 8 * (j - (rmK k - 8)) = 8 * (rmK k - (j + 1)) by omega]
theorem rmj_t {r j : Nat} (hr : r ≤ 16) (hj : j ≤ r) (c : nI r - nI (j + 1) < 0) : j = r := by
  have : ∀ r : Fin 17, ∀ j : Fin 17, j.val ≤ r.val → nI r.val - nI (j.val + 1) < 0 → j.val = r.val := by decide +kernel
  exact this ⟨r, by omega⟩ ⟨j, by omega⟩ hj c
theorem rmj_f {r j : Nat} (hr : r ≤ 16) (hj : j ≤ r) (c : ¬ nI r - nI (j + 1) < 0) : j < r := by
  have : ∀ r : Fin 17, ∀ j : Fin 17, j.val ≤ r.val → ¬ nI r.val - nI (j.val + 1) < 0 → j.val < r.val := by decide +kernel
  exact this ⟨r, by omega⟩ ⟨j, by omega⟩ hj c
theorem rmj_i {r j : Nat} (hr : r ≤ 16) (hj : j < r) : nI r - nI (j + 1) + Int32.ofInt (-1) = nI r - nI (j + 1 + 1) := by
  have : ∀ r : Fin 17, ∀ j : Fin 17, nI r.val - nI (j.val + 1) + Int32.ofInt (-1) = nI r.val - nI (j.val + 1 + 1) := by decide +kernel
  exact this ⟨r, by omega⟩ ⟨j, by omega⟩
theorem pl_take {M : MS} {sl k t j c : Nat} {h : HS} {q : List Nat} (hj : j < q.length) (hc : c = q.getD j 0) (hw : MsR M sl k t (plc k (plcs k h (q.take j)) c)) : MsR M sl k t (plcs k h (q.take (j + 1))) := by
  rw [take_snoc q hj, plcs, List.foldl_append, ← hc]
  exact hw
theorem pl_rep {M : MS} {sl k t j : Nat} {h : HS} (hw : MsR M sl k t (plc k (plcs k h (List.replicate j 0)) 0)) : MsR M sl k t (plcs k h (List.replicate (j + 1) 0)) := by
  rw [List.replicate_succ', plcs, List.foldl_append]
  exact hw
theorem pad_M {k t : Nat} {h : HS} {Z1 : Nat} (hz : Z1 = (plc k h 128).2.length) : plcs k (plcs k (plc k h 128) (List.replicate (zc k Z1) 0)) (lenT k (lN t * 8)) = plcs k h (padL k h.2.length (lN t)) := by
  have e1 : Z1 = if h.2.length + 1 < bs k then h.2.length + 1 else 0 := by rw [hz, plc_len]
  have hr := rm_ge k
  unfold lenT padL plcs
  rw [List.foldl_cons, List.foldl_append, List.foldl_append, ← e1, show zc k Z1 + rmK k - 8 = zc k Z1 + (rmK k - 8) by omega, ← List.replicate_append_replicate, List.foldl_append]
theorem dig_get {k i : Nat} {h : HS} {t : Int64} (hi : i < ds k) : (dig k h t).getD i 0 = o8 (octW k (plcs k h (padL k h.2.length t)).1 i) := by
  unfold dig dgO
  rw [List.getD_eq_getElem?_getD, List.getElem?_map, List.getElem?_range hi]
  rfl
theorem dig_len (k : Nat) (h : HS) (t : Int64) : (dig k h t).length = ds k := dgO_len k _
theorem dig_lt (k : Nat) (h : HS) (t : Int64) : ∀ c ∈ dig k h t, c < 256 := by
  intro c hc
  obtain ⟨i, -, rfl⟩ := List.mem_map.mp hc
  exact o8_lt _
theorem dgM4 {k i : Nat} {h : HS} {t : Int64} {x : Int64} (hk : k < 2) (hi : i < ds k) (hx : x = (plcs k h (padL k h.2.length t)).1 (i / 4)) : Int64.toInt32 (ushL x (nI (8 * (3 - i % 4))) &&& 255) = nI ((dig k h t).getD i 0) := by
  rw [l255, dig_get hi]
  unfold octW
  rw [if_pos hk, hx, show 24 - 8 * (i % 4) = 8 * (3 - i % 4) by omega]
theorem dgM8 {k i : Nat} {h : HS} {t : Int64} {x : Int64} (hk : ¬ k < 2) (hi : i < ds k) (hx : x = (plcs k h (padL k h.2.length t)).1 (i / 8)) : Int64.toInt32 (ushL x (nI (8 * (7 - i % 8))) &&& 255) = nI ((dig k h t).getD i 0) := by
  rw [l255, dig_get hi]
  unfold octW
  rw [if_neg hk, hx, show 56 - 8 * (i % 8) = 8 * (7 - i % 8) by omega]
theorem upI {j : Nat} {g g' F : Nat → Int32} {v : Int32} (h : ∀ i, i < j → g i = F i) (e : g' = upd g j v) (ev : v = F j) : ∀ i, i < j + 1 → g' i = F i := by
  intro i hi
  rcases Nat.lt_or_ge i j with c | c
  · rw [e, pk_un (by omega)]; exact h i c
  · have : i = j := by omega
    subst this
    rw [e, pk_us, ev]
theorem ds_bs (k : Nat) : ds k ≤ bs k := by
  rcases Nat.lt_or_ge k 2 with g | g
  · have := ds_lt2 g; unfold bs; rw [if_pos g]; omega
  · have := ds_le k; unfold bs; rw [if_neg (by omega)]; omega
theorem keyQ_len (k : Nat) (q : List Nat) : (keyQ k q).length ≤ bs k := by
  unfold keyQ
  by_cases c : bs k < q.length
  · rw [if_pos c, dig_len]; exact ds_bs k
  · rw [if_neg c]; omega
theorem keyQ_lt {k : Nat} {q : List Nat} (h : ∀ c ∈ q, c < 256) : ∀ c ∈ keyQ k q, c < 256 := by
  unfold keyQ
  by_cases c : bs k < q.length
  · rw [if_pos c]; exact dig_lt _ _ _
  · rw [if_neg c]; exact h
theorem nI_xor (a b : Nat) : nI a ^^^ nI b = nI (a ^^^ b) := by
  apply Int32.toBitVec_inj.1
  show BitVec.ofNat 32 a ^^^ BitVec.ofNat 32 b = BitVec.ofNat 32 (a ^^^ b)
  apply BitVec.eq_of_getLsbD_eq
  intro i hi
  simp [BitVec.getLsbD_ofNat, hi, Nat.testBit_xor]
theorem kx_get {k i mk : Nat} {q : List Nat} (hi : i < bs k) : (kx k q mk).getD i 0 = q.getD i 0 ^^^ mk := by
  unfold kx
  rw [List.getD_eq_getElem?_getD, List.getElem?_map, List.getElem?_range hi]
  rfl
set_option maxHeartbeats 4000000 in
set_option maxRecDepth 100000 in
theorem c_X4_close (l : Launch) (G : GW) (sz : Nat) (o : Nat) (ad : Nat → Nat) (sz1 : Int32) (osz : Int32) (th : Int32) (hsz : Int32) (sl : Nat) (k : Nat) (t : Nat) (kf : Nat → Int32) (ff : Nat → Int32) (sf : Nat → Int64) (bf : Nat → Int32) (tf : Nat → Int64) (nf : Nat → Int32) (df : Nat → Int64) (cf : Nat → Int64) (dg : Nat → Int32) (h : HS) (hs : sl < 9) (hc : ∀ j, j < 80 → cf j = kT j) (hM : MsR (kf, ff, sf, bf, tf) sl k t h) : Met l yX4_close (Cond.code yX4_close cX4_close 7 (none : Option FieldType) :: UW) ({ frames := 3, cells := 0, slots := 0, locals := 87 } : Room) (va_Pc [.ref o, .int (nI sl)] (gPre G [(o, .inr (4, mF ad sz1 osz th hsz)), (ad 4, .inl (G.2.1 1, 9, .inl kf)), (ad 7, .inl (G.2.1 1, 9, .inl ff)), (ad 5, .inl (G.2.1 2, 72, .inr (.inl sf))), (ad 6, .inl (G.2.1 1, 1152, .inl bf)), (ad 8, .inl (G.2.1 2, 9, .inr (.inl tf))), (ad 24, .inl (G.2.1 1, 64, .inl nf)), (ad 25, .inl (G.2.1 2, 80, .inr (.inl df))), (ad 2, .inl (G.2.1 2, 80, .inr (.inl cf))), (ad 15, .inl (G.2.1 1, 64, .inl dg))] sz)) (va_Qv (fun (uq9 : (Nat → Int32) × (Nat → Int64) × (Nat → Int32) × (Nat → Int64) × (Nat → Int32) × (Nat → Int64) × (Nat → Int32)) => (∀ i, i < ds k → uq9.2.2.2.2.2.2 i = nI ((dig k h (lN t)).getD i 0)) ∧ MsO [sl] (kf, ff, sf, bf, tf) (kf, uq9.1, uq9.2.1, uq9.2.2.1, uq9.2.2.2.1)) (fun u => gPost G (va_A [(o, .inr (4, mF ad sz1 osz th hsz)), (ad 4, .inl (G.2.1 1, 9, .inl kf)), (ad 7, .inl (G.2.1 1, 9, .inl ff)), (ad 5, .inl (G.2.1 2, 72, .inr (.inl sf))), (ad 6, .inl (G.2.1 1, 1152, .inl bf)), (ad 8, .inl (G.2.1 2, 9, .inr (.inl tf))), (ad 24, .inl (G.2.1 1, 64, .inl nf)), (ad 25, .inl (G.2.1 2, 80, .inr (.inl df))), (ad 2, .inl (G.2.1 2, 80, .inr (.inl cf))), (ad 15, .inl (G.2.1 1, 64, .inl dg))] sz) ((fun (uq9 : (Nat → Int32) × (Nat → Int64) × (Nat → Int32) × (Nat → Int64) × (Nat → Int32) × (Nat → Int64) × (Nat → Int32)) => ([(o, .inr (4, mF ad sz1 osz th hsz)), (ad 4, .inl (G.2.1 1, 9, .inl kf)), (ad 7, .inl (G.2.1 1, 9, .inl uq9.1)), (ad 5, .inl (G.2.1 2, 72, .inr (.inl uq9.2.1))), (ad 6, .inl (G.2.1 1, 1152, .inl uq9.2.2.1)), (ad 8, .inl (G.2.1 2, 9, .inr (.inl uq9.2.2.2.1))), (ad 24, .inl (G.2.1 1, 64, .inl uq9.2.2.2.2.1)), (ad 25, .inl (G.2.1 2, 80, .inr (.inl uq9.2.2.2.2.2.1))), (ad 2, .inl (G.2.1 2, 80, .inr (.inl cf))), (ad 15, .inl (G.2.1 1, 64, .inl uq9.2.2.2.2.2.2))] : va_W)) u)) (va_A [(o, .inr (4, mF ad sz1 osz th hsz)), (ad 4, .inl (G.2.1 1, 9, .inl kf)), (ad 7, .inl (G.2.1 1, 9, .inl ff)), (ad 5, .inl (G.2.1 2, 72, .inr (.inl sf))), (ad 6, .inl (G.2.1 1, 1152, .inl bf)), (ad 8, .inl (G.2.1 2, 9, .inr (.inl tf))), (ad 24, .inl (G.2.1 1, 64, .inl nf)), (ad 25, .inl (G.2.1 2, 80, .inr (.inl df))), (ad 2, .inl (G.2.1 2, 80, .inr (.inl cf))), (ad 15, .inl (G.2.1 1, 64, .inl dg))] sz)) 0 0 (va_A [(o, .inr (4, mF ad sz1 osz th hsz)), (ad 4, .inl (G.2.1 1, 9, .inl kf)), (ad 7, .inl (G.2.1 1, 9, .inl ff)), (ad 5, .inl (G.2.1 2, 72, .inr (.inl sf))), (ad 6, .inl (G.2.1 1, 1152, .inl bf)), (ad 8, .inl (G.2.1 2, 9, .inr (.inl tf))), (ad 24, .inl (G.2.1 1, 64, .inl nf)), (ad 25, .inl (G.2.1 2, 80, .inr (.inl df))), (ad 2, .inl (G.2.1 2, 80, .inr (.inl cf))), (ad 15, .inl (G.2.1 1, 64, .inl dg))] sz) := by
  refine gM_of (Qf := fun A => va_Qv (fun (uq9 : (Nat → Int32) × (Nat → Int64) × (Nat → Int32) × (Nat → Int64) × (Nat → Int32) × (Nat → Int64) × (Nat → Int32)) => (∀ i, i < ds k → uq9.2.2.2.2.2.2 i = nI ((dig k h (lN t)).getD i 0)) ∧ MsO [sl] (kf, ff, sf, bf, tf) (kf, uq9.1, uq9.2.1, uq9.2.2.1, uq9.2.2.2.1)) (fun u => gPost G A ((fun (uq9 : (Nat → Int32) × (Nat → Int64) × (Nat → Int32) × (Nat → Int64) × (Nat → Int32) × (Nat → Int64) × (Nat → Int32)) => ([(o, .inr (4, mF ad sz1 osz th hsz)), (ad 4, .inl (G.2.1 1, 9, .inl kf)), (ad 7, .inl (G.2.1 1, 9, .inl uq9.1)), (ad 5, .inl (G.2.1 2, 72, .inr (.inl uq9.2.1))), (ad 6, .inl (G.2.1 1, 1152, .inl uq9.2.2.1)), (ad 8, .inl (G.2.1 2, 9, .inr (.inl uq9.2.2.2.1))), (ad 24, .inl (G.2.1 1, 64, .inl uq9.2.2.2.2.1)), (ad 25, .inl (G.2.1 2, 80, .inr (.inl uq9.2.2.2.2.2.1))), (ad 2, .inl (G.2.1 2, 80, .inr (.inl cf))), (ad 15, .inl (G.2.1 1, 64, .inl uq9.2.2.2.2.2.2))] : va_W)) u)) A) (by decide) (Nat.le_of_ble_eq_true rfl) ?_
  intro p e s m below meth c A ls hx hb hml hr hown htu hlk hnm hA hP hD hS hK hZ hl
  have hown : s.vm.findClass RX4 = some m.cls := hown
  have hl : lv_has ls 7 [(0, .ref o), (1, .int (nI sl))] := hl
  refine lv_ldc2 hx hb hown (htu _ uL_X4_135) dX4_close_0 ?_
  refine lv_aload_n hx hb dX4_close_3 rfl (lv_at hl 0 rfl) ?_
  refine va_get (D := G.1) (ci := 4) (v := .ref (ad 8)) (C := RX4) (T := TX4) (N := 29) hx hb htu iwX4 hown hK.1 hP 0 rfl rfl 8 (by decide) (htu _ uF_X4_32) (fun _ h9 => h9) rfl dX4_close_4 ?_
  refine lv_iload_n hx hb dX4_close_7 rfl (lv_at hl 1 rfl) ?_
  refine g_lald hx hb hK.1 hP 5 2 rfl rfl ⟨hs, by decide⟩ dX4_close_8 ?_
  refine g_tol (y := lN t) (hM.2.2.2.2.2.2.2) ?_
  refine lv_lmul hx hb dX4_close_9 ?_
  refine g_tol (y := lN t * 8) (Int64.mul_comm _ _) ?_
  refine lv_lstore_n (lv' := [(2, .long (lN t * 8)), (0, .ref o), (1, .int (nI sl))]) hx hb dX4_close_10 rfl hl (by decide) rfl (fun ls hl => ?_)
  refine lv_aload_n hx hb dX4_close_11 rfl (lv_at hl 1 rfl) ?_
  refine va_get (D := G.1) (ci := 4) (v := .ref (ad 4)) (C := RX4) (T := TX4) (N := 29) hx hb htu iwX4 hown hK.1 hP 0 rfl rfl 4 (by decide) (htu _ uF_X4_20) (fun _ h9 => h9) rfl dX4_close_12 ?_
  refine lv_iload_n hx hb dX4_close_15 rfl (lv_at hl 2 rfl) ?_
  refine g_iald hx hb hK.1 hP 1 1 rfl rfl ⟨hs, by decide⟩ dX4_close_16 ?_
  refine g_toi (y := nI k) (hM.2.1) ?_
  refine lv_iconst (v := nI 2) hx hb dX4_close_17 (by decide) ?_
  refine lv_icmp_ge (tgt := 26) hx hb dX4_close_18 (by decide) (fun c_18 => ?_) (fun c_18 => ?_)
  · skip
    have hk2 : ¬ k < 2 := Nat.not_lt.mpr (ge_t (n := 2) c_18 (by decide))
    refine lv_bipush (v := nI 16) hx hb dX4_close_26 (by decide) ?_
    refine g_toi (y := nI (rmK k)) (by unfold rmK; rw [if_neg hk2]) ?_
    refine lv_istore (lv' := [(4, .int (nI (rmK k))), (2, .long (lN t * 8)), (0, .ref o), (1, .int (nI sl))]) hx hb dX4_close_28 hl (by decide) rfl (fun ls hl => ?_)
    refine lv_aload_n hx hb dX4_close_30 rfl (lv_at hl 2 rfl) ?_
    refine lv_iload_n hx hb dX4_close_31 rfl (lv_at hl 3 rfl) ?_
    refine lv_sipush (v := nI 128) hx hb dX4_close_32 (by decide) ?_
    refine g_callv (g_runV (As := [.int (nI sl), .int (nI 128)]) (rest := []) ⟨hx, hb, hml, hown, htu⟩ (c_X4_absorb l G _ o ad sz1 osz th hsz sl k t 128 kf ff sf bf tf nf df cf h hs hc hM (by decide)) uM_X4_137 ok_X4_absorb in_X4_absorb rfl rfl ⟨Nat.le_of_ble_eq_true rfl, Nat.le_of_ble_eq_true rfl⟩ hK hP hD hS hA hZ [0, 1, 2, 3, 4, 5, 6, 7, 8] rfl rfl 0 rfl rfl rfl rfl hl.1 rfl (Nat.le_of_ble_eq_true rfl) dX4_close_35 ⟨Nat.le_of_ble_eq_true rfl, Nat.le_of_ble_eq_true rfl⟩) hP hD hS hA [0, 1, 2, 3, 4, 5, 6, 7, 8] rfl (fun u H locs hw0 hP hD hS => ?_)
    obtain ⟨ff_2, sf_3, bf_4, tf_5, nf_6, df_7⟩ := u
    have hw0 : MsR (kf, ff_2, sf_3, bf_4, tf_5) sl k (t + 1) (plc k h 128) ∧ MsO [sl] (kf, ff, sf, bf, tf) (kf, ff_2, sf_3, bf_4, tf_5) := hw0
    have hP : va_P G.1 vwCl [(ad 15, .inl (G.2.1 1, 64, .inl dg)), (o, .inr (4, mF ad sz1 osz th hsz)), (ad 4, .inl (G.2.1 1, 9, .inl kf)), (ad 7, .inl (G.2.1 1, 9, .inl ff_2)), (ad 5, .inl (G.2.1 2, 72, .inr (.inl sf_3))), (ad 6, .inl (G.2.1 1, 1152, .inl bf_4)), (ad 8, .inl (G.2.1 2, 9, .inr (.inl tf_5))), (ad 24, .inl (G.2.1 1, 64, .inl nf_6)), (ad 25, .inl (G.2.1 2, 80, .inr (.inl df_7))), (ad 2, .inl (G.2.1 2, 80, .inr (.inl cf)))] H := hP
    have hD : va_D A [(ad 15, .inl (G.2.1 1, 64, .inl dg)), (o, .inr (4, mF ad sz1 osz th hsz)), (ad 4, .inl (G.2.1 1, 9, .inl kf)), (ad 7, .inl (G.2.1 1, 9, .inl ff_2)), (ad 5, .inl (G.2.1 2, 72, .inr (.inl sf_3))), (ad 6, .inl (G.2.1 1, 1152, .inl bf_4)), (ad 8, .inl (G.2.1 2, 9, .inr (.inl tf_5))), (ad 24, .inl (G.2.1 1, 64, .inl nf_6)), (ad 25, .inl (G.2.1 2, 80, .inr (.inl df_7))), (ad 2, .inl (G.2.1 2, 80, .inr (.inl cf)))] := hD
    have hz1 : (plc k h 128).2.length < bs k := hw0.1.2.2.2.1
    refine g_loop (σ := Nat × (Nat → Int32) × (Nat → Int64) × (Nat → Int32) × (Nat → Int64) × (Nat → Int32) × (Nat → Int64)) (G := G) (fun xq9 : Nat × (Nat → Int32) × (Nat → Int64) × (Nat → Int32) × (Nat → Int64) × (Nat → Int32) × (Nat → Int64) => [(o, .inr (4, mF ad sz1 osz th hsz)), (ad 4, .inl (G.2.1 1, 9, .inl kf)), (ad 7, .inl (G.2.1 1, 9, .inl xq9.2.1)), (ad 5, .inl (G.2.1 2, 72, .inr (.inl xq9.2.2.1))), (ad 6, .inl (G.2.1 1, 1152, .inl xq9.2.2.2.1)), (ad 8, .inl (G.2.1 2, 9, .inr (.inl xq9.2.2.2.2.1))), (ad 24, .inl (G.2.1 1, 64, .inl xq9.2.2.2.2.2.1)), (ad 25, .inl (G.2.1 2, 80, .inr (.inl xq9.2.2.2.2.2.2))), (ad 2, .inl (G.2.1 2, 80, .inr (.inl cf))), (ad 15, .inl (G.2.1 1, 64, .inl dg))]) (fun xq9 : Nat × (Nat → Int32) × (Nat → Int64) × (Nat → Int32) × (Nat → Int64) × (Nat → Int32) × (Nat → Int64) => [(0, .ref o), (1, .int (nI sl)), (2, .long (lN t * 8)), (4, .int (nI (rmK k)))]) (fun xq9 : Nat × (Nat → Int32) × (Nat → Int64) × (Nat → Int32) × (Nat → Int64) × (Nat → Int32) × (Nat → Int64) => xq9.1 ≤ zc k (plc k h 128).2.length ∧ MsR (kf, xq9.2.1, xq9.2.2.1, xq9.2.2.2.1, xq9.2.2.2.2.1) sl k (t + 1 + xq9.1) (plcs k (plc k h 128) (List.replicate xq9.1 0)) ∧ MsO [sl] (kf, ff, sf, bf, tf) (kf, xq9.2.1, xq9.2.2.1, xq9.2.2.2.1, xq9.2.2.2.2.1)) (fun xq9 : Nat × (Nat → Int32) × (Nat → Int64) × (Nat → Int32) × (Nat → Int64) × (Nat → Int32) × (Nat → Int64) => zc k (plc k h 128).2.length - xq9.1) ?_ (0, ff_2, sf_3, bf_4, tf_5, nf_6, df_7) (show 0 ≤ zc k (plc k h 128).2.length ∧ MsR (kf, ff_2, sf_3, bf_4, tf_5) sl k (t + 1 + 0) (plcs k (plc k h 128) (List.replicate 0 0)) ∧ MsO [sl] (kf, ff, sf, bf, tf) (kf, ff_2, sf_3, bf_4, tf_5) from ⟨Nat.zero_le _, hw0.1, hw0.2⟩) (hP.sub [1, 2, 3, 4, 5, 6, 7, 8, 9, 0] rfl) (hD.sub [1, 2, 3, 4, 5, 6, 7, 8, 9, 0] (by decide) rfl) hS (lv_sub hl [2, 3, 1, 0] rfl)
    clear hP hD hS hl
    intro x hxI_38 ih_38 H locs ls hP hD hS hl
    obtain ⟨i, f1, s1, b1, t1, n1, d1⟩ := x
    have hI : i ≤ zc k (plc k h 128).2.length ∧ MsR (kf, f1, s1, b1, t1) sl k (t + 1 + i) (plcs k (plc k h 128) (List.replicate i 0)) ∧ MsO [sl] (kf, ff, sf, bf, tf) (kf, f1, s1, b1, t1) := hxI_38
    have hP : va_P G.1 vwCl [(o, .inr (4, mF ad sz1 osz th hsz)), (ad 4, .inl (G.2.1 1, 9, .inl kf)), (ad 7, .inl (G.2.1 1, 9, .inl f1)), (ad 5, .inl (G.2.1 2, 72, .inr (.inl s1))), (ad 6, .inl (G.2.1 1, 1152, .inl b1)), (ad 8, .inl (G.2.1 2, 9, .inr (.inl t1))), (ad 24, .inl (G.2.1 1, 64, .inl n1)), (ad 25, .inl (G.2.1 2, 80, .inr (.inl d1))), (ad 2, .inl (G.2.1 2, 80, .inr (.inl cf))), (ad 15, .inl (G.2.1 1, 64, .inl dg))] H := hP
    have hD : va_D A [(o, .inr (4, mF ad sz1 osz th hsz)), (ad 4, .inl (G.2.1 1, 9, .inl kf)), (ad 7, .inl (G.2.1 1, 9, .inl f1)), (ad 5, .inl (G.2.1 2, 72, .inr (.inl s1))), (ad 6, .inl (G.2.1 1, 1152, .inl b1)), (ad 8, .inl (G.2.1 2, 9, .inr (.inl t1))), (ad 24, .inl (G.2.1 1, 64, .inl n1)), (ad 25, .inl (G.2.1 2, 80, .inr (.inl d1))), (ad 2, .inl (G.2.1 2, 80, .inr (.inl cf))), (ad 15, .inl (G.2.1 1, 64, .inl dg))] := hD
    have hl : lv_has ls 7 [(0, .ref o), (1, .int (nI sl)), (2, .long (lN t * 8)), (4, .int (nI (rmK k)))] := hl
    refine lv_aload_n hx hb dX4_close_38 rfl (lv_at hl 0 rfl) ?_
    refine va_get (D := G.1) (ci := 4) (v := .ref (ad 7)) (C := RX4) (T := TX4) (N := 29) hx hb htu iwX4 hown hK.1 hP 0 rfl rfl 7 (by decide) (htu _ uF_X4_29) (fun _ h9 => h9) rfl dX4_close_39 ?_
    refine lv_iload_n hx hb dX4_close_42 rfl (lv_at hl 1 rfl) ?_
    refine g_iald hx hb hK.1 hP 2 1 rfl rfl ⟨hs, by decide⟩ dX4_close_43 ?_
    refine g_toi (y := nI (plcs k (plc k h 128) (List.replicate i 0)).2.length) (hI.2.1.2.2.1) ?_
    refine lv_aload_n hx hb dX4_close_44 rfl (lv_at hl 0 rfl) ?_
    refine va_get (D := G.1) (ci := 4) (v := .ref (ad 4)) (C := RX4) (T := TX4) (N := 29) hx hb htu iwX4 hown hK.1 hP 0 rfl rfl 4 (by decide) (htu _ uF_X4_20) (fun _ h9 => h9) rfl dX4_close_45 ?_
    refine lv_iload_n hx hb dX4_close_48 rfl (lv_at hl 1 rfl) ?_
    refine g_iald hx hb hK.1 hP 1 1 rfl rfl ⟨hs, by decide⟩ dX4_close_49 ?_
    refine g_toi (y := nI k) (hI.2.1.2.1) ?_
    refine g_calli (g_runS (As := [.int (nI k)]) (rest := [.int (nI (plcs k (plc k h 128) (List.replicate i 0)).2.length)]) ⟨hx, hb, hml, hown, htu⟩ (c_X4_blockOf l G _ (nI k) ) uM_X4_124 ok_X4_blockOf uA_X4_blockOf rfl rfl ⟨Nat.le_of_ble_eq_true rfl, Nat.le_of_ble_eq_true rfl⟩ hK hP hD hS hA hZ [] rfl rfl rfl hl.1 rfl (Nat.le_of_ble_eq_true rfl) dX4_close_50 ⟨Nat.le_of_ble_eq_true rfl, Nat.le_of_ble_eq_true rfl⟩) hP hD hS hA [] rfl (fun r_8 u H locs hw_9 hP hD hS => ?_)
    have hw_9 : r_8 = bsI (nI k) := hw_9
    subst hw_9
    have hP : va_P G.1 vwCl [(o, .inr (4, mF ad sz1 osz th hsz)), (ad 4, .inl (G.2.1 1, 9, .inl kf)), (ad 7, .inl (G.2.1 1, 9, .inl f1)), (ad 5, .inl (G.2.1 2, 72, .inr (.inl s1))), (ad 6, .inl (G.2.1 1, 1152, .inl b1)), (ad 8, .inl (G.2.1 2, 9, .inr (.inl t1))), (ad 24, .inl (G.2.1 1, 64, .inl n1)), (ad 25, .inl (G.2.1 2, 80, .inr (.inl d1))), (ad 2, .inl (G.2.1 2, 80, .inr (.inl cf))), (ad 15, .inl (G.2.1 1, 64, .inl dg))] H := hP
    have hD : va_D A [(o, .inr (4, mF ad sz1 osz th hsz)), (ad 4, .inl (G.2.1 1, 9, .inl kf)), (ad 7, .inl (G.2.1 1, 9, .inl f1)), (ad 5, .inl (G.2.1 2, 72, .inr (.inl s1))), (ad 6, .inl (G.2.1 1, 1152, .inl b1)), (ad 8, .inl (G.2.1 2, 9, .inr (.inl t1))), (ad 24, .inl (G.2.1 1, 64, .inl n1)), (ad 25, .inl (G.2.1 2, 80, .inr (.inl d1))), (ad 2, .inl (G.2.1 2, 80, .inr (.inl cf))), (ad 15, .inl (G.2.1 1, 64, .inl dg))] := hD
    refine g_toi (y := nI (bs k)) (bsI_nI hM.1) ?_
    refine lv_iload hx hb dX4_close_53 (lv_at hl 3 rfl) ?_
    refine lv_isub hx hb dX4_close_55 ?_
    refine g_toi (y := nI (bs k - rmK k)) (pk_sub (by have := rm_le k; unfold bs; split <;> omega)) ?_
    refine lv_icmp_eq (tgt := 68) hx hb dX4_close_56 (by decide) (fun c_56 => ?_) (fun c_56 => ?_)
    · skip
      have hg : i = zc k (plc k h 128).2.length := (zc_stop hz1 hI.1).mp (by rw [← List.length_replicate (n := i) (a := 0), ← plcs_len _ _ hz1]; exact (nI_eq (by have := hI.2.1.l31; omega) (by have := bs_le k; omega)).mp c_56)
      refine lv_iload hx hb dX4_close_68 (lv_at hl 3 rfl) ?_
      refine lv_iconst (v := nI 1) hx hb dX4_close_70 (by decide) ?_
      refine lv_isub hx hb dX4_close_71 ?_
      refine lv_istore (lv' := [(5, .int ((nI (rmK k)) - (nI 1))), (0, .ref o), (1, .int (nI sl)), (2, .long (lN t * 8)), (4, .int (nI (rmK k)))]) hx hb dX4_close_72 hl (by decide) rfl (fun ls hl => ?_)
      refine g_loop (σ := Nat × (Nat → Int32) × (Nat → Int64) × (Nat → Int32) × (Nat → Int64) × (Nat → Int32) × (Nat → Int64)) (G := G) (fun xq9 : Nat × (Nat → Int32) × (Nat → Int64) × (Nat → Int32) × (Nat → Int64) × (Nat → Int32) × (Nat → Int64) => [(o, .inr (4, mF ad sz1 osz th hsz)), (ad 4, .inl (G.2.1 1, 9, .inl kf)), (ad 7, .inl (G.2.1 1, 9, .inl xq9.2.1)), (ad 5, .inl (G.2.1 2, 72, .inr (.inl xq9.2.2.1))), (ad 6, .inl (G.2.1 1, 1152, .inl xq9.2.2.2.1)), (ad 8, .inl (G.2.1 2, 9, .inr (.inl xq9.2.2.2.2.1))), (ad 24, .inl (G.2.1 1, 64, .inl xq9.2.2.2.2.2.1)), (ad 25, .inl (G.2.1 2, 80, .inr (.inl xq9.2.2.2.2.2.2))), (ad 2, .inl (G.2.1 2, 80, .inr (.inl cf))), (ad 15, .inl (G.2.1 1, 64, .inl dg))]) (fun xq9 : Nat × (Nat → Int32) × (Nat → Int64) × (Nat → Int32) × (Nat → Int64) × (Nat → Int32) × (Nat → Int64) => [(0, .ref o), (1, .int (nI sl)), (2, .long (lN t * 8)), (4, .int (nI (rmK k))), (5, .int (nI (rmK k) - nI (xq9.1 + 1)))]) (fun xq9 : Nat × (Nat → Int32) × (Nat → Int64) × (Nat → Int32) × (Nat → Int64) × (Nat → Int32) × (Nat → Int64) => xq9.1 ≤ rmK k ∧ MsR (kf, xq9.2.1, xq9.2.2.1, xq9.2.2.2.1, xq9.2.2.2.2.1) sl k (t + 1 + zc k (plc k h 128).2.length + xq9.1) (plcs k (plcs k (plc k h 128) (List.replicate (zc k (plc k h 128).2.length) 0)) ((lenT k (lN t * 8)).take xq9.1)) ∧ MsO [sl] (kf, ff, sf, bf, tf) (kf, xq9.2.1, xq9.2.2.1, xq9.2.2.2.1, xq9.2.2.2.2.1)) (fun xq9 : Nat × (Nat → Int32) × (Nat → Int64) × (Nat → Int32) × (Nat → Int64) × (Nat → Int32) × (Nat → Int64) => rmK k - xq9.1) ?_ (0, f1, s1, b1, t1, n1, d1) (show 0 ≤ rmK k ∧ MsR (kf, f1, s1, b1, t1) sl k (t + 1 + zc k (plc k h 128).2.length + 0) (plcs k (plcs k (plc k h 128) (List.replicate (zc k (plc k h 128).2.length) 0)) ((lenT k (lN t * 8)).take 0)) ∧ MsO [sl] (kf, ff, sf, bf, tf) (kf, f1, s1, b1, t1) from ⟨Nat.zero_le _, by have h2 := hI.2.1; rw [hg] at h2; exact h2, hI.2.2⟩) (hP.sub [0, 1, 2, 3, 4, 5, 6, 7, 8, 9] rfl) (hD.sub [0, 1, 2, 3, 4, 5, 6, 7, 8, 9] (by decide) rfl) hS (lv_sub hl [1, 2, 3, 4, 0] rfl)
      clear hP hD hS hl
      intro x hxI_74 ih_74 H locs ls hP hD hS hl
      obtain ⟨j, f1, s1, b1, t1, n1, d1⟩ := x
      have hJ : j ≤ rmK k ∧ MsR (kf, f1, s1, b1, t1) sl k (t + 1 + zc k (plc k h 128).2.length + j) (plcs k (plcs k (plc k h 128) (List.replicate (zc k (plc k h 128).2.length) 0)) ((lenT k (lN t * 8)).take j)) ∧ MsO [sl] (kf, ff, sf, bf, tf) (kf, f1, s1, b1, t1) := hxI_74
      have hP : va_P G.1 vwCl [(o, .inr (4, mF ad sz1 osz th hsz)), (ad 4, .inl (G.2.1 1, 9, .inl kf)), (ad 7, .inl (G.2.1 1, 9, .inl f1)), (ad 5, .inl (G.2.1 2, 72, .inr (.inl s1))), (ad 6, .inl (G.2.1 1, 1152, .inl b1)), (ad 8, .inl (G.2.1 2, 9, .inr (.inl t1))), (ad 24, .inl (G.2.1 1, 64, .inl n1)), (ad 25, .inl (G.2.1 2, 80, .inr (.inl d1))), (ad 2, .inl (G.2.1 2, 80, .inr (.inl cf))), (ad 15, .inl (G.2.1 1, 64, .inl dg))] H := hP
      have hD : va_D A [(o, .inr (4, mF ad sz1 osz th hsz)), (ad 4, .inl (G.2.1 1, 9, .inl kf)), (ad 7, .inl (G.2.1 1, 9, .inl f1)), (ad 5, .inl (G.2.1 2, 72, .inr (.inl s1))), (ad 6, .inl (G.2.1 1, 1152, .inl b1)), (ad 8, .inl (G.2.1 2, 9, .inr (.inl t1))), (ad 24, .inl (G.2.1 1, 64, .inl n1)), (ad 25, .inl (G.2.1 2, 80, .inr (.inl d1))), (ad 2, .inl (G.2.1 2, 80, .inr (.inl cf))), (ad 15, .inl (G.2.1 1, 64, .inl dg))] := hD
      have hl : lv_has ls 7 [(0, .ref o), (1, .int (nI sl)), (2, .long (lN t * 8)), (4, .int (nI (rmK k))), (5, .int (nI (rmK k) - nI (j + 1)))] := hl
      refine lv_iload hx hb dX4_close_74 (lv_at hl 4 rfl) ?_
      refine lv_if_lt (tgt := 113) hx hb dX4_close_76 (by decide) (fun c_76 => ?_) (fun c_76 => ?_)
      · skip
        have hg : j = rmK k := rmj_t (rm_le k) hJ.1 c_76
        refine lv_aload_n hx hb dX4_close_113 rfl (lv_at hl 0 rfl) ?_
        refine va_get (D := G.1) (ci := 4) (v := .ref (ad 4)) (C := RX4) (T := TX4) (N := 29) hx hb htu iwX4 hown hK.1 hP 0 rfl rfl 4 (by decide) (htu _ uF_X4_20) (fun _ h9 => h9) rfl dX4_close_114 ?_
        refine lv_iload_n hx hb dX4_close_117 rfl (lv_at hl 1 rfl) ?_
        refine g_iald hx hb hK.1 hP 1 1 rfl rfl ⟨hs, by decide⟩ dX4_close_118 ?_
        refine g_toi (y := nI k) (hJ.2.1.2.1) ?_
        refine lv_iconst (v := nI 2) hx hb dX4_close_119 (by decide) ?_
        refine lv_icmp_ge (tgt := 127) hx hb dX4_close_120 (by decide) (fun _ => ?_) (fun c_120 => absurd (nI_le (a := 2) (by omega) (by have := hM.1; omega)) c_120)
        refine lv_bipush (v := nI 8) hx hb dX4_close_127 (by decide) ?_
        refine lv_istore (lv' := [(5, .int (nI 8)), (0, .ref o), (1, .int (nI sl)), (2, .long (lN t * 8)), (4, .int (nI (rmK k)))]) hx hb dX4_close_129 hl (by decide) rfl (fun ls hl => ?_)
        refine lv_iconst (v := nI 0) hx hb dX4_close_131 (by decide) ?_
        refine lv_istore (lv' := [(6, .int (nI 0)), (5, .int (nI 8)), (0, .ref o), (1, .int (nI sl)), (2, .long (lN t * 8)), (4, .int (nI (rmK k)))]) hx hb dX4_close_132 hl (by decide) rfl (fun ls hl => ?_)
        refine g_loop (σ := Nat × (Nat → Int32)) (G := G) (fun xq9 : Nat × (Nat → Int32) => [(o, .inr (4, mF ad sz1 osz th hsz)), (ad 4, .inl (G.2.1 1, 9, .inl kf)), (ad 7, .inl (G.2.1 1, 9, .inl f1)), (ad 5, .inl (G.2.1 2, 72, .inr (.inl s1))), (ad 6, .inl (G.2.1 1, 1152, .inl b1)), (ad 8, .inl (G.2.1 2, 9, .inr (.inl t1))), (ad 24, .inl (G.2.1 1, 64, .inl n1)), (ad 25, .inl (G.2.1 2, 80, .inr (.inl d1))), (ad 2, .inl (G.2.1 2, 80, .inr (.inl cf))), (ad 15, .inl (G.2.1 1, 64, .inl xq9.2))]) (fun xq9 : Nat × (Nat → Int32) => [(0, .ref o), (1, .int (nI sl)), (5, .int (nI 8)), (6, .int (nI xq9.1))]) (fun xq9 : Nat × (Nat → Int32) => xq9.1 ≤ ds k ∧ ∀ x, x < xq9.1 → xq9.2 x = nI ((dig k h (lN t)).getD x 0)) (fun xq9 : Nat × (Nat → Int32) => ds k - xq9.1) ?_ (0, dg) (show 0 ≤ ds k ∧ ∀ x, x < 0 → dg x = nI ((dig k h (lN t)).getD x 0) from ⟨Nat.zero_le _, fun _ h => absurd h (Nat.not_lt_zero _)⟩) (hP.sub [0, 1, 2, 3, 4, 5, 6, 7, 8, 9] rfl) (hD.sub [0, 1, 2, 3, 4, 5, 6, 7, 8, 9] (by decide) rfl) hS (lv_sub hl [2, 3, 1, 0] rfl)
        clear hP hD hS hl
        intro x hxI_134 ih_134 H locs ls hP hD hS hl
        obtain ⟨i, g⟩ := x
        have hL : i ≤ ds k ∧ ∀ x, x < i → g x = nI ((dig k h (lN t)).getD x 0) := hxI_134
        have hP : va_P G.1 vwCl [(o, .inr (4, mF ad sz1 osz th hsz)), (ad 4, .inl (G.2.1 1, 9, .inl kf)), (ad 7, .inl (G.2.1 1, 9, .inl f1)), (ad 5, .inl (G.2.1 2, 72, .inr (.inl s1))), (ad 6, .inl (G.2.1 1, 1152, .inl b1)), (ad 8, .inl (G.2.1 2, 9, .inr (.inl t1))), (ad 24, .inl (G.2.1 1, 64, .inl n1)), (ad 25, .inl (G.2.1 2, 80, .inr (.inl d1))), (ad 2, .inl (G.2.1 2, 80, .inr (.inl cf))), (ad 15, .inl (G.2.1 1, 64, .inl g))] H := hP
        have hD : va_D A [(o, .inr (4, mF ad sz1 osz th hsz)), (ad 4, .inl (G.2.1 1, 9, .inl kf)), (ad 7, .inl (G.2.1 1, 9, .inl f1)), (ad 5, .inl (G.2.1 2, 72, .inr (.inl s1))), (ad 6, .inl (G.2.1 1, 1152, .inl b1)), (ad 8, .inl (G.2.1 2, 9, .inr (.inl t1))), (ad 24, .inl (G.2.1 1, 64, .inl n1)), (ad 25, .inl (G.2.1 2, 80, .inr (.inl d1))), (ad 2, .inl (G.2.1 2, 80, .inr (.inl cf))), (ad 15, .inl (G.2.1 1, 64, .inl g))] := hD
        have hl : lv_has ls 7 [(0, .ref o), (1, .int (nI sl)), (5, .int (nI 8)), (6, .int (nI i))] := hl
        refine lv_iload hx hb dX4_close_134 (lv_at hl 3 rfl) ?_
        refine lv_aload_n hx hb dX4_close_136 rfl (lv_at hl 0 rfl) ?_
        refine va_get (D := G.1) (ci := 4) (v := .ref (ad 4)) (C := RX4) (T := TX4) (N := 29) hx hb htu iwX4 hown hK.1 hP 0 rfl rfl 4 (by decide) (htu _ uF_X4_20) (fun _ h9 => h9) rfl dX4_close_137 ?_
        refine lv_iload_n hx hb dX4_close_140 rfl (lv_at hl 1 rfl) ?_
        refine g_iald hx hb hK.1 hP 1 1 rfl rfl ⟨hs, by decide⟩ dX4_close_141 ?_
        refine g_toi (y := nI k) (hJ.2.1.2.1) ?_
        refine g_calli (g_runS (As := [.int (nI k)]) (rest := [.int (nI i)]) ⟨hx, hb, hml, hown, htu⟩ (c_X4_digestOf l G _ k hM.1) uM_X4_143 ok_X4_digestOf uA_X4_digestOf rfl rfl ⟨Nat.le_of_ble_eq_true rfl, Nat.le_of_ble_eq_true rfl⟩ hK hP hD hS hA hZ [] rfl rfl rfl hl.1 rfl (Nat.le_of_ble_eq_true rfl) dX4_close_142 ⟨Nat.le_of_ble_eq_true rfl, Nat.le_of_ble_eq_true rfl⟩) hP hD hS hA [] rfl (fun r_10 u H locs hw_11 hP hD hS => ?_)
        have hw_11 : r_10 = nI (ds k) := hw_11
        subst hw_11
        have hP : va_P G.1 vwCl [(o, .inr (4, mF ad sz1 osz th hsz)), (ad 4, .inl (G.2.1 1, 9, .inl kf)), (ad 7, .inl (G.2.1 1, 9, .inl f1)), (ad 5, .inl (G.2.1 2, 72, .inr (.inl s1))), (ad 6, .inl (G.2.1 1, 1152, .inl b1)), (ad 8, .inl (G.2.1 2, 9, .inr (.inl t1))), (ad 24, .inl (G.2.1 1, 64, .inl n1)), (ad 25, .inl (G.2.1 2, 80, .inr (.inl d1))), (ad 2, .inl (G.2.1 2, 80, .inr (.inl cf))), (ad 15, .inl (G.2.1 1, 64, .inl g))] H := hP
        have hD : va_D A [(o, .inr (4, mF ad sz1 osz th hsz)), (ad 4, .inl (G.2.1 1, 9, .inl kf)), (ad 7, .inl (G.2.1 1, 9, .inl f1)), (ad 5, .inl (G.2.1 2, 72, .inr (.inl s1))), (ad 6, .inl (G.2.1 1, 1152, .inl b1)), (ad 8, .inl (G.2.1 2, 9, .inr (.inl t1))), (ad 24, .inl (G.2.1 1, 64, .inl n1)), (ad 25, .inl (G.2.1 2, 80, .inr (.inl d1))), (ad 2, .inl (G.2.1 2, 80, .inr (.inl cf))), (ad 15, .inl (G.2.1 1, 64, .inl g))] := hD
        refine lv_icmp_ge (tgt := 195) hx hb dX4_close_145 (by decide) (fun c_145 => ?_) (fun c_145 => ?_)
        · skip
          have hq : ds k ≤ i := ge_t (n := ds k) c_145 (by have := ds_le k; omega)
          exact gret_v hx hb hr hlk dX4_close_195 hS (f1, s1, b1, t1, n1, d1, g) (hP.sub [0, 1, 2, 3, 4, 5, 6, 7, 8, 9] rfl) (hD.sub [0, 1, 2, 3, 4, 5, 6, 7, 8, 9] (by decide) rfl) (show (∀ i, i < ds k → g i = nI ((dig k h (lN t)).getD i 0)) ∧ (MsO [sl] (kf, ff, sf, bf, tf) (kf, f1, s1, b1, t1)) from ⟨fun i hi => hL.2 i (by omega), hJ.2.2⟩)
        · skip
          have hq : i < ds k := ge_f (n := ds k) c_145 (by have := hL.1; have := ds_le k; omega)
          refine lv_aload_n hx hb dX4_close_148 rfl (lv_at hl 0 rfl) ?_
          refine va_get (D := G.1) (ci := 4) (v := .ref (ad 15)) (C := RX4) (T := TX4) (N := 29) hx hb htu iwX4 hown hK.1 hP 0 rfl rfl 15 (by decide) (htu _ uF_X4_54) (fun _ h9 => h9) rfl dX4_close_149 ?_
          refine lv_iload hx hb dX4_close_152 (lv_at hl 3 rfl) ?_
          refine lv_aload_n hx hb dX4_close_154 rfl (lv_at hl 0 rfl) ?_
          refine va_get (D := G.1) (ci := 4) (v := .ref (ad 5)) (C := RX4) (T := TX4) (N := 29) hx hb htu iwX4 hown hK.1 hP 0 rfl rfl 5 (by decide) (htu _ uF_X4_23) (fun _ h9 => h9) rfl dX4_close_155 ?_
          refine lv_bipush (v := nI 8) hx hb dX4_close_158 (by decide) ?_
          refine lv_iload_n hx hb dX4_close_160 rfl (lv_at hl 1 rfl) ?_
          refine lv_imul hx hb dX4_close_161 ?_
          refine g_toi (y := nI (8 * sl)) (pk_mul 8 sl) ?_
          refine lv_iload hx hb dX4_close_162 (lv_at hl 3 rfl) ?_
          refine lv_iload hx hb dX4_close_164 (lv_at hl 2 rfl) ?_
          refine lv_idiv hx hb dX4_close_166 (by decide) ?_
          refine g_toi (y := nI (i / 8)) (pk_div (by have := ds_le k; omega) (by decide) (by decide)) ?_
          refine lv_iadd hx hb dX4_close_167 ?_
          refine g_toi (y := nI (8 * sl + (i / 8))) (nI_add (8 * sl) (i / 8)) ?_
          refine g_lald hx hb hK.1 hP 3 2 rfl rfl ⟨by have := ds_le k; omega, by decide⟩ dX4_close_168 ?_
          refine lv_bipush (v := nI 8) hx hb dX4_close_169 (by decide) ?_
          refine lv_iload hx hb dX4_close_171 (lv_at hl 2 rfl) ?_
          refine lv_iconst (v := nI 1) hx hb dX4_close_173 (by decide) ?_
          refine lv_isub hx hb dX4_close_174 ?_
          refine g_toi (y := nI 7) (by decide) ?_
          refine lv_iload hx hb dX4_close_175 (lv_at hl 3 rfl) ?_
          refine lv_iload hx hb dX4_close_177 (lv_at hl 2 rfl) ?_
          refine lv_irem hx hb dX4_close_179 (by decide) ?_
          refine g_toi (y := nI (i % 8)) (pk_rem (by have := ds_le k; omega) (by decide) (by decide)) ?_
          refine lv_isub hx hb dX4_close_180 ?_
          refine g_toi (y := nI (7 - i % 8)) (pk_sub (a := 7) (by omega)) ?_
          refine lv_imul hx hb dX4_close_181 ?_
          refine g_toi (y := nI (8 * (7 - i % 8))) (pk_mul 8 (7 - i % 8)) ?_
          refine lv_lushr (v := ushL (s1 (8 * sl + (i / 8))) (nI (8 * (7 - i % 8)))) hx hb dX4_close_182 rfl ?_
          refine lv_ldc2 hx hb hown (htu _ uL_X4_141) dX4_close_183 ?_
          refine lv_land hx hb dX4_close_186 ?_
          refine lv_l2i (v := Int64.toInt32 ((ushL (s1 (8 * sl + (i / 8))) (nI (8 * (7 - i % 8)))) &&& 255)) hx hb dX4_close_187 rfl ?_
          refine g_toi (y := nI ((dig k h (lN t)).getD i 0)) (dgM8 hk2 hq (by rw [← pad_M rfl]; have h3 := hJ.2.1; rw [hg, ← lenT_len k (lN t * 8), List.take_length] at h3; exact h3.2.2.2.2.2.1 _ (by have := ds_le k; omega))) ?_
          refine g_iast hx hb hK.1 hP hD hS 9 1 rfl rfl ⟨by have := ds_le k; omega, by decide⟩ dX4_close_188 (fun H locs hP hD hS => ?_)
          obtain ⟨g_12, eg_12⟩ : ∃ gq9 : Nat → Int32, gq9 = upd g i (nI ((dig k h (lN t)).getD i 0)) := ⟨_, rfl⟩
          rw [← eg_12] at hP hD
          have hP : va_P G.1 vwCl [(o, .inr (4, mF ad sz1 osz th hsz)), (ad 4, .inl (G.2.1 1, 9, .inl kf)), (ad 7, .inl (G.2.1 1, 9, .inl f1)), (ad 5, .inl (G.2.1 2, 72, .inr (.inl s1))), (ad 6, .inl (G.2.1 1, 1152, .inl b1)), (ad 8, .inl (G.2.1 2, 9, .inr (.inl t1))), (ad 24, .inl (G.2.1 1, 64, .inl n1)), (ad 25, .inl (G.2.1 2, 80, .inr (.inl d1))), (ad 2, .inl (G.2.1 2, 80, .inr (.inl cf))), (ad 15, .inl (G.2.1 1, 64, .inl g_12))] H := hP
          have hD : va_D A [(o, .inr (4, mF ad sz1 osz th hsz)), (ad 4, .inl (G.2.1 1, 9, .inl kf)), (ad 7, .inl (G.2.1 1, 9, .inl f1)), (ad 5, .inl (G.2.1 2, 72, .inr (.inl s1))), (ad 6, .inl (G.2.1 1, 1152, .inl b1)), (ad 8, .inl (G.2.1 2, 9, .inr (.inl t1))), (ad 24, .inl (G.2.1 1, 64, .inl n1)), (ad 25, .inl (G.2.1 2, 80, .inr (.inl d1))), (ad 2, .inl (G.2.1 2, 80, .inr (.inl cf))), (ad 15, .inl (G.2.1 1, 64, .inl g_12))] := hD
          refine lv_iinc (v := nI (i + 1)) (lv' := [(6, .int (nI (i + 1))), (0, .ref o), (1, .int (nI sl)), (5, .int (nI 8))]) hx hb dX4_close_189 hl (k := 3) rfl (nI_1 i) (by decide) rfl (fun ls hl => ?_)
          refine lv_goto (tgt := 134) hx hb dX4_close_192 (by decide) ?_
          exact ih_134 (i + 1, g_12) (show (i + 1) ≤ ds k ∧ ∀ x, x < (i + 1) → g_12 x = nI ((dig k h (lN t)).getD x 0) from ⟨hq, upI hL.2 eg_12 rfl⟩) (by show ds k - (i + 1) < ds k - i; omega) _ _ _ (hP.sub [0, 1, 2, 3, 4, 5, 6, 7, 8, 9] rfl) (hD.sub [0, 1, 2, 3, 4, 5, 6, 7, 8, 9] (by decide) rfl) hS (lv_sub hl [1, 2, 3, 0] rfl)
      · skip
        have hg : j < rmK k := rmj_f (rm_le k) hJ.1 c_76
        refine lv_aload_n hx hb dX4_close_79 rfl (lv_at hl 0 rfl) ?_
        refine lv_iload_n hx hb dX4_close_80 rfl (lv_at hl 1 rfl) ?_
        refine lv_iload hx hb dX4_close_81 (lv_at hl 4 rfl) ?_
        refine g_toi (y := nI (rmK k - (j + 1))) (pk_sub (by omega)) ?_
        refine lv_bipush (v := nI 7) hx hb dX4_close_83 (by decide) ?_
        refine lv_icmp_le (tgt := 92) hx hb dX4_close_85 (by decide) (fun c_85 => ?_) (fun c_85 => ?_)
        · skip
          have h7 : rmK k - (j + 1) ≤ 7 := ge_t (t := 7) c_85 (by have := rm_le k; omega)
          refine lv_lload_n hx hb dX4_close_92 rfl (lv_at hl 2 rfl) ?_
          refine lv_bipush (v := nI 8) hx hb dX4_close_93 (by decide) ?_
          refine lv_iload hx hb dX4_close_95 (lv_at hl 4 rfl) ?_
          refine g_toi (y := nI (rmK k - (j + 1))) (pk_sub (by omega)) ?_
          refine lv_imul hx hb dX4_close_97 ?_
          refine g_toi (y := nI (8 * (rmK k - (j + 1)))) (pk_mul 8 (rmK k - (j + 1))) ?_
          refine lv_lushr (v := ushL (lN t * 8) (nI (8 * (rmK k - (j + 1))))) hx hb dX4_close_98 rfl ?_
          refine lv_ldc2 hx hb hown (htu _ uL_X4_141) dX4_close_99 ?_
          refine lv_land hx hb dX4_close_102 ?_
          refine lv_l2i (v := Int64.toInt32 ((ushL (lN t * 8) (nI (8 * (rmK k - (j + 1))))) &&& 255)) hx hb dX4_close_103 rfl ?_
          refine g_toi (y := nI ((lenT k (lN t * 8)).getD j 0)) (lenT_hi hg h7) ?_
          refine g_callv (g_runV (As := [.int (nI sl), .int (nI ((lenT k (lN t * 8)).getD j 0))]) (rest := []) ⟨hx, hb, hml, hown, htu⟩ (c_X4_absorb l G _ o ad sz1 osz th hsz sl k (t + 1 + zc k (plc k h 128).2.length + j) ((lenT k (lN t * 8)).getD j 0) kf f1 s1 b1 t1 n1 d1 cf (plcs k (plcs k (plc k h 128) (List.replicate (zc k (plc k h 128).2.length) 0)) ((lenT k (lN t * 8)).take j)) hs hc hJ.2.1 (getD_lt (lenT_lt k _) j)) uM_X4_137 ok_X4_absorb in_X4_absorb rfl rfl ⟨Nat.le_of_ble_eq_true rfl, Nat.le_of_ble_eq_true rfl⟩ hK hP hD hS hA hZ [0, 1, 2, 3, 4, 5, 6, 7, 8] rfl rfl 0 rfl rfl rfl rfl hl.1 rfl (Nat.le_of_ble_eq_true rfl) dX4_close_104 ⟨Nat.le_of_ble_eq_true rfl, Nat.le_of_ble_eq_true rfl⟩) hP hD hS hA [0, 1, 2, 3, 4, 5, 6, 7, 8] rfl (fun u H locs hw1 hP hD hS => ?_)
          obtain ⟨ff_14, sf_15, bf_16, tf_17, nf_18, df_19⟩ := u
          have hw1 : MsR (kf, ff_14, sf_15, bf_16, tf_17) sl k ((t + 1 + zc k (plc k h 128).2.length + j) + 1) (plc k (plcs k (plcs k (plc k h 128) (List.replicate (zc k (plc k h 128).2.length) 0)) ((lenT k (lN t * 8)).take j)) ((lenT k (lN t * 8)).getD j 0)) ∧ MsO [sl] (kf, f1, s1, b1, t1) (kf, ff_14, sf_15, bf_16, tf_17) := hw1
          have hP : va_P G.1 vwCl [(ad 15, .inl (G.2.1 1, 64, .inl dg)), (o, .inr (4, mF ad sz1 osz th hsz)), (ad 4, .inl (G.2.1 1, 9, .inl kf)), (ad 7, .inl (G.2.1 1, 9, .inl ff_14)), (ad 5, .inl (G.2.1 2, 72, .inr (.inl sf_15))), (ad 6, .inl (G.2.1 1, 1152, .inl bf_16)), (ad 8, .inl (G.2.1 2, 9, .inr (.inl tf_17))), (ad 24, .inl (G.2.1 1, 64, .inl nf_18)), (ad 25, .inl (G.2.1 2, 80, .inr (.inl df_19))), (ad 2, .inl (G.2.1 2, 80, .inr (.inl cf)))] H := hP
          have hD : va_D A [(ad 15, .inl (G.2.1 1, 64, .inl dg)), (o, .inr (4, mF ad sz1 osz th hsz)), (ad 4, .inl (G.2.1 1, 9, .inl kf)), (ad 7, .inl (G.2.1 1, 9, .inl ff_14)), (ad 5, .inl (G.2.1 2, 72, .inr (.inl sf_15))), (ad 6, .inl (G.2.1 1, 1152, .inl bf_16)), (ad 8, .inl (G.2.1 2, 9, .inr (.inl tf_17))), (ad 24, .inl (G.2.1 1, 64, .inl nf_18)), (ad 25, .inl (G.2.1 2, 80, .inr (.inl df_19))), (ad 2, .inl (G.2.1 2, 80, .inr (.inl cf)))] := hD
          refine lv_iinc (v := nI (rmK k) - nI (j + 1 + 1)) (lv' := [(5, .int (nI (rmK k) - nI (j + 1 + 1))), (0, .ref o), (1, .int (nI sl)), (2, .long (lN t * 8)), (4, .int (nI (rmK k)))]) hx hb dX4_close_107 hl (k := 4) rfl (rmj_i (rm_le k) hg) (by decide) rfl (fun ls hl => ?_)
          refine lv_goto (tgt := 74) hx hb dX4_close_110 (by decide) ?_
          exact ih_74 (j + 1, ff_14, sf_15, bf_16, tf_17, nf_18, df_19) (show (j + 1) ≤ rmK k ∧ MsR (kf, ff_14, sf_15, bf_16, tf_17) sl k (t + 1 + zc k (plc k h 128).2.length + (j + 1)) (plcs k (plcs k (plc k h 128) (List.replicate (zc k (plc k h 128).2.length) 0)) ((lenT k (lN t * 8)).take (j + 1))) ∧ MsO [sl] (kf, ff, sf, bf, tf) (kf, ff_14, sf_15, bf_16, tf_17) from ⟨hg, pl_take (by rw [lenT_len]; exact hg) rfl hw1.1, hJ.2.2.tr hw1.2⟩) (by show rmK k - (j + 1) < rmK k - j; omega) _ _ _ (hP.sub [1, 2, 3, 4, 5, 6, 7, 8, 9, 0] rfl) (hD.sub [1, 2, 3, 4, 5, 6, 7, 8, 9, 0] (by decide) rfl) hS (lv_sub hl [1, 2, 3, 4, 0] rfl)
        · skip
          have h7 : 7 < rmK k - (j + 1) := Nat.lt_of_not_le (fun h => c_85 (nI_le h (by decide)))
          refine lv_iconst (v := nI 0) hx hb dX4_close_88 (by decide) ?_
          refine g_toi (y := nI ((lenT k (lN t * 8)).getD j 0)) (lenT_lo hg (Nat.not_le.mpr h7)) ?_
          refine lv_goto (tgt := 104) hx hb dX4_close_89 (by decide) ?_
          refine g_callv (g_runV (As := [.int (nI sl), .int (nI ((lenT k (lN t * 8)).getD j 0))]) (rest := []) ⟨hx, hb, hml, hown, htu⟩ (c_X4_absorb l G _ o ad sz1 osz th hsz sl k (t + 1 + zc k (plc k h 128).2.length + j) ((lenT k (lN t * 8)).getD j 0) kf f1 s1 b1 t1 n1 d1 cf (plcs k (plcs k (plc k h 128) (List.replicate (zc k (plc k h 128).2.length) 0)) ((lenT k (lN t * 8)).take j)) hs hc hJ.2.1 (getD_lt (lenT_lt k _) j)) uM_X4_137 ok_X4_absorb in_X4_absorb rfl rfl ⟨Nat.le_of_ble_eq_true rfl, Nat.le_of_ble_eq_true rfl⟩ hK hP hD hS hA hZ [0, 1, 2, 3, 4, 5, 6, 7, 8] rfl rfl 0 rfl rfl rfl rfl hl.1 rfl (Nat.le_of_ble_eq_true rfl) dX4_close_104 ⟨Nat.le_of_ble_eq_true rfl, Nat.le_of_ble_eq_true rfl⟩) hP hD hS hA [0, 1, 2, 3, 4, 5, 6, 7, 8] rfl (fun u H locs hw1 hP hD hS => ?_)
          obtain ⟨ff_21, sf_22, bf_23, tf_24, nf_25, df_26⟩ := u
          have hw1 : MsR (kf, ff_21, sf_22, bf_23, tf_24) sl k ((t + 1 + zc k (plc k h 128).2.length + j) + 1) (plc k (plcs k (plcs k (plc k h 128) (List.replicate (zc k (plc k h 128).2.length) 0)) ((lenT k (lN t * 8)).take j)) ((lenT k (lN t * 8)).getD j 0)) ∧ MsO [sl] (kf, f1, s1, b1, t1) (kf, ff_21, sf_22, bf_23, tf_24) := hw1
          have hP : va_P G.1 vwCl [(ad 15, .inl (G.2.1 1, 64, .inl dg)), (o, .inr (4, mF ad sz1 osz th hsz)), (ad 4, .inl (G.2.1 1, 9, .inl kf)), (ad 7, .inl (G.2.1 1, 9, .inl ff_21)), (ad 5, .inl (G.2.1 2, 72, .inr (.inl sf_22))), (ad 6, .inl (G.2.1 1, 1152, .inl bf_23)), (ad 8, .inl (G.2.1 2, 9, .inr (.inl tf_24))), (ad 24, .inl (G.2.1 1, 64, .inl nf_25)), (ad 25, .inl (G.2.1 2, 80, .inr (.inl df_26))), (ad 2, .inl (G.2.1 2, 80, .inr (.inl cf)))] H := hP
          have hD : va_D A [(ad 15, .inl (G.2.1 1, 64, .inl dg)), (o, .inr (4, mF ad sz1 osz th hsz)), (ad 4, .inl (G.2.1 1, 9, .inl kf)), (ad 7, .inl (G.2.1 1, 9, .inl ff_21)), (ad 5, .inl (G.2.1 2, 72, .inr (.inl sf_22))), (ad 6, .inl (G.2.1 1, 1152, .inl bf_23)), (ad 8, .inl (G.2.1 2, 9, .inr (.inl tf_24))), (ad 24, .inl (G.2.1 1, 64, .inl nf_25)), (ad 25, .inl (G.2.1 2, 80, .inr (.inl df_26))), (ad 2, .inl (G.2.1 2, 80, .inr (.inl cf)))] := hD
          refine lv_iinc (v := nI (rmK k) - nI (j + 1 + 1)) (lv' := [(5, .int (nI (rmK k) - nI (j + 1 + 1))), (0, .ref o), (1, .int (nI sl)), (2, .long (lN t * 8)), (4, .int (nI (rmK k)))]) hx hb dX4_close_107 hl (k := 4) rfl (rmj_i (rm_le k) hg) (by decide) rfl (fun ls hl => ?_)
          refine lv_goto (tgt := 74) hx hb dX4_close_110 (by decide) ?_
          exact ih_74 (j + 1, ff_21, sf_22, bf_23, tf_24, nf_25, df_26) (show (j + 1) ≤ rmK k ∧ MsR (kf, ff_21, sf_22, bf_23, tf_24) sl k (t + 1 + zc k (plc k h 128).2.length + (j + 1)) (plcs k (plcs k (plc k h 128) (List.replicate (zc k (plc k h 128).2.length) 0)) ((lenT k (lN t * 8)).take (j + 1))) ∧ MsO [sl] (kf, ff, sf, bf, tf) (kf, ff_21, sf_22, bf_23, tf_24) from ⟨hg, pl_take (by rw [lenT_len]; exact hg) rfl hw1.1, hJ.2.2.tr hw1.2⟩) (by show rmK k - (j + 1) < rmK k - j; omega) _ _ _ (hP.sub [1, 2, 3, 4, 5, 6, 7, 8, 9, 0] rfl) (hD.sub [1, 2, 3, 4, 5, 6, 7, 8, 9, 0] (by decide) rfl) hS (lv_sub hl [1, 2, 3, 4, 0] rfl)
    · skip
      have hg : i < zc k (plc k h 128).2.length := Nat.lt_of_le_of_ne hI.1 (fun e => c_56 (by rw [plcs_len _ _ hz1, List.length_replicate, (zc_stop hz1 hI.1).mpr e]))
      refine lv_aload_n hx hb dX4_close_59 rfl (lv_at hl 0 rfl) ?_
      refine lv_iload_n hx hb dX4_close_60 rfl (lv_at hl 1 rfl) ?_
      refine lv_iconst (v := nI 0) hx hb dX4_close_61 (by decide) ?_
      refine g_callv (g_runV (As := [.int (nI sl), .int (nI 0)]) (rest := []) ⟨hx, hb, hml, hown, htu⟩ (c_X4_absorb l G _ o ad sz1 osz th hsz sl k (t + 1 + i) 0 kf f1 s1 b1 t1 n1 d1 cf (plcs k (plc k h 128) (List.replicate i 0)) hs hc hI.2.1 (by decide)) uM_X4_137 ok_X4_absorb in_X4_absorb rfl rfl ⟨Nat.le_of_ble_eq_true rfl, Nat.le_of_ble_eq_true rfl⟩ hK hP hD hS hA hZ [0, 1, 2, 3, 4, 5, 6, 7, 8] rfl rfl 0 rfl rfl rfl rfl hl.1 rfl (Nat.le_of_ble_eq_true rfl) dX4_close_62 ⟨Nat.le_of_ble_eq_true rfl, Nat.le_of_ble_eq_true rfl⟩) hP hD hS hA [0, 1, 2, 3, 4, 5, 6, 7, 8] rfl (fun u H locs hw1 hP hD hS => ?_)
      obtain ⟨ff_28, sf_29, bf_30, tf_31, nf_32, df_33⟩ := u
      have hw1 : MsR (kf, ff_28, sf_29, bf_30, tf_31) sl k ((t + 1 + i) + 1) (plc k (plcs k (plc k h 128) (List.replicate i 0)) 0) ∧ MsO [sl] (kf, f1, s1, b1, t1) (kf, ff_28, sf_29, bf_30, tf_31) := hw1
      have hP : va_P G.1 vwCl [(ad 15, .inl (G.2.1 1, 64, .inl dg)), (o, .inr (4, mF ad sz1 osz th hsz)), (ad 4, .inl (G.2.1 1, 9, .inl kf)), (ad 7, .inl (G.2.1 1, 9, .inl ff_28)), (ad 5, .inl (G.2.1 2, 72, .inr (.inl sf_29))), (ad 6, .inl (G.2.1 1, 1152, .inl bf_30)), (ad 8, .inl (G.2.1 2, 9, .inr (.inl tf_31))), (ad 24, .inl (G.2.1 1, 64, .inl nf_32)), (ad 25, .inl (G.2.1 2, 80, .inr (.inl df_33))), (ad 2, .inl (G.2.1 2, 80, .inr (.inl cf)))] H := hP
      have hD : va_D A [(ad 15, .inl (G.2.1 1, 64, .inl dg)), (o, .inr (4, mF ad sz1 osz th hsz)), (ad 4, .inl (G.2.1 1, 9, .inl kf)), (ad 7, .inl (G.2.1 1, 9, .inl ff_28)), (ad 5, .inl (G.2.1 2, 72, .inr (.inl sf_29))), (ad 6, .inl (G.2.1 1, 1152, .inl bf_30)), (ad 8, .inl (G.2.1 2, 9, .inr (.inl tf_31))), (ad 24, .inl (G.2.1 1, 64, .inl nf_32)), (ad 25, .inl (G.2.1 2, 80, .inr (.inl df_33))), (ad 2, .inl (G.2.1 2, 80, .inr (.inl cf)))] := hD
      refine lv_goto (tgt := 38) hx hb dX4_close_65 (by decide) ?_
      exact ih_38 (i + 1, ff_28, sf_29, bf_30, tf_31, nf_32, df_33) (show (i + 1) ≤ zc k (plc k h 128).2.length ∧ MsR (kf, ff_28, sf_29, bf_30, tf_31) sl k (t + 1 + (i + 1)) (plcs k (plc k h 128) (List.replicate (i + 1) 0)) ∧ MsO [sl] (kf, ff, sf, bf, tf) (kf, ff_28, sf_29, bf_30, tf_31) from ⟨hg, pl_rep hw1.1, hI.2.2.tr hw1.2⟩) (by show zc k (plc k h 128).2.length - (i + 1) < zc k (plc k h 128).2.length - i; omega) _ _ _ (hP.sub [1, 2, 3, 4, 5, 6, 7, 8, 9, 0] rfl) (hD.sub [1, 2, 3, 4, 5, 6, 7, 8, 9, 0] (by decide) rfl) hS (lv_sub hl [0, 1, 2, 3] rfl)
  · skip
    have hk2 : k < 2 := ge_f (n := 2) c_18 (by have := hM.1; omega)
    refine lv_bipush (v := nI 8) hx hb dX4_close_21 (by decide) ?_
    refine g_toi (y := nI (rmK k)) (by unfold rmK; rw [if_pos hk2]) ?_
    refine lv_goto (tgt := 28) hx hb dX4_close_23 (by decide) ?_
    refine lv_istore (lv' := [(4, .int (nI (rmK k))), (2, .long (lN t * 8)), (0, .ref o), (1, .int (nI sl))]) hx hb dX4_close_28 hl (by decide) rfl (fun ls hl => ?_)
    refine lv_aload_n hx hb dX4_close_30 rfl (lv_at hl 2 rfl) ?_
    refine lv_iload_n hx hb dX4_close_31 rfl (lv_at hl 3 rfl) ?_
    refine lv_sipush (v := nI 128) hx hb dX4_close_32 (by decide) ?_
    refine g_callv (g_runV (As := [.int (nI sl), .int (nI 128)]) (rest := []) ⟨hx, hb, hml, hown, htu⟩ (c_X4_absorb l G _ o ad sz1 osz th hsz sl k t 128 kf ff sf bf tf nf df cf h hs hc hM (by decide)) uM_X4_137 ok_X4_absorb in_X4_absorb rfl rfl ⟨Nat.le_of_ble_eq_true rfl, Nat.le_of_ble_eq_true rfl⟩ hK hP hD hS hA hZ [0, 1, 2, 3, 4, 5, 6, 7, 8] rfl rfl 0 rfl rfl rfl rfl hl.1 rfl (Nat.le_of_ble_eq_true rfl) dX4_close_35 ⟨Nat.le_of_ble_eq_true rfl, Nat.le_of_ble_eq_true rfl⟩) hP hD hS hA [0, 1, 2, 3, 4, 5, 6, 7, 8] rfl (fun u H locs hw0 hP hD hS => ?_)
    obtain ⟨ff_35, sf_36, bf_37, tf_38, nf_39, df_40⟩ := u
    have hw0 : MsR (kf, ff_35, sf_36, bf_37, tf_38) sl k (t + 1) (plc k h 128) ∧ MsO [sl] (kf, ff, sf, bf, tf) (kf, ff_35, sf_36, bf_37, tf_38) := hw0
    have hP : va_P G.1 vwCl [(ad 15, .inl (G.2.1 1, 64, .inl dg)), (o, .inr (4, mF ad sz1 osz th hsz)), (ad 4, .inl (G.2.1 1, 9, .inl kf)), (ad 7, .inl (G.2.1 1, 9, .inl ff_35)), (ad 5, .inl (G.2.1 2, 72, .inr (.inl sf_36))), (ad 6, .inl (G.2.1 1, 1152, .inl bf_37)), (ad 8, .inl (G.2.1 2, 9, .inr (.inl tf_38))), (ad 24, .inl (G.2.1 1, 64, .inl nf_39)), (ad 25, .inl (G.2.1 2, 80, .inr (.inl df_40))), (ad 2, .inl (G.2.1 2, 80, .inr (.inl cf)))] H := hP
    have hD : va_D A [(ad 15, .inl (G.2.1 1, 64, .inl dg)), (o, .inr (4, mF ad sz1 osz th hsz)), (ad 4, .inl (G.2.1 1, 9, .inl kf)), (ad 7, .inl (G.2.1 1, 9, .inl ff_35)), (ad 5, .inl (G.2.1 2, 72, .inr (.inl sf_36))), (ad 6, .inl (G.2.1 1, 1152, .inl bf_37)), (ad 8, .inl (G.2.1 2, 9, .inr (.inl tf_38))), (ad 24, .inl (G.2.1 1, 64, .inl nf_39)), (ad 25, .inl (G.2.1 2, 80, .inr (.inl df_40))), (ad 2, .inl (G.2.1 2, 80, .inr (.inl cf)))] := hD
    have hz1 : (plc k h 128).2.length < bs k := hw0.1.2.2.2.1
    refine g_loop (σ := Nat × (Nat → Int32) × (Nat → Int64) × (Nat → Int32) × (Nat → Int64) × (Nat → Int32) × (Nat → Int64)) (G := G) (fun xq9 : Nat × (Nat → Int32) × (Nat → Int64) × (Nat → Int32) × (Nat → Int64) × (Nat → Int32) × (Nat → Int64) => [(o, .inr (4, mF ad sz1 osz th hsz)), (ad 4, .inl (G.2.1 1, 9, .inl kf)), (ad 7, .inl (G.2.1 1, 9, .inl xq9.2.1)), (ad 5, .inl (G.2.1 2, 72, .inr (.inl xq9.2.2.1))), (ad 6, .inl (G.2.1 1, 1152, .inl xq9.2.2.2.1)), (ad 8, .inl (G.2.1 2, 9, .inr (.inl xq9.2.2.2.2.1))), (ad 24, .inl (G.2.1 1, 64, .inl xq9.2.2.2.2.2.1)), (ad 25, .inl (G.2.1 2, 80, .inr (.inl xq9.2.2.2.2.2.2))), (ad 2, .inl (G.2.1 2, 80, .inr (.inl cf))), (ad 15, .inl (G.2.1 1, 64, .inl dg))]) (fun xq9 : Nat × (Nat → Int32) × (Nat → Int64) × (Nat → Int32) × (Nat → Int64) × (Nat → Int32) × (Nat → Int64) => [(0, .ref o), (1, .int (nI sl)), (2, .long (lN t * 8)), (4, .int (nI (rmK k)))]) (fun xq9 : Nat × (Nat → Int32) × (Nat → Int64) × (Nat → Int32) × (Nat → Int64) × (Nat → Int32) × (Nat → Int64) => xq9.1 ≤ zc k (plc k h 128).2.length ∧ MsR (kf, xq9.2.1, xq9.2.2.1, xq9.2.2.2.1, xq9.2.2.2.2.1) sl k (t + 1 + xq9.1) (plcs k (plc k h 128) (List.replicate xq9.1 0)) ∧ MsO [sl] (kf, ff, sf, bf, tf) (kf, xq9.2.1, xq9.2.2.1, xq9.2.2.2.1, xq9.2.2.2.2.1)) (fun xq9 : Nat × (Nat → Int32) × (Nat → Int64) × (Nat → Int32) × (Nat → Int64) × (Nat → Int32) × (Nat → Int64) => zc k (plc k h 128).2.length - xq9.1) ?_ (0, ff_35, sf_36, bf_37, tf_38, nf_39, df_40) (show 0 ≤ zc k (plc k h 128).2.length ∧ MsR (kf, ff_35, sf_36, bf_37, tf_38) sl k (t + 1 + 0) (plcs k (plc k h 128) (List.replicate 0 0)) ∧ MsO [sl] (kf, ff, sf, bf, tf) (kf, ff_35, sf_36, bf_37, tf_38) from ⟨Nat.zero_le _, hw0.1, hw0.2⟩) (hP.sub [1, 2, 3, 4, 5, 6, 7, 8, 9, 0] rfl) (hD.sub [1, 2, 3, 4, 5, 6, 7, 8, 9, 0] (by decide) rfl) hS (lv_sub hl [2, 3, 1, 0] rfl)
    clear hP hD hS hl
    intro x hxI_38 ih_38 H locs ls hP hD hS hl
    obtain ⟨i, f1, s1, b1, t1, n1, d1⟩ := x
    have hI : i ≤ zc k (plc k h 128).2.length ∧ MsR (kf, f1, s1, b1, t1) sl k (t + 1 + i) (plcs k (plc k h 128) (List.replicate i 0)) ∧ MsO [sl] (kf, ff, sf, bf, tf) (kf, f1, s1, b1, t1) := hxI_38
    have hP : va_P G.1 vwCl [(o, .inr (4, mF ad sz1 osz th hsz)), (ad 4, .inl (G.2.1 1, 9, .inl kf)), (ad 7, .inl (G.2.1 1, 9, .inl f1)), (ad 5, .inl (G.2.1 2, 72, .inr (.inl s1))), (ad 6, .inl (G.2.1 1, 1152, .inl b1)), (ad 8, .inl (G.2.1 2, 9, .inr (.inl t1))), (ad 24, .inl (G.2.1 1, 64, .inl n1)), (ad 25, .inl (G.2.1 2, 80, .inr (.inl d1))), (ad 2, .inl (G.2.1 2, 80, .inr (.inl cf))), (ad 15, .inl (G.2.1 1, 64, .inl dg))] H := hP
    have hD : va_D A [(o, .inr (4, mF ad sz1 osz th hsz)), (ad 4, .inl (G.2.1 1, 9, .inl kf)), (ad 7, .inl (G.2.1 1, 9, .inl f1)), (ad 5, .inl (G.2.1 2, 72, .inr (.inl s1))), (ad 6, .inl (G.2.1 1, 1152, .inl b1)), (ad 8, .inl (G.2.1 2, 9, .inr (.inl t1))), (ad 24, .inl (G.2.1 1, 64, .inl n1)), (ad 25, .inl (G.2.1 2, 80, .inr (.inl d1))), (ad 2, .inl (G.2.1 2, 80, .inr (.inl cf))), (ad 15, .inl (G.2.1 1, 64, .inl dg))] := hD
    have hl : lv_has ls 7 [(0, .ref o), (1, .int (nI sl)), (2, .long (lN t * 8)), (4, .int (nI (rmK k)))] := hl
    refine lv_aload_n hx hb dX4_close_38 rfl (lv_at hl 0 rfl) ?_
    refine va_get (D := G.1) (ci := 4) (v := .ref (ad 7)) (C := RX4) (T := TX4) (N := 29) hx hb htu iwX4 hown hK.1 hP 0 rfl rfl 7 (by decide) (htu _ uF_X4_29) (fun _ h9 => h9) rfl dX4_close_39 ?_
    refine lv_iload_n hx hb dX4_close_42 rfl (lv_at hl 1 rfl) ?_
    refine g_iald hx hb hK.1 hP 2 1 rfl rfl ⟨hs, by decide⟩ dX4_close_43 ?_
    refine g_toi (y := nI (plcs k (plc k h 128) (List.replicate i 0)).2.length) (hI.2.1.2.2.1) ?_
    refine lv_aload_n hx hb dX4_close_44 rfl (lv_at hl 0 rfl) ?_
    refine va_get (D := G.1) (ci := 4) (v := .ref (ad 4)) (C := RX4) (T := TX4) (N := 29) hx hb htu iwX4 hown hK.1 hP 0 rfl rfl 4 (by decide) (htu _ uF_X4_20) (fun _ h9 => h9) rfl dX4_close_45 ?_
    refine lv_iload_n hx hb dX4_close_48 rfl (lv_at hl 1 rfl) ?_
    refine g_iald hx hb hK.1 hP 1 1 rfl rfl ⟨hs, by decide⟩ dX4_close_49 ?_
    refine g_toi (y := nI k) (hI.2.1.2.1) ?_
    refine g_calli (g_runS (As := [.int (nI k)]) (rest := [.int (nI (plcs k (plc k h 128) (List.replicate i 0)).2.length)]) ⟨hx, hb, hml, hown, htu⟩ (c_X4_blockOf l G _ (nI k) ) uM_X4_124 ok_X4_blockOf uA_X4_blockOf rfl rfl ⟨Nat.le_of_ble_eq_true rfl, Nat.le_of_ble_eq_true rfl⟩ hK hP hD hS hA hZ [] rfl rfl rfl hl.1 rfl (Nat.le_of_ble_eq_true rfl) dX4_close_50 ⟨Nat.le_of_ble_eq_true rfl, Nat.le_of_ble_eq_true rfl⟩) hP hD hS hA [] rfl (fun r_41 u H locs hw_42 hP hD hS => ?_)
    have hw_42 : r_41 = bsI (nI k) := hw_42
    subst hw_42
    have hP : va_P G.1 vwCl [(o, .inr (4, mF ad sz1 osz th hsz)), (ad 4, .inl (G.2.1 1, 9, .inl kf)), (ad 7, .inl (G.2.1 1, 9, .inl f1)), (ad 5, .inl (G.2.1 2, 72, .inr (.inl s1))), (ad 6, .inl (G.2.1 1, 1152, .inl b1)), (ad 8, .inl (G.2.1 2, 9, .inr (.inl t1))), (ad 24, .inl (G.2.1 1, 64, .inl n1)), (ad 25, .inl (G.2.1 2, 80, .inr (.inl d1))), (ad 2, .inl (G.2.1 2, 80, .inr (.inl cf))), (ad 15, .inl (G.2.1 1, 64, .inl dg))] H := hP
    have hD : va_D A [(o, .inr (4, mF ad sz1 osz th hsz)), (ad 4, .inl (G.2.1 1, 9, .inl kf)), (ad 7, .inl (G.2.1 1, 9, .inl f1)), (ad 5, .inl (G.2.1 2, 72, .inr (.inl s1))), (ad 6, .inl (G.2.1 1, 1152, .inl b1)), (ad 8, .inl (G.2.1 2, 9, .inr (.inl t1))), (ad 24, .inl (G.2.1 1, 64, .inl n1)), (ad 25, .inl (G.2.1 2, 80, .inr (.inl d1))), (ad 2, .inl (G.2.1 2, 80, .inr (.inl cf))), (ad 15, .inl (G.2.1 1, 64, .inl dg))] := hD
    refine g_toi (y := nI (bs k)) (bsI_nI hM.1) ?_
    refine lv_iload hx hb dX4_close_53 (lv_at hl 3 rfl) ?_
    refine lv_isub hx hb dX4_close_55 ?_
    refine g_toi (y := nI (bs k - rmK k)) (pk_sub (by have := rm_le k; unfold bs; split <;> omega)) ?_
    refine lv_icmp_eq (tgt := 68) hx hb dX4_close_56 (by decide) (fun c_56 => ?_) (fun c_56 => ?_)
    · skip
      have hg : i = zc k (plc k h 128).2.length := (zc_stop hz1 hI.1).mp (by rw [← List.length_replicate (n := i) (a := 0), ← plcs_len _ _ hz1]; exact (nI_eq (by have := hI.2.1.l31; omega) (by have := bs_le k; omega)).mp c_56)
      refine lv_iload hx hb dX4_close_68 (lv_at hl 3 rfl) ?_
      refine lv_iconst (v := nI 1) hx hb dX4_close_70 (by decide) ?_
      refine lv_isub hx hb dX4_close_71 ?_
      refine lv_istore (lv' := [(5, .int ((nI (rmK k)) - (nI 1))), (0, .ref o), (1, .int (nI sl)), (2, .long (lN t * 8)), (4, .int (nI (rmK k)))]) hx hb dX4_close_72 hl (by decide) rfl (fun ls hl => ?_)
      refine g_loop (σ := Nat × (Nat → Int32) × (Nat → Int64) × (Nat → Int32) × (Nat → Int64) × (Nat → Int32) × (Nat → Int64)) (G := G) (fun xq9 : Nat × (Nat → Int32) × (Nat → Int64) × (Nat → Int32) × (Nat → Int64) × (Nat → Int32) × (Nat → Int64) => [(o, .inr (4, mF ad sz1 osz th hsz)), (ad 4, .inl (G.2.1 1, 9, .inl kf)), (ad 7, .inl (G.2.1 1, 9, .inl xq9.2.1)), (ad 5, .inl (G.2.1 2, 72, .inr (.inl xq9.2.2.1))), (ad 6, .inl (G.2.1 1, 1152, .inl xq9.2.2.2.1)), (ad 8, .inl (G.2.1 2, 9, .inr (.inl xq9.2.2.2.2.1))), (ad 24, .inl (G.2.1 1, 64, .inl xq9.2.2.2.2.2.1)), (ad 25, .inl (G.2.1 2, 80, .inr (.inl xq9.2.2.2.2.2.2))), (ad 2, .inl (G.2.1 2, 80, .inr (.inl cf))), (ad 15, .inl (G.2.1 1, 64, .inl dg))]) (fun xq9 : Nat × (Nat → Int32) × (Nat → Int64) × (Nat → Int32) × (Nat → Int64) × (Nat → Int32) × (Nat → Int64) => [(0, .ref o), (1, .int (nI sl)), (2, .long (lN t * 8)), (4, .int (nI (rmK k))), (5, .int (nI (rmK k) - nI (xq9.1 + 1)))]) (fun xq9 : Nat × (Nat → Int32) × (Nat → Int64) × (Nat → Int32) × (Nat → Int64) × (Nat → Int32) × (Nat → Int64) => xq9.1 ≤ rmK k ∧ MsR (kf, xq9.2.1, xq9.2.2.1, xq9.2.2.2.1, xq9.2.2.2.2.1) sl k (t + 1 + zc k (plc k h 128).2.length + xq9.1) (plcs k (plcs k (plc k h 128) (List.replicate (zc k (plc k h 128).2.length) 0)) ((lenT k (lN t * 8)).take xq9.1)) ∧ MsO [sl] (kf, ff, sf, bf, tf) (kf, xq9.2.1, xq9.2.2.1, xq9.2.2.2.1, xq9.2.2.2.2.1)) (fun xq9 : Nat × (Nat → Int32) × (Nat → Int64) × (Nat → Int32) × (Nat → Int64) × (Nat → Int32) × (Nat → Int64) => rmK k - xq9.1) ?_ (0, f1, s1, b1, t1, n1, d1) (show 0 ≤ rmK k ∧ MsR (kf, f1, s1, b1, t1) sl k (t + 1 + zc k (plc k h 128).2.length + 0) (plcs k (plcs k (plc k h 128) (List.replicate (zc k (plc k h 128).2.length) 0)) ((lenT k (lN t * 8)).take 0)) ∧ MsO [sl] (kf, ff, sf, bf, tf) (kf, f1, s1, b1, t1) from ⟨Nat.zero_le _, by have h2 := hI.2.1; rw [hg] at h2; exact h2, hI.2.2⟩) (hP.sub [0, 1, 2, 3, 4, 5, 6, 7, 8, 9] rfl) (hD.sub [0, 1, 2, 3, 4, 5, 6, 7, 8, 9] (by decide) rfl) hS (lv_sub hl [1, 2, 3, 4, 0] rfl)
      clear hP hD hS hl
      intro x hxI_74 ih_74 H locs ls hP hD hS hl
      obtain ⟨j, f1, s1, b1, t1, n1, d1⟩ := x
      have hJ : j ≤ rmK k ∧ MsR (kf, f1, s1, b1, t1) sl k (t + 1 + zc k (plc k h 128).2.length + j) (plcs k (plcs k (plc k h 128) (List.replicate (zc k (plc k h 128).2.length) 0)) ((lenT k (lN t * 8)).take j)) ∧ MsO [sl] (kf, ff, sf, bf, tf) (kf, f1, s1, b1, t1) := hxI_74
      have hP : va_P G.1 vwCl [(o, .inr (4, mF ad sz1 osz th hsz)), (ad 4, .inl (G.2.1 1, 9, .inl kf)), (ad 7, .inl (G.2.1 1, 9, .inl f1)), (ad 5, .inl (G.2.1 2, 72, .inr (.inl s1))), (ad 6, .inl (G.2.1 1, 1152, .inl b1)), (ad 8, .inl (G.2.1 2, 9, .inr (.inl t1))), (ad 24, .inl (G.2.1 1, 64, .inl n1)), (ad 25, .inl (G.2.1 2, 80, .inr (.inl d1))), (ad 2, .inl (G.2.1 2, 80, .inr (.inl cf))), (ad 15, .inl (G.2.1 1, 64, .inl dg))] H := hP
      have hD : va_D A [(o, .inr (4, mF ad sz1 osz th hsz)), (ad 4, .inl (G.2.1 1, 9, .inl kf)), (ad 7, .inl (G.2.1 1, 9, .inl f1)), (ad 5, .inl (G.2.1 2, 72, .inr (.inl s1))), (ad 6, .inl (G.2.1 1, 1152, .inl b1)), (ad 8, .inl (G.2.1 2, 9, .inr (.inl t1))), (ad 24, .inl (G.2.1 1, 64, .inl n1)), (ad 25, .inl (G.2.1 2, 80, .inr (.inl d1))), (ad 2, .inl (G.2.1 2, 80, .inr (.inl cf))), (ad 15, .inl (G.2.1 1, 64, .inl dg))] := hD
      have hl : lv_has ls 7 [(0, .ref o), (1, .int (nI sl)), (2, .long (lN t * 8)), (4, .int (nI (rmK k))), (5, .int (nI (rmK k) - nI (j + 1)))] := hl
      refine lv_iload hx hb dX4_close_74 (lv_at hl 4 rfl) ?_
      refine lv_if_lt (tgt := 113) hx hb dX4_close_76 (by decide) (fun c_76 => ?_) (fun c_76 => ?_)
      · skip
        have hg : j = rmK k := rmj_t (rm_le k) hJ.1 c_76
        refine lv_aload_n hx hb dX4_close_113 rfl (lv_at hl 0 rfl) ?_
        refine va_get (D := G.1) (ci := 4) (v := .ref (ad 4)) (C := RX4) (T := TX4) (N := 29) hx hb htu iwX4 hown hK.1 hP 0 rfl rfl 4 (by decide) (htu _ uF_X4_20) (fun _ h9 => h9) rfl dX4_close_114 ?_
        refine lv_iload_n hx hb dX4_close_117 rfl (lv_at hl 1 rfl) ?_
        refine g_iald hx hb hK.1 hP 1 1 rfl rfl ⟨hs, by decide⟩ dX4_close_118 ?_
        refine g_toi (y := nI k) (hJ.2.1.2.1) ?_
        refine lv_iconst (v := nI 2) hx hb dX4_close_119 (by decide) ?_
        refine lv_icmp_ge (tgt := 127) hx hb dX4_close_120 (by decide) (fun c_120 => absurd c_120 (fun h => absurd (ge_t (n := 2) h (by decide)) (by omega))) (fun _ => ?_)
        refine lv_iconst (v := nI 4) hx hb dX4_close_123 (by decide) ?_
        refine lv_goto (tgt := 129) hx hb dX4_close_124 (by decide) ?_
        refine lv_istore (lv' := [(5, .int (nI 4)), (0, .ref o), (1, .int (nI sl)), (2, .long (lN t * 8)), (4, .int (nI (rmK k)))]) hx hb dX4_close_129 hl (by decide) rfl (fun ls hl => ?_)
        refine lv_iconst (v := nI 0) hx hb dX4_close_131 (by decide) ?_
        refine lv_istore (lv' := [(6, .int (nI 0)), (5, .int (nI 4)), (0, .ref o), (1, .int (nI sl)), (2, .long (lN t * 8)), (4, .int (nI (rmK k)))]) hx hb dX4_close_132 hl (by decide) rfl (fun ls hl => ?_)
        refine g_loop (σ := Nat × (Nat → Int32)) (G := G) (fun xq9 : Nat × (Nat → Int32) => [(o, .inr (4, mF ad sz1 osz th hsz)), (ad 4, .inl (G.2.1 1, 9, .inl kf)), (ad 7, .inl (G.2.1 1, 9, .inl f1)), (ad 5, .inl (G.2.1 2, 72, .inr (.inl s1))), (ad 6, .inl (G.2.1 1, 1152, .inl b1)), (ad 8, .inl (G.2.1 2, 9, .inr (.inl t1))), (ad 24, .inl (G.2.1 1, 64, .inl n1)), (ad 25, .inl (G.2.1 2, 80, .inr (.inl d1))), (ad 2, .inl (G.2.1 2, 80, .inr (.inl cf))), (ad 15, .inl (G.2.1 1, 64, .inl xq9.2))]) (fun xq9 : Nat × (Nat → Int32) => [(0, .ref o), (1, .int (nI sl)), (5, .int (nI 4)), (6, .int (nI xq9.1))]) (fun xq9 : Nat × (Nat → Int32) => xq9.1 ≤ ds k ∧ ∀ x, x < xq9.1 → xq9.2 x = nI ((dig k h (lN t)).getD x 0)) (fun xq9 : Nat × (Nat → Int32) => ds k - xq9.1) ?_ (0, dg) (show 0 ≤ ds k ∧ ∀ x, x < 0 → dg x = nI ((dig k h (lN t)).getD x 0) from ⟨Nat.zero_le _, fun _ h => absurd h (Nat.not_lt_zero _)⟩) (hP.sub [0, 1, 2, 3, 4, 5, 6, 7, 8, 9] rfl) (hD.sub [0, 1, 2, 3, 4, 5, 6, 7, 8, 9] (by decide) rfl) hS (lv_sub hl [2, 3, 1, 0] rfl)
        clear hP hD hS hl
        intro x hxI_134 ih_134 H locs ls hP hD hS hl
        obtain ⟨i, g⟩ := x
        have hL : i ≤ ds k ∧ ∀ x, x < i → g x = nI ((dig k h (lN t)).getD x 0) := hxI_134
        have hP : va_P G.1 vwCl [(o, .inr (4, mF ad sz1 osz th hsz)), (ad 4, .inl (G.2.1 1, 9, .inl kf)), (ad 7, .inl (G.2.1 1, 9, .inl f1)), (ad 5, .inl (G.2.1 2, 72, .inr (.inl s1))), (ad 6, .inl (G.2.1 1, 1152, .inl b1)), (ad 8, .inl (G.2.1 2, 9, .inr (.inl t1))), (ad 24, .inl (G.2.1 1, 64, .inl n1)), (ad 25, .inl (G.2.1 2, 80, .inr (.inl d1))), (ad 2, .inl (G.2.1 2, 80, .inr (.inl cf))), (ad 15, .inl (G.2.1 1, 64, .inl g))] H := hP
        have hD : va_D A [(o, .inr (4, mF ad sz1 osz th hsz)), (ad 4, .inl (G.2.1 1, 9, .inl kf)), (ad 7, .inl (G.2.1 1, 9, .inl f1)), (ad 5, .inl (G.2.1 2, 72, .inr (.inl s1))), (ad 6, .inl (G.2.1 1, 1152, .inl b1)), (ad 8, .inl (G.2.1 2, 9, .inr (.inl t1))), (ad 24, .inl (G.2.1 1, 64, .inl n1)), (ad 25, .inl (G.2.1 2, 80, .inr (.inl d1))), (ad 2, .inl (G.2.1 2, 80, .inr (.inl cf))), (ad 15, .inl (G.2.1 1, 64, .inl g))] := hD
        have hl : lv_has ls 7 [(0, .ref o), (1, .int (nI sl)), (5, .int (nI 4)), (6, .int (nI i))] := hl
        refine lv_iload hx hb dX4_close_134 (lv_at hl 3 rfl) ?_
        refine lv_aload_n hx hb dX4_close_136 rfl (lv_at hl 0 rfl) ?_
        refine va_get (D := G.1) (ci := 4) (v := .ref (ad 4)) (C := RX4) (T := TX4) (N := 29) hx hb htu iwX4 hown hK.1 hP 0 rfl rfl 4 (by decide) (htu _ uF_X4_20) (fun _ h9 => h9) rfl dX4_close_137 ?_
        refine lv_iload_n hx hb dX4_close_140 rfl (lv_at hl 1 rfl) ?_
        refine g_iald hx hb hK.1 hP 1 1 rfl rfl ⟨hs, by decide⟩ dX4_close_141 ?_
        refine g_toi (y := nI k) (hJ.2.1.2.1) ?_
        refine g_calli (g_runS (As := [.int (nI k)]) (rest := [.int (nI i)]) ⟨hx, hb, hml, hown, htu⟩ (c_X4_digestOf l G _ k hM.1) uM_X4_143 ok_X4_digestOf uA_X4_digestOf rfl rfl ⟨Nat.le_of_ble_eq_true rfl, Nat.le_of_ble_eq_true rfl⟩ hK hP hD hS hA hZ [] rfl rfl rfl hl.1 rfl (Nat.le_of_ble_eq_true rfl) dX4_close_142 ⟨Nat.le_of_ble_eq_true rfl, Nat.le_of_ble_eq_true rfl⟩) hP hD hS hA [] rfl (fun r_43 u H locs hw_44 hP hD hS => ?_)
        have hw_44 : r_43 = nI (ds k) := hw_44
        subst hw_44
        have hP : va_P G.1 vwCl [(o, .inr (4, mF ad sz1 osz th hsz)), (ad 4, .inl (G.2.1 1, 9, .inl kf)), (ad 7, .inl (G.2.1 1, 9, .inl f1)), (ad 5, .inl (G.2.1 2, 72, .inr (.inl s1))), (ad 6, .inl (G.2.1 1, 1152, .inl b1)), (ad 8, .inl (G.2.1 2, 9, .inr (.inl t1))), (ad 24, .inl (G.2.1 1, 64, .inl n1)), (ad 25, .inl (G.2.1 2, 80, .inr (.inl d1))), (ad 2, .inl (G.2.1 2, 80, .inr (.inl cf))), (ad 15, .inl (G.2.1 1, 64, .inl g))] H := hP
        have hD : va_D A [(o, .inr (4, mF ad sz1 osz th hsz)), (ad 4, .inl (G.2.1 1, 9, .inl kf)), (ad 7, .inl (G.2.1 1, 9, .inl f1)), (ad 5, .inl (G.2.1 2, 72, .inr (.inl s1))), (ad 6, .inl (G.2.1 1, 1152, .inl b1)), (ad 8, .inl (G.2.1 2, 9, .inr (.inl t1))), (ad 24, .inl (G.2.1 1, 64, .inl n1)), (ad 25, .inl (G.2.1 2, 80, .inr (.inl d1))), (ad 2, .inl (G.2.1 2, 80, .inr (.inl cf))), (ad 15, .inl (G.2.1 1, 64, .inl g))] := hD
        refine lv_icmp_ge (tgt := 195) hx hb dX4_close_145 (by decide) (fun c_145 => ?_) (fun c_145 => ?_)
        · skip
          have hq : ds k ≤ i := ge_t (n := ds k) c_145 (by have := ds_le k; omega)
          exact gret_v hx hb hr hlk dX4_close_195 hS (f1, s1, b1, t1, n1, d1, g) (hP.sub [0, 1, 2, 3, 4, 5, 6, 7, 8, 9] rfl) (hD.sub [0, 1, 2, 3, 4, 5, 6, 7, 8, 9] (by decide) rfl) (show (∀ i, i < ds k → g i = nI ((dig k h (lN t)).getD i 0)) ∧ (MsO [sl] (kf, ff, sf, bf, tf) (kf, f1, s1, b1, t1)) from ⟨fun i hi => hL.2 i (by omega), hJ.2.2⟩)
        · skip
          have hq : i < ds k := ge_f (n := ds k) c_145 (by have := hL.1; have := ds_le k; omega)
          refine lv_aload_n hx hb dX4_close_148 rfl (lv_at hl 0 rfl) ?_
          refine va_get (D := G.1) (ci := 4) (v := .ref (ad 15)) (C := RX4) (T := TX4) (N := 29) hx hb htu iwX4 hown hK.1 hP 0 rfl rfl 15 (by decide) (htu _ uF_X4_54) (fun _ h9 => h9) rfl dX4_close_149 ?_
          refine lv_iload hx hb dX4_close_152 (lv_at hl 3 rfl) ?_
          refine lv_aload_n hx hb dX4_close_154 rfl (lv_at hl 0 rfl) ?_
          refine va_get (D := G.1) (ci := 4) (v := .ref (ad 5)) (C := RX4) (T := TX4) (N := 29) hx hb htu iwX4 hown hK.1 hP 0 rfl rfl 5 (by decide) (htu _ uF_X4_23) (fun _ h9 => h9) rfl dX4_close_155 ?_
          refine lv_bipush (v := nI 8) hx hb dX4_close_158 (by decide) ?_
          refine lv_iload_n hx hb dX4_close_160 rfl (lv_at hl 1 rfl) ?_
          refine lv_imul hx hb dX4_close_161 ?_
          refine g_toi (y := nI (8 * sl)) (pk_mul 8 sl) ?_
          refine lv_iload hx hb dX4_close_162 (lv_at hl 3 rfl) ?_
          refine lv_iload hx hb dX4_close_164 (lv_at hl 2 rfl) ?_
          refine lv_idiv hx hb dX4_close_166 (by decide) ?_
          refine g_toi (y := nI (i / 4)) (pk_div (by have := ds_le k; omega) (by decide) (by decide)) ?_
          refine lv_iadd hx hb dX4_close_167 ?_
          refine g_toi (y := nI (8 * sl + (i / 4))) (nI_add (8 * sl) (i / 4)) ?_
          refine g_lald hx hb hK.1 hP 3 2 rfl rfl ⟨by have := ds_lt2 hk2; omega, by decide⟩ dX4_close_168 ?_
          refine lv_bipush (v := nI 8) hx hb dX4_close_169 (by decide) ?_
          refine lv_iload hx hb dX4_close_171 (lv_at hl 2 rfl) ?_
          refine lv_iconst (v := nI 1) hx hb dX4_close_173 (by decide) ?_
          refine lv_isub hx hb dX4_close_174 ?_
          refine g_toi (y := nI 3) (by decide) ?_
          refine lv_iload hx hb dX4_close_175 (lv_at hl 3 rfl) ?_
          refine lv_iload hx hb dX4_close_177 (lv_at hl 2 rfl) ?_
          refine lv_irem hx hb dX4_close_179 (by decide) ?_
          refine g_toi (y := nI (i % 4)) (pk_rem (by have := ds_le k; omega) (by decide) (by decide)) ?_
          refine lv_isub hx hb dX4_close_180 ?_
          refine g_toi (y := nI (3 - i % 4)) (pk_sub (a := 3) (by omega)) ?_
          refine lv_imul hx hb dX4_close_181 ?_
          refine g_toi (y := nI (8 * (3 - i % 4))) (pk_mul 8 (3 - i % 4)) ?_
          refine lv_lushr (v := ushL (s1 (8 * sl + (i / 4))) (nI (8 * (3 - i % 4)))) hx hb dX4_close_182 rfl ?_
          refine lv_ldc2 hx hb hown (htu _ uL_X4_141) dX4_close_183 ?_
          refine lv_land hx hb dX4_close_186 ?_
          refine lv_l2i (v := Int64.toInt32 ((ushL (s1 (8 * sl + (i / 4))) (nI (8 * (3 - i % 4)))) &&& 255)) hx hb dX4_close_187 rfl ?_
          refine g_toi (y := nI ((dig k h (lN t)).getD i 0)) (dgM4 hk2 hq (by rw [← pad_M rfl]; have h3 := hJ.2.1; rw [hg, ← lenT_len k (lN t * 8), List.take_length] at h3; exact h3.2.2.2.2.2.1 _ (by have := ds_lt2 hk2; omega))) ?_
          refine g_iast hx hb hK.1 hP hD hS 9 1 rfl rfl ⟨by have := ds_le k; omega, by decide⟩ dX4_close_188 (fun H locs hP hD hS => ?_)
          obtain ⟨g_45, eg_45⟩ : ∃ gq9 : Nat → Int32, gq9 = upd g i (nI ((dig k h (lN t)).getD i 0)) := ⟨_, rfl⟩
          rw [← eg_45] at hP hD
          have hP : va_P G.1 vwCl [(o, .inr (4, mF ad sz1 osz th hsz)), (ad 4, .inl (G.2.1 1, 9, .inl kf)), (ad 7, .inl (G.2.1 1, 9, .inl f1)), (ad 5, .inl (G.2.1 2, 72, .inr (.inl s1))), (ad 6, .inl (G.2.1 1, 1152, .inl b1)), (ad 8, .inl (G.2.1 2, 9, .inr (.inl t1))), (ad 24, .inl (G.2.1 1, 64, .inl n1)), (ad 25, .inl (G.2.1 2, 80, .inr (.inl d1))), (ad 2, .inl (G.2.1 2, 80, .inr (.inl cf))), (ad 15, .inl (G.2.1 1, 64, .inl g_45))] H := hP
          have hD : va_D A [(o, .inr (4, mF ad sz1 osz th hsz)), (ad 4, .inl (G.2.1 1, 9, .inl kf)), (ad 7, .inl (G.2.1 1, 9, .inl f1)), (ad 5, .inl (G.2.1 2, 72, .inr (.inl s1))), (ad 6, .inl (G.2.1 1, 1152, .inl b1)), (ad 8, .inl (G.2.1 2, 9, .inr (.inl t1))), (ad 24, .inl (G.2.1 1, 64, .inl n1)), (ad 25, .inl (G.2.1 2, 80, .inr (.inl d1))), (ad 2, .inl (G.2.1 2, 80, .inr (.inl cf))), (ad 15, .inl (G.2.1 1, 64, .inl g_45))] := hD
          refine lv_iinc (v := nI (i + 1)) (lv' := [(6, .int (nI (i + 1))), (0, .ref o), (1, .int (nI sl)), (5, .int (nI 4))]) hx hb dX4_close_189 hl (k := 3) rfl (nI_1 i) (by decide) rfl (fun ls hl => ?_)
          refine lv_goto (tgt := 134) hx hb dX4_close_192 (by decide) ?_
          exact ih_134 (i + 1, g_45) (show (i + 1) ≤ ds k ∧ ∀ x, x < (i + 1) → g_45 x = nI ((dig k h (lN t)).getD x 0) from ⟨hq, upI hL.2 eg_45 rfl⟩) (by show ds k - (i + 1) < ds k - i; omega) _ _ _ (hP.sub [0, 1, 2, 3, 4, 5, 6, 7, 8, 9] rfl) (hD.sub [0, 1, 2, 3, 4, 5, 6, 7, 8, 9] (by decide) rfl) hS (lv_sub hl [1, 2, 3, 0] rfl)
      · skip
        have hg : j < rmK k := rmj_f (rm_le k) hJ.1 c_76
        refine lv_aload_n hx hb dX4_close_79 rfl (lv_at hl 0 rfl) ?_
        refine lv_iload_n hx hb dX4_close_80 rfl (lv_at hl 1 rfl) ?_
        refine lv_iload hx hb dX4_close_81 (lv_at hl 4 rfl) ?_
        refine g_toi (y := nI (rmK k - (j + 1))) (pk_sub (by omega)) ?_
        refine lv_bipush (v := nI 7) hx hb dX4_close_83 (by decide) ?_
        refine lv_icmp_le (tgt := 92) hx hb dX4_close_85 (by decide) (fun c_85 => ?_) (fun c_85 => ?_)
        · skip
          have h7 : rmK k - (j + 1) ≤ 7 := ge_t (t := 7) c_85 (by have := rm_le k; omega)
          refine lv_lload_n hx hb dX4_close_92 rfl (lv_at hl 2 rfl) ?_
          refine lv_bipush (v := nI 8) hx hb dX4_close_93 (by decide) ?_
          refine lv_iload hx hb dX4_close_95 (lv_at hl 4 rfl) ?_
          refine g_toi (y := nI (rmK k - (j + 1))) (pk_sub (by omega)) ?_
          refine lv_imul hx hb dX4_close_97 ?_
          refine g_toi (y := nI (8 * (rmK k - (j + 1)))) (pk_mul 8 (rmK k - (j + 1))) ?_
          refine lv_lushr (v := ushL (lN t * 8) (nI (8 * (rmK k - (j + 1))))) hx hb dX4_close_98 rfl ?_
          refine lv_ldc2 hx hb hown (htu _ uL_X4_141) dX4_close_99 ?_
          refine lv_land hx hb dX4_close_102 ?_
          refine lv_l2i (v := Int64.toInt32 ((ushL (lN t * 8) (nI (8 * (rmK k - (j + 1))))) &&& 255)) hx hb dX4_close_103 rfl ?_
          refine g_toi (y := nI ((lenT k (lN t * 8)).getD j 0)) (lenT_hi hg h7) ?_
          refine g_callv (g_runV (As := [.int (nI sl), .int (nI ((lenT k (lN t * 8)).getD j 0))]) (rest := []) ⟨hx, hb, hml, hown, htu⟩ (c_X4_absorb l G _ o ad sz1 osz th hsz sl k (t + 1 + zc k (plc k h 128).2.length + j) ((lenT k (lN t * 8)).getD j 0) kf f1 s1 b1 t1 n1 d1 cf (plcs k (plcs k (plc k h 128) (List.replicate (zc k (plc k h 128).2.length) 0)) ((lenT k (lN t * 8)).take j)) hs hc hJ.2.1 (getD_lt (lenT_lt k _) j)) uM_X4_137 ok_X4_absorb in_X4_absorb rfl rfl ⟨Nat.le_of_ble_eq_true rfl, Nat.le_of_ble_eq_true rfl⟩ hK hP hD hS hA hZ [0, 1, 2, 3, 4, 5, 6, 7, 8] rfl rfl 0 rfl rfl rfl rfl hl.1 rfl (Nat.le_of_ble_eq_true rfl) dX4_close_104 ⟨Nat.le_of_ble_eq_true rfl, Nat.le_of_ble_eq_true rfl⟩) hP hD hS hA [0, 1, 2, 3, 4, 5, 6, 7, 8] rfl (fun u H locs hw1 hP hD hS => ?_)
          obtain ⟨ff_47, sf_48, bf_49, tf_50, nf_51, df_52⟩ := u
          have hw1 : MsR (kf, ff_47, sf_48, bf_49, tf_50) sl k ((t + 1 + zc k (plc k h 128).2.length + j) + 1) (plc k (plcs k (plcs k (plc k h 128) (List.replicate (zc k (plc k h 128).2.length) 0)) ((lenT k (lN t * 8)).take j)) ((lenT k (lN t * 8)).getD j 0)) ∧ MsO [sl] (kf, f1, s1, b1, t1) (kf, ff_47, sf_48, bf_49, tf_50) := hw1
          have hP : va_P G.1 vwCl [(ad 15, .inl (G.2.1 1, 64, .inl dg)), (o, .inr (4, mF ad sz1 osz th hsz)), (ad 4, .inl (G.2.1 1, 9, .inl kf)), (ad 7, .inl (G.2.1 1, 9, .inl ff_47)), (ad 5, .inl (G.2.1 2, 72, .inr (.inl sf_48))), (ad 6, .inl (G.2.1 1, 1152, .inl bf_49)), (ad 8, .inl (G.2.1 2, 9, .inr (.inl tf_50))), (ad 24, .inl (G.2.1 1, 64, .inl nf_51)), (ad 25, .inl (G.2.1 2, 80, .inr (.inl df_52))), (ad 2, .inl (G.2.1 2, 80, .inr (.inl cf)))] H := hP
          have hD : va_D A [(ad 15, .inl (G.2.1 1, 64, .inl dg)), (o, .inr (4, mF ad sz1 osz th hsz)), (ad 4, .inl (G.2.1 1, 9, .inl kf)), (ad 7, .inl (G.2.1 1, 9, .inl ff_47)), (ad 5, .inl (G.2.1 2, 72, .inr (.inl sf_48))), (ad 6, .inl (G.2.1 1, 1152, .inl bf_49)), (ad 8, .inl (G.2.1 2, 9, .inr (.inl tf_50))), (ad 24, .inl (G.2.1 1, 64, .inl nf_51)), (ad 25, .inl (G.2.1 2, 80, .inr (.inl df_52))), (ad 2, .inl (G.2.1 2, 80, .inr (.inl cf)))] := hD
          refine lv_iinc (v := nI (rmK k) - nI (j + 1 + 1)) (lv' := [(5, .int (nI (rmK k) - nI (j + 1 + 1))), (0, .ref o), (1, .int (nI sl)), (2, .long (lN t * 8)), (4, .int (nI (rmK k)))]) hx hb dX4_close_107 hl (k := 4) rfl (rmj_i (rm_le k) hg) (by decide) rfl (fun ls hl => ?_)
          refine lv_goto (tgt := 74) hx hb dX4_close_110 (by decide) ?_
          exact ih_74 (j + 1, ff_47, sf_48, bf_49, tf_50, nf_51, df_52) (show (j + 1) ≤ rmK k ∧ MsR (kf, ff_47, sf_48, bf_49, tf_50) sl k (t + 1 + zc k (plc k h 128).2.length + (j + 1)) (plcs k (plcs k (plc k h 128) (List.replicate (zc k (plc k h 128).2.length) 0)) ((lenT k (lN t * 8)).take (j + 1))) ∧ MsO [sl] (kf, ff, sf, bf, tf) (kf, ff_47, sf_48, bf_49, tf_50) from ⟨hg, pl_take (by rw [lenT_len]; exact hg) rfl hw1.1, hJ.2.2.tr hw1.2⟩) (by show rmK k - (j + 1) < rmK k - j; omega) _ _ _ (hP.sub [1, 2, 3, 4, 5, 6, 7, 8, 9, 0] rfl) (hD.sub [1, 2, 3, 4, 5, 6, 7, 8, 9, 0] (by decide) rfl) hS (lv_sub hl [1, 2, 3, 4, 0] rfl)
        · skip
          have h7 : 7 < rmK k - (j + 1) := Nat.lt_of_not_le (fun h => c_85 (nI_le h (by decide)))
          refine lv_iconst (v := nI 0) hx hb dX4_close_88 (by decide) ?_
          refine g_toi (y := nI ((lenT k (lN t * 8)).getD j 0)) (lenT_lo hg (Nat.not_le.mpr h7)) ?_
          refine lv_goto (tgt := 104) hx hb dX4_close_89 (by decide) ?_
          refine g_callv (g_runV (As := [.int (nI sl), .int (nI ((lenT k (lN t * 8)).getD j 0))]) (rest := []) ⟨hx, hb, hml, hown, htu⟩ (c_X4_absorb l G _ o ad sz1 osz th hsz sl k (t + 1 + zc k (plc k h 128).2.length + j) ((lenT k (lN t * 8)).getD j 0) kf f1 s1 b1 t1 n1 d1 cf (plcs k (plcs k (plc k h 128) (List.replicate (zc k (plc k h 128).2.length) 0)) ((lenT k (lN t * 8)).take j)) hs hc hJ.2.1 (getD_lt (lenT_lt k _) j)) uM_X4_137 ok_X4_absorb in_X4_absorb rfl rfl ⟨Nat.le_of_ble_eq_true rfl, Nat.le_of_ble_eq_true rfl⟩ hK hP hD hS hA hZ [0, 1, 2, 3, 4, 5, 6, 7, 8] rfl rfl 0 rfl rfl rfl rfl hl.1 rfl (Nat.le_of_ble_eq_true rfl) dX4_close_104 ⟨Nat.le_of_ble_eq_true rfl, Nat.le_of_ble_eq_true rfl⟩) hP hD hS hA [0, 1, 2, 3, 4, 5, 6, 7, 8] rfl (fun u H locs hw1 hP hD hS => ?_)
          obtain ⟨ff_54, sf_55, bf_56, tf_57, nf_58, df_59⟩ := u
          have hw1 : MsR (kf, ff_54, sf_55, bf_56, tf_57) sl k ((t + 1 + zc k (plc k h 128).2.length + j) + 1) (plc k (plcs k (plcs k (plc k h 128) (List.replicate (zc k (plc k h 128).2.length) 0)) ((lenT k (lN t * 8)).take j)) ((lenT k (lN t * 8)).getD j 0)) ∧ MsO [sl] (kf, f1, s1, b1, t1) (kf, ff_54, sf_55, bf_56, tf_57) := hw1
          have hP : va_P G.1 vwCl [(ad 15, .inl (G.2.1 1, 64, .inl dg)), (o, .inr (4, mF ad sz1 osz th hsz)), (ad 4, .inl (G.2.1 1, 9, .inl kf)), (ad 7, .inl (G.2.1 1, 9, .inl ff_54)), (ad 5, .inl (G.2.1 2, 72, .inr (.inl sf_55))), (ad 6, .inl (G.2.1 1, 1152, .inl bf_56)), (ad 8, .inl (G.2.1 2, 9, .inr (.inl tf_57))), (ad 24, .inl (G.2.1 1, 64, .inl nf_58)), (ad 25, .inl (G.2.1 2, 80, .inr (.inl df_59))), (ad 2, .inl (G.2.1 2, 80, .inr (.inl cf)))] H := hP
          have hD : va_D A [(ad 15, .inl (G.2.1 1, 64, .inl dg)), (o, .inr (4, mF ad sz1 osz th hsz)), (ad 4, .inl (G.2.1 1, 9, .inl kf)), (ad 7, .inl (G.2.1 1, 9, .inl ff_54)), (ad 5, .inl (G.2.1 2, 72, .inr (.inl sf_55))), (ad 6, .inl (G.2.1 1, 1152, .inl bf_56)), (ad 8, .inl (G.2.1 2, 9, .inr (.inl tf_57))), (ad 24, .inl (G.2.1 1, 64, .inl nf_58)), (ad 25, .inl (G.2.1 2, 80, .inr (.inl df_59))), (ad 2, .inl (G.2.1 2, 80, .inr (.inl cf)))] := hD
          refine lv_iinc (v := nI (rmK k) - nI (j + 1 + 1)) (lv' := [(5, .int (nI (rmK k) - nI (j + 1 + 1))), (0, .ref o), (1, .int (nI sl)), (2, .long (lN t * 8)), (4, .int (nI (rmK k)))]) hx hb dX4_close_107 hl (k := 4) rfl (rmj_i (rm_le k) hg) (by decide) rfl (fun ls hl => ?_)
          refine lv_goto (tgt := 74) hx hb dX4_close_110 (by decide) ?_
          exact ih_74 (j + 1, ff_54, sf_55, bf_56, tf_57, nf_58, df_59) (show (j + 1) ≤ rmK k ∧ MsR (kf, ff_54, sf_55, bf_56, tf_57) sl k (t + 1 + zc k (plc k h 128).2.length + (j + 1)) (plcs k (plcs k (plc k h 128) (List.replicate (zc k (plc k h 128).2.length) 0)) ((lenT k (lN t * 8)).take (j + 1))) ∧ MsO [sl] (kf, ff, sf, bf, tf) (kf, ff_54, sf_55, bf_56, tf_57) from ⟨hg, pl_take (by rw [lenT_len]; exact hg) rfl hw1.1, hJ.2.2.tr hw1.2⟩) (by show rmK k - (j + 1) < rmK k - j; omega) _ _ _ (hP.sub [1, 2, 3, 4, 5, 6, 7, 8, 9, 0] rfl) (hD.sub [1, 2, 3, 4, 5, 6, 7, 8, 9, 0] (by decide) rfl) hS (lv_sub hl [1, 2, 3, 4, 0] rfl)
    · skip
      have hg : i < zc k (plc k h 128).2.length := Nat.lt_of_le_of_ne hI.1 (fun e => c_56 (by rw [plcs_len _ _ hz1, List.length_replicate, (zc_stop hz1 hI.1).mpr e]))
      refine lv_aload_n hx hb dX4_close_59 rfl (lv_at hl 0 rfl) ?_
      refine lv_iload_n hx hb dX4_close_60 rfl (lv_at hl 1 rfl) ?_
      refine lv_iconst (v := nI 0) hx hb dX4_close_61 (by decide) ?_
      refine g_callv (g_runV (As := [.int (nI sl), .int (nI 0)]) (rest := []) ⟨hx, hb, hml, hown, htu⟩ (c_X4_absorb l G _ o ad sz1 osz th hsz sl k (t + 1 + i) 0 kf f1 s1 b1 t1 n1 d1 cf (plcs k (plc k h 128) (List.replicate i 0)) hs hc hI.2.1 (by decide)) uM_X4_137 ok_X4_absorb in_X4_absorb rfl rfl ⟨Nat.le_of_ble_eq_true rfl, Nat.le_of_ble_eq_true rfl⟩ hK hP hD hS hA hZ [0, 1, 2, 3, 4, 5, 6, 7, 8] rfl rfl 0 rfl rfl rfl rfl hl.1 rfl (Nat.le_of_ble_eq_true rfl) dX4_close_62 ⟨Nat.le_of_ble_eq_true rfl, Nat.le_of_ble_eq_true rfl⟩) hP hD hS hA [0, 1, 2, 3, 4, 5, 6, 7, 8] rfl (fun u H locs hw1 hP hD hS => ?_)
      obtain ⟨ff_61, sf_62, bf_63, tf_64, nf_65, df_66⟩ := u
      have hw1 : MsR (kf, ff_61, sf_62, bf_63, tf_64) sl k ((t + 1 + i) + 1) (plc k (plcs k (plc k h 128) (List.replicate i 0)) 0) ∧ MsO [sl] (kf, f1, s1, b1, t1) (kf, ff_61, sf_62, bf_63, tf_64) := hw1
      have hP : va_P G.1 vwCl [(ad 15, .inl (G.2.1 1, 64, .inl dg)), (o, .inr (4, mF ad sz1 osz th hsz)), (ad 4, .inl (G.2.1 1, 9, .inl kf)), (ad 7, .inl (G.2.1 1, 9, .inl ff_61)), (ad 5, .inl (G.2.1 2, 72, .inr (.inl sf_62))), (ad 6, .inl (G.2.1 1, 1152, .inl bf_63)), (ad 8, .inl (G.2.1 2, 9, .inr (.inl tf_64))), (ad 24, .inl (G.2.1 1, 64, .inl nf_65)), (ad 25, .inl (G.2.1 2, 80, .inr (.inl df_66))), (ad 2, .inl (G.2.1 2, 80, .inr (.inl cf)))] H := hP
      have hD : va_D A [(ad 15, .inl (G.2.1 1, 64, .inl dg)), (o, .inr (4, mF ad sz1 osz th hsz)), (ad 4, .inl (G.2.1 1, 9, .inl kf)), (ad 7, .inl (G.2.1 1, 9, .inl ff_61)), (ad 5, .inl (G.2.1 2, 72, .inr (.inl sf_62))), (ad 6, .inl (G.2.1 1, 1152, .inl bf_63)), (ad 8, .inl (G.2.1 2, 9, .inr (.inl tf_64))), (ad 24, .inl (G.2.1 1, 64, .inl nf_65)), (ad 25, .inl (G.2.1 2, 80, .inr (.inl df_66))), (ad 2, .inl (G.2.1 2, 80, .inr (.inl cf)))] := hD
      refine lv_goto (tgt := 38) hx hb dX4_close_65 (by decide) ?_
      exact ih_38 (i + 1, ff_61, sf_62, bf_63, tf_64, nf_65, df_66) (show (i + 1) ≤ zc k (plc k h 128).2.length ∧ MsR (kf, ff_61, sf_62, bf_63, tf_64) sl k (t + 1 + (i + 1)) (plcs k (plc k h 128) (List.replicate (i + 1) 0)) ∧ MsO [sl] (kf, ff, sf, bf, tf) (kf, ff_61, sf_62, bf_63, tf_64) from ⟨hg, pl_rep hw1.1, hI.2.2.tr hw1.2⟩) (by show zc k (plc k h 128).2.length - (i + 1) < zc k (plc k h 128).2.length - i; omega) _ _ _ (hP.sub [1, 2, 3, 4, 5, 6, 7, 8, 9, 0] rfl) (hD.sub [1, 2, 3, 4, 5, 6, 7, 8, 9, 0] (by decide) rfl) hS (lv_sub hl [0, 1, 2, 3] rfl)
set_option maxHeartbeats 4000000 in
set_option maxRecDepth 100000 in
theorem c_X4_absorbDigest (l : Launch) (G : GW) (sz : Nat) (o : Nat) (ad : Nat → Nat) (sz1 : Int32) (osz : Int32) (th : Int32) (hsz : Int32) (sl : Nat) (k : Nat) (t : Nat) (kf : Nat → Int32) (ff : Nat → Int32) (sf : Nat → Int64) (bf : Nat → Int32) (tf : Nat → Int64) (nf : Nat → Int32) (df : Nat → Int64) (cf : Nat → Int64) (dg : Nat → Int32) (h : HS) (q : List Nat) (hs : sl < 9) (hc : ∀ j, j < 80 → cf j = kT j) (hM : MsR (kf, ff, sf, bf, tf) sl k t h) (hq : q.length = ds k) (hq2 : ∀ c ∈ q, c < 256) (hd : ∀ i, i < ds k → dg i = nI (q.getD i 0)) : Met l yX4_absorbDigest (Cond.code yX4_absorbDigest cX4_absorbDigest 3 (none : Option FieldType) :: UW) ({ frames := 3, cells := 0, slots := 0, locals := 87 } : Room) (va_Pc [.ref o, .int (nI sl)] (gPre G [(o, .inr (4, mF ad sz1 osz th hsz)), (ad 4, .inl (G.2.1 1, 9, .inl kf)), (ad 7, .inl (G.2.1 1, 9, .inl ff)), (ad 5, .inl (G.2.1 2, 72, .inr (.inl sf))), (ad 6, .inl (G.2.1 1, 1152, .inl bf)), (ad 8, .inl (G.2.1 2, 9, .inr (.inl tf))), (ad 24, .inl (G.2.1 1, 64, .inl nf)), (ad 25, .inl (G.2.1 2, 80, .inr (.inl df))), (ad 2, .inl (G.2.1 2, 80, .inr (.inl cf))), (ad 15, .inl (G.2.1 1, 64, .inl dg))] sz)) (va_Qv (fun (uq9 : (Nat → Int32) × (Nat → Int64) × (Nat → Int32) × (Nat → Int64) × (Nat → Int32) × (Nat → Int64)) => MsR (kf, uq9.1, uq9.2.1, uq9.2.2.1, uq9.2.2.2.1) sl k (t + ds k) (plcs k h q) ∧ MsO [sl] (kf, ff, sf, bf, tf) (kf, uq9.1, uq9.2.1, uq9.2.2.1, uq9.2.2.2.1)) (fun u => gPost G (va_A [(o, .inr (4, mF ad sz1 osz th hsz)), (ad 4, .inl (G.2.1 1, 9, .inl kf)), (ad 7, .inl (G.2.1 1, 9, .inl ff)), (ad 5, .inl (G.2.1 2, 72, .inr (.inl sf))), (ad 6, .inl (G.2.1 1, 1152, .inl bf)), (ad 8, .inl (G.2.1 2, 9, .inr (.inl tf))), (ad 24, .inl (G.2.1 1, 64, .inl nf)), (ad 25, .inl (G.2.1 2, 80, .inr (.inl df))), (ad 2, .inl (G.2.1 2, 80, .inr (.inl cf))), (ad 15, .inl (G.2.1 1, 64, .inl dg))] sz) ((fun (uq9 : (Nat → Int32) × (Nat → Int64) × (Nat → Int32) × (Nat → Int64) × (Nat → Int32) × (Nat → Int64)) => ([(o, .inr (4, mF ad sz1 osz th hsz)), (ad 4, .inl (G.2.1 1, 9, .inl kf)), (ad 7, .inl (G.2.1 1, 9, .inl uq9.1)), (ad 5, .inl (G.2.1 2, 72, .inr (.inl uq9.2.1))), (ad 6, .inl (G.2.1 1, 1152, .inl uq9.2.2.1)), (ad 8, .inl (G.2.1 2, 9, .inr (.inl uq9.2.2.2.1))), (ad 24, .inl (G.2.1 1, 64, .inl uq9.2.2.2.2.1)), (ad 25, .inl (G.2.1 2, 80, .inr (.inl uq9.2.2.2.2.2))), (ad 2, .inl (G.2.1 2, 80, .inr (.inl cf))), (ad 15, .inl (G.2.1 1, 64, .inl dg))] : va_W)) u)) (va_A [(o, .inr (4, mF ad sz1 osz th hsz)), (ad 4, .inl (G.2.1 1, 9, .inl kf)), (ad 7, .inl (G.2.1 1, 9, .inl ff)), (ad 5, .inl (G.2.1 2, 72, .inr (.inl sf))), (ad 6, .inl (G.2.1 1, 1152, .inl bf)), (ad 8, .inl (G.2.1 2, 9, .inr (.inl tf))), (ad 24, .inl (G.2.1 1, 64, .inl nf)), (ad 25, .inl (G.2.1 2, 80, .inr (.inl df))), (ad 2, .inl (G.2.1 2, 80, .inr (.inl cf))), (ad 15, .inl (G.2.1 1, 64, .inl dg))] sz)) 0 0 (va_A [(o, .inr (4, mF ad sz1 osz th hsz)), (ad 4, .inl (G.2.1 1, 9, .inl kf)), (ad 7, .inl (G.2.1 1, 9, .inl ff)), (ad 5, .inl (G.2.1 2, 72, .inr (.inl sf))), (ad 6, .inl (G.2.1 1, 1152, .inl bf)), (ad 8, .inl (G.2.1 2, 9, .inr (.inl tf))), (ad 24, .inl (G.2.1 1, 64, .inl nf)), (ad 25, .inl (G.2.1 2, 80, .inr (.inl df))), (ad 2, .inl (G.2.1 2, 80, .inr (.inl cf))), (ad 15, .inl (G.2.1 1, 64, .inl dg))] sz) := by
  refine gM_of (Qf := fun A => va_Qv (fun (uq9 : (Nat → Int32) × (Nat → Int64) × (Nat → Int32) × (Nat → Int64) × (Nat → Int32) × (Nat → Int64)) => MsR (kf, uq9.1, uq9.2.1, uq9.2.2.1, uq9.2.2.2.1) sl k (t + ds k) (plcs k h q) ∧ MsO [sl] (kf, ff, sf, bf, tf) (kf, uq9.1, uq9.2.1, uq9.2.2.1, uq9.2.2.2.1)) (fun u => gPost G A ((fun (uq9 : (Nat → Int32) × (Nat → Int64) × (Nat → Int32) × (Nat → Int64) × (Nat → Int32) × (Nat → Int64)) => ([(o, .inr (4, mF ad sz1 osz th hsz)), (ad 4, .inl (G.2.1 1, 9, .inl kf)), (ad 7, .inl (G.2.1 1, 9, .inl uq9.1)), (ad 5, .inl (G.2.1 2, 72, .inr (.inl uq9.2.1))), (ad 6, .inl (G.2.1 1, 1152, .inl uq9.2.2.1)), (ad 8, .inl (G.2.1 2, 9, .inr (.inl uq9.2.2.2.1))), (ad 24, .inl (G.2.1 1, 64, .inl uq9.2.2.2.2.1)), (ad 25, .inl (G.2.1 2, 80, .inr (.inl uq9.2.2.2.2.2))), (ad 2, .inl (G.2.1 2, 80, .inr (.inl cf))), (ad 15, .inl (G.2.1 1, 64, .inl dg))] : va_W)) u)) A) (by decide) (Nat.le_of_ble_eq_true rfl) ?_
  intro p e s m below meth c A ls hx hb hml hr hown htu hlk hnm hA hP hD hS hK hZ hl
  have hown : s.vm.findClass RX4 = some m.cls := hown
  have hl : lv_has ls 3 [(0, .ref o), (1, .int (nI sl))] := hl
  refine lv_iconst (v := nI 0) hx hb dX4_absorbDigest_0 (by decide) ?_
  refine lv_istore_n (lv' := [(2, .int (nI 0)), (0, .ref o), (1, .int (nI sl))]) hx hb dX4_absorbDigest_1 rfl hl (by decide) rfl (fun ls hl => ?_)
  refine g_loop (σ := Nat × (Nat → Int32) × (Nat → Int64) × (Nat → Int32) × (Nat → Int64) × (Nat → Int32) × (Nat → Int64)) (G := G) (fun xq9 : Nat × (Nat → Int32) × (Nat → Int64) × (Nat → Int32) × (Nat → Int64) × (Nat → Int32) × (Nat → Int64) => [(o, .inr (4, mF ad sz1 osz th hsz)), (ad 4, .inl (G.2.1 1, 9, .inl kf)), (ad 7, .inl (G.2.1 1, 9, .inl xq9.2.1)), (ad 5, .inl (G.2.1 2, 72, .inr (.inl xq9.2.2.1))), (ad 6, .inl (G.2.1 1, 1152, .inl xq9.2.2.2.1)), (ad 8, .inl (G.2.1 2, 9, .inr (.inl xq9.2.2.2.2.1))), (ad 24, .inl (G.2.1 1, 64, .inl xq9.2.2.2.2.2.1)), (ad 25, .inl (G.2.1 2, 80, .inr (.inl xq9.2.2.2.2.2.2))), (ad 2, .inl (G.2.1 2, 80, .inr (.inl cf))), (ad 15, .inl (G.2.1 1, 64, .inl dg))]) (fun xq9 : Nat × (Nat → Int32) × (Nat → Int64) × (Nat → Int32) × (Nat → Int64) × (Nat → Int32) × (Nat → Int64) => [(0, .ref o), (1, .int (nI sl)), (2, .int (nI xq9.1))]) (fun xq9 : Nat × (Nat → Int32) × (Nat → Int64) × (Nat → Int32) × (Nat → Int64) × (Nat → Int32) × (Nat → Int64) => xq9.1 ≤ ds k ∧ MsR (kf, xq9.2.1, xq9.2.2.1, xq9.2.2.2.1, xq9.2.2.2.2.1) sl k (t + xq9.1) (plcs k h (q.take xq9.1)) ∧ MsO [sl] (kf, ff, sf, bf, tf) (kf, xq9.2.1, xq9.2.2.1, xq9.2.2.2.1, xq9.2.2.2.2.1)) (fun xq9 : Nat × (Nat → Int32) × (Nat → Int64) × (Nat → Int32) × (Nat → Int64) × (Nat → Int32) × (Nat → Int64) => ds k - xq9.1) ?_ (0, ff, sf, bf, tf, nf, df) (show 0 ≤ ds k ∧ MsR (kf, ff, sf, bf, tf) sl k (t + 0) (plcs k h (q.take 0)) ∧ MsO [sl] (kf, ff, sf, bf, tf) (kf, ff, sf, bf, tf) from ⟨Nat.zero_le _, hM, MsO.refl _ _⟩) (hP.sub [0, 1, 2, 3, 4, 5, 6, 7, 8, 9] rfl) (hD.sub [0, 1, 2, 3, 4, 5, 6, 7, 8, 9] (by decide) rfl) hS (lv_sub hl [1, 2, 0] rfl)
  clear hP hD hS hl
  intro x hxI_2 ih_2 H locs ls hP hD hS hl
  obtain ⟨i, f1, s1, b1, t1, n1, d1⟩ := x
  have hI : i ≤ ds k ∧ MsR (kf, f1, s1, b1, t1) sl k (t + i) (plcs k h (q.take i)) ∧ MsO [sl] (kf, ff, sf, bf, tf) (kf, f1, s1, b1, t1) := hxI_2
  have hP : va_P G.1 vwCl [(o, .inr (4, mF ad sz1 osz th hsz)), (ad 4, .inl (G.2.1 1, 9, .inl kf)), (ad 7, .inl (G.2.1 1, 9, .inl f1)), (ad 5, .inl (G.2.1 2, 72, .inr (.inl s1))), (ad 6, .inl (G.2.1 1, 1152, .inl b1)), (ad 8, .inl (G.2.1 2, 9, .inr (.inl t1))), (ad 24, .inl (G.2.1 1, 64, .inl n1)), (ad 25, .inl (G.2.1 2, 80, .inr (.inl d1))), (ad 2, .inl (G.2.1 2, 80, .inr (.inl cf))), (ad 15, .inl (G.2.1 1, 64, .inl dg))] H := hP
  have hD : va_D A [(o, .inr (4, mF ad sz1 osz th hsz)), (ad 4, .inl (G.2.1 1, 9, .inl kf)), (ad 7, .inl (G.2.1 1, 9, .inl f1)), (ad 5, .inl (G.2.1 2, 72, .inr (.inl s1))), (ad 6, .inl (G.2.1 1, 1152, .inl b1)), (ad 8, .inl (G.2.1 2, 9, .inr (.inl t1))), (ad 24, .inl (G.2.1 1, 64, .inl n1)), (ad 25, .inl (G.2.1 2, 80, .inr (.inl d1))), (ad 2, .inl (G.2.1 2, 80, .inr (.inl cf))), (ad 15, .inl (G.2.1 1, 64, .inl dg))] := hD
  have hl : lv_has ls 3 [(0, .ref o), (1, .int (nI sl)), (2, .int (nI i))] := hl
  refine lv_iload_n hx hb dX4_absorbDigest_2 rfl (lv_at hl 2 rfl) ?_
  refine lv_aload_n hx hb dX4_absorbDigest_3 rfl (lv_at hl 0 rfl) ?_
  refine va_get (D := G.1) (ci := 4) (v := .ref (ad 4)) (C := RX4) (T := TX4) (N := 29) hx hb htu iwX4 hown hK.1 hP 0 rfl rfl 4 (by decide) (htu _ uF_X4_20) (fun _ h9 => h9) rfl dX4_absorbDigest_4 ?_
  refine lv_iload_n hx hb dX4_absorbDigest_7 rfl (lv_at hl 1 rfl) ?_
  refine g_iald hx hb hK.1 hP 1 1 rfl rfl ⟨hs, by decide⟩ dX4_absorbDigest_8 ?_
  refine g_toi (y := nI k) (hI.2.1.2.1) ?_
  refine g_calli (g_runS (As := [.int (nI k)]) (rest := [.int (nI i)]) ⟨hx, hb, hml, hown, htu⟩ (c_X4_digestOf l G _ k hM.1) uM_X4_143 ok_X4_digestOf uA_X4_digestOf rfl rfl ⟨Nat.le_of_ble_eq_true rfl, Nat.le_of_ble_eq_true rfl⟩ hK hP hD hS hA hZ [] rfl rfl rfl hl.1 rfl (Nat.le_of_ble_eq_true rfl) dX4_absorbDigest_9 ⟨Nat.le_of_ble_eq_true rfl, Nat.le_of_ble_eq_true rfl⟩) hP hD hS hA [] rfl (fun r_1 u H locs hw_2 hP hD hS => ?_)
  have hw_2 : r_1 = nI (ds k) := hw_2
  subst hw_2
  have hP : va_P G.1 vwCl [(o, .inr (4, mF ad sz1 osz th hsz)), (ad 4, .inl (G.2.1 1, 9, .inl kf)), (ad 7, .inl (G.2.1 1, 9, .inl f1)), (ad 5, .inl (G.2.1 2, 72, .inr (.inl s1))), (ad 6, .inl (G.2.1 1, 1152, .inl b1)), (ad 8, .inl (G.2.1 2, 9, .inr (.inl t1))), (ad 24, .inl (G.2.1 1, 64, .inl n1)), (ad 25, .inl (G.2.1 2, 80, .inr (.inl d1))), (ad 2, .inl (G.2.1 2, 80, .inr (.inl cf))), (ad 15, .inl (G.2.1 1, 64, .inl dg))] H := hP
  have hD : va_D A [(o, .inr (4, mF ad sz1 osz th hsz)), (ad 4, .inl (G.2.1 1, 9, .inl kf)), (ad 7, .inl (G.2.1 1, 9, .inl f1)), (ad 5, .inl (G.2.1 2, 72, .inr (.inl s1))), (ad 6, .inl (G.2.1 1, 1152, .inl b1)), (ad 8, .inl (G.2.1 2, 9, .inr (.inl t1))), (ad 24, .inl (G.2.1 1, 64, .inl n1)), (ad 25, .inl (G.2.1 2, 80, .inr (.inl d1))), (ad 2, .inl (G.2.1 2, 80, .inr (.inl cf))), (ad 15, .inl (G.2.1 1, 64, .inl dg))] := hD
  refine lv_icmp_ge (tgt := 32) hx hb dX4_absorbDigest_12 (by decide) (fun c_12 => ?_) (fun c_12 => ?_)
  · skip
    have hg : ds k ≤ i := ge_t (n := ds k) c_12 (by have := ds_le k; omega)
    exact gret_v hx hb hr hlk dX4_absorbDigest_32 hS (f1, s1, b1, t1, n1, d1) (hP.sub [0, 1, 2, 3, 4, 5, 6, 7, 8, 9] rfl) (hD.sub [0, 1, 2, 3, 4, 5, 6, 7, 8, 9] (by decide) rfl) (show (MsR (kf, f1, s1, b1, t1) sl k (t + ds k) (plcs k h q)) ∧ (MsO [sl] (kf, ff, sf, bf, tf) (kf, f1, s1, b1, t1)) from ⟨by have h2 := hI.2.1; rw [List.take_of_length_le (by omega), show i = ds k by omega] at h2; exact h2, hI.2.2⟩)
  · skip
    have hg : i < ds k := ge_f (n := ds k) c_12 (by have := hI.1; have := ds_le k; omega)
    refine lv_aload_n hx hb dX4_absorbDigest_15 rfl (lv_at hl 0 rfl) ?_
    refine lv_iload_n hx hb dX4_absorbDigest_16 rfl (lv_at hl 1 rfl) ?_
    refine lv_aload_n hx hb dX4_absorbDigest_17 rfl (lv_at hl 0 rfl) ?_
    refine va_get (D := G.1) (ci := 4) (v := .ref (ad 15)) (C := RX4) (T := TX4) (N := 29) hx hb htu iwX4 hown hK.1 hP 0 rfl rfl 15 (by decide) (htu _ uF_X4_54) (fun _ h9 => h9) rfl dX4_absorbDigest_18 ?_
    refine lv_iload_n hx hb dX4_absorbDigest_21 rfl (lv_at hl 2 rfl) ?_
    refine g_iald hx hb hK.1 hP 9 1 rfl rfl ⟨by have := ds_le k; omega, by decide⟩ dX4_absorbDigest_22 ?_
    refine g_toi (y := nI (q.getD i 0)) (hd i hg) ?_
    refine g_callv (g_runV (As := [.int (nI sl), .int (nI (q.getD i 0))]) (rest := []) ⟨hx, hb, hml, hown, htu⟩ (c_X4_absorb l G _ o ad sz1 osz th hsz sl k (t + i) (q.getD i 0) kf f1 s1 b1 t1 n1 d1 cf (plcs k h (q.take i)) hs hc hI.2.1 (getD_lt hq2 i)) uM_X4_137 ok_X4_absorb in_X4_absorb rfl rfl ⟨Nat.le_of_ble_eq_true rfl, Nat.le_of_ble_eq_true rfl⟩ hK hP hD hS hA hZ [0, 1, 2, 3, 4, 5, 6, 7, 8] rfl rfl 0 rfl rfl rfl rfl hl.1 rfl (Nat.le_of_ble_eq_true rfl) dX4_absorbDigest_23 ⟨Nat.le_of_ble_eq_true rfl, Nat.le_of_ble_eq_true rfl⟩) hP hD hS hA [0, 1, 2, 3, 4, 5, 6, 7, 8] rfl (fun u H locs hw1 hP hD hS => ?_)
    obtain ⟨ff_4, sf_5, bf_6, tf_7, nf_8, df_9⟩ := u
    have hw1 : MsR (kf, ff_4, sf_5, bf_6, tf_7) sl k ((t + i) + 1) (plc k (plcs k h (q.take i)) (q.getD i 0)) ∧ MsO [sl] (kf, f1, s1, b1, t1) (kf, ff_4, sf_5, bf_6, tf_7) := hw1
    have hP : va_P G.1 vwCl [(ad 15, .inl (G.2.1 1, 64, .inl dg)), (o, .inr (4, mF ad sz1 osz th hsz)), (ad 4, .inl (G.2.1 1, 9, .inl kf)), (ad 7, .inl (G.2.1 1, 9, .inl ff_4)), (ad 5, .inl (G.2.1 2, 72, .inr (.inl sf_5))), (ad 6, .inl (G.2.1 1, 1152, .inl bf_6)), (ad 8, .inl (G.2.1 2, 9, .inr (.inl tf_7))), (ad 24, .inl (G.2.1 1, 64, .inl nf_8)), (ad 25, .inl (G.2.1 2, 80, .inr (.inl df_9))), (ad 2, .inl (G.2.1 2, 80, .inr (.inl cf)))] H := hP
    have hD : va_D A [(ad 15, .inl (G.2.1 1, 64, .inl dg)), (o, .inr (4, mF ad sz1 osz th hsz)), (ad 4, .inl (G.2.1 1, 9, .inl kf)), (ad 7, .inl (G.2.1 1, 9, .inl ff_4)), (ad 5, .inl (G.2.1 2, 72, .inr (.inl sf_5))), (ad 6, .inl (G.2.1 1, 1152, .inl bf_6)), (ad 8, .inl (G.2.1 2, 9, .inr (.inl tf_7))), (ad 24, .inl (G.2.1 1, 64, .inl nf_8)), (ad 25, .inl (G.2.1 2, 80, .inr (.inl df_9))), (ad 2, .inl (G.2.1 2, 80, .inr (.inl cf)))] := hD
    refine lv_iinc (v := nI (i + 1)) (lv' := [(2, .int (nI (i + 1))), (0, .ref o), (1, .int (nI sl))]) hx hb dX4_absorbDigest_26 hl (k := 2) rfl (nI_1 i) (by decide) rfl (fun ls hl => ?_)
    refine lv_goto (tgt := 2) hx hb dX4_absorbDigest_29 (by decide) ?_
    exact ih_2 (i + 1, ff_4, sf_5, bf_6, tf_7, nf_8, df_9) (show (i + 1) ≤ ds k ∧ MsR (kf, ff_4, sf_5, bf_6, tf_7) sl k (t + (i + 1)) (plcs k h (q.take (i + 1))) ∧ MsO [sl] (kf, ff, sf, bf, tf) (kf, ff_4, sf_5, bf_6, tf_7) from ⟨hg, pl_take (by omega) rfl hw1.1, hI.2.2.tr hw1.2⟩) (by show ds k - (i + 1) < ds k - i; omega) _ _ _ (hP.sub [1, 2, 3, 4, 5, 6, 7, 8, 9, 0] rfl) (hD.sub [1, 2, 3, 4, 5, 6, 7, 8, 9, 0] (by decide) rfl) hS (lv_sub hl [1, 2, 0] rfl)
set_option maxHeartbeats 4000000 in
set_option maxRecDepth 100000 in
theorem c_X4_closeCode (l : Launch) (G : GW) (sz : Nat) (o : Nat) (ad : Nat → Nat) (sz1 : Int32) (osz : Int32) (th : Int32) (hsz : Int32) (k : Nat) (t : Nat) (kf : Nat → Int32) (ff : Nat → Int32) (sf : Nat → Int64) (bf : Nat → Int32) (tf : Nat → Int64) (nf : Nat → Int32) (df : Nat → Int64) (cf : Nat → Int64) (dg : Nat → Int32) (h : HS) (ho : HS) (hc : ∀ j, j < 80 → cf j = kT j) (hM : MsR (kf, ff, sf, bf, tf) 4 k t h) (hN : MsR (kf, ff, sf, bf, tf) 8 k (bs k) ho) : Met l yX4_closeCode (Cond.code yX4_closeCode cX4_closeCode 1 (none : Option FieldType) :: UW) ({ frames := 4, cells := 0, slots := 0, locals := 113 } : Room) (va_Pc [.ref o] (gPre G [(o, .inr (4, mF ad sz1 osz th hsz)), (ad 4, .inl (G.2.1 1, 9, .inl kf)), (ad 7, .inl (G.2.1 1, 9, .inl ff)), (ad 5, .inl (G.2.1 2, 72, .inr (.inl sf))), (ad 6, .inl (G.2.1 1, 1152, .inl bf)), (ad 8, .inl (G.2.1 2, 9, .inr (.inl tf))), (ad 24, .inl (G.2.1 1, 64, .inl nf)), (ad 25, .inl (G.2.1 2, 80, .inr (.inl df))), (ad 2, .inl (G.2.1 2, 80, .inr (.inl cf))), (ad 15, .inl (G.2.1 1, 64, .inl dg))] sz)) (va_Qv (fun (uq9 : (Nat → Int32) × (Nat → Int32) × (Nat → Int64) × (Nat → Int32) × (Nat → Int64) × (Nat → Int32) × (Nat → Int64) × (Nat → Int32)) => (∀ i, i < ds k → uq9.2.2.2.2.2.2.2 i = nI ((dig k (plcs k ho (dig k h (lN t))) (lN (bs k + ds k))).getD i 0)) ∧ MsO [4, 5] (kf, ff, sf, bf, tf) (uq9.1, uq9.2.1, uq9.2.2.1, uq9.2.2.2.1, uq9.2.2.2.2.1)) (fun u => gPost G (va_A [(o, .inr (4, mF ad sz1 osz th hsz)), (ad 4, .inl (G.2.1 1, 9, .inl kf)), (ad 7, .inl (G.2.1 1, 9, .inl ff)), (ad 5, .inl (G.2.1 2, 72, .inr (.inl sf))), (ad 6, .inl (G.2.1 1, 1152, .inl bf)), (ad 8, .inl (G.2.1 2, 9, .inr (.inl tf))), (ad 24, .inl (G.2.1 1, 64, .inl nf)), (ad 25, .inl (G.2.1 2, 80, .inr (.inl df))), (ad 2, .inl (G.2.1 2, 80, .inr (.inl cf))), (ad 15, .inl (G.2.1 1, 64, .inl dg))] sz) ((fun (uq9 : (Nat → Int32) × (Nat → Int32) × (Nat → Int64) × (Nat → Int32) × (Nat → Int64) × (Nat → Int32) × (Nat → Int64) × (Nat → Int32)) => ([(o, .inr (4, mF ad sz1 osz th hsz)), (ad 4, .inl (G.2.1 1, 9, .inl uq9.1)), (ad 7, .inl (G.2.1 1, 9, .inl uq9.2.1)), (ad 5, .inl (G.2.1 2, 72, .inr (.inl uq9.2.2.1))), (ad 6, .inl (G.2.1 1, 1152, .inl uq9.2.2.2.1)), (ad 8, .inl (G.2.1 2, 9, .inr (.inl uq9.2.2.2.2.1))), (ad 24, .inl (G.2.1 1, 64, .inl uq9.2.2.2.2.2.1)), (ad 25, .inl (G.2.1 2, 80, .inr (.inl uq9.2.2.2.2.2.2.1))), (ad 2, .inl (G.2.1 2, 80, .inr (.inl cf))), (ad 15, .inl (G.2.1 1, 64, .inl uq9.2.2.2.2.2.2.2))] : va_W)) u)) (va_A [(o, .inr (4, mF ad sz1 osz th hsz)), (ad 4, .inl (G.2.1 1, 9, .inl kf)), (ad 7, .inl (G.2.1 1, 9, .inl ff)), (ad 5, .inl (G.2.1 2, 72, .inr (.inl sf))), (ad 6, .inl (G.2.1 1, 1152, .inl bf)), (ad 8, .inl (G.2.1 2, 9, .inr (.inl tf))), (ad 24, .inl (G.2.1 1, 64, .inl nf)), (ad 25, .inl (G.2.1 2, 80, .inr (.inl df))), (ad 2, .inl (G.2.1 2, 80, .inr (.inl cf))), (ad 15, .inl (G.2.1 1, 64, .inl dg))] sz)) 0 0 (va_A [(o, .inr (4, mF ad sz1 osz th hsz)), (ad 4, .inl (G.2.1 1, 9, .inl kf)), (ad 7, .inl (G.2.1 1, 9, .inl ff)), (ad 5, .inl (G.2.1 2, 72, .inr (.inl sf))), (ad 6, .inl (G.2.1 1, 1152, .inl bf)), (ad 8, .inl (G.2.1 2, 9, .inr (.inl tf))), (ad 24, .inl (G.2.1 1, 64, .inl nf)), (ad 25, .inl (G.2.1 2, 80, .inr (.inl df))), (ad 2, .inl (G.2.1 2, 80, .inr (.inl cf))), (ad 15, .inl (G.2.1 1, 64, .inl dg))] sz) := by
  refine gM_of (Qf := fun A => va_Qv (fun (uq9 : (Nat → Int32) × (Nat → Int32) × (Nat → Int64) × (Nat → Int32) × (Nat → Int64) × (Nat → Int32) × (Nat → Int64) × (Nat → Int32)) => (∀ i, i < ds k → uq9.2.2.2.2.2.2.2 i = nI ((dig k (plcs k ho (dig k h (lN t))) (lN (bs k + ds k))).getD i 0)) ∧ MsO [4, 5] (kf, ff, sf, bf, tf) (uq9.1, uq9.2.1, uq9.2.2.1, uq9.2.2.2.1, uq9.2.2.2.2.1)) (fun u => gPost G A ((fun (uq9 : (Nat → Int32) × (Nat → Int32) × (Nat → Int64) × (Nat → Int32) × (Nat → Int64) × (Nat → Int32) × (Nat → Int64) × (Nat → Int32)) => ([(o, .inr (4, mF ad sz1 osz th hsz)), (ad 4, .inl (G.2.1 1, 9, .inl uq9.1)), (ad 7, .inl (G.2.1 1, 9, .inl uq9.2.1)), (ad 5, .inl (G.2.1 2, 72, .inr (.inl uq9.2.2.1))), (ad 6, .inl (G.2.1 1, 1152, .inl uq9.2.2.2.1)), (ad 8, .inl (G.2.1 2, 9, .inr (.inl uq9.2.2.2.2.1))), (ad 24, .inl (G.2.1 1, 64, .inl uq9.2.2.2.2.2.1)), (ad 25, .inl (G.2.1 2, 80, .inr (.inl uq9.2.2.2.2.2.2.1))), (ad 2, .inl (G.2.1 2, 80, .inr (.inl cf))), (ad 15, .inl (G.2.1 1, 64, .inl uq9.2.2.2.2.2.2.2))] : va_W)) u)) A) (by decide) (Nat.le_of_ble_eq_true rfl) ?_
  intro p e s m below meth c A ls hx hb hml hr hown htu hlk hnm hA hP hD hS hK hZ hl
  have hown : s.vm.findClass RX4 = some m.cls := hown
  have hl : lv_has ls 1 [(0, .ref o)] := hl
  refine lv_aload_n hx hb dX4_closeCode_0 rfl (lv_at hl 0 rfl) ?_
  refine lv_iconst (v := nI 4) hx hb dX4_closeCode_1 (by decide) ?_
  refine g_callv (g_runV (As := [.int (nI 4)]) (rest := []) ⟨hx, hb, hml, hown, htu⟩ (c_X4_close l G _ o ad sz1 osz th hsz 4 k t kf ff sf bf tf nf df cf dg h (by decide) hc hM) uM_X4_152 ok_X4_close in_X4_close rfl rfl ⟨Nat.le_of_ble_eq_true rfl, Nat.le_of_ble_eq_true rfl⟩ hK hP hD hS hA hZ [0, 1, 2, 3, 4, 5, 6, 7, 8, 9] rfl rfl 0 rfl rfl rfl rfl hl.1 rfl (Nat.le_of_ble_eq_true rfl) dX4_closeCode_2 ⟨Nat.le_of_ble_eq_true rfl, Nat.le_of_ble_eq_true rfl⟩) hP hD hS hA [0, 1, 2, 3, 4, 5, 6, 7, 8, 9] rfl (fun u H locs hw1 hP hD hS => ?_)
  obtain ⟨ff_2, sf_3, bf_4, tf_5, nf_6, df_7, dg_8⟩ := u
  have hw1 : (∀ iq8, iq8 < ds k → dg_8 iq8 = nI ((dig k h (lN t)).getD iq8 0)) ∧ MsO [4] (kf, ff, sf, bf, tf) (kf, ff_2, sf_3, bf_4, tf_5) := hw1
  have hP : va_P G.1 vwCl [(o, .inr (4, mF ad sz1 osz th hsz)), (ad 4, .inl (G.2.1 1, 9, .inl kf)), (ad 7, .inl (G.2.1 1, 9, .inl ff_2)), (ad 5, .inl (G.2.1 2, 72, .inr (.inl sf_3))), (ad 6, .inl (G.2.1 1, 1152, .inl bf_4)), (ad 8, .inl (G.2.1 2, 9, .inr (.inl tf_5))), (ad 24, .inl (G.2.1 1, 64, .inl nf_6)), (ad 25, .inl (G.2.1 2, 80, .inr (.inl df_7))), (ad 2, .inl (G.2.1 2, 80, .inr (.inl cf))), (ad 15, .inl (G.2.1 1, 64, .inl dg_8))] H := hP
  have hD : va_D A [(o, .inr (4, mF ad sz1 osz th hsz)), (ad 4, .inl (G.2.1 1, 9, .inl kf)), (ad 7, .inl (G.2.1 1, 9, .inl ff_2)), (ad 5, .inl (G.2.1 2, 72, .inr (.inl sf_3))), (ad 6, .inl (G.2.1 1, 1152, .inl bf_4)), (ad 8, .inl (G.2.1 2, 9, .inr (.inl tf_5))), (ad 24, .inl (G.2.1 1, 64, .inl nf_6)), (ad 25, .inl (G.2.1 2, 80, .inr (.inl df_7))), (ad 2, .inl (G.2.1 2, 80, .inr (.inl cf))), (ad 15, .inl (G.2.1 1, 64, .inl dg_8))] := hD
  refine lv_aload_n hx hb dX4_closeCode_5 rfl (lv_at hl 0 rfl) ?_
  refine lv_iconst (v := nI 5) hx hb dX4_closeCode_6 (by decide) ?_
  refine lv_bipush (v := nI 8) hx hb dX4_closeCode_7 (by decide) ?_
  refine g_callv (g_runV (As := [.int (nI 5), .int (nI 8)]) (rest := []) ⟨hx, hb, hml, hown, htu⟩ (c_X4_copySlot l G _ o ad sz1 osz th hsz 5 8 kf ff_2 sf_3 bf_4 tf_5 (by decide) (by decide)) uM_X4_162 ok_X4_copySlot in_X4_copySlot rfl rfl ⟨Nat.le_of_ble_eq_true rfl, Nat.le_of_ble_eq_true rfl⟩ hK hP hD hS hA hZ [0, 1, 2, 3, 4, 5] rfl rfl 0 rfl rfl rfl rfl hl.1 rfl (Nat.le_of_ble_eq_true rfl) dX4_closeCode_9 ⟨Nat.le_of_ble_eq_true rfl, Nat.le_of_ble_eq_true rfl⟩) hP hD hS hA [0, 1, 2, 3, 4, 5] rfl (fun u H locs hw2 hP hD hS => ?_)
  obtain ⟨kf_10, ff_11, sf_12, bf_13, tf_14⟩ := u
  have hw2 : MsC 5 8 (kf, ff_2, sf_3, bf_4, tf_5) (kf_10, ff_11, sf_12, bf_13, tf_14) ∧ MsO [5] (kf, ff_2, sf_3, bf_4, tf_5) (kf_10, ff_11, sf_12, bf_13, tf_14) := hw2
  have hP : va_P G.1 vwCl [(ad 24, .inl (G.2.1 1, 64, .inl nf_6)), (ad 25, .inl (G.2.1 2, 80, .inr (.inl df_7))), (ad 2, .inl (G.2.1 2, 80, .inr (.inl cf))), (ad 15, .inl (G.2.1 1, 64, .inl dg_8)), (o, .inr (4, mF ad sz1 osz th hsz)), (ad 4, .inl (G.2.1 1, 9, .inl kf_10)), (ad 7, .inl (G.2.1 1, 9, .inl ff_11)), (ad 5, .inl (G.2.1 2, 72, .inr (.inl sf_12))), (ad 6, .inl (G.2.1 1, 1152, .inl bf_13)), (ad 8, .inl (G.2.1 2, 9, .inr (.inl tf_14)))] H := hP
  have hD : va_D A [(ad 24, .inl (G.2.1 1, 64, .inl nf_6)), (ad 25, .inl (G.2.1 2, 80, .inr (.inl df_7))), (ad 2, .inl (G.2.1 2, 80, .inr (.inl cf))), (ad 15, .inl (G.2.1 1, 64, .inl dg_8)), (o, .inr (4, mF ad sz1 osz th hsz)), (ad 4, .inl (G.2.1 1, 9, .inl kf_10)), (ad 7, .inl (G.2.1 1, 9, .inl ff_11)), (ad 5, .inl (G.2.1 2, 72, .inr (.inl sf_12))), (ad 6, .inl (G.2.1 1, 1152, .inl bf_13)), (ad 8, .inl (G.2.1 2, 9, .inr (.inl tf_14)))] := hD
  refine lv_aload_n hx hb dX4_closeCode_12 rfl (lv_at hl 0 rfl) ?_
  refine lv_iconst (v := nI 5) hx hb dX4_closeCode_13 (by decide) ?_
  refine g_callv (g_runV (As := [.int (nI 5)]) (rest := []) ⟨hx, hb, hml, hown, htu⟩ (c_X4_absorbDigest l G _ o ad sz1 osz th hsz 5 k (bs k) kf_10 ff_11 sf_12 bf_13 tf_14 nf_6 df_7 cf dg_8 ho (dig k h (lN t)) (by decide) hc ((hN.keep hw1.2 (by decide) (by decide)).copy hw2.1) (dig_len _ _ _) (dig_lt _ _ _) hw1.1) uM_X4_165 ok_X4_absorbDigest in_X4_absorbDigest rfl rfl ⟨Nat.le_of_ble_eq_true rfl, Nat.le_of_ble_eq_true rfl⟩ hK hP hD hS hA hZ [4, 5, 6, 7, 8, 9, 0, 1, 2, 3] rfl rfl 4 rfl rfl rfl rfl hl.1 rfl (Nat.le_of_ble_eq_true rfl) dX4_closeCode_14 ⟨Nat.le_of_ble_eq_true rfl, Nat.le_of_ble_eq_true rfl⟩) hP hD hS hA [4, 5, 6, 7, 8, 9, 0, 1, 2, 3] rfl (fun u H locs hw3 hP hD hS => ?_)
  obtain ⟨ff_16, sf_17, bf_18, tf_19, nf_20, df_21⟩ := u
  have hw3 : MsR (kf_10, ff_16, sf_17, bf_18, tf_19) 5 k ((bs k) + ds k) (plcs k ho (dig k h (lN t))) ∧ MsO [5] (kf_10, ff_11, sf_12, bf_13, tf_14) (kf_10, ff_16, sf_17, bf_18, tf_19) := hw3
  have hP : va_P G.1 vwCl [(o, .inr (4, mF ad sz1 osz th hsz)), (ad 4, .inl (G.2.1 1, 9, .inl kf_10)), (ad 7, .inl (G.2.1 1, 9, .inl ff_16)), (ad 5, .inl (G.2.1 2, 72, .inr (.inl sf_17))), (ad 6, .inl (G.2.1 1, 1152, .inl bf_18)), (ad 8, .inl (G.2.1 2, 9, .inr (.inl tf_19))), (ad 24, .inl (G.2.1 1, 64, .inl nf_20)), (ad 25, .inl (G.2.1 2, 80, .inr (.inl df_21))), (ad 2, .inl (G.2.1 2, 80, .inr (.inl cf))), (ad 15, .inl (G.2.1 1, 64, .inl dg_8))] H := hP
  have hD : va_D A [(o, .inr (4, mF ad sz1 osz th hsz)), (ad 4, .inl (G.2.1 1, 9, .inl kf_10)), (ad 7, .inl (G.2.1 1, 9, .inl ff_16)), (ad 5, .inl (G.2.1 2, 72, .inr (.inl sf_17))), (ad 6, .inl (G.2.1 1, 1152, .inl bf_18)), (ad 8, .inl (G.2.1 2, 9, .inr (.inl tf_19))), (ad 24, .inl (G.2.1 1, 64, .inl nf_20)), (ad 25, .inl (G.2.1 2, 80, .inr (.inl df_21))), (ad 2, .inl (G.2.1 2, 80, .inr (.inl cf))), (ad 15, .inl (G.2.1 1, 64, .inl dg_8))] := hD
  refine lv_aload_n hx hb dX4_closeCode_17 rfl (lv_at hl 0 rfl) ?_
  refine lv_iconst (v := nI 5) hx hb dX4_closeCode_18 (by decide) ?_
  refine g_callv (g_runV (As := [.int (nI 5)]) (rest := []) ⟨hx, hb, hml, hown, htu⟩ (c_X4_close l G _ o ad sz1 osz th hsz 5 k (bs k + ds k) kf_10 ff_16 sf_17 bf_18 tf_19 nf_20 df_21 cf dg_8 (plcs k ho (dig k h (lN t))) (by decide) hc hw3.1) uM_X4_152 ok_X4_close in_X4_close rfl rfl ⟨Nat.le_of_ble_eq_true rfl, Nat.le_of_ble_eq_true rfl⟩ hK hP hD hS hA hZ [0, 1, 2, 3, 4, 5, 6, 7, 8, 9] rfl rfl 0 rfl rfl rfl rfl hl.1 rfl (Nat.le_of_ble_eq_true rfl) dX4_closeCode_19 ⟨Nat.le_of_ble_eq_true rfl, Nat.le_of_ble_eq_true rfl⟩) hP hD hS hA [0, 1, 2, 3, 4, 5, 6, 7, 8, 9] rfl (fun u H locs hw4 hP hD hS => ?_)
  obtain ⟨ff_23, sf_24, bf_25, tf_26, nf_27, df_28, dg_29⟩ := u
  have hw4 : (∀ iq8, iq8 < ds k → dg_29 iq8 = nI ((dig k (plcs k ho (dig k h (lN t))) (lN (bs k + ds k))).getD iq8 0)) ∧ MsO [5] (kf_10, ff_16, sf_17, bf_18, tf_19) (kf_10, ff_23, sf_24, bf_25, tf_26) := hw4
  have hP : va_P G.1 vwCl [(o, .inr (4, mF ad sz1 osz th hsz)), (ad 4, .inl (G.2.1 1, 9, .inl kf_10)), (ad 7, .inl (G.2.1 1, 9, .inl ff_23)), (ad 5, .inl (G.2.1 2, 72, .inr (.inl sf_24))), (ad 6, .inl (G.2.1 1, 1152, .inl bf_25)), (ad 8, .inl (G.2.1 2, 9, .inr (.inl tf_26))), (ad 24, .inl (G.2.1 1, 64, .inl nf_27)), (ad 25, .inl (G.2.1 2, 80, .inr (.inl df_28))), (ad 2, .inl (G.2.1 2, 80, .inr (.inl cf))), (ad 15, .inl (G.2.1 1, 64, .inl dg_29))] H := hP
  have hD : va_D A [(o, .inr (4, mF ad sz1 osz th hsz)), (ad 4, .inl (G.2.1 1, 9, .inl kf_10)), (ad 7, .inl (G.2.1 1, 9, .inl ff_23)), (ad 5, .inl (G.2.1 2, 72, .inr (.inl sf_24))), (ad 6, .inl (G.2.1 1, 1152, .inl bf_25)), (ad 8, .inl (G.2.1 2, 9, .inr (.inl tf_26))), (ad 24, .inl (G.2.1 1, 64, .inl nf_27)), (ad 25, .inl (G.2.1 2, 80, .inr (.inl df_28))), (ad 2, .inl (G.2.1 2, 80, .inr (.inl cf))), (ad 15, .inl (G.2.1 1, 64, .inl dg_29))] := hD
  exact gret_v hx hb hr hlk dX4_closeCode_22 hS (kf_10, ff_23, sf_24, bf_25, tf_26, nf_27, df_28, dg_29) (hP.sub [0, 1, 2, 3, 4, 5, 6, 7, 8, 9] rfl) (hD.sub [0, 1, 2, 3, 4, 5, 6, 7, 8, 9] (by decide) rfl) (show (∀ i, i < ds k → dg_29 i = nI ((dig k (plcs k ho (dig k h (lN t))) (lN (bs k + ds k))).getD i 0)) ∧ (MsO [4, 5] (kf, ff, sf, bf, tf) (kf_10, ff_23, sf_24, bf_25, tf_26)) from ⟨hw4.1, ((hw1.2.trans (L := [4, 5]) hw2.2 (by decide) (by decide)).trans (L := [4, 5]) hw3.2 (by decide) (by decide)).trans (L := [4, 5]) hw4.2 (by decide) (by decide)⟩)
set_option maxHeartbeats 4000000 in
set_option maxRecDepth 100000 in
theorem c_X4_startKeyed (l : Launch) (G : GW) (sz : Nat) (o : Nat) (ad : Nat → Nat) (sz1 : Int32) (osz : Int32) (th : Int32) (hsz : Int32) (sl : Nat) (k : Nat) (mk : Nat) (kf : Nat → Int32) (ff : Nat → Int32) (sf : Nat → Int64) (bf : Nat → Int32) (tf : Nat → Int64) (nf : Nat → Int32) (df : Nat → Int64) (cf : Nat → Int64) (gf : Nat → Int64) (ky : Nat → Int32) (q : List Nat) (hs : sl < 9) (hc : ∀ j, j < 80 → cf j = kT j) (hgf : ∀ j, j < 8 → gf j = sqA j ∧ gf (8 + j) = sqB j) (hk : k < 4) (hm : mk < 256) (hq2 : ∀ c ∈ q, c < 256) (hy : ∀ i, i < 128 → ky i = nI (q.getD i 0)) : Met l yX4_startKeyed (Cond.code yX4_startKeyed cX4_startKeyed 5 (none : Option FieldType) :: UW) ({ frames := 3, cells := 0, slots := 0, locals := 87 } : Room) (va_Pc [.ref o, .int (nI sl), .int (nI k), .int (nI mk)] (gPre G [(o, .inr (4, mF ad sz1 osz th hsz)), (ad 4, .inl (G.2.1 1, 9, .inl kf)), (ad 7, .inl (G.2.1 1, 9, .inl ff)), (ad 5, .inl (G.2.1 2, 72, .inr (.inl sf))), (ad 6, .inl (G.2.1 1, 1152, .inl bf)), (ad 8, .inl (G.2.1 2, 9, .inr (.inl tf))), (ad 24, .inl (G.2.1 1, 64, .inl nf)), (ad 25, .inl (G.2.1 2, 80, .inr (.inl df))), (ad 2, .inl (G.2.1 2, 80, .inr (.inl cf))), (ad 3, .inl (G.2.1 2, 16, .inr (.inl gf))), (ad 14, .inl (G.2.1 1, 128, .inl ky))] sz)) (va_Qv (fun (uq9 : (Nat → Int32) × (Nat → Int32) × (Nat → Int64) × (Nat → Int32) × (Nat → Int64) × (Nat → Int32) × (Nat → Int64)) => MsR (uq9.1, uq9.2.1, uq9.2.2.1, uq9.2.2.2.1, uq9.2.2.2.2.1) sl k (bs k) (kin k q mk) ∧ MsO [sl] (kf, ff, sf, bf, tf) (uq9.1, uq9.2.1, uq9.2.2.1, uq9.2.2.2.1, uq9.2.2.2.2.1)) (fun u => gPost G (va_A [(o, .inr (4, mF ad sz1 osz th hsz)), (ad 4, .inl (G.2.1 1, 9, .inl kf)), (ad 7, .inl (G.2.1 1, 9, .inl ff)), (ad 5, .inl (G.2.1 2, 72, .inr (.inl sf))), (ad 6, .inl (G.2.1 1, 1152, .inl bf)), (ad 8, .inl (G.2.1 2, 9, .inr (.inl tf))), (ad 24, .inl (G.2.1 1, 64, .inl nf)), (ad 25, .inl (G.2.1 2, 80, .inr (.inl df))), (ad 2, .inl (G.2.1 2, 80, .inr (.inl cf))), (ad 3, .inl (G.2.1 2, 16, .inr (.inl gf))), (ad 14, .inl (G.2.1 1, 128, .inl ky))] sz) ((fun (uq9 : (Nat → Int32) × (Nat → Int32) × (Nat → Int64) × (Nat → Int32) × (Nat → Int64) × (Nat → Int32) × (Nat → Int64)) => ([(o, .inr (4, mF ad sz1 osz th hsz)), (ad 4, .inl (G.2.1 1, 9, .inl uq9.1)), (ad 7, .inl (G.2.1 1, 9, .inl uq9.2.1)), (ad 5, .inl (G.2.1 2, 72, .inr (.inl uq9.2.2.1))), (ad 6, .inl (G.2.1 1, 1152, .inl uq9.2.2.2.1)), (ad 8, .inl (G.2.1 2, 9, .inr (.inl uq9.2.2.2.2.1))), (ad 24, .inl (G.2.1 1, 64, .inl uq9.2.2.2.2.2.1)), (ad 25, .inl (G.2.1 2, 80, .inr (.inl uq9.2.2.2.2.2.2))), (ad 2, .inl (G.2.1 2, 80, .inr (.inl cf))), (ad 3, .inl (G.2.1 2, 16, .inr (.inl gf))), (ad 14, .inl (G.2.1 1, 128, .inl ky))] : va_W)) u)) (va_A [(o, .inr (4, mF ad sz1 osz th hsz)), (ad 4, .inl (G.2.1 1, 9, .inl kf)), (ad 7, .inl (G.2.1 1, 9, .inl ff)), (ad 5, .inl (G.2.1 2, 72, .inr (.inl sf))), (ad 6, .inl (G.2.1 1, 1152, .inl bf)), (ad 8, .inl (G.2.1 2, 9, .inr (.inl tf))), (ad 24, .inl (G.2.1 1, 64, .inl nf)), (ad 25, .inl (G.2.1 2, 80, .inr (.inl df))), (ad 2, .inl (G.2.1 2, 80, .inr (.inl cf))), (ad 3, .inl (G.2.1 2, 16, .inr (.inl gf))), (ad 14, .inl (G.2.1 1, 128, .inl ky))] sz)) 0 0 (va_A [(o, .inr (4, mF ad sz1 osz th hsz)), (ad 4, .inl (G.2.1 1, 9, .inl kf)), (ad 7, .inl (G.2.1 1, 9, .inl ff)), (ad 5, .inl (G.2.1 2, 72, .inr (.inl sf))), (ad 6, .inl (G.2.1 1, 1152, .inl bf)), (ad 8, .inl (G.2.1 2, 9, .inr (.inl tf))), (ad 24, .inl (G.2.1 1, 64, .inl nf)), (ad 25, .inl (G.2.1 2, 80, .inr (.inl df))), (ad 2, .inl (G.2.1 2, 80, .inr (.inl cf))), (ad 3, .inl (G.2.1 2, 16, .inr (.inl gf))), (ad 14, .inl (G.2.1 1, 128, .inl ky))] sz) := by
  refine gM_of (Qf := fun A => va_Qv (fun (uq9 : (Nat → Int32) × (Nat → Int32) × (Nat → Int64) × (Nat → Int32) × (Nat → Int64) × (Nat → Int32) × (Nat → Int64)) => MsR (uq9.1, uq9.2.1, uq9.2.2.1, uq9.2.2.2.1, uq9.2.2.2.2.1) sl k (bs k) (kin k q mk) ∧ MsO [sl] (kf, ff, sf, bf, tf) (uq9.1, uq9.2.1, uq9.2.2.1, uq9.2.2.2.1, uq9.2.2.2.2.1)) (fun u => gPost G A ((fun (uq9 : (Nat → Int32) × (Nat → Int32) × (Nat → Int64) × (Nat → Int32) × (Nat → Int64) × (Nat → Int32) × (Nat → Int64)) => ([(o, .inr (4, mF ad sz1 osz th hsz)), (ad 4, .inl (G.2.1 1, 9, .inl uq9.1)), (ad 7, .inl (G.2.1 1, 9, .inl uq9.2.1)), (ad 5, .inl (G.2.1 2, 72, .inr (.inl uq9.2.2.1))), (ad 6, .inl (G.2.1 1, 1152, .inl uq9.2.2.2.1)), (ad 8, .inl (G.2.1 2, 9, .inr (.inl uq9.2.2.2.2.1))), (ad 24, .inl (G.2.1 1, 64, .inl uq9.2.2.2.2.2.1)), (ad 25, .inl (G.2.1 2, 80, .inr (.inl uq9.2.2.2.2.2.2))), (ad 2, .inl (G.2.1 2, 80, .inr (.inl cf))), (ad 3, .inl (G.2.1 2, 16, .inr (.inl gf))), (ad 14, .inl (G.2.1 1, 128, .inl ky))] : va_W)) u)) A) (by decide) (Nat.le_of_ble_eq_true rfl) ?_
  intro p e s m below meth c A ls hx hb hml hr hown htu hlk hnm hA hP hD hS hK hZ hl
  have hown : s.vm.findClass RX4 = some m.cls := hown
  have hl : lv_has ls 5 [(0, .ref o), (1, .int (nI sl)), (2, .int (nI k)), (3, .int (nI mk))] := hl
  refine lv_aload_n hx hb dX4_startKeyed_0 rfl (lv_at hl 0 rfl) ?_
  refine lv_iload_n hx hb dX4_startKeyed_1 rfl (lv_at hl 1 rfl) ?_
  refine lv_iload_n hx hb dX4_startKeyed_2 rfl (lv_at hl 2 rfl) ?_
  refine g_callv (g_runV (As := [.int (nI sl), .int (nI k)]) (rest := []) ⟨hx, hb, hml, hown, htu⟩ (c_X4_start l G _ o ad sz1 osz th hsz sl k kf ff tf sf gf hs hk hgf) uM_X4_149 ok_X4_start in_X4_start rfl rfl ⟨Nat.le_of_ble_eq_true rfl, Nat.le_of_ble_eq_true rfl⟩ hK hP hD hS hA hZ [0, 1, 2, 5, 3, 9] rfl rfl 0 rfl rfl rfl rfl hl.1 rfl (Nat.le_of_ble_eq_true rfl) dX4_startKeyed_3 ⟨Nat.le_of_ble_eq_true rfl, Nat.le_of_ble_eq_true rfl⟩) hP hD hS hA [0, 1, 2, 5, 3, 9] rfl (fun u H locs hw0 hP hD hS => ?_)
  obtain ⟨kf_2, ff_3, tf_4, sf_5⟩ := u
  have hw0 : ∀ bfq8 : Nat → Int32, MsR (kf_2, ff_3, sf_5, bfq8, tf_4) sl k 0 (hs0 k) ∧ MsO [sl] (kf, ff, sf, bfq8, tf) (kf_2, ff_3, sf_5, bfq8, tf_4) := hw0
  have hP : va_P G.1 vwCl [(ad 6, .inl (G.2.1 1, 1152, .inl bf)), (ad 24, .inl (G.2.1 1, 64, .inl nf)), (ad 25, .inl (G.2.1 2, 80, .inr (.inl df))), (ad 2, .inl (G.2.1 2, 80, .inr (.inl cf))), (ad 14, .inl (G.2.1 1, 128, .inl ky)), (o, .inr (4, mF ad sz1 osz th hsz)), (ad 4, .inl (G.2.1 1, 9, .inl kf_2)), (ad 7, .inl (G.2.1 1, 9, .inl ff_3)), (ad 8, .inl (G.2.1 2, 9, .inr (.inl tf_4))), (ad 5, .inl (G.2.1 2, 72, .inr (.inl sf_5))), (ad 3, .inl (G.2.1 2, 16, .inr (.inl gf)))] H := hP
  have hD : va_D A [(ad 6, .inl (G.2.1 1, 1152, .inl bf)), (ad 24, .inl (G.2.1 1, 64, .inl nf)), (ad 25, .inl (G.2.1 2, 80, .inr (.inl df))), (ad 2, .inl (G.2.1 2, 80, .inr (.inl cf))), (ad 14, .inl (G.2.1 1, 128, .inl ky)), (o, .inr (4, mF ad sz1 osz th hsz)), (ad 4, .inl (G.2.1 1, 9, .inl kf_2)), (ad 7, .inl (G.2.1 1, 9, .inl ff_3)), (ad 8, .inl (G.2.1 2, 9, .inr (.inl tf_4))), (ad 5, .inl (G.2.1 2, 72, .inr (.inl sf_5))), (ad 3, .inl (G.2.1 2, 16, .inr (.inl gf)))] := hD
  refine lv_iconst (v := nI 0) hx hb dX4_startKeyed_6 (by decide) ?_
  refine lv_istore (lv' := [(4, .int (nI 0)), (0, .ref o), (1, .int (nI sl)), (2, .int (nI k)), (3, .int (nI mk))]) hx hb dX4_startKeyed_7 hl (by decide) rfl (fun ls hl => ?_)
  refine g_loop (σ := Nat × (Nat → Int32) × (Nat → Int64) × (Nat → Int32) × (Nat → Int64) × (Nat → Int32) × (Nat → Int64)) (G := G) (fun xq9 : Nat × (Nat → Int32) × (Nat → Int64) × (Nat → Int32) × (Nat → Int64) × (Nat → Int32) × (Nat → Int64) => [(o, .inr (4, mF ad sz1 osz th hsz)), (ad 4, .inl (G.2.1 1, 9, .inl kf_2)), (ad 7, .inl (G.2.1 1, 9, .inl xq9.2.1)), (ad 5, .inl (G.2.1 2, 72, .inr (.inl xq9.2.2.1))), (ad 6, .inl (G.2.1 1, 1152, .inl xq9.2.2.2.1)), (ad 8, .inl (G.2.1 2, 9, .inr (.inl xq9.2.2.2.2.1))), (ad 24, .inl (G.2.1 1, 64, .inl xq9.2.2.2.2.2.1)), (ad 25, .inl (G.2.1 2, 80, .inr (.inl xq9.2.2.2.2.2.2))), (ad 2, .inl (G.2.1 2, 80, .inr (.inl cf))), (ad 3, .inl (G.2.1 2, 16, .inr (.inl gf))), (ad 14, .inl (G.2.1 1, 128, .inl ky))]) (fun xq9 : Nat × (Nat → Int32) × (Nat → Int64) × (Nat → Int32) × (Nat → Int64) × (Nat → Int32) × (Nat → Int64) => [(0, .ref o), (1, .int (nI sl)), (2, .int (nI k)), (3, .int (nI mk)), (4, .int (nI xq9.1))]) (fun xq9 : Nat × (Nat → Int32) × (Nat → Int64) × (Nat → Int32) × (Nat → Int64) × (Nat → Int32) × (Nat → Int64) => xq9.1 ≤ bs k ∧ MsR (kf_2, xq9.2.1, xq9.2.2.1, xq9.2.2.2.1, xq9.2.2.2.2.1) sl k xq9.1 (plcs k (hs0 k) ((kx k q mk).take xq9.1)) ∧ MsO [sl] (kf, ff, sf, bf, tf) (kf_2, xq9.2.1, xq9.2.2.1, xq9.2.2.2.1, xq9.2.2.2.2.1)) (fun xq9 : Nat × (Nat → Int32) × (Nat → Int64) × (Nat → Int32) × (Nat → Int64) × (Nat → Int32) × (Nat → Int64) => bs k - xq9.1) ?_ (0, ff_3, sf_5, bf, tf_4, nf, df) (show 0 ≤ bs k ∧ MsR (kf_2, ff_3, sf_5, bf, tf_4) sl k 0 (plcs k (hs0 k) ((kx k q mk).take 0)) ∧ MsO [sl] (kf, ff, sf, bf, tf) (kf_2, ff_3, sf_5, bf, tf_4) from ⟨Nat.zero_le _, (hw0 bf).1, (hw0 bf).2⟩) (hP.sub [5, 6, 7, 9, 0, 8, 1, 2, 3, 10, 4] rfl) (hD.sub [5, 6, 7, 9, 0, 8, 1, 2, 3, 10, 4] (by decide) rfl) hS (lv_sub hl [1, 2, 3, 4, 0] rfl)
  clear hP hD hS hl
  intro x hxI_9 ih_9 H locs ls hP hD hS hl
  obtain ⟨i, f1, s1, b1, t1, n1, d1⟩ := x
  have hI : i ≤ bs k ∧ MsR (kf_2, f1, s1, b1, t1) sl k i (plcs k (hs0 k) ((kx k q mk).take i)) ∧ MsO [sl] (kf, ff, sf, bf, tf) (kf_2, f1, s1, b1, t1) := hxI_9
  have hP : va_P G.1 vwCl [(o, .inr (4, mF ad sz1 osz th hsz)), (ad 4, .inl (G.2.1 1, 9, .inl kf_2)), (ad 7, .inl (G.2.1 1, 9, .inl f1)), (ad 5, .inl (G.2.1 2, 72, .inr (.inl s1))), (ad 6, .inl (G.2.1 1, 1152, .inl b1)), (ad 8, .inl (G.2.1 2, 9, .inr (.inl t1))), (ad 24, .inl (G.2.1 1, 64, .inl n1)), (ad 25, .inl (G.2.1 2, 80, .inr (.inl d1))), (ad 2, .inl (G.2.1 2, 80, .inr (.inl cf))), (ad 3, .inl (G.2.1 2, 16, .inr (.inl gf))), (ad 14, .inl (G.2.1 1, 128, .inl ky))] H := hP
  have hD : va_D A [(o, .inr (4, mF ad sz1 osz th hsz)), (ad 4, .inl (G.2.1 1, 9, .inl kf_2)), (ad 7, .inl (G.2.1 1, 9, .inl f1)), (ad 5, .inl (G.2.1 2, 72, .inr (.inl s1))), (ad 6, .inl (G.2.1 1, 1152, .inl b1)), (ad 8, .inl (G.2.1 2, 9, .inr (.inl t1))), (ad 24, .inl (G.2.1 1, 64, .inl n1)), (ad 25, .inl (G.2.1 2, 80, .inr (.inl d1))), (ad 2, .inl (G.2.1 2, 80, .inr (.inl cf))), (ad 3, .inl (G.2.1 2, 16, .inr (.inl gf))), (ad 14, .inl (G.2.1 1, 128, .inl ky))] := hD
  have hl : lv_has ls 5 [(0, .ref o), (1, .int (nI sl)), (2, .int (nI k)), (3, .int (nI mk)), (4, .int (nI i))] := hl
  refine lv_iload hx hb dX4_startKeyed_9 (lv_at hl 4 rfl) ?_
  refine lv_iload_n hx hb dX4_startKeyed_11 rfl (lv_at hl 2 rfl) ?_
  refine g_calli (g_runS (As := [.int (nI k)]) (rest := [.int (nI i)]) ⟨hx, hb, hml, hown, htu⟩ (c_X4_blockOf l G _ (nI k) ) uM_X4_124 ok_X4_blockOf uA_X4_blockOf rfl rfl ⟨Nat.le_of_ble_eq_true rfl, Nat.le_of_ble_eq_true rfl⟩ hK hP hD hS hA hZ [] rfl rfl rfl hl.1 rfl (Nat.le_of_ble_eq_true rfl) dX4_startKeyed_12 ⟨Nat.le_of_ble_eq_true rfl, Nat.le_of_ble_eq_true rfl⟩) hP hD hS hA [] rfl (fun r_6 u H locs hw_7 hP hD hS => ?_)
  have hw_7 : r_6 = bsI (nI k) := hw_7
  subst hw_7
  have hP : va_P G.1 vwCl [(o, .inr (4, mF ad sz1 osz th hsz)), (ad 4, .inl (G.2.1 1, 9, .inl kf_2)), (ad 7, .inl (G.2.1 1, 9, .inl f1)), (ad 5, .inl (G.2.1 2, 72, .inr (.inl s1))), (ad 6, .inl (G.2.1 1, 1152, .inl b1)), (ad 8, .inl (G.2.1 2, 9, .inr (.inl t1))), (ad 24, .inl (G.2.1 1, 64, .inl n1)), (ad 25, .inl (G.2.1 2, 80, .inr (.inl d1))), (ad 2, .inl (G.2.1 2, 80, .inr (.inl cf))), (ad 3, .inl (G.2.1 2, 16, .inr (.inl gf))), (ad 14, .inl (G.2.1 1, 128, .inl ky))] H := hP
  have hD : va_D A [(o, .inr (4, mF ad sz1 osz th hsz)), (ad 4, .inl (G.2.1 1, 9, .inl kf_2)), (ad 7, .inl (G.2.1 1, 9, .inl f1)), (ad 5, .inl (G.2.1 2, 72, .inr (.inl s1))), (ad 6, .inl (G.2.1 1, 1152, .inl b1)), (ad 8, .inl (G.2.1 2, 9, .inr (.inl t1))), (ad 24, .inl (G.2.1 1, 64, .inl n1)), (ad 25, .inl (G.2.1 2, 80, .inr (.inl d1))), (ad 2, .inl (G.2.1 2, 80, .inr (.inl cf))), (ad 3, .inl (G.2.1 2, 16, .inr (.inl gf))), (ad 14, .inl (G.2.1 1, 128, .inl ky))] := hD
  refine g_toi (y := nI (bs k)) (bsI_nI hk) ?_
  refine lv_icmp_ge (tgt := 38) hx hb dX4_startKeyed_15 (by decide) (fun c_15 => ?_) (fun c_15 => ?_)
  · skip
    have hg : bs k ≤ i := ge_t (n := bs k) c_15 (by have := bs_le k; omega)
    exact gret_v hx hb hr hlk dX4_startKeyed_38 hS (kf_2, f1, s1, b1, t1, n1, d1) (hP.sub [0, 1, 2, 3, 4, 5, 6, 7, 8, 9, 10] rfl) (hD.sub [0, 1, 2, 3, 4, 5, 6, 7, 8, 9, 10] (by decide) rfl) (show (MsR (kf_2, f1, s1, b1, t1) sl k (bs k) (kin k q mk)) ∧ (MsO [sl] (kf, ff, sf, bf, tf) (kf_2, f1, s1, b1, t1)) from ⟨by have h2 := hI.2.1; rw [List.take_of_length_le (by rw [kx_len]; exact hg), show i = bs k by omega] at h2; exact h2, hI.2.2⟩)
  · skip
    have hg : i < bs k := ge_f (n := bs k) c_15 (by have := hI.1; have := bs_le k; omega)
    refine lv_aload_n hx hb dX4_startKeyed_18 rfl (lv_at hl 0 rfl) ?_
    refine lv_iload_n hx hb dX4_startKeyed_19 rfl (lv_at hl 1 rfl) ?_
    refine lv_aload_n hx hb dX4_startKeyed_20 rfl (lv_at hl 0 rfl) ?_
    refine va_get (D := G.1) (ci := 4) (v := .ref (ad 14)) (C := RX4) (T := TX4) (N := 29) hx hb htu iwX4 hown hK.1 hP 0 rfl rfl 14 (by decide) (htu _ uF_X4_51) (fun _ h9 => h9) rfl dX4_startKeyed_21 ?_
    refine lv_iload hx hb dX4_startKeyed_24 (lv_at hl 4 rfl) ?_
    refine g_iald hx hb hK.1 hP 10 1 rfl rfl ⟨by have := bs_le k; omega, by decide⟩ dX4_startKeyed_26 ?_
    refine g_toi (y := nI (q.getD i 0)) (hy i (by have := bs_le k; omega)) ?_
    refine lv_iload_n hx hb dX4_startKeyed_27 rfl (lv_at hl 3 rfl) ?_
    refine lv_ixor hx hb dX4_startKeyed_28 ?_
    refine g_toi (y := nI (q.getD i 0 ^^^ mk)) (nI_xor _ _) ?_
    refine g_callv (g_runV (As := [.int (nI sl), .int (nI (q.getD i 0 ^^^ mk))]) (rest := []) ⟨hx, hb, hml, hown, htu⟩ (c_X4_absorb l G _ o ad sz1 osz th hsz sl k i (q.getD i 0 ^^^ mk) kf_2 f1 s1 b1 t1 n1 d1 cf (plcs k (hs0 k) ((kx k q mk).take i)) hs hc hI.2.1 (xor256 (getD_lt hq2 i) hm)) uM_X4_137 ok_X4_absorb in_X4_absorb rfl rfl ⟨Nat.le_of_ble_eq_true rfl, Nat.le_of_ble_eq_true rfl⟩ hK hP hD hS hA hZ [0, 1, 2, 3, 4, 5, 6, 7, 8] rfl rfl 0 rfl rfl rfl rfl hl.1 rfl (Nat.le_of_ble_eq_true rfl) dX4_startKeyed_29 ⟨Nat.le_of_ble_eq_true rfl, Nat.le_of_ble_eq_true rfl⟩) hP hD hS hA [0, 1, 2, 3, 4, 5, 6, 7, 8] rfl (fun u H locs hw1 hP hD hS => ?_)
    obtain ⟨ff_9, sf_10, bf_11, tf_12, nf_13, df_14⟩ := u
    have hw1 : MsR (kf_2, ff_9, sf_10, bf_11, tf_12) sl k (i + 1) (plc k (plcs k (hs0 k) ((kx k q mk).take i)) (q.getD i 0 ^^^ mk)) ∧ MsO [sl] (kf_2, f1, s1, b1, t1) (kf_2, ff_9, sf_10, bf_11, tf_12) := hw1
    have hP : va_P G.1 vwCl [(ad 3, .inl (G.2.1 2, 16, .inr (.inl gf))), (ad 14, .inl (G.2.1 1, 128, .inl ky)), (o, .inr (4, mF ad sz1 osz th hsz)), (ad 4, .inl (G.2.1 1, 9, .inl kf_2)), (ad 7, .inl (G.2.1 1, 9, .inl ff_9)), (ad 5, .inl (G.2.1 2, 72, .inr (.inl sf_10))), (ad 6, .inl (G.2.1 1, 1152, .inl bf_11)), (ad 8, .inl (G.2.1 2, 9, .inr (.inl tf_12))), (ad 24, .inl (G.2.1 1, 64, .inl nf_13)), (ad 25, .inl (G.2.1 2, 80, .inr (.inl df_14))), (ad 2, .inl (G.2.1 2, 80, .inr (.inl cf)))] H := hP
    have hD : va_D A [(ad 3, .inl (G.2.1 2, 16, .inr (.inl gf))), (ad 14, .inl (G.2.1 1, 128, .inl ky)), (o, .inr (4, mF ad sz1 osz th hsz)), (ad 4, .inl (G.2.1 1, 9, .inl kf_2)), (ad 7, .inl (G.2.1 1, 9, .inl ff_9)), (ad 5, .inl (G.2.1 2, 72, .inr (.inl sf_10))), (ad 6, .inl (G.2.1 1, 1152, .inl bf_11)), (ad 8, .inl (G.2.1 2, 9, .inr (.inl tf_12))), (ad 24, .inl (G.2.1 1, 64, .inl nf_13)), (ad 25, .inl (G.2.1 2, 80, .inr (.inl df_14))), (ad 2, .inl (G.2.1 2, 80, .inr (.inl cf)))] := hD
    refine lv_iinc (v := nI (i + 1)) (lv' := [(4, .int (nI (i + 1))), (0, .ref o), (1, .int (nI sl)), (2, .int (nI k)), (3, .int (nI mk))]) hx hb dX4_startKeyed_32 hl (k := 4) rfl (nI_1 i) (by decide) rfl (fun ls hl => ?_)
    refine lv_goto (tgt := 9) hx hb dX4_startKeyed_35 (by decide) ?_
    exact ih_9 (i + 1, ff_9, sf_10, bf_11, tf_12, nf_13, df_14) (show (i + 1) ≤ bs k ∧ MsR (kf_2, ff_9, sf_10, bf_11, tf_12) sl k (i + 1) (plcs k (hs0 k) ((kx k q mk).take (i + 1))) ∧ MsO [sl] (kf, ff, sf, bf, tf) (kf_2, ff_9, sf_10, bf_11, tf_12) from ⟨hg, pl_take (by rw [kx_len]; exact hg) (kx_get hg).symm hw1.1, hI.2.2.tr hw1.2⟩) (by show bs k - (i + 1) < bs k - i; omega) _ _ _ (hP.sub [2, 3, 4, 5, 6, 7, 8, 9, 10, 0, 1] rfl) (hD.sub [2, 3, 4, 5, 6, 7, 8, 9, 10, 0, 1] (by decide) rfl) hS (lv_sub hl [1, 2, 3, 4, 0] rfl)
set_option maxHeartbeats 4000000 in
set_option maxRecDepth 100000 in
theorem c_X4_setKey (l : Launch) (G : GW) (sz : Nat) (o : Nat) (ad : Nat → Nat) (sz1 : Int32) (osz : Int32) (th : Int32) (k : Nat) (hz : Nat) (kf : Nat → Int32) (ff : Nat → Int32) (sf : Nat → Int64) (bf : Nat → Int32) (tf : Nat → Int64) (nf : Nat → Int32) (df : Nat → Int64) (cf : Nat → Int64) (gf : Nat → Int64) (ky : Nat → Int32) (dg : Nat → Int32) (hf : Nat → Int32) (q : List Nat) (hc : ∀ j, j < 80 → cf j = kT j) (hgf : ∀ j, j < 8 → gf j = sqA j ∧ gf (8 + j) = sqB j) (hk : k < 4) (hh : Ls hf q) (hz2 : hz = q.length) (hz6 : hz ≤ 600) : Met l yX4_setKey (Cond.code yX4_setKey cX4_setKey 5 (none : Option FieldType) :: UW) ({ frames := 4, cells := 0, slots := 0, locals := 113 } : Room) (va_Pc [.ref o, .int (nI k)] (gPre G [(o, .inr (4, mF ad sz1 osz th (nI hz))), (ad 4, .inl (G.2.1 1, 9, .inl kf)), (ad 7, .inl (G.2.1 1, 9, .inl ff)), (ad 5, .inl (G.2.1 2, 72, .inr (.inl sf))), (ad 6, .inl (G.2.1 1, 1152, .inl bf)), (ad 8, .inl (G.2.1 2, 9, .inr (.inl tf))), (ad 24, .inl (G.2.1 1, 64, .inl nf)), (ad 25, .inl (G.2.1 2, 80, .inr (.inl df))), (ad 2, .inl (G.2.1 2, 80, .inr (.inl cf))), (ad 3, .inl (G.2.1 2, 16, .inr (.inl gf))), (ad 14, .inl (G.2.1 1, 128, .inl ky)), (ad 15, .inl (G.2.1 1, 64, .inl dg)), (ad 26, .inl (G.2.1 1, 600, .inl hf))] sz)) (va_Qv (fun (uq9 : (Nat → Int32) × (Nat → Int32) × (Nat → Int64) × (Nat → Int32) × (Nat → Int64) × (Nat → Int32) × (Nat → Int64) × (Nat → Int32) × (Nat → Int32)) => (∀ i, i < 128 → uq9.2.2.2.2.2.2.2.1 i = nI ((keyQ k q).getD i 0)) ∧ MsO [6] (kf, ff, sf, bf, tf) (uq9.1, uq9.2.1, uq9.2.2.1, uq9.2.2.2.1, uq9.2.2.2.2.1)) (fun u => gPost G (va_A [(o, .inr (4, mF ad sz1 osz th (nI hz))), (ad 4, .inl (G.2.1 1, 9, .inl kf)), (ad 7, .inl (G.2.1 1, 9, .inl ff)), (ad 5, .inl (G.2.1 2, 72, .inr (.inl sf))), (ad 6, .inl (G.2.1 1, 1152, .inl bf)), (ad 8, .inl (G.2.1 2, 9, .inr (.inl tf))), (ad 24, .inl (G.2.1 1, 64, .inl nf)), (ad 25, .inl (G.2.1 2, 80, .inr (.inl df))), (ad 2, .inl (G.2.1 2, 80, .inr (.inl cf))), (ad 3, .inl (G.2.1 2, 16, .inr (.inl gf))), (ad 14, .inl (G.2.1 1, 128, .inl ky)), (ad 15, .inl (G.2.1 1, 64, .inl dg)), (ad 26, .inl (G.2.1 1, 600, .inl hf))] sz) ((fun (uq9 : (Nat → Int32) × (Nat → Int32) × (Nat → Int64) × (Nat → Int32) × (Nat → Int64) × (Nat → Int32) × (Nat → Int64) × (Nat → Int32) × (Nat → Int32)) => ([(o, .inr (4, mF ad sz1 osz th (nI hz))), (ad 4, .inl (G.2.1 1, 9, .inl uq9.1)), (ad 7, .inl (G.2.1 1, 9, .inl uq9.2.1)), (ad 5, .inl (G.2.1 2, 72, .inr (.inl uq9.2.2.1))), (ad 6, .inl (G.2.1 1, 1152, .inl uq9.2.2.2.1)), (ad 8, .inl (G.2.1 2, 9, .inr (.inl uq9.2.2.2.2.1))), (ad 24, .inl (G.2.1 1, 64, .inl uq9.2.2.2.2.2.1)), (ad 25, .inl (G.2.1 2, 80, .inr (.inl uq9.2.2.2.2.2.2.1))), (ad 2, .inl (G.2.1 2, 80, .inr (.inl cf))), (ad 3, .inl (G.2.1 2, 16, .inr (.inl gf))), (ad 14, .inl (G.2.1 1, 128, .inl uq9.2.2.2.2.2.2.2.1)), (ad 15, .inl (G.2.1 1, 64, .inl uq9.2.2.2.2.2.2.2.2)), (ad 26, .inl (G.2.1 1, 600, .inl hf))] : va_W)) u)) (va_A [(o, .inr (4, mF ad sz1 osz th (nI hz))), (ad 4, .inl (G.2.1 1, 9, .inl kf)), (ad 7, .inl (G.2.1 1, 9, .inl ff)), (ad 5, .inl (G.2.1 2, 72, .inr (.inl sf))), (ad 6, .inl (G.2.1 1, 1152, .inl bf)), (ad 8, .inl (G.2.1 2, 9, .inr (.inl tf))), (ad 24, .inl (G.2.1 1, 64, .inl nf)), (ad 25, .inl (G.2.1 2, 80, .inr (.inl df))), (ad 2, .inl (G.2.1 2, 80, .inr (.inl cf))), (ad 3, .inl (G.2.1 2, 16, .inr (.inl gf))), (ad 14, .inl (G.2.1 1, 128, .inl ky)), (ad 15, .inl (G.2.1 1, 64, .inl dg)), (ad 26, .inl (G.2.1 1, 600, .inl hf))] sz)) 0 0 (va_A [(o, .inr (4, mF ad sz1 osz th (nI hz))), (ad 4, .inl (G.2.1 1, 9, .inl kf)), (ad 7, .inl (G.2.1 1, 9, .inl ff)), (ad 5, .inl (G.2.1 2, 72, .inr (.inl sf))), (ad 6, .inl (G.2.1 1, 1152, .inl bf)), (ad 8, .inl (G.2.1 2, 9, .inr (.inl tf))), (ad 24, .inl (G.2.1 1, 64, .inl nf)), (ad 25, .inl (G.2.1 2, 80, .inr (.inl df))), (ad 2, .inl (G.2.1 2, 80, .inr (.inl cf))), (ad 3, .inl (G.2.1 2, 16, .inr (.inl gf))), (ad 14, .inl (G.2.1 1, 128, .inl ky)), (ad 15, .inl (G.2.1 1, 64, .inl dg)), (ad 26, .inl (G.2.1 1, 600, .inl hf))] sz) := by
  refine gM_of (Qf := fun A => va_Qv (fun (uq9 : (Nat → Int32) × (Nat → Int32) × (Nat → Int64) × (Nat → Int32) × (Nat → Int64) × (Nat → Int32) × (Nat → Int64) × (Nat → Int32) × (Nat → Int32)) => (∀ i, i < 128 → uq9.2.2.2.2.2.2.2.1 i = nI ((keyQ k q).getD i 0)) ∧ MsO [6] (kf, ff, sf, bf, tf) (uq9.1, uq9.2.1, uq9.2.2.1, uq9.2.2.2.1, uq9.2.2.2.2.1)) (fun u => gPost G A ((fun (uq9 : (Nat → Int32) × (Nat → Int32) × (Nat → Int64) × (Nat → Int32) × (Nat → Int64) × (Nat → Int32) × (Nat → Int64) × (Nat → Int32) × (Nat → Int32)) => ([(o, .inr (4, mF ad sz1 osz th (nI hz))), (ad 4, .inl (G.2.1 1, 9, .inl uq9.1)), (ad 7, .inl (G.2.1 1, 9, .inl uq9.2.1)), (ad 5, .inl (G.2.1 2, 72, .inr (.inl uq9.2.2.1))), (ad 6, .inl (G.2.1 1, 1152, .inl uq9.2.2.2.1)), (ad 8, .inl (G.2.1 2, 9, .inr (.inl uq9.2.2.2.2.1))), (ad 24, .inl (G.2.1 1, 64, .inl uq9.2.2.2.2.2.1)), (ad 25, .inl (G.2.1 2, 80, .inr (.inl uq9.2.2.2.2.2.2.1))), (ad 2, .inl (G.2.1 2, 80, .inr (.inl cf))), (ad 3, .inl (G.2.1 2, 16, .inr (.inl gf))), (ad 14, .inl (G.2.1 1, 128, .inl uq9.2.2.2.2.2.2.2.1)), (ad 15, .inl (G.2.1 1, 64, .inl uq9.2.2.2.2.2.2.2.2)), (ad 26, .inl (G.2.1 1, 600, .inl hf))] : va_W)) u)) A) (by decide) (Nat.le_of_ble_eq_true rfl) ?_
  intro p e s m below meth c A ls hx hb hml hr hown htu hlk hnm hA hP hD hS hK hZ hl
  have hown : s.vm.findClass RX4 = some m.cls := hown
  have hl : lv_has ls 5 [(0, .ref o), (1, .int (nI k))] := hl
  refine lv_aload_n hx hb dX4_setKey_0 rfl (lv_at hl 0 rfl) ?_
  refine va_get (D := G.1) (ci := 4) (v := .int (nI hz)) (C := RX4) (T := TX4) (N := 29) hx hb htu iwX4 hown hK.1 hP 0 rfl rfl 27 (by decide) (htu _ uF_X4_146) (fun _ h9 => h9) rfl dX4_setKey_1 ?_
  refine lv_iload_n hx hb dX4_setKey_4 rfl (lv_at hl 1 rfl) ?_
  refine g_calli (g_runS (As := [.int (nI k)]) (rest := [.int (nI hz)]) ⟨hx, hb, hml, hown, htu⟩ (c_X4_blockOf l G _ (nI k) ) uM_X4_124 ok_X4_blockOf uA_X4_blockOf rfl rfl ⟨Nat.le_of_ble_eq_true rfl, Nat.le_of_ble_eq_true rfl⟩ hK hP hD hS hA hZ [] rfl rfl rfl hl.1 rfl (Nat.le_of_ble_eq_true rfl) dX4_setKey_5 ⟨Nat.le_of_ble_eq_true rfl, Nat.le_of_ble_eq_true rfl⟩) hP hD hS hA [] rfl (fun r_1 u H locs hw_2 hP hD hS => ?_)
  have hw_2 : r_1 = bsI (nI k) := hw_2
  subst hw_2
  have hP : va_P G.1 vwCl [(o, .inr (4, mF ad sz1 osz th (nI hz))), (ad 4, .inl (G.2.1 1, 9, .inl kf)), (ad 7, .inl (G.2.1 1, 9, .inl ff)), (ad 5, .inl (G.2.1 2, 72, .inr (.inl sf))), (ad 6, .inl (G.2.1 1, 1152, .inl bf)), (ad 8, .inl (G.2.1 2, 9, .inr (.inl tf))), (ad 24, .inl (G.2.1 1, 64, .inl nf)), (ad 25, .inl (G.2.1 2, 80, .inr (.inl df))), (ad 2, .inl (G.2.1 2, 80, .inr (.inl cf))), (ad 3, .inl (G.2.1 2, 16, .inr (.inl gf))), (ad 14, .inl (G.2.1 1, 128, .inl ky)), (ad 15, .inl (G.2.1 1, 64, .inl dg)), (ad 26, .inl (G.2.1 1, 600, .inl hf))] H := hP
  have hD : va_D A [(o, .inr (4, mF ad sz1 osz th (nI hz))), (ad 4, .inl (G.2.1 1, 9, .inl kf)), (ad 7, .inl (G.2.1 1, 9, .inl ff)), (ad 5, .inl (G.2.1 2, 72, .inr (.inl sf))), (ad 6, .inl (G.2.1 1, 1152, .inl bf)), (ad 8, .inl (G.2.1 2, 9, .inr (.inl tf))), (ad 24, .inl (G.2.1 1, 64, .inl nf)), (ad 25, .inl (G.2.1 2, 80, .inr (.inl df))), (ad 2, .inl (G.2.1 2, 80, .inr (.inl cf))), (ad 3, .inl (G.2.1 2, 16, .inr (.inl gf))), (ad 14, .inl (G.2.1 1, 128, .inl ky)), (ad 15, .inl (G.2.1 1, 64, .inl dg)), (ad 26, .inl (G.2.1 1, 600, .inl hf))] := hD
  refine g_toi (y := nI (bs k)) (bsI_nI hk) ?_
  refine lv_icmp_le (tgt := 15) hx hb dX4_setKey_8 (by decide) (fun c_8 => ?_) (fun c_8 => ?_)
  · skip
    have hl : lv_has ls 5 [(0, .ref o), (1, .int (nI k))] := hl
    have hlen : hz ≤ bs k := ge_t (t := bs k) c_8 (by omega)
    have eq : keyQ k q = q := by unfold keyQ; rw [if_neg (by omega)]
    refine lv_iconst (v := nI 0) hx hb dX4_setKey_15 (by decide) ?_
    refine lv_istore_n (lv' := [(2, .int (nI 0)), (0, .ref o), (1, .int (nI k))]) hx hb dX4_setKey_16 rfl hl (by decide) rfl (fun ls hl => ?_)
    refine lv_iload_n hx hb dX4_setKey_17 rfl (lv_at hl 0 rfl) ?_
    refine lv_if_eq (tgt := 62) hx hb dX4_setKey_18 (by decide) (fun _ => ?_) (fun c_18 => absurd (by decide) c_18)
    refine lv_iload_n hx hb dX4_setKey_62 rfl (lv_at hl 0 rfl) ?_
    refine lv_if_eq (tgt := 73) hx hb dX4_setKey_63 (by decide) (fun _ => ?_) (fun c_63 => absurd (by decide) c_63)
    refine lv_aload_n hx hb dX4_setKey_73 rfl (lv_at hl 1 rfl) ?_
    refine va_get (D := G.1) (ci := 4) (v := .int (nI hz)) (C := RX4) (T := TX4) (N := 29) hx hb htu iwX4 hown hK.1 hP 0 rfl rfl 27 (by decide) (htu _ uF_X4_146) (fun _ h9 => h9) rfl dX4_setKey_74 ?_
    refine lv_istore_n (lv' := [(3, .int (nI hz)), (2, .int (nI 0)), (0, .ref o), (1, .int (nI k))]) hx hb dX4_setKey_77 rfl hl (by decide) rfl (fun ls hl => ?_)
    refine lv_iconst (v := nI 0) hx hb dX4_setKey_78 (by decide) ?_
    refine lv_istore (lv' := [(4, .int (nI 0)), (3, .int (nI hz)), (2, .int (nI 0)), (0, .ref o), (1, .int (nI k))]) hx hb dX4_setKey_79 hl (by decide) rfl (fun ls hl => ?_)
    refine g_loop (σ := Nat × (Nat → Int32)) (G := G) (fun xq9 : Nat × (Nat → Int32) => [(o, .inr (4, mF ad sz1 osz th (nI hz))), (ad 4, .inl (G.2.1 1, 9, .inl kf)), (ad 7, .inl (G.2.1 1, 9, .inl ff)), (ad 5, .inl (G.2.1 2, 72, .inr (.inl sf))), (ad 6, .inl (G.2.1 1, 1152, .inl bf)), (ad 8, .inl (G.2.1 2, 9, .inr (.inl tf))), (ad 24, .inl (G.2.1 1, 64, .inl nf)), (ad 25, .inl (G.2.1 2, 80, .inr (.inl df))), (ad 2, .inl (G.2.1 2, 80, .inr (.inl cf))), (ad 3, .inl (G.2.1 2, 16, .inr (.inl gf))), (ad 14, .inl (G.2.1 1, 128, .inl xq9.2)), (ad 15, .inl (G.2.1 1, 64, .inl dg)), (ad 26, .inl (G.2.1 1, 600, .inl hf))]) (fun xq9 : Nat × (Nat → Int32) => [(0, .ref o), (1, .int (nI k)), (2, .int (nI 0)), (3, .int (nI hz)), (4, .int (nI xq9.1))]) (fun xq9 : Nat × (Nat → Int32) => xq9.1 ≤ 128 ∧ ∀ x, x < xq9.1 → xq9.2 x = nI ((keyQ k q).getD x 0)) (fun xq9 : Nat × (Nat → Int32) => 128 - xq9.1) ?_ (0, ky) (show 0 ≤ 128 ∧ ∀ x, x < 0 → ky x = nI ((keyQ k q).getD x 0) from ⟨Nat.zero_le _, fun _ h => absurd h (Nat.not_lt_zero _)⟩) (hP.sub [0, 1, 2, 3, 4, 5, 6, 7, 8, 9, 10, 11, 12] rfl) (hD.sub [0, 1, 2, 3, 4, 5, 6, 7, 8, 9, 10, 11, 12] (by decide) rfl) hS (lv_sub hl [3, 4, 2, 1, 0] rfl)
    clear hP hD hS hl
    intro x hxI_81 ih_81 H locs ls hP hD hS hl
    obtain ⟨i, g⟩ := x
    have hK2 : i ≤ 128 ∧ ∀ x, x < i → g x = nI ((keyQ k q).getD x 0) := hxI_81
    have hP : va_P G.1 vwCl [(o, .inr (4, mF ad sz1 osz th (nI hz))), (ad 4, .inl (G.2.1 1, 9, .inl kf)), (ad 7, .inl (G.2.1 1, 9, .inl ff)), (ad 5, .inl (G.2.1 2, 72, .inr (.inl sf))), (ad 6, .inl (G.2.1 1, 1152, .inl bf)), (ad 8, .inl (G.2.1 2, 9, .inr (.inl tf))), (ad 24, .inl (G.2.1 1, 64, .inl nf)), (ad 25, .inl (G.2.1 2, 80, .inr (.inl df))), (ad 2, .inl (G.2.1 2, 80, .inr (.inl cf))), (ad 3, .inl (G.2.1 2, 16, .inr (.inl gf))), (ad 14, .inl (G.2.1 1, 128, .inl g)), (ad 15, .inl (G.2.1 1, 64, .inl dg)), (ad 26, .inl (G.2.1 1, 600, .inl hf))] H := hP
    have hD : va_D A [(o, .inr (4, mF ad sz1 osz th (nI hz))), (ad 4, .inl (G.2.1 1, 9, .inl kf)), (ad 7, .inl (G.2.1 1, 9, .inl ff)), (ad 5, .inl (G.2.1 2, 72, .inr (.inl sf))), (ad 6, .inl (G.2.1 1, 1152, .inl bf)), (ad 8, .inl (G.2.1 2, 9, .inr (.inl tf))), (ad 24, .inl (G.2.1 1, 64, .inl nf)), (ad 25, .inl (G.2.1 2, 80, .inr (.inl df))), (ad 2, .inl (G.2.1 2, 80, .inr (.inl cf))), (ad 3, .inl (G.2.1 2, 16, .inr (.inl gf))), (ad 14, .inl (G.2.1 1, 128, .inl g)), (ad 15, .inl (G.2.1 1, 64, .inl dg)), (ad 26, .inl (G.2.1 1, 600, .inl hf))] := hD
    have hl : lv_has ls 5 [(0, .ref o), (1, .int (nI k)), (2, .int (nI 0)), (3, .int (nI hz)), (4, .int (nI i))] := hl
    refine lv_iload hx hb dX4_setKey_81 (lv_at hl 4 rfl) ?_
    refine lv_sipush (v := nI 128) hx hb dX4_setKey_83 (by decide) ?_
    refine lv_icmp_ge (tgt := 133) hx hb dX4_setKey_86 (by decide) (fun c_86 => ?_) (fun c_86 => ?_)
    · skip
      have hg : 128 ≤ i := ge_t (n := 128) c_86 (by decide)
      exact gret_v hx hb hr hlk dX4_setKey_133 hS (kf, ff, sf, bf, tf, nf, df, g, dg) (hP.sub [0, 1, 2, 3, 4, 5, 6, 7, 8, 9, 10, 11, 12] rfl) (hD.sub [0, 1, 2, 3, 4, 5, 6, 7, 8, 9, 10, 11, 12] (by decide) rfl) (show (∀ i, i < 128 → g i = nI ((keyQ k q).getD i 0)) ∧ (MsO [6] (kf, ff, sf, bf, tf) (kf, ff, sf, bf, tf)) from ⟨fun i hi => hK2.2 i (by omega), MsO.refl _ _⟩)
    · skip
      have hg : i < 128 := ge_f (n := 128) c_86 (by omega)
      refine lv_aload_n hx hb dX4_setKey_89 rfl (lv_at hl 0 rfl) ?_
      refine va_get (D := G.1) (ci := 4) (v := .ref (ad 14)) (C := RX4) (T := TX4) (N := 29) hx hb htu iwX4 hown hK.1 hP 0 rfl rfl 14 (by decide) (htu _ uF_X4_51) (fun _ h9 => h9) rfl dX4_setKey_90 ?_
      refine lv_iload hx hb dX4_setKey_93 (lv_at hl 4 rfl) ?_
      refine lv_iload hx hb dX4_setKey_95 (lv_at hl 4 rfl) ?_
      refine lv_iload_n hx hb dX4_setKey_97 rfl (lv_at hl 3 rfl) ?_
      refine lv_icmp_lt (tgt := 105) hx hb dX4_setKey_98 (by decide) (fun c_98 => ?_) (fun c_98 => ?_)
      · skip
        have hi : i < hz := lt_t c_98 (by omega)
        refine lv_iload_n hx hb dX4_setKey_105 rfl (lv_at hl 2 rfl) ?_
        refine lv_if_eq (tgt := 119) hx hb dX4_setKey_106 (by decide) (fun _ => ?_) (fun c_106 => absurd (by decide) c_106)
        refine lv_aload_n hx hb dX4_setKey_119 rfl (lv_at hl 0 rfl) ?_
        refine va_get (D := G.1) (ci := 4) (v := .ref (ad 26)) (C := RX4) (T := TX4) (N := 29) hx hb htu iwX4 hown hK.1 hP 0 rfl rfl 26 (by decide) (htu _ uF_X4_81) (fun _ h9 => h9) rfl dX4_setKey_120 ?_
        refine lv_iload hx hb dX4_setKey_123 (lv_at hl 4 rfl) ?_
        refine g_iald hx hb hK.1 hP 12 1 rfl rfl ⟨by omega, by decide⟩ dX4_setKey_125 ?_
        refine lv_topi (fun v_3 ev_3 => ?_)
        refine g_iast hx hb hK.1 hP hD hS 10 1 rfl rfl ⟨by omega, by decide⟩ dX4_setKey_126 (fun H locs hP hD hS => ?_)
        obtain ⟨g_4, eg_4⟩ : ∃ gq9 : Nat → Int32, gq9 = upd g i v_3 := ⟨_, rfl⟩
        rw [← eg_4] at hP hD
        have hP : va_P G.1 vwCl [(o, .inr (4, mF ad sz1 osz th (nI hz))), (ad 4, .inl (G.2.1 1, 9, .inl kf)), (ad 7, .inl (G.2.1 1, 9, .inl ff)), (ad 5, .inl (G.2.1 2, 72, .inr (.inl sf))), (ad 6, .inl (G.2.1 1, 1152, .inl bf)), (ad 8, .inl (G.2.1 2, 9, .inr (.inl tf))), (ad 24, .inl (G.2.1 1, 64, .inl nf)), (ad 25, .inl (G.2.1 2, 80, .inr (.inl df))), (ad 2, .inl (G.2.1 2, 80, .inr (.inl cf))), (ad 3, .inl (G.2.1 2, 16, .inr (.inl gf))), (ad 14, .inl (G.2.1 1, 128, .inl g_4)), (ad 15, .inl (G.2.1 1, 64, .inl dg)), (ad 26, .inl (G.2.1 1, 600, .inl hf))] H := hP
        have hD : va_D A [(o, .inr (4, mF ad sz1 osz th (nI hz))), (ad 4, .inl (G.2.1 1, 9, .inl kf)), (ad 7, .inl (G.2.1 1, 9, .inl ff)), (ad 5, .inl (G.2.1 2, 72, .inr (.inl sf))), (ad 6, .inl (G.2.1 1, 1152, .inl bf)), (ad 8, .inl (G.2.1 2, 9, .inr (.inl tf))), (ad 24, .inl (G.2.1 1, 64, .inl nf)), (ad 25, .inl (G.2.1 2, 80, .inr (.inl df))), (ad 2, .inl (G.2.1 2, 80, .inr (.inl cf))), (ad 3, .inl (G.2.1 2, 16, .inr (.inl gf))), (ad 14, .inl (G.2.1 1, 128, .inl g_4)), (ad 15, .inl (G.2.1 1, 64, .inl dg)), (ad 26, .inl (G.2.1 1, 600, .inl hf))] := hD
        refine lv_iinc (v := nI (i + 1)) (lv' := [(4, .int (nI (i + 1))), (0, .ref o), (1, .int (nI k)), (2, .int (nI 0)), (3, .int (nI hz))]) hx hb dX4_setKey_127 hl (k := 4) rfl (nI_1 i) (by decide) rfl (fun ls hl => ?_)
        refine lv_goto (tgt := 81) hx hb dX4_setKey_130 (by decide) ?_
        exact ih_81 (i + 1, g_4) (show (i + 1) ≤ 128 ∧ ∀ x, x < (i + 1) → g_4 x = nI ((keyQ k q).getD x 0) from ⟨hg, upI hK2.2 eg_4 (by rw [ev_3, eq]; exact hh.2 i (by omega))⟩) (by show 128 - (i + 1) < 128 - i; omega) _ _ _ (hP.sub [0, 1, 2, 3, 4, 5, 6, 7, 8, 9, 10, 11, 12] rfl) (hD.sub [0, 1, 2, 3, 4, 5, 6, 7, 8, 9, 10, 11, 12] (by decide) rfl) hS (lv_sub hl [1, 2, 3, 4, 0] rfl)
      · skip
        have hi : hz ≤ i := lt_f c_98 (by omega)
        refine lv_iconst (v := nI 0) hx hb dX4_setKey_101 (by decide) ?_
        refine lv_goto (tgt := 126) hx hb dX4_setKey_102 (by decide) ?_
        refine g_iast hx hb hK.1 hP hD hS 10 1 rfl rfl ⟨by omega, by decide⟩ dX4_setKey_126 (fun H locs hP hD hS => ?_)
        obtain ⟨g_5, eg_5⟩ : ∃ gq9 : Nat → Int32, gq9 = upd g i (nI 0) := ⟨_, rfl⟩
        rw [← eg_5] at hP hD
        have hP : va_P G.1 vwCl [(o, .inr (4, mF ad sz1 osz th (nI hz))), (ad 4, .inl (G.2.1 1, 9, .inl kf)), (ad 7, .inl (G.2.1 1, 9, .inl ff)), (ad 5, .inl (G.2.1 2, 72, .inr (.inl sf))), (ad 6, .inl (G.2.1 1, 1152, .inl bf)), (ad 8, .inl (G.2.1 2, 9, .inr (.inl tf))), (ad 24, .inl (G.2.1 1, 64, .inl nf)), (ad 25, .inl (G.2.1 2, 80, .inr (.inl df))), (ad 2, .inl (G.2.1 2, 80, .inr (.inl cf))), (ad 3, .inl (G.2.1 2, 16, .inr (.inl gf))), (ad 14, .inl (G.2.1 1, 128, .inl g_5)), (ad 15, .inl (G.2.1 1, 64, .inl dg)), (ad 26, .inl (G.2.1 1, 600, .inl hf))] H := hP
        have hD : va_D A [(o, .inr (4, mF ad sz1 osz th (nI hz))), (ad 4, .inl (G.2.1 1, 9, .inl kf)), (ad 7, .inl (G.2.1 1, 9, .inl ff)), (ad 5, .inl (G.2.1 2, 72, .inr (.inl sf))), (ad 6, .inl (G.2.1 1, 1152, .inl bf)), (ad 8, .inl (G.2.1 2, 9, .inr (.inl tf))), (ad 24, .inl (G.2.1 1, 64, .inl nf)), (ad 25, .inl (G.2.1 2, 80, .inr (.inl df))), (ad 2, .inl (G.2.1 2, 80, .inr (.inl cf))), (ad 3, .inl (G.2.1 2, 16, .inr (.inl gf))), (ad 14, .inl (G.2.1 1, 128, .inl g_5)), (ad 15, .inl (G.2.1 1, 64, .inl dg)), (ad 26, .inl (G.2.1 1, 600, .inl hf))] := hD
        refine lv_iinc (v := nI (i + 1)) (lv' := [(4, .int (nI (i + 1))), (0, .ref o), (1, .int (nI k)), (2, .int (nI 0)), (3, .int (nI hz))]) hx hb dX4_setKey_127 hl (k := 4) rfl (nI_1 i) (by decide) rfl (fun ls hl => ?_)
        refine lv_goto (tgt := 81) hx hb dX4_setKey_130 (by decide) ?_
        exact ih_81 (i + 1, g_5) (show (i + 1) ≤ 128 ∧ ∀ x, x < (i + 1) → g_5 x = nI ((keyQ k q).getD x 0) from ⟨hg, upI hK2.2 eg_5 (by rw [List.getD_eq_getElem?_getD, List.getElem?_eq_none (by rw [eq]; omega)]; rfl)⟩) (by show 128 - (i + 1) < 128 - i; omega) _ _ _ (hP.sub [0, 1, 2, 3, 4, 5, 6, 7, 8, 9, 10, 11, 12] rfl) (hD.sub [0, 1, 2, 3, 4, 5, 6, 7, 8, 9, 10, 11, 12] (by decide) rfl) hS (lv_sub hl [1, 2, 3, 4, 0] rfl)
  · skip
    have hlen : bs k < hz := Nat.lt_of_not_le (fun h => c_8 (nI_le h (by have := bs_le k; omega)))
    have eq : keyQ k q = dig k (plcs k (hs0 k) q) (lN hz) := by unfold keyQ; rw [if_pos (by omega), hz2]
    refine lv_iconst (v := nI 1) hx hb dX4_setKey_11 (by decide) ?_
    refine lv_goto (tgt := 16) hx hb dX4_setKey_12 (by decide) ?_
    refine lv_istore_n (lv' := [(2, .int (nI 1)), (0, .ref o), (1, .int (nI k))]) hx hb dX4_setKey_16 rfl hl (by decide) rfl (fun ls hl => ?_)
    refine lv_iload_n hx hb dX4_setKey_17 rfl (lv_at hl 0 rfl) ?_
    refine lv_if_eq (tgt := 62) hx hb dX4_setKey_18 (by decide) (fun c_18 => absurd c_18 (by decide)) (fun _ => ?_)
    refine lv_aload_n hx hb dX4_setKey_21 rfl (lv_at hl 1 rfl) ?_
    refine lv_bipush (v := nI 6) hx hb dX4_setKey_22 (by decide) ?_
    refine lv_iload_n hx hb dX4_setKey_24 rfl (lv_at hl 2 rfl) ?_
    refine g_callv (g_runV (As := [.int (nI 6), .int (nI k)]) (rest := []) ⟨hx, hb, hml, hown, htu⟩ (c_X4_start l G _ o ad sz1 osz th (nI hz) 6 k kf ff tf sf gf (by decide) hk hgf) uM_X4_149 ok_X4_start in_X4_start rfl rfl ⟨Nat.le_of_ble_eq_true rfl, Nat.le_of_ble_eq_true rfl⟩ hK hP hD hS hA hZ [0, 1, 2, 5, 3, 9] rfl rfl 0 rfl rfl rfl rfl hl.1 rfl (Nat.le_of_ble_eq_true rfl) dX4_setKey_25 ⟨Nat.le_of_ble_eq_true rfl, Nat.le_of_ble_eq_true rfl⟩) hP hD hS hA [0, 1, 2, 5, 3, 9] rfl (fun u H locs hw0 hP hD hS => ?_)
    obtain ⟨kf_7, ff_8, tf_9, sf_10⟩ := u
    have hw0 : ∀ bfq8 : Nat → Int32, MsR (kf_7, ff_8, sf_10, bfq8, tf_9) 6 k 0 (hs0 k) ∧ MsO [6] (kf, ff, sf, bfq8, tf) (kf_7, ff_8, sf_10, bfq8, tf_9) := hw0
    have hP : va_P G.1 vwCl [(ad 6, .inl (G.2.1 1, 1152, .inl bf)), (ad 24, .inl (G.2.1 1, 64, .inl nf)), (ad 25, .inl (G.2.1 2, 80, .inr (.inl df))), (ad 2, .inl (G.2.1 2, 80, .inr (.inl cf))), (ad 14, .inl (G.2.1 1, 128, .inl ky)), (ad 15, .inl (G.2.1 1, 64, .inl dg)), (ad 26, .inl (G.2.1 1, 600, .inl hf)), (o, .inr (4, mF ad sz1 osz th (nI hz))), (ad 4, .inl (G.2.1 1, 9, .inl kf_7)), (ad 7, .inl (G.2.1 1, 9, .inl ff_8)), (ad 8, .inl (G.2.1 2, 9, .inr (.inl tf_9))), (ad 5, .inl (G.2.1 2, 72, .inr (.inl sf_10))), (ad 3, .inl (G.2.1 2, 16, .inr (.inl gf)))] H := hP
    have hD : va_D A [(ad 6, .inl (G.2.1 1, 1152, .inl bf)), (ad 24, .inl (G.2.1 1, 64, .inl nf)), (ad 25, .inl (G.2.1 2, 80, .inr (.inl df))), (ad 2, .inl (G.2.1 2, 80, .inr (.inl cf))), (ad 14, .inl (G.2.1 1, 128, .inl ky)), (ad 15, .inl (G.2.1 1, 64, .inl dg)), (ad 26, .inl (G.2.1 1, 600, .inl hf)), (o, .inr (4, mF ad sz1 osz th (nI hz))), (ad 4, .inl (G.2.1 1, 9, .inl kf_7)), (ad 7, .inl (G.2.1 1, 9, .inl ff_8)), (ad 8, .inl (G.2.1 2, 9, .inr (.inl tf_9))), (ad 5, .inl (G.2.1 2, 72, .inr (.inl sf_10))), (ad 3, .inl (G.2.1 2, 16, .inr (.inl gf)))] := hD
    refine lv_iconst (v := nI 0) hx hb dX4_setKey_28 (by decide) ?_
    refine lv_istore_n (lv' := [(3, .int (nI 0)), (2, .int (nI 1)), (0, .ref o), (1, .int (nI k))]) hx hb dX4_setKey_29 rfl hl (by decide) rfl (fun ls hl => ?_)
    refine g_loop (σ := Nat × (Nat → Int32) × (Nat → Int64) × (Nat → Int32) × (Nat → Int64) × (Nat → Int32) × (Nat → Int64)) (G := G) (fun xq9 : Nat × (Nat → Int32) × (Nat → Int64) × (Nat → Int32) × (Nat → Int64) × (Nat → Int32) × (Nat → Int64) => [(o, .inr (4, mF ad sz1 osz th (nI hz))), (ad 4, .inl (G.2.1 1, 9, .inl kf_7)), (ad 7, .inl (G.2.1 1, 9, .inl xq9.2.1)), (ad 5, .inl (G.2.1 2, 72, .inr (.inl xq9.2.2.1))), (ad 6, .inl (G.2.1 1, 1152, .inl xq9.2.2.2.1)), (ad 8, .inl (G.2.1 2, 9, .inr (.inl xq9.2.2.2.2.1))), (ad 24, .inl (G.2.1 1, 64, .inl xq9.2.2.2.2.2.1)), (ad 25, .inl (G.2.1 2, 80, .inr (.inl xq9.2.2.2.2.2.2))), (ad 2, .inl (G.2.1 2, 80, .inr (.inl cf))), (ad 3, .inl (G.2.1 2, 16, .inr (.inl gf))), (ad 14, .inl (G.2.1 1, 128, .inl ky)), (ad 15, .inl (G.2.1 1, 64, .inl dg)), (ad 26, .inl (G.2.1 1, 600, .inl hf))]) (fun xq9 : Nat × (Nat → Int32) × (Nat → Int64) × (Nat → Int32) × (Nat → Int64) × (Nat → Int32) × (Nat → Int64) => [(0, .ref o), (1, .int (nI k)), (2, .int (nI 1)), (3, .int (nI xq9.1))]) (fun xq9 : Nat × (Nat → Int32) × (Nat → Int64) × (Nat → Int32) × (Nat → Int64) × (Nat → Int32) × (Nat → Int64) => xq9.1 ≤ hz ∧ MsR (kf_7, xq9.2.1, xq9.2.2.1, xq9.2.2.2.1, xq9.2.2.2.2.1) 6 k xq9.1 (plcs k (hs0 k) (q.take xq9.1)) ∧ MsO [6] (kf, ff, sf, bf, tf) (kf_7, xq9.2.1, xq9.2.2.1, xq9.2.2.2.1, xq9.2.2.2.2.1)) (fun xq9 : Nat × (Nat → Int32) × (Nat → Int64) × (Nat → Int32) × (Nat → Int64) × (Nat → Int32) × (Nat → Int64) => hz - xq9.1) ?_ (0, ff_8, sf_10, bf, tf_9, nf, df) (show 0 ≤ hz ∧ MsR (kf_7, ff_8, sf_10, bf, tf_9) 6 k 0 (plcs k (hs0 k) (q.take 0)) ∧ MsO [6] (kf, ff, sf, bf, tf) (kf_7, ff_8, sf_10, bf, tf_9) from ⟨Nat.zero_le _, (hw0 bf).1, (hw0 bf).2⟩) (hP.sub [7, 8, 9, 11, 0, 10, 1, 2, 3, 12, 4, 5, 6] rfl) (hD.sub [7, 8, 9, 11, 0, 10, 1, 2, 3, 12, 4, 5, 6] (by decide) rfl) hS (lv_sub hl [2, 3, 1, 0] rfl)
    clear hP hD hS hl
    intro x hxI_30 ih_30 H locs ls hP hD hS hl
    obtain ⟨i, f1, s1, b1, t1, n1, d1⟩ := x
    have hI : i ≤ hz ∧ MsR (kf_7, f1, s1, b1, t1) 6 k i (plcs k (hs0 k) (q.take i)) ∧ MsO [6] (kf, ff, sf, bf, tf) (kf_7, f1, s1, b1, t1) := hxI_30
    have hP : va_P G.1 vwCl [(o, .inr (4, mF ad sz1 osz th (nI hz))), (ad 4, .inl (G.2.1 1, 9, .inl kf_7)), (ad 7, .inl (G.2.1 1, 9, .inl f1)), (ad 5, .inl (G.2.1 2, 72, .inr (.inl s1))), (ad 6, .inl (G.2.1 1, 1152, .inl b1)), (ad 8, .inl (G.2.1 2, 9, .inr (.inl t1))), (ad 24, .inl (G.2.1 1, 64, .inl n1)), (ad 25, .inl (G.2.1 2, 80, .inr (.inl d1))), (ad 2, .inl (G.2.1 2, 80, .inr (.inl cf))), (ad 3, .inl (G.2.1 2, 16, .inr (.inl gf))), (ad 14, .inl (G.2.1 1, 128, .inl ky)), (ad 15, .inl (G.2.1 1, 64, .inl dg)), (ad 26, .inl (G.2.1 1, 600, .inl hf))] H := hP
    have hD : va_D A [(o, .inr (4, mF ad sz1 osz th (nI hz))), (ad 4, .inl (G.2.1 1, 9, .inl kf_7)), (ad 7, .inl (G.2.1 1, 9, .inl f1)), (ad 5, .inl (G.2.1 2, 72, .inr (.inl s1))), (ad 6, .inl (G.2.1 1, 1152, .inl b1)), (ad 8, .inl (G.2.1 2, 9, .inr (.inl t1))), (ad 24, .inl (G.2.1 1, 64, .inl n1)), (ad 25, .inl (G.2.1 2, 80, .inr (.inl d1))), (ad 2, .inl (G.2.1 2, 80, .inr (.inl cf))), (ad 3, .inl (G.2.1 2, 16, .inr (.inl gf))), (ad 14, .inl (G.2.1 1, 128, .inl ky)), (ad 15, .inl (G.2.1 1, 64, .inl dg)), (ad 26, .inl (G.2.1 1, 600, .inl hf))] := hD
    have hl : lv_has ls 5 [(0, .ref o), (1, .int (nI k)), (2, .int (nI 1)), (3, .int (nI i))] := hl
    refine lv_iload_n hx hb dX4_setKey_30 rfl (lv_at hl 3 rfl) ?_
    refine lv_aload_n hx hb dX4_setKey_31 rfl (lv_at hl 0 rfl) ?_
    refine va_get (D := G.1) (ci := 4) (v := .int (nI hz)) (C := RX4) (T := TX4) (N := 29) hx hb htu iwX4 hown hK.1 hP 0 rfl rfl 27 (by decide) (htu _ uF_X4_146) (fun _ h9 => h9) rfl dX4_setKey_32 ?_
    refine lv_icmp_ge (tgt := 56) hx hb dX4_setKey_35 (by decide) (fun c_35 => ?_) (fun c_35 => ?_)
    · skip
      have hi : hz ≤ i := ge_t (n := hz) c_35 (by omega)
      refine lv_aload_n hx hb dX4_setKey_56 rfl (lv_at hl 0 rfl) ?_
      refine lv_bipush (v := nI 6) hx hb dX4_setKey_57 (by decide) ?_
      refine g_callv (g_runV (As := [.int (nI 6)]) (rest := []) ⟨hx, hb, hml, hown, htu⟩ (c_X4_close l G _ o ad sz1 osz th (nI hz) 6 k hz kf_7 f1 s1 b1 t1 n1 d1 cf dg (plcs k (hs0 k) q) (by decide) hc (by have h2 := hI.2.1; rw [List.take_of_length_le (by omega), show i = hz by omega] at h2; exact h2)) uM_X4_152 ok_X4_close in_X4_close rfl rfl ⟨Nat.le_of_ble_eq_true rfl, Nat.le_of_ble_eq_true rfl⟩ hK hP hD hS hA hZ [0, 1, 2, 3, 4, 5, 6, 7, 8, 11] rfl rfl 0 rfl rfl rfl rfl hl.1 rfl (Nat.le_of_ble_eq_true rfl) dX4_setKey_59 ⟨Nat.le_of_ble_eq_true rfl, Nat.le_of_ble_eq_true rfl⟩) hP hD hS hA [0, 1, 2, 3, 4, 5, 6, 7, 8, 11] rfl (fun u H locs hw2 hP hD hS => ?_)
      obtain ⟨ff_12, sf_13, bf_14, tf_15, nf_16, df_17, dg_18⟩ := u
      have hw2 : (∀ iq8, iq8 < ds k → dg_18 iq8 = nI ((dig k (plcs k (hs0 k) q) (lN hz)).getD iq8 0)) ∧ MsO [6] (kf_7, f1, s1, b1, t1) (kf_7, ff_12, sf_13, bf_14, tf_15) := hw2
      have hP : va_P G.1 vwCl [(ad 3, .inl (G.2.1 2, 16, .inr (.inl gf))), (ad 14, .inl (G.2.1 1, 128, .inl ky)), (ad 26, .inl (G.2.1 1, 600, .inl hf)), (o, .inr (4, mF ad sz1 osz th (nI hz))), (ad 4, .inl (G.2.1 1, 9, .inl kf_7)), (ad 7, .inl (G.2.1 1, 9, .inl ff_12)), (ad 5, .inl (G.2.1 2, 72, .inr (.inl sf_13))), (ad 6, .inl (G.2.1 1, 1152, .inl bf_14)), (ad 8, .inl (G.2.1 2, 9, .inr (.inl tf_15))), (ad 24, .inl (G.2.1 1, 64, .inl nf_16)), (ad 25, .inl (G.2.1 2, 80, .inr (.inl df_17))), (ad 2, .inl (G.2.1 2, 80, .inr (.inl cf))), (ad 15, .inl (G.2.1 1, 64, .inl dg_18))] H := hP
      have hD : va_D A [(ad 3, .inl (G.2.1 2, 16, .inr (.inl gf))), (ad 14, .inl (G.2.1 1, 128, .inl ky)), (ad 26, .inl (G.2.1 1, 600, .inl hf)), (o, .inr (4, mF ad sz1 osz th (nI hz))), (ad 4, .inl (G.2.1 1, 9, .inl kf_7)), (ad 7, .inl (G.2.1 1, 9, .inl ff_12)), (ad 5, .inl (G.2.1 2, 72, .inr (.inl sf_13))), (ad 6, .inl (G.2.1 1, 1152, .inl bf_14)), (ad 8, .inl (G.2.1 2, 9, .inr (.inl tf_15))), (ad 24, .inl (G.2.1 1, 64, .inl nf_16)), (ad 25, .inl (G.2.1 2, 80, .inr (.inl df_17))), (ad 2, .inl (G.2.1 2, 80, .inr (.inl cf))), (ad 15, .inl (G.2.1 1, 64, .inl dg_18))] := hD
      refine lv_iload_n hx hb dX4_setKey_62 rfl (lv_at hl 2 rfl) ?_
      refine lv_if_eq (tgt := 73) hx hb dX4_setKey_63 (by decide) (fun c_63 => absurd c_63 (by decide)) (fun _ => ?_)
      refine lv_iload_n hx hb dX4_setKey_66 rfl (lv_at hl 1 rfl) ?_
      refine g_calli (g_runS (As := [.int (nI k)]) (rest := []) ⟨hx, hb, hml, hown, htu⟩ (c_X4_digestOf l G _ k hk) uM_X4_143 ok_X4_digestOf uA_X4_digestOf rfl rfl ⟨Nat.le_of_ble_eq_true rfl, Nat.le_of_ble_eq_true rfl⟩ hK hP hD hS hA hZ [] rfl rfl rfl hl.1 rfl (Nat.le_of_ble_eq_true rfl) dX4_setKey_67 ⟨Nat.le_of_ble_eq_true rfl, Nat.le_of_ble_eq_true rfl⟩) hP hD hS hA [] rfl (fun r_19 u H locs hw_20 hP hD hS => ?_)
      have hw_20 : r_19 = nI (ds k) := hw_20
      subst hw_20
      have hP : va_P G.1 vwCl [(ad 3, .inl (G.2.1 2, 16, .inr (.inl gf))), (ad 14, .inl (G.2.1 1, 128, .inl ky)), (ad 26, .inl (G.2.1 1, 600, .inl hf)), (o, .inr (4, mF ad sz1 osz th (nI hz))), (ad 4, .inl (G.2.1 1, 9, .inl kf_7)), (ad 7, .inl (G.2.1 1, 9, .inl ff_12)), (ad 5, .inl (G.2.1 2, 72, .inr (.inl sf_13))), (ad 6, .inl (G.2.1 1, 1152, .inl bf_14)), (ad 8, .inl (G.2.1 2, 9, .inr (.inl tf_15))), (ad 24, .inl (G.2.1 1, 64, .inl nf_16)), (ad 25, .inl (G.2.1 2, 80, .inr (.inl df_17))), (ad 2, .inl (G.2.1 2, 80, .inr (.inl cf))), (ad 15, .inl (G.2.1 1, 64, .inl dg_18))] H := hP
      have hD : va_D A [(ad 3, .inl (G.2.1 2, 16, .inr (.inl gf))), (ad 14, .inl (G.2.1 1, 128, .inl ky)), (ad 26, .inl (G.2.1 1, 600, .inl hf)), (o, .inr (4, mF ad sz1 osz th (nI hz))), (ad 4, .inl (G.2.1 1, 9, .inl kf_7)), (ad 7, .inl (G.2.1 1, 9, .inl ff_12)), (ad 5, .inl (G.2.1 2, 72, .inr (.inl sf_13))), (ad 6, .inl (G.2.1 1, 1152, .inl bf_14)), (ad 8, .inl (G.2.1 2, 9, .inr (.inl tf_15))), (ad 24, .inl (G.2.1 1, 64, .inl nf_16)), (ad 25, .inl (G.2.1 2, 80, .inr (.inl df_17))), (ad 2, .inl (G.2.1 2, 80, .inr (.inl cf))), (ad 15, .inl (G.2.1 1, 64, .inl dg_18))] := hD
      refine lv_goto (tgt := 77) hx hb dX4_setKey_70 (by decide) ?_
      refine lv_istore_n (lv' := [(3, .int (nI (ds k))), (0, .ref o), (1, .int (nI k)), (2, .int (nI 1))]) hx hb dX4_setKey_77 rfl hl (by decide) rfl (fun ls hl => ?_)
      refine lv_iconst (v := nI 0) hx hb dX4_setKey_78 (by decide) ?_
      refine lv_istore (lv' := [(4, .int (nI 0)), (3, .int (nI (ds k))), (0, .ref o), (1, .int (nI k)), (2, .int (nI 1))]) hx hb dX4_setKey_79 hl (by decide) rfl (fun ls hl => ?_)
      refine g_loop (σ := Nat × (Nat → Int32)) (G := G) (fun xq9 : Nat × (Nat → Int32) => [(o, .inr (4, mF ad sz1 osz th (nI hz))), (ad 4, .inl (G.2.1 1, 9, .inl kf_7)), (ad 7, .inl (G.2.1 1, 9, .inl ff_12)), (ad 5, .inl (G.2.1 2, 72, .inr (.inl sf_13))), (ad 6, .inl (G.2.1 1, 1152, .inl bf_14)), (ad 8, .inl (G.2.1 2, 9, .inr (.inl tf_15))), (ad 24, .inl (G.2.1 1, 64, .inl nf_16)), (ad 25, .inl (G.2.1 2, 80, .inr (.inl df_17))), (ad 2, .inl (G.2.1 2, 80, .inr (.inl cf))), (ad 3, .inl (G.2.1 2, 16, .inr (.inl gf))), (ad 14, .inl (G.2.1 1, 128, .inl xq9.2)), (ad 15, .inl (G.2.1 1, 64, .inl dg_18)), (ad 26, .inl (G.2.1 1, 600, .inl hf))]) (fun xq9 : Nat × (Nat → Int32) => [(0, .ref o), (1, .int (nI k)), (2, .int (nI 1)), (3, .int (nI (ds k))), (4, .int (nI xq9.1))]) (fun xq9 : Nat × (Nat → Int32) => xq9.1 ≤ 128 ∧ ∀ x, x < xq9.1 → xq9.2 x = nI ((keyQ k q).getD x 0)) (fun xq9 : Nat × (Nat → Int32) => 128 - xq9.1) ?_ (0, ky) (show 0 ≤ 128 ∧ ∀ x, x < 0 → ky x = nI ((keyQ k q).getD x 0) from ⟨Nat.zero_le _, fun _ h => absurd h (Nat.not_lt_zero _)⟩) (hP.sub [3, 4, 5, 6, 7, 8, 9, 10, 11, 0, 1, 12, 2] rfl) (hD.sub [3, 4, 5, 6, 7, 8, 9, 10, 11, 0, 1, 12, 2] (by decide) rfl) hS (lv_sub hl [2, 3, 4, 1, 0] rfl)
      clear hP hD hS hl
      intro x hxI_81 ih_81 H locs ls hP hD hS hl
      obtain ⟨i, g⟩ := x
      have hK2 : i ≤ 128 ∧ ∀ x, x < i → g x = nI ((keyQ k q).getD x 0) := hxI_81
      have hP : va_P G.1 vwCl [(o, .inr (4, mF ad sz1 osz th (nI hz))), (ad 4, .inl (G.2.1 1, 9, .inl kf_7)), (ad 7, .inl (G.2.1 1, 9, .inl ff_12)), (ad 5, .inl (G.2.1 2, 72, .inr (.inl sf_13))), (ad 6, .inl (G.2.1 1, 1152, .inl bf_14)), (ad 8, .inl (G.2.1 2, 9, .inr (.inl tf_15))), (ad 24, .inl (G.2.1 1, 64, .inl nf_16)), (ad 25, .inl (G.2.1 2, 80, .inr (.inl df_17))), (ad 2, .inl (G.2.1 2, 80, .inr (.inl cf))), (ad 3, .inl (G.2.1 2, 16, .inr (.inl gf))), (ad 14, .inl (G.2.1 1, 128, .inl g)), (ad 15, .inl (G.2.1 1, 64, .inl dg_18)), (ad 26, .inl (G.2.1 1, 600, .inl hf))] H := hP
      have hD : va_D A [(o, .inr (4, mF ad sz1 osz th (nI hz))), (ad 4, .inl (G.2.1 1, 9, .inl kf_7)), (ad 7, .inl (G.2.1 1, 9, .inl ff_12)), (ad 5, .inl (G.2.1 2, 72, .inr (.inl sf_13))), (ad 6, .inl (G.2.1 1, 1152, .inl bf_14)), (ad 8, .inl (G.2.1 2, 9, .inr (.inl tf_15))), (ad 24, .inl (G.2.1 1, 64, .inl nf_16)), (ad 25, .inl (G.2.1 2, 80, .inr (.inl df_17))), (ad 2, .inl (G.2.1 2, 80, .inr (.inl cf))), (ad 3, .inl (G.2.1 2, 16, .inr (.inl gf))), (ad 14, .inl (G.2.1 1, 128, .inl g)), (ad 15, .inl (G.2.1 1, 64, .inl dg_18)), (ad 26, .inl (G.2.1 1, 600, .inl hf))] := hD
      have hl : lv_has ls 5 [(0, .ref o), (1, .int (nI k)), (2, .int (nI 1)), (3, .int (nI (ds k))), (4, .int (nI i))] := hl
      refine lv_iload hx hb dX4_setKey_81 (lv_at hl 4 rfl) ?_
      refine lv_sipush (v := nI 128) hx hb dX4_setKey_83 (by decide) ?_
      refine lv_icmp_ge (tgt := 133) hx hb dX4_setKey_86 (by decide) (fun c_86 => ?_) (fun c_86 => ?_)
      · skip
        have hg : 128 ≤ i := ge_t (n := 128) c_86 (by decide)
        exact gret_v hx hb hr hlk dX4_setKey_133 hS (kf_7, ff_12, sf_13, bf_14, tf_15, nf_16, df_17, g, dg_18) (hP.sub [0, 1, 2, 3, 4, 5, 6, 7, 8, 9, 10, 11, 12] rfl) (hD.sub [0, 1, 2, 3, 4, 5, 6, 7, 8, 9, 10, 11, 12] (by decide) rfl) (show (∀ i, i < 128 → g i = nI ((keyQ k q).getD i 0)) ∧ (MsO [6] (kf, ff, sf, bf, tf) (kf_7, ff_12, sf_13, bf_14, tf_15)) from ⟨fun i hi => hK2.2 i (by omega), hI.2.2.tr hw2.2⟩)
      · skip
        have hg : i < 128 := ge_f (n := 128) c_86 (by omega)
        refine lv_aload_n hx hb dX4_setKey_89 rfl (lv_at hl 0 rfl) ?_
        refine va_get (D := G.1) (ci := 4) (v := .ref (ad 14)) (C := RX4) (T := TX4) (N := 29) hx hb htu iwX4 hown hK.1 hP 0 rfl rfl 14 (by decide) (htu _ uF_X4_51) (fun _ h9 => h9) rfl dX4_setKey_90 ?_
        refine lv_iload hx hb dX4_setKey_93 (lv_at hl 4 rfl) ?_
        refine lv_iload hx hb dX4_setKey_95 (lv_at hl 4 rfl) ?_
        refine lv_iload_n hx hb dX4_setKey_97 rfl (lv_at hl 3 rfl) ?_
        refine lv_icmp_lt (tgt := 105) hx hb dX4_setKey_98 (by decide) (fun c_98 => ?_) (fun c_98 => ?_)
        · skip
          have hi : i < ds k := lt_t c_98 (by omega)
          refine lv_iload_n hx hb dX4_setKey_105 rfl (lv_at hl 2 rfl) ?_
          refine lv_if_eq (tgt := 119) hx hb dX4_setKey_106 (by decide) (fun c_106 => absurd c_106 (by decide)) (fun _ => ?_)
          refine lv_aload_n hx hb dX4_setKey_109 rfl (lv_at hl 0 rfl) ?_
          refine va_get (D := G.1) (ci := 4) (v := .ref (ad 15)) (C := RX4) (T := TX4) (N := 29) hx hb htu iwX4 hown hK.1 hP 0 rfl rfl 15 (by decide) (htu _ uF_X4_54) (fun _ h9 => h9) rfl dX4_setKey_110 ?_
          refine lv_iload hx hb dX4_setKey_113 (lv_at hl 4 rfl) ?_
          refine g_iald hx hb hK.1 hP 11 1 rfl rfl ⟨by have := ds_le k; omega, by decide⟩ dX4_setKey_115 ?_
          refine lv_goto (tgt := 126) hx hb dX4_setKey_116 (by decide) ?_
          refine lv_topi (fun v_21 ev_21 => ?_)
          refine g_iast hx hb hK.1 hP hD hS 10 1 rfl rfl ⟨by omega, by decide⟩ dX4_setKey_126 (fun H locs hP hD hS => ?_)
          obtain ⟨g_22, eg_22⟩ : ∃ gq9 : Nat → Int32, gq9 = upd g i v_21 := ⟨_, rfl⟩
          rw [← eg_22] at hP hD
          have hP : va_P G.1 vwCl [(o, .inr (4, mF ad sz1 osz th (nI hz))), (ad 4, .inl (G.2.1 1, 9, .inl kf_7)), (ad 7, .inl (G.2.1 1, 9, .inl ff_12)), (ad 5, .inl (G.2.1 2, 72, .inr (.inl sf_13))), (ad 6, .inl (G.2.1 1, 1152, .inl bf_14)), (ad 8, .inl (G.2.1 2, 9, .inr (.inl tf_15))), (ad 24, .inl (G.2.1 1, 64, .inl nf_16)), (ad 25, .inl (G.2.1 2, 80, .inr (.inl df_17))), (ad 2, .inl (G.2.1 2, 80, .inr (.inl cf))), (ad 3, .inl (G.2.1 2, 16, .inr (.inl gf))), (ad 14, .inl (G.2.1 1, 128, .inl g_22)), (ad 15, .inl (G.2.1 1, 64, .inl dg_18)), (ad 26, .inl (G.2.1 1, 600, .inl hf))] H := hP
          have hD : va_D A [(o, .inr (4, mF ad sz1 osz th (nI hz))), (ad 4, .inl (G.2.1 1, 9, .inl kf_7)), (ad 7, .inl (G.2.1 1, 9, .inl ff_12)), (ad 5, .inl (G.2.1 2, 72, .inr (.inl sf_13))), (ad 6, .inl (G.2.1 1, 1152, .inl bf_14)), (ad 8, .inl (G.2.1 2, 9, .inr (.inl tf_15))), (ad 24, .inl (G.2.1 1, 64, .inl nf_16)), (ad 25, .inl (G.2.1 2, 80, .inr (.inl df_17))), (ad 2, .inl (G.2.1 2, 80, .inr (.inl cf))), (ad 3, .inl (G.2.1 2, 16, .inr (.inl gf))), (ad 14, .inl (G.2.1 1, 128, .inl g_22)), (ad 15, .inl (G.2.1 1, 64, .inl dg_18)), (ad 26, .inl (G.2.1 1, 600, .inl hf))] := hD
          refine lv_iinc (v := nI (i + 1)) (lv' := [(4, .int (nI (i + 1))), (0, .ref o), (1, .int (nI k)), (2, .int (nI 1)), (3, .int (nI (ds k)))]) hx hb dX4_setKey_127 hl (k := 4) rfl (nI_1 i) (by decide) rfl (fun ls hl => ?_)
          refine lv_goto (tgt := 81) hx hb dX4_setKey_130 (by decide) ?_
          exact ih_81 (i + 1, g_22) (show (i + 1) ≤ 128 ∧ ∀ x, x < (i + 1) → g_22 x = nI ((keyQ k q).getD x 0) from ⟨hg, upI hK2.2 eg_22 (by rw [ev_21, eq]; exact hw2.1 i hi)⟩) (by show 128 - (i + 1) < 128 - i; omega) _ _ _ (hP.sub [0, 1, 2, 3, 4, 5, 6, 7, 8, 9, 10, 11, 12] rfl) (hD.sub [0, 1, 2, 3, 4, 5, 6, 7, 8, 9, 10, 11, 12] (by decide) rfl) hS (lv_sub hl [1, 2, 3, 4, 0] rfl)
        · skip
          have hi : ds k ≤ i := lt_f c_98 (by have := ds_le k; omega)
          refine lv_iconst (v := nI 0) hx hb dX4_setKey_101 (by decide) ?_
          refine lv_goto (tgt := 126) hx hb dX4_setKey_102 (by decide) ?_
          refine g_iast hx hb hK.1 hP hD hS 10 1 rfl rfl ⟨by omega, by decide⟩ dX4_setKey_126 (fun H locs hP hD hS => ?_)
          obtain ⟨g_23, eg_23⟩ : ∃ gq9 : Nat → Int32, gq9 = upd g i (nI 0) := ⟨_, rfl⟩
          rw [← eg_23] at hP hD
          have hP : va_P G.1 vwCl [(o, .inr (4, mF ad sz1 osz th (nI hz))), (ad 4, .inl (G.2.1 1, 9, .inl kf_7)), (ad 7, .inl (G.2.1 1, 9, .inl ff_12)), (ad 5, .inl (G.2.1 2, 72, .inr (.inl sf_13))), (ad 6, .inl (G.2.1 1, 1152, .inl bf_14)), (ad 8, .inl (G.2.1 2, 9, .inr (.inl tf_15))), (ad 24, .inl (G.2.1 1, 64, .inl nf_16)), (ad 25, .inl (G.2.1 2, 80, .inr (.inl df_17))), (ad 2, .inl (G.2.1 2, 80, .inr (.inl cf))), (ad 3, .inl (G.2.1 2, 16, .inr (.inl gf))), (ad 14, .inl (G.2.1 1, 128, .inl g_23)), (ad 15, .inl (G.2.1 1, 64, .inl dg_18)), (ad 26, .inl (G.2.1 1, 600, .inl hf))] H := hP
          have hD : va_D A [(o, .inr (4, mF ad sz1 osz th (nI hz))), (ad 4, .inl (G.2.1 1, 9, .inl kf_7)), (ad 7, .inl (G.2.1 1, 9, .inl ff_12)), (ad 5, .inl (G.2.1 2, 72, .inr (.inl sf_13))), (ad 6, .inl (G.2.1 1, 1152, .inl bf_14)), (ad 8, .inl (G.2.1 2, 9, .inr (.inl tf_15))), (ad 24, .inl (G.2.1 1, 64, .inl nf_16)), (ad 25, .inl (G.2.1 2, 80, .inr (.inl df_17))), (ad 2, .inl (G.2.1 2, 80, .inr (.inl cf))), (ad 3, .inl (G.2.1 2, 16, .inr (.inl gf))), (ad 14, .inl (G.2.1 1, 128, .inl g_23)), (ad 15, .inl (G.2.1 1, 64, .inl dg_18)), (ad 26, .inl (G.2.1 1, 600, .inl hf))] := hD
          refine lv_iinc (v := nI (i + 1)) (lv' := [(4, .int (nI (i + 1))), (0, .ref o), (1, .int (nI k)), (2, .int (nI 1)), (3, .int (nI (ds k)))]) hx hb dX4_setKey_127 hl (k := 4) rfl (nI_1 i) (by decide) rfl (fun ls hl => ?_)
          refine lv_goto (tgt := 81) hx hb dX4_setKey_130 (by decide) ?_
          exact ih_81 (i + 1, g_23) (show (i + 1) ≤ 128 ∧ ∀ x, x < (i + 1) → g_23 x = nI ((keyQ k q).getD x 0) from ⟨hg, upI hK2.2 eg_23 (by rw [List.getD_eq_getElem?_getD, List.getElem?_eq_none (by rw [eq]; rw [dig_len]; exact hi)]; rfl)⟩) (by show 128 - (i + 1) < 128 - i; omega) _ _ _ (hP.sub [0, 1, 2, 3, 4, 5, 6, 7, 8, 9, 10, 11, 12] rfl) (hD.sub [0, 1, 2, 3, 4, 5, 6, 7, 8, 9, 10, 11, 12] (by decide) rfl) hS (lv_sub hl [1, 2, 3, 4, 0] rfl)
    · skip
      have hi : i < hz := ge_f (n := hz) c_35 (by have := hI.1; omega)
      refine lv_aload_n hx hb dX4_setKey_38 rfl (lv_at hl 0 rfl) ?_
      refine lv_bipush (v := nI 6) hx hb dX4_setKey_39 (by decide) ?_
      refine lv_aload_n hx hb dX4_setKey_41 rfl (lv_at hl 0 rfl) ?_
      refine va_get (D := G.1) (ci := 4) (v := .ref (ad 26)) (C := RX4) (T := TX4) (N := 29) hx hb htu iwX4 hown hK.1 hP 0 rfl rfl 26 (by decide) (htu _ uF_X4_81) (fun _ h9 => h9) rfl dX4_setKey_42 ?_
      refine lv_iload_n hx hb dX4_setKey_45 rfl (lv_at hl 3 rfl) ?_
      refine g_iald hx hb hK.1 hP 12 1 rfl rfl ⟨by omega, by decide⟩ dX4_setKey_46 ?_
      refine g_toi (y := nI (q.getD i 0)) (hh.2 i (by omega)) ?_
      refine g_callv (g_runV (As := [.int (nI 6), .int (nI (q.getD i 0))]) (rest := []) ⟨hx, hb, hml, hown, htu⟩ (c_X4_absorb l G _ o ad sz1 osz th (nI hz) 6 k i (q.getD i 0) kf_7 f1 s1 b1 t1 n1 d1 cf (plcs k (hs0 k) (q.take i)) (by decide) hc hI.2.1 (getD_lt hh.1 i)) uM_X4_137 ok_X4_absorb in_X4_absorb rfl rfl ⟨Nat.le_of_ble_eq_true rfl, Nat.le_of_ble_eq_true rfl⟩ hK hP hD hS hA hZ [0, 1, 2, 3, 4, 5, 6, 7, 8] rfl rfl 0 rfl rfl rfl rfl hl.1 rfl (Nat.le_of_ble_eq_true rfl) dX4_setKey_47 ⟨Nat.le_of_ble_eq_true rfl, Nat.le_of_ble_eq_true rfl⟩) hP hD hS hA [0, 1, 2, 3, 4, 5, 6, 7, 8] rfl (fun u H locs hw1 hP hD hS => ?_)
      obtain ⟨ff_25, sf_26, bf_27, tf_28, nf_29, df_30⟩ := u
      have hw1 : MsR (kf_7, ff_25, sf_26, bf_27, tf_28) 6 k (i + 1) (plc k (plcs k (hs0 k) (q.take i)) (q.getD i 0)) ∧ MsO [6] (kf_7, f1, s1, b1, t1) (kf_7, ff_25, sf_26, bf_27, tf_28) := hw1
      have hP : va_P G.1 vwCl [(ad 3, .inl (G.2.1 2, 16, .inr (.inl gf))), (ad 14, .inl (G.2.1 1, 128, .inl ky)), (ad 15, .inl (G.2.1 1, 64, .inl dg)), (ad 26, .inl (G.2.1 1, 600, .inl hf)), (o, .inr (4, mF ad sz1 osz th (nI hz))), (ad 4, .inl (G.2.1 1, 9, .inl kf_7)), (ad 7, .inl (G.2.1 1, 9, .inl ff_25)), (ad 5, .inl (G.2.1 2, 72, .inr (.inl sf_26))), (ad 6, .inl (G.2.1 1, 1152, .inl bf_27)), (ad 8, .inl (G.2.1 2, 9, .inr (.inl tf_28))), (ad 24, .inl (G.2.1 1, 64, .inl nf_29)), (ad 25, .inl (G.2.1 2, 80, .inr (.inl df_30))), (ad 2, .inl (G.2.1 2, 80, .inr (.inl cf)))] H := hP
      have hD : va_D A [(ad 3, .inl (G.2.1 2, 16, .inr (.inl gf))), (ad 14, .inl (G.2.1 1, 128, .inl ky)), (ad 15, .inl (G.2.1 1, 64, .inl dg)), (ad 26, .inl (G.2.1 1, 600, .inl hf)), (o, .inr (4, mF ad sz1 osz th (nI hz))), (ad 4, .inl (G.2.1 1, 9, .inl kf_7)), (ad 7, .inl (G.2.1 1, 9, .inl ff_25)), (ad 5, .inl (G.2.1 2, 72, .inr (.inl sf_26))), (ad 6, .inl (G.2.1 1, 1152, .inl bf_27)), (ad 8, .inl (G.2.1 2, 9, .inr (.inl tf_28))), (ad 24, .inl (G.2.1 1, 64, .inl nf_29)), (ad 25, .inl (G.2.1 2, 80, .inr (.inl df_30))), (ad 2, .inl (G.2.1 2, 80, .inr (.inl cf)))] := hD
      refine lv_iinc (v := nI (i + 1)) (lv' := [(3, .int (nI (i + 1))), (0, .ref o), (1, .int (nI k)), (2, .int (nI 1))]) hx hb dX4_setKey_50 hl (k := 3) rfl (nI_1 i) (by decide) rfl (fun ls hl => ?_)
      refine lv_goto (tgt := 30) hx hb dX4_setKey_53 (by decide) ?_
      exact ih_30 (i + 1, ff_25, sf_26, bf_27, tf_28, nf_29, df_30) (show (i + 1) ≤ hz ∧ MsR (kf_7, ff_25, sf_26, bf_27, tf_28) 6 k (i + 1) (plcs k (hs0 k) (q.take (i + 1))) ∧ MsO [6] (kf, ff, sf, bf, tf) (kf_7, ff_25, sf_26, bf_27, tf_28) from ⟨hi, pl_take (by omega) rfl hw1.1, hI.2.2.tr hw1.2⟩) (by show hz - (i + 1) < hz - i; omega) _ _ _ (hP.sub [4, 5, 6, 7, 8, 9, 10, 11, 12, 0, 1, 2, 3] rfl) (hD.sub [4, 5, 6, 7, 8, 9, 10, 11, 12, 0, 1, 2, 3] (by decide) rfl) hS (lv_sub hl [1, 2, 3, 0] rfl)
set_option maxHeartbeats 4000000 in
set_option maxRecDepth 100000 in
theorem c_X4_prepare (l : Launch) (G : GW) (sz : Nat) (o : Nat) (ad : Nat → Nat) (sz1 : Int32) (osz : Int32) (th : Int32) (k : Nat) (hz : Nat) (kf : Nat → Int32) (ff : Nat → Int32) (sf : Nat → Int64) (bf : Nat → Int32) (tf : Nat → Int64) (nf : Nat → Int32) (df : Nat → Int64) (cf : Nat → Int64) (gf : Nat → Int64) (ky : Nat → Int32) (dg : Nat → Int32) (hf : Nat → Int32) (q : List Nat) (hc : ∀ j, j < 80 → cf j = kT j) (hgf : ∀ j, j < 8 → gf j = sqA j ∧ gf (8 + j) = sqB j) (hk : k < 4) (hh : Ls hf q) (hz2 : hz = q.length) (hz6 : hz ≤ 600) : Met l yX4_prepare (Cond.code yX4_prepare cX4_prepare 2 (none : Option FieldType) :: UW) ({ frames := 5, cells := 0, slots := 0, locals := 137 } : Room) (va_Pc [.ref o, .int (nI k)] (gPre G [(o, .inr (4, mF ad sz1 osz th (nI hz))), (ad 4, .inl (G.2.1 1, 9, .inl kf)), (ad 7, .inl (G.2.1 1, 9, .inl ff)), (ad 5, .inl (G.2.1 2, 72, .inr (.inl sf))), (ad 6, .inl (G.2.1 1, 1152, .inl bf)), (ad 8, .inl (G.2.1 2, 9, .inr (.inl tf))), (ad 24, .inl (G.2.1 1, 64, .inl nf)), (ad 25, .inl (G.2.1 2, 80, .inr (.inl df))), (ad 2, .inl (G.2.1 2, 80, .inr (.inl cf))), (ad 3, .inl (G.2.1 2, 16, .inr (.inl gf))), (ad 14, .inl (G.2.1 1, 128, .inl ky)), (ad 15, .inl (G.2.1 1, 64, .inl dg)), (ad 26, .inl (G.2.1 1, 600, .inl hf))] sz)) (va_Qv (fun (uq9 : (Nat → Int32) × (Nat → Int32) × (Nat → Int64) × (Nat → Int32) × (Nat → Int64) × (Nat → Int32) × (Nat → Int64) × (Nat → Int32) × (Nat → Int32)) => MsR (uq9.1, uq9.2.1, uq9.2.2.1, uq9.2.2.2.1, uq9.2.2.2.2.1) 7 k (bs k) (kin k (keyQ k q) 54) ∧ MsR (uq9.1, uq9.2.1, uq9.2.2.1, uq9.2.2.2.1, uq9.2.2.2.2.1) 8 k (bs k) (kin k (keyQ k q) 92) ∧ MsO [6, 7, 8] (kf, ff, sf, bf, tf) (uq9.1, uq9.2.1, uq9.2.2.1, uq9.2.2.2.1, uq9.2.2.2.2.1)) (fun u => gPost G (va_A [(o, .inr (4, mF ad sz1 osz th (nI hz))), (ad 4, .inl (G.2.1 1, 9, .inl kf)), (ad 7, .inl (G.2.1 1, 9, .inl ff)), (ad 5, .inl (G.2.1 2, 72, .inr (.inl sf))), (ad 6, .inl (G.2.1 1, 1152, .inl bf)), (ad 8, .inl (G.2.1 2, 9, .inr (.inl tf))), (ad 24, .inl (G.2.1 1, 64, .inl nf)), (ad 25, .inl (G.2.1 2, 80, .inr (.inl df))), (ad 2, .inl (G.2.1 2, 80, .inr (.inl cf))), (ad 3, .inl (G.2.1 2, 16, .inr (.inl gf))), (ad 14, .inl (G.2.1 1, 128, .inl ky)), (ad 15, .inl (G.2.1 1, 64, .inl dg)), (ad 26, .inl (G.2.1 1, 600, .inl hf))] sz) ((fun (uq9 : (Nat → Int32) × (Nat → Int32) × (Nat → Int64) × (Nat → Int32) × (Nat → Int64) × (Nat → Int32) × (Nat → Int64) × (Nat → Int32) × (Nat → Int32)) => ([(o, .inr (4, mF ad sz1 osz th (nI hz))), (ad 4, .inl (G.2.1 1, 9, .inl uq9.1)), (ad 7, .inl (G.2.1 1, 9, .inl uq9.2.1)), (ad 5, .inl (G.2.1 2, 72, .inr (.inl uq9.2.2.1))), (ad 6, .inl (G.2.1 1, 1152, .inl uq9.2.2.2.1)), (ad 8, .inl (G.2.1 2, 9, .inr (.inl uq9.2.2.2.2.1))), (ad 24, .inl (G.2.1 1, 64, .inl uq9.2.2.2.2.2.1)), (ad 25, .inl (G.2.1 2, 80, .inr (.inl uq9.2.2.2.2.2.2.1))), (ad 2, .inl (G.2.1 2, 80, .inr (.inl cf))), (ad 3, .inl (G.2.1 2, 16, .inr (.inl gf))), (ad 14, .inl (G.2.1 1, 128, .inl uq9.2.2.2.2.2.2.2.1)), (ad 15, .inl (G.2.1 1, 64, .inl uq9.2.2.2.2.2.2.2.2)), (ad 26, .inl (G.2.1 1, 600, .inl hf))] : va_W)) u)) (va_A [(o, .inr (4, mF ad sz1 osz th (nI hz))), (ad 4, .inl (G.2.1 1, 9, .inl kf)), (ad 7, .inl (G.2.1 1, 9, .inl ff)), (ad 5, .inl (G.2.1 2, 72, .inr (.inl sf))), (ad 6, .inl (G.2.1 1, 1152, .inl bf)), (ad 8, .inl (G.2.1 2, 9, .inr (.inl tf))), (ad 24, .inl (G.2.1 1, 64, .inl nf)), (ad 25, .inl (G.2.1 2, 80, .inr (.inl df))), (ad 2, .inl (G.2.1 2, 80, .inr (.inl cf))), (ad 3, .inl (G.2.1 2, 16, .inr (.inl gf))), (ad 14, .inl (G.2.1 1, 128, .inl ky)), (ad 15, .inl (G.2.1 1, 64, .inl dg)), (ad 26, .inl (G.2.1 1, 600, .inl hf))] sz)) 0 0 (va_A [(o, .inr (4, mF ad sz1 osz th (nI hz))), (ad 4, .inl (G.2.1 1, 9, .inl kf)), (ad 7, .inl (G.2.1 1, 9, .inl ff)), (ad 5, .inl (G.2.1 2, 72, .inr (.inl sf))), (ad 6, .inl (G.2.1 1, 1152, .inl bf)), (ad 8, .inl (G.2.1 2, 9, .inr (.inl tf))), (ad 24, .inl (G.2.1 1, 64, .inl nf)), (ad 25, .inl (G.2.1 2, 80, .inr (.inl df))), (ad 2, .inl (G.2.1 2, 80, .inr (.inl cf))), (ad 3, .inl (G.2.1 2, 16, .inr (.inl gf))), (ad 14, .inl (G.2.1 1, 128, .inl ky)), (ad 15, .inl (G.2.1 1, 64, .inl dg)), (ad 26, .inl (G.2.1 1, 600, .inl hf))] sz) := by
  refine gM_of (Qf := fun A => va_Qv (fun (uq9 : (Nat → Int32) × (Nat → Int32) × (Nat → Int64) × (Nat → Int32) × (Nat → Int64) × (Nat → Int32) × (Nat → Int64) × (Nat → Int32) × (Nat → Int32)) => MsR (uq9.1, uq9.2.1, uq9.2.2.1, uq9.2.2.2.1, uq9.2.2.2.2.1) 7 k (bs k) (kin k (keyQ k q) 54) ∧ MsR (uq9.1, uq9.2.1, uq9.2.2.1, uq9.2.2.2.1, uq9.2.2.2.2.1) 8 k (bs k) (kin k (keyQ k q) 92) ∧ MsO [6, 7, 8] (kf, ff, sf, bf, tf) (uq9.1, uq9.2.1, uq9.2.2.1, uq9.2.2.2.1, uq9.2.2.2.2.1)) (fun u => gPost G A ((fun (uq9 : (Nat → Int32) × (Nat → Int32) × (Nat → Int64) × (Nat → Int32) × (Nat → Int64) × (Nat → Int32) × (Nat → Int64) × (Nat → Int32) × (Nat → Int32)) => ([(o, .inr (4, mF ad sz1 osz th (nI hz))), (ad 4, .inl (G.2.1 1, 9, .inl uq9.1)), (ad 7, .inl (G.2.1 1, 9, .inl uq9.2.1)), (ad 5, .inl (G.2.1 2, 72, .inr (.inl uq9.2.2.1))), (ad 6, .inl (G.2.1 1, 1152, .inl uq9.2.2.2.1)), (ad 8, .inl (G.2.1 2, 9, .inr (.inl uq9.2.2.2.2.1))), (ad 24, .inl (G.2.1 1, 64, .inl uq9.2.2.2.2.2.1)), (ad 25, .inl (G.2.1 2, 80, .inr (.inl uq9.2.2.2.2.2.2.1))), (ad 2, .inl (G.2.1 2, 80, .inr (.inl cf))), (ad 3, .inl (G.2.1 2, 16, .inr (.inl gf))), (ad 14, .inl (G.2.1 1, 128, .inl uq9.2.2.2.2.2.2.2.1)), (ad 15, .inl (G.2.1 1, 64, .inl uq9.2.2.2.2.2.2.2.2)), (ad 26, .inl (G.2.1 1, 600, .inl hf))] : va_W)) u)) A) (by decide) (Nat.le_of_ble_eq_true rfl) ?_
  intro p e s m below meth c A ls hx hb hml hr hown htu hlk hnm hA hP hD hS hK hZ hl
  have hown : s.vm.findClass RX4 = some m.cls := hown
  have hl : lv_has ls 2 [(0, .ref o), (1, .int (nI k))] := hl
  refine lv_aload_n hx hb dX4_prepare_0 rfl (lv_at hl 0 rfl) ?_
  refine lv_iload_n hx hb dX4_prepare_1 rfl (lv_at hl 1 rfl) ?_
  refine g_callv (g_runV (As := [.int (nI k)]) (rest := []) ⟨hx, hb, hml, hown, htu⟩ (c_X4_setKey l G _ o ad sz1 osz th k hz kf ff sf bf tf nf df cf gf ky dg hf q hc hgf hk hh hz2 hz6) uM_X4_155 ok_X4_setKey in_X4_setKey rfl rfl ⟨Nat.le_of_ble_eq_true rfl, Nat.le_of_ble_eq_true rfl⟩ hK hP hD hS hA hZ [0, 1, 2, 3, 4, 5, 6, 7, 8, 9, 10, 11, 12] rfl rfl 0 rfl rfl rfl rfl hl.1 rfl (Nat.le_of_ble_eq_true rfl) dX4_prepare_2 ⟨Nat.le_of_ble_eq_true rfl, Nat.le_of_ble_eq_true rfl⟩) hP hD hS hA [0, 1, 2, 3, 4, 5, 6, 7, 8, 9, 10, 11, 12] rfl (fun u H locs hw0 hP hD hS => ?_)
  obtain ⟨kf_2, ff_3, sf_4, bf_5, tf_6, nf_7, df_8, ky_9, dg_10⟩ := u
  have hw0 : (∀ iq8, iq8 < 128 → ky_9 iq8 = nI ((keyQ k q).getD iq8 0)) ∧ MsO [6] (kf, ff, sf, bf, tf) (kf_2, ff_3, sf_4, bf_5, tf_6) := hw0
  have hP : va_P G.1 vwCl [(o, .inr (4, mF ad sz1 osz th (nI hz))), (ad 4, .inl (G.2.1 1, 9, .inl kf_2)), (ad 7, .inl (G.2.1 1, 9, .inl ff_3)), (ad 5, .inl (G.2.1 2, 72, .inr (.inl sf_4))), (ad 6, .inl (G.2.1 1, 1152, .inl bf_5)), (ad 8, .inl (G.2.1 2, 9, .inr (.inl tf_6))), (ad 24, .inl (G.2.1 1, 64, .inl nf_7)), (ad 25, .inl (G.2.1 2, 80, .inr (.inl df_8))), (ad 2, .inl (G.2.1 2, 80, .inr (.inl cf))), (ad 3, .inl (G.2.1 2, 16, .inr (.inl gf))), (ad 14, .inl (G.2.1 1, 128, .inl ky_9)), (ad 15, .inl (G.2.1 1, 64, .inl dg_10)), (ad 26, .inl (G.2.1 1, 600, .inl hf))] H := hP
  have hD : va_D A [(o, .inr (4, mF ad sz1 osz th (nI hz))), (ad 4, .inl (G.2.1 1, 9, .inl kf_2)), (ad 7, .inl (G.2.1 1, 9, .inl ff_3)), (ad 5, .inl (G.2.1 2, 72, .inr (.inl sf_4))), (ad 6, .inl (G.2.1 1, 1152, .inl bf_5)), (ad 8, .inl (G.2.1 2, 9, .inr (.inl tf_6))), (ad 24, .inl (G.2.1 1, 64, .inl nf_7)), (ad 25, .inl (G.2.1 2, 80, .inr (.inl df_8))), (ad 2, .inl (G.2.1 2, 80, .inr (.inl cf))), (ad 3, .inl (G.2.1 2, 16, .inr (.inl gf))), (ad 14, .inl (G.2.1 1, 128, .inl ky_9)), (ad 15, .inl (G.2.1 1, 64, .inl dg_10)), (ad 26, .inl (G.2.1 1, 600, .inl hf))] := hD
  refine lv_aload_n hx hb dX4_prepare_5 rfl (lv_at hl 0 rfl) ?_
  refine lv_bipush (v := nI 7) hx hb dX4_prepare_6 (by decide) ?_
  refine lv_iload_n hx hb dX4_prepare_8 rfl (lv_at hl 1 rfl) ?_
  refine lv_bipush (v := nI 54) hx hb dX4_prepare_9 (by decide) ?_
  refine g_callv (g_runV (As := [.int (nI 7), .int (nI k), .int (nI 54)]) (rest := []) ⟨hx, hb, hml, hown, htu⟩ (c_X4_startKeyed l G _ o ad sz1 osz th (nI hz) 7 k 54 kf_2 ff_3 sf_4 bf_5 tf_6 nf_7 df_8 cf gf ky_9 (keyQ k q) (by decide) hc hgf hk (by decide) (keyQ_lt hh.1) hw0.1) uM_X4_158 ok_X4_startKeyed in_X4_startKeyed rfl rfl ⟨Nat.le_of_ble_eq_true rfl, Nat.le_of_ble_eq_true rfl⟩ hK hP hD hS hA hZ [0, 1, 2, 3, 4, 5, 6, 7, 8, 9, 10] rfl rfl 0 rfl rfl rfl rfl hl.1 rfl (Nat.le_of_ble_eq_true rfl) dX4_prepare_11 ⟨Nat.le_of_ble_eq_true rfl, Nat.le_of_ble_eq_true rfl⟩) hP hD hS hA [0, 1, 2, 3, 4, 5, 6, 7, 8, 9, 10] rfl (fun u H locs hw1 hP hD hS => ?_)
  obtain ⟨kf_12, ff_13, sf_14, bf_15, tf_16, nf_17, df_18⟩ := u
  have hw1 : MsR (kf_12, ff_13, sf_14, bf_15, tf_16) 7 k (bs k) (kin k (keyQ k q) 54) ∧ MsO [7] (kf_2, ff_3, sf_4, bf_5, tf_6) (kf_12, ff_13, sf_14, bf_15, tf_16) := hw1
  have hP : va_P G.1 vwCl [(ad 15, .inl (G.2.1 1, 64, .inl dg_10)), (ad 26, .inl (G.2.1 1, 600, .inl hf)), (o, .inr (4, mF ad sz1 osz th (nI hz))), (ad 4, .inl (G.2.1 1, 9, .inl kf_12)), (ad 7, .inl (G.2.1 1, 9, .inl ff_13)), (ad 5, .inl (G.2.1 2, 72, .inr (.inl sf_14))), (ad 6, .inl (G.2.1 1, 1152, .inl bf_15)), (ad 8, .inl (G.2.1 2, 9, .inr (.inl tf_16))), (ad 24, .inl (G.2.1 1, 64, .inl nf_17)), (ad 25, .inl (G.2.1 2, 80, .inr (.inl df_18))), (ad 2, .inl (G.2.1 2, 80, .inr (.inl cf))), (ad 3, .inl (G.2.1 2, 16, .inr (.inl gf))), (ad 14, .inl (G.2.1 1, 128, .inl ky_9))] H := hP
  have hD : va_D A [(ad 15, .inl (G.2.1 1, 64, .inl dg_10)), (ad 26, .inl (G.2.1 1, 600, .inl hf)), (o, .inr (4, mF ad sz1 osz th (nI hz))), (ad 4, .inl (G.2.1 1, 9, .inl kf_12)), (ad 7, .inl (G.2.1 1, 9, .inl ff_13)), (ad 5, .inl (G.2.1 2, 72, .inr (.inl sf_14))), (ad 6, .inl (G.2.1 1, 1152, .inl bf_15)), (ad 8, .inl (G.2.1 2, 9, .inr (.inl tf_16))), (ad 24, .inl (G.2.1 1, 64, .inl nf_17)), (ad 25, .inl (G.2.1 2, 80, .inr (.inl df_18))), (ad 2, .inl (G.2.1 2, 80, .inr (.inl cf))), (ad 3, .inl (G.2.1 2, 16, .inr (.inl gf))), (ad 14, .inl (G.2.1 1, 128, .inl ky_9))] := hD
  refine lv_aload_n hx hb dX4_prepare_14 rfl (lv_at hl 0 rfl) ?_
  refine lv_bipush (v := nI 8) hx hb dX4_prepare_15 (by decide) ?_
  refine lv_iload_n hx hb dX4_prepare_17 rfl (lv_at hl 1 rfl) ?_
  refine lv_bipush (v := nI 92) hx hb dX4_prepare_18 (by decide) ?_
  refine g_callv (g_runV (As := [.int (nI 8), .int (nI k), .int (nI 92)]) (rest := []) ⟨hx, hb, hml, hown, htu⟩ (c_X4_startKeyed l G _ o ad sz1 osz th (nI hz) 8 k 92 kf_12 ff_13 sf_14 bf_15 tf_16 nf_17 df_18 cf gf ky_9 (keyQ k q) (by decide) hc hgf hk (by decide) (keyQ_lt hh.1) hw0.1) uM_X4_158 ok_X4_startKeyed in_X4_startKeyed rfl rfl ⟨Nat.le_of_ble_eq_true rfl, Nat.le_of_ble_eq_true rfl⟩ hK hP hD hS hA hZ [2, 3, 4, 5, 6, 7, 8, 9, 10, 11, 12] rfl rfl 2 rfl rfl rfl rfl hl.1 rfl (Nat.le_of_ble_eq_true rfl) dX4_prepare_20 ⟨Nat.le_of_ble_eq_true rfl, Nat.le_of_ble_eq_true rfl⟩) hP hD hS hA [2, 3, 4, 5, 6, 7, 8, 9, 10, 11, 12] rfl (fun u H locs hw2 hP hD hS => ?_)
  obtain ⟨kf_20, ff_21, sf_22, bf_23, tf_24, nf_25, df_26⟩ := u
  have hw2 : MsR (kf_20, ff_21, sf_22, bf_23, tf_24) 8 k (bs k) (kin k (keyQ k q) 92) ∧ MsO [8] (kf_12, ff_13, sf_14, bf_15, tf_16) (kf_20, ff_21, sf_22, bf_23, tf_24) := hw2
  have hP : va_P G.1 vwCl [(ad 15, .inl (G.2.1 1, 64, .inl dg_10)), (ad 26, .inl (G.2.1 1, 600, .inl hf)), (o, .inr (4, mF ad sz1 osz th (nI hz))), (ad 4, .inl (G.2.1 1, 9, .inl kf_20)), (ad 7, .inl (G.2.1 1, 9, .inl ff_21)), (ad 5, .inl (G.2.1 2, 72, .inr (.inl sf_22))), (ad 6, .inl (G.2.1 1, 1152, .inl bf_23)), (ad 8, .inl (G.2.1 2, 9, .inr (.inl tf_24))), (ad 24, .inl (G.2.1 1, 64, .inl nf_25)), (ad 25, .inl (G.2.1 2, 80, .inr (.inl df_26))), (ad 2, .inl (G.2.1 2, 80, .inr (.inl cf))), (ad 3, .inl (G.2.1 2, 16, .inr (.inl gf))), (ad 14, .inl (G.2.1 1, 128, .inl ky_9))] H := hP
  have hD : va_D A [(ad 15, .inl (G.2.1 1, 64, .inl dg_10)), (ad 26, .inl (G.2.1 1, 600, .inl hf)), (o, .inr (4, mF ad sz1 osz th (nI hz))), (ad 4, .inl (G.2.1 1, 9, .inl kf_20)), (ad 7, .inl (G.2.1 1, 9, .inl ff_21)), (ad 5, .inl (G.2.1 2, 72, .inr (.inl sf_22))), (ad 6, .inl (G.2.1 1, 1152, .inl bf_23)), (ad 8, .inl (G.2.1 2, 9, .inr (.inl tf_24))), (ad 24, .inl (G.2.1 1, 64, .inl nf_25)), (ad 25, .inl (G.2.1 2, 80, .inr (.inl df_26))), (ad 2, .inl (G.2.1 2, 80, .inr (.inl cf))), (ad 3, .inl (G.2.1 2, 16, .inr (.inl gf))), (ad 14, .inl (G.2.1 1, 128, .inl ky_9))] := hD
  exact gret_v hx hb hr hlk dX4_prepare_23 hS (kf_20, ff_21, sf_22, bf_23, tf_24, nf_25, df_26, ky_9, dg_10) (hP.sub [2, 3, 4, 5, 6, 7, 8, 9, 10, 11, 12, 0, 1] rfl) (hD.sub [2, 3, 4, 5, 6, 7, 8, 9, 10, 11, 12, 0, 1] (by decide) rfl) (show (MsR (kf_20, ff_21, sf_22, bf_23, tf_24) 7 k (bs k) (kin k (keyQ k q) 54)) ∧ (MsR (kf_20, ff_21, sf_22, bf_23, tf_24) 8 k (bs k) (kin k (keyQ k q) 92)) ∧ (MsO [6, 7, 8] (kf, ff, sf, bf, tf) (kf_20, ff_21, sf_22, bf_23, tf_24)) from ⟨hw1.1.keep hw2.2 (by decide) (by decide), hw2.1, (hw0.2.trans (L := [6, 7, 8]) hw1.2 (by decide) (by decide)).trans (L := [6, 7, 8]) hw2.2 (by decide) (by decide)⟩)
set_option maxHeartbeats 4000000 in
set_option maxRecDepth 100000 in
theorem c_X4_takeRegister (l : Launch) (G : GW) (sz : Nat) (o : Nat) (ad : Nat → Nat) (sz1 : Int32) (osz : Int32) (th : Int32) (hsz : Int32) (wr : Nat) (z : Nat) (rz : Nat → Int32) (rg : Nat → Int32) (hf : Nat → Int32) (hwr : wr < 3) (hz : rz wr = nI z) (hz6 : z ≤ 600) : Met l yX4_takeRegister (Cond.code yX4_takeRegister cX4_takeRegister 3 (none : Option FieldType) :: UW) ({ frames := 0, cells := 0, slots := 0, locals := 0 } : Room) (va_Pc [.ref o, .int (nI wr)] (gPre G [(o, .inr (4, mF ad sz1 osz th hsz)), (ad 19, .inl (G.2.1 1, 3, .inl rz)), (ad 18, .inl (G.2.1 1, 1800, .inl rg)), (ad 26, .inl (G.2.1 1, 600, .inl hf))] sz)) (va_Qv (fun (hf' : Nat → Int32) => ∀ i, i < z → hf' i = rg (600 * wr + i)) (fun u => gPost G (va_A [(o, .inr (4, mF ad sz1 osz th hsz)), (ad 19, .inl (G.2.1 1, 3, .inl rz)), (ad 18, .inl (G.2.1 1, 1800, .inl rg)), (ad 26, .inl (G.2.1 1, 600, .inl hf))] sz) ((fun (hf' : Nat → Int32) => ([(o, .inr (4, mF ad sz1 osz th (nI z))), (ad 19, .inl (G.2.1 1, 3, .inl rz)), (ad 18, .inl (G.2.1 1, 1800, .inl rg)), (ad 26, .inl (G.2.1 1, 600, .inl hf'))] : va_W)) u)) (va_A [(o, .inr (4, mF ad sz1 osz th hsz)), (ad 19, .inl (G.2.1 1, 3, .inl rz)), (ad 18, .inl (G.2.1 1, 1800, .inl rg)), (ad 26, .inl (G.2.1 1, 600, .inl hf))] sz)) 0 0 (va_A [(o, .inr (4, mF ad sz1 osz th hsz)), (ad 19, .inl (G.2.1 1, 3, .inl rz)), (ad 18, .inl (G.2.1 1, 1800, .inl rg)), (ad 26, .inl (G.2.1 1, 600, .inl hf))] sz) := by
  refine gM_of (Qf := fun A => va_Qv (fun (hf' : Nat → Int32) => ∀ i, i < z → hf' i = rg (600 * wr + i)) (fun u => gPost G A ((fun (hf' : Nat → Int32) => ([(o, .inr (4, mF ad sz1 osz th (nI z))), (ad 19, .inl (G.2.1 1, 3, .inl rz)), (ad 18, .inl (G.2.1 1, 1800, .inl rg)), (ad 26, .inl (G.2.1 1, 600, .inl hf'))] : va_W)) u)) A) (by decide) (Nat.le_of_ble_eq_true rfl) ?_
  intro p e s m below meth c A ls hx hb hml hr hown htu hlk hnm hA hP hD hS hK hZ hl
  have hown : s.vm.findClass RX4 = some m.cls := hown
  have hl : lv_has ls 3 [(0, .ref o), (1, .int (nI wr))] := hl
  refine lv_aload_n hx hb dX4_takeRegister_0 rfl (lv_at hl 0 rfl) ?_
  refine lv_aload_n hx hb dX4_takeRegister_1 rfl (lv_at hl 0 rfl) ?_
  refine va_get (D := G.1) (ci := 4) (v := .ref (ad 19)) (C := RX4) (T := TX4) (N := 29) hx hb htu iwX4 hown hK.1 hP 0 rfl rfl 19 (by decide) (htu _ uF_X4_63) (fun _ h9 => h9) rfl dX4_takeRegister_2 ?_
  refine lv_iload_n hx hb dX4_takeRegister_5 rfl (lv_at hl 1 rfl) ?_
  refine g_iald hx hb hK.1 hP 1 1 rfl rfl ⟨hwr, by decide⟩ dX4_takeRegister_6 ?_
  refine g_toi (y := nI z) (hz) ?_
  refine va_put (D := G.1) (ci := 4) (v := .int (nI z)) (ty := .int) (C := RX4) (T := TX4) (N := 29) hx hb htu iwX4 tyX4 tyX4_ok nmX4 hown hK.1 hP hD hS 0 rfl rfl 27 (by decide) (htu _ uF_X4_146) (fun _ h9 => h9) rfl (by decide +kernel) rfl rfl (Nat.le_of_ble_eq_true rfl) dX4_takeRegister_7 (fun H locs hP hD hS => ?_)
  have hP : va_P G.1 vwCl [(o, .inr (4, mF ad sz1 osz th (nI z))), (ad 19, .inl (G.2.1 1, 3, .inl rz)), (ad 18, .inl (G.2.1 1, 1800, .inl rg)), (ad 26, .inl (G.2.1 1, 600, .inl hf))] H := hP
  have hD : va_D A [(o, .inr (4, mF ad sz1 osz th (nI z))), (ad 19, .inl (G.2.1 1, 3, .inl rz)), (ad 18, .inl (G.2.1 1, 1800, .inl rg)), (ad 26, .inl (G.2.1 1, 600, .inl hf))] := hD
  refine lv_iconst (v := nI 0) hx hb dX4_takeRegister_10 (by decide) ?_
  refine lv_istore_n (lv' := [(2, .int (nI 0)), (0, .ref o), (1, .int (nI wr))]) hx hb dX4_takeRegister_11 rfl hl (by decide) rfl (fun ls hl => ?_)
  refine g_loop (σ := Nat × (Nat → Int32)) (G := G) (fun xq9 : Nat × (Nat → Int32) => [(o, .inr (4, mF ad sz1 osz th (nI z))), (ad 19, .inl (G.2.1 1, 3, .inl rz)), (ad 18, .inl (G.2.1 1, 1800, .inl rg)), (ad 26, .inl (G.2.1 1, 600, .inl xq9.2))]) (fun xq9 : Nat × (Nat → Int32) => [(0, .ref o), (1, .int (nI wr)), (2, .int (nI xq9.1))]) (fun xq9 : Nat × (Nat → Int32) => xq9.1 ≤ z ∧ ∀ x, x < xq9.1 → xq9.2 x = (fun y => rg (600 * wr + y)) x) (fun xq9 : Nat × (Nat → Int32) => z - xq9.1) ?_ (0, hf) (show 0 ≤ z ∧ ∀ x, x < 0 → hf x = (fun y => rg (600 * wr + y)) x from ⟨Nat.zero_le _, fun _ h => absurd h (Nat.not_lt_zero _)⟩) (hP.sub [0, 1, 2, 3] rfl) (hD.sub [0, 1, 2, 3] (by decide) rfl) hS (lv_sub hl [1, 2, 0] rfl)
  clear hP hD hS hl
  intro x hxI_12 ih_12 H locs ls hP hD hS hl
  obtain ⟨i, g⟩ := x
  have hI : i ≤ z ∧ ∀ x, x < i → g x = (fun y => rg (600 * wr + y)) x := hxI_12
  have hP : va_P G.1 vwCl [(o, .inr (4, mF ad sz1 osz th (nI z))), (ad 19, .inl (G.2.1 1, 3, .inl rz)), (ad 18, .inl (G.2.1 1, 1800, .inl rg)), (ad 26, .inl (G.2.1 1, 600, .inl g))] H := hP
  have hD : va_D A [(o, .inr (4, mF ad sz1 osz th (nI z))), (ad 19, .inl (G.2.1 1, 3, .inl rz)), (ad 18, .inl (G.2.1 1, 1800, .inl rg)), (ad 26, .inl (G.2.1 1, 600, .inl g))] := hD
  have hl : lv_has ls 3 [(0, .ref o), (1, .int (nI wr)), (2, .int (nI i))] := hl
  refine lv_iload_n hx hb dX4_takeRegister_12 rfl (lv_at hl 2 rfl) ?_
  refine lv_aload_n hx hb dX4_takeRegister_13 rfl (lv_at hl 0 rfl) ?_
  refine va_get (D := G.1) (ci := 4) (v := .int (nI z)) (C := RX4) (T := TX4) (N := 29) hx hb htu iwX4 hown hK.1 hP 0 rfl rfl 27 (by decide) (htu _ uF_X4_146) (fun _ h9 => h9) rfl dX4_takeRegister_14 ?_
  refine lv_icmp_ge (tgt := 44) hx hb dX4_takeRegister_17 (by decide) (fun c_17 => ?_) (fun c_17 => ?_)
  · skip
    have hi : z ≤ i := ge_t (n := z) c_17 (by omega)
    exact gret_v hx hb hr hlk dX4_takeRegister_44 hS g (hP.sub [0, 1, 2, 3] rfl) (hD.sub [0, 1, 2, 3] (by decide) rfl) (show ∀ i, i < z → g i = rg (600 * wr + i) from fun i hi2 => hI.2 i (by omega))
  · skip
    have hi : i < z := ge_f (n := z) c_17 (by have := hI.1; omega)
    refine lv_aload_n hx hb dX4_takeRegister_20 rfl (lv_at hl 0 rfl) ?_
    refine va_get (D := G.1) (ci := 4) (v := .ref (ad 26)) (C := RX4) (T := TX4) (N := 29) hx hb htu iwX4 hown hK.1 hP 0 rfl rfl 26 (by decide) (htu _ uF_X4_81) (fun _ h9 => h9) rfl dX4_takeRegister_21 ?_
    refine lv_iload_n hx hb dX4_takeRegister_24 rfl (lv_at hl 2 rfl) ?_
    refine lv_aload_n hx hb dX4_takeRegister_25 rfl (lv_at hl 0 rfl) ?_
    refine va_get (D := G.1) (ci := 4) (v := .ref (ad 18)) (C := RX4) (T := TX4) (N := 29) hx hb htu iwX4 hown hK.1 hP 0 rfl rfl 18 (by decide) (htu _ uF_X4_60) (fun _ h9 => h9) rfl dX4_takeRegister_26 ?_
    refine lv_sipush (v := nI 600) hx hb dX4_takeRegister_29 (by decide) ?_
    refine lv_iload_n hx hb dX4_takeRegister_32 rfl (lv_at hl 1 rfl) ?_
    refine lv_imul hx hb dX4_takeRegister_33 ?_
    refine g_toi (y := nI (600 * wr)) (pk_mul 600 wr) ?_
    refine lv_iload_n hx hb dX4_takeRegister_34 rfl (lv_at hl 2 rfl) ?_
    refine lv_iadd hx hb dX4_takeRegister_35 ?_
    refine g_toi (y := nI (600 * wr + i)) (nI_add (600 * wr) i) ?_
    refine g_iald hx hb hK.1 hP 2 1 rfl rfl ⟨by omega, by decide⟩ dX4_takeRegister_36 ?_
    refine lv_topi (fun v_1 ev_1 => ?_)
    refine g_iast hx hb hK.1 hP hD hS 3 1 rfl rfl ⟨by omega, by decide⟩ dX4_takeRegister_37 (fun H locs hP hD hS => ?_)
    obtain ⟨g_2, eg_2⟩ : ∃ gq9 : Nat → Int32, gq9 = upd g i v_1 := ⟨_, rfl⟩
    rw [← eg_2] at hP hD
    have hP : va_P G.1 vwCl [(o, .inr (4, mF ad sz1 osz th (nI z))), (ad 19, .inl (G.2.1 1, 3, .inl rz)), (ad 18, .inl (G.2.1 1, 1800, .inl rg)), (ad 26, .inl (G.2.1 1, 600, .inl g_2))] H := hP
    have hD : va_D A [(o, .inr (4, mF ad sz1 osz th (nI z))), (ad 19, .inl (G.2.1 1, 3, .inl rz)), (ad 18, .inl (G.2.1 1, 1800, .inl rg)), (ad 26, .inl (G.2.1 1, 600, .inl g_2))] := hD
    refine lv_iinc (v := nI (i + 1)) (lv' := [(2, .int (nI (i + 1))), (0, .ref o), (1, .int (nI wr))]) hx hb dX4_takeRegister_38 hl (k := 2) rfl (nI_1 i) (by decide) rfl (fun ls hl => ?_)
    refine lv_goto (tgt := 12) hx hb dX4_takeRegister_41 (by decide) ?_
    exact ih_12 (i + 1, g_2) (show (i + 1) ≤ z ∧ ∀ x, x < (i + 1) → g_2 x = (fun y => rg (600 * wr + y)) x from ⟨hi, upI (F := fun y => rg (600 * wr + y)) hI.2 eg_2 ev_1⟩) (by show z - (i + 1) < z - i; omega) _ _ _ (hP.sub [0, 1, 2, 3] rfl) (hD.sub [0, 1, 2, 3] (by decide) rfl) hS (lv_sub hl [1, 2, 0] rfl)
set_option maxHeartbeats 4000000 in
set_option maxRecDepth 100000 in
theorem c_X4_absorbRegister (l : Launch) (G : GW) (sz : Nat) (o : Nat) (ad : Nat → Nat) (sz1 : Int32) (osz : Int32) (th : Int32) (hsz : Int32) (sl : Nat) (wr : Nat) (k : Nat) (t : Nat) (z : Nat) (kf : Nat → Int32) (ff : Nat → Int32) (sf : Nat → Int64) (bf : Nat → Int32) (tf : Nat → Int64) (nf : Nat → Int32) (df : Nat → Int64) (cf : Nat → Int64) (rz : Nat → Int32) (rg : Nat → Int32) (h : HS) (q : List Nat) (hs : sl < 9) (hc : ∀ j, j < 80 → cf j = kT j) (hM : MsR (kf, ff, sf, bf, tf) sl k t h) (hwr : wr < 3) (hz : rz wr = nI z) (hzq : z = q.length) (hz6 : z ≤ 600) (hq2 : ∀ c ∈ q, c < 256) (hr9 : ∀ i, i < z → rg (600 * wr + i) = nI (q.getD i 0)) : Met l yX4_absorbRegister (Cond.code yX4_absorbRegister cX4_absorbRegister 4 (none : Option FieldType) :: UW) ({ frames := 3, cells := 0, slots := 0, locals := 87 } : Room) (va_Pc [.ref o, .int (nI sl), .int (nI wr)] (gPre G [(o, .inr (4, mF ad sz1 osz th hsz)), (ad 4, .inl (G.2.1 1, 9, .inl kf)), (ad 7, .inl (G.2.1 1, 9, .inl ff)), (ad 5, .inl (G.2.1 2, 72, .inr (.inl sf))), (ad 6, .inl (G.2.1 1, 1152, .inl bf)), (ad 8, .inl (G.2.1 2, 9, .inr (.inl tf))), (ad 24, .inl (G.2.1 1, 64, .inl nf)), (ad 25, .inl (G.2.1 2, 80, .inr (.inl df))), (ad 2, .inl (G.2.1 2, 80, .inr (.inl cf))), (ad 19, .inl (G.2.1 1, 3, .inl rz)), (ad 18, .inl (G.2.1 1, 1800, .inl rg))] sz)) (va_Qv (fun (uq9 : (Nat → Int32) × (Nat → Int64) × (Nat → Int32) × (Nat → Int64) × (Nat → Int32) × (Nat → Int64)) => MsR (kf, uq9.1, uq9.2.1, uq9.2.2.1, uq9.2.2.2.1) sl k (t + z) (plcs k h q) ∧ MsO [sl] (kf, ff, sf, bf, tf) (kf, uq9.1, uq9.2.1, uq9.2.2.1, uq9.2.2.2.1)) (fun u => gPost G (va_A [(o, .inr (4, mF ad sz1 osz th hsz)), (ad 4, .inl (G.2.1 1, 9, .inl kf)), (ad 7, .inl (G.2.1 1, 9, .inl ff)), (ad 5, .inl (G.2.1 2, 72, .inr (.inl sf))), (ad 6, .inl (G.2.1 1, 1152, .inl bf)), (ad 8, .inl (G.2.1 2, 9, .inr (.inl tf))), (ad 24, .inl (G.2.1 1, 64, .inl nf)), (ad 25, .inl (G.2.1 2, 80, .inr (.inl df))), (ad 2, .inl (G.2.1 2, 80, .inr (.inl cf))), (ad 19, .inl (G.2.1 1, 3, .inl rz)), (ad 18, .inl (G.2.1 1, 1800, .inl rg))] sz) ((fun (uq9 : (Nat → Int32) × (Nat → Int64) × (Nat → Int32) × (Nat → Int64) × (Nat → Int32) × (Nat → Int64)) => ([(o, .inr (4, mF ad sz1 osz th hsz)), (ad 4, .inl (G.2.1 1, 9, .inl kf)), (ad 7, .inl (G.2.1 1, 9, .inl uq9.1)), (ad 5, .inl (G.2.1 2, 72, .inr (.inl uq9.2.1))), (ad 6, .inl (G.2.1 1, 1152, .inl uq9.2.2.1)), (ad 8, .inl (G.2.1 2, 9, .inr (.inl uq9.2.2.2.1))), (ad 24, .inl (G.2.1 1, 64, .inl uq9.2.2.2.2.1)), (ad 25, .inl (G.2.1 2, 80, .inr (.inl uq9.2.2.2.2.2))), (ad 2, .inl (G.2.1 2, 80, .inr (.inl cf))), (ad 19, .inl (G.2.1 1, 3, .inl rz)), (ad 18, .inl (G.2.1 1, 1800, .inl rg))] : va_W)) u)) (va_A [(o, .inr (4, mF ad sz1 osz th hsz)), (ad 4, .inl (G.2.1 1, 9, .inl kf)), (ad 7, .inl (G.2.1 1, 9, .inl ff)), (ad 5, .inl (G.2.1 2, 72, .inr (.inl sf))), (ad 6, .inl (G.2.1 1, 1152, .inl bf)), (ad 8, .inl (G.2.1 2, 9, .inr (.inl tf))), (ad 24, .inl (G.2.1 1, 64, .inl nf)), (ad 25, .inl (G.2.1 2, 80, .inr (.inl df))), (ad 2, .inl (G.2.1 2, 80, .inr (.inl cf))), (ad 19, .inl (G.2.1 1, 3, .inl rz)), (ad 18, .inl (G.2.1 1, 1800, .inl rg))] sz)) 0 0 (va_A [(o, .inr (4, mF ad sz1 osz th hsz)), (ad 4, .inl (G.2.1 1, 9, .inl kf)), (ad 7, .inl (G.2.1 1, 9, .inl ff)), (ad 5, .inl (G.2.1 2, 72, .inr (.inl sf))), (ad 6, .inl (G.2.1 1, 1152, .inl bf)), (ad 8, .inl (G.2.1 2, 9, .inr (.inl tf))), (ad 24, .inl (G.2.1 1, 64, .inl nf)), (ad 25, .inl (G.2.1 2, 80, .inr (.inl df))), (ad 2, .inl (G.2.1 2, 80, .inr (.inl cf))), (ad 19, .inl (G.2.1 1, 3, .inl rz)), (ad 18, .inl (G.2.1 1, 1800, .inl rg))] sz) := by
  refine gM_of (Qf := fun A => va_Qv (fun (uq9 : (Nat → Int32) × (Nat → Int64) × (Nat → Int32) × (Nat → Int64) × (Nat → Int32) × (Nat → Int64)) => MsR (kf, uq9.1, uq9.2.1, uq9.2.2.1, uq9.2.2.2.1) sl k (t + z) (plcs k h q) ∧ MsO [sl] (kf, ff, sf, bf, tf) (kf, uq9.1, uq9.2.1, uq9.2.2.1, uq9.2.2.2.1)) (fun u => gPost G A ((fun (uq9 : (Nat → Int32) × (Nat → Int64) × (Nat → Int32) × (Nat → Int64) × (Nat → Int32) × (Nat → Int64)) => ([(o, .inr (4, mF ad sz1 osz th hsz)), (ad 4, .inl (G.2.1 1, 9, .inl kf)), (ad 7, .inl (G.2.1 1, 9, .inl uq9.1)), (ad 5, .inl (G.2.1 2, 72, .inr (.inl uq9.2.1))), (ad 6, .inl (G.2.1 1, 1152, .inl uq9.2.2.1)), (ad 8, .inl (G.2.1 2, 9, .inr (.inl uq9.2.2.2.1))), (ad 24, .inl (G.2.1 1, 64, .inl uq9.2.2.2.2.1)), (ad 25, .inl (G.2.1 2, 80, .inr (.inl uq9.2.2.2.2.2))), (ad 2, .inl (G.2.1 2, 80, .inr (.inl cf))), (ad 19, .inl (G.2.1 1, 3, .inl rz)), (ad 18, .inl (G.2.1 1, 1800, .inl rg))] : va_W)) u)) A) (by decide) (Nat.le_of_ble_eq_true rfl) ?_
  intro p e s m below meth c A ls hx hb hml hr hown htu hlk hnm hA hP hD hS hK hZ hl
  have hown : s.vm.findClass RX4 = some m.cls := hown
  have hl : lv_has ls 4 [(0, .ref o), (1, .int (nI sl)), (2, .int (nI wr))] := hl
  refine lv_iconst (v := nI 0) hx hb dX4_absorbRegister_0 (by decide) ?_
  refine lv_istore_n (lv' := [(3, .int (nI 0)), (0, .ref o), (1, .int (nI sl)), (2, .int (nI wr))]) hx hb dX4_absorbRegister_1 rfl hl (by decide) rfl (fun ls hl => ?_)
  refine g_loop (σ := Nat × (Nat → Int32) × (Nat → Int64) × (Nat → Int32) × (Nat → Int64) × (Nat → Int32) × (Nat → Int64)) (G := G) (fun xq9 : Nat × (Nat → Int32) × (Nat → Int64) × (Nat → Int32) × (Nat → Int64) × (Nat → Int32) × (Nat → Int64) => [(o, .inr (4, mF ad sz1 osz th hsz)), (ad 4, .inl (G.2.1 1, 9, .inl kf)), (ad 7, .inl (G.2.1 1, 9, .inl xq9.2.1)), (ad 5, .inl (G.2.1 2, 72, .inr (.inl xq9.2.2.1))), (ad 6, .inl (G.2.1 1, 1152, .inl xq9.2.2.2.1)), (ad 8, .inl (G.2.1 2, 9, .inr (.inl xq9.2.2.2.2.1))), (ad 24, .inl (G.2.1 1, 64, .inl xq9.2.2.2.2.2.1)), (ad 25, .inl (G.2.1 2, 80, .inr (.inl xq9.2.2.2.2.2.2))), (ad 2, .inl (G.2.1 2, 80, .inr (.inl cf))), (ad 19, .inl (G.2.1 1, 3, .inl rz)), (ad 18, .inl (G.2.1 1, 1800, .inl rg))]) (fun xq9 : Nat × (Nat → Int32) × (Nat → Int64) × (Nat → Int32) × (Nat → Int64) × (Nat → Int32) × (Nat → Int64) => [(0, .ref o), (1, .int (nI sl)), (2, .int (nI wr)), (3, .int (nI xq9.1))]) (fun xq9 : Nat × (Nat → Int32) × (Nat → Int64) × (Nat → Int32) × (Nat → Int64) × (Nat → Int32) × (Nat → Int64) => xq9.1 ≤ z ∧ MsR (kf, xq9.2.1, xq9.2.2.1, xq9.2.2.2.1, xq9.2.2.2.2.1) sl k (t + xq9.1) (plcs k h (q.take xq9.1)) ∧ MsO [sl] (kf, ff, sf, bf, tf) (kf, xq9.2.1, xq9.2.2.1, xq9.2.2.2.1, xq9.2.2.2.2.1)) (fun xq9 : Nat × (Nat → Int32) × (Nat → Int64) × (Nat → Int32) × (Nat → Int64) × (Nat → Int32) × (Nat → Int64) => z - xq9.1) ?_ (0, ff, sf, bf, tf, nf, df) (show 0 ≤ z ∧ MsR (kf, ff, sf, bf, tf) sl k (t + 0) (plcs k h (q.take 0)) ∧ MsO [sl] (kf, ff, sf, bf, tf) (kf, ff, sf, bf, tf) from ⟨Nat.zero_le _, hM, MsO.refl _ _⟩) (hP.sub [0, 1, 2, 3, 4, 5, 6, 7, 8, 9, 10] rfl) (hD.sub [0, 1, 2, 3, 4, 5, 6, 7, 8, 9, 10] (by decide) rfl) hS (lv_sub hl [1, 2, 3, 0] rfl)
  clear hP hD hS hl
  intro x hxI_2 ih_2 H locs ls hP hD hS hl
  obtain ⟨i, f1, s1, b1, t1, n1, d1⟩ := x
  have hI : i ≤ z ∧ MsR (kf, f1, s1, b1, t1) sl k (t + i) (plcs k h (q.take i)) ∧ MsO [sl] (kf, ff, sf, bf, tf) (kf, f1, s1, b1, t1) := hxI_2
  have hP : va_P G.1 vwCl [(o, .inr (4, mF ad sz1 osz th hsz)), (ad 4, .inl (G.2.1 1, 9, .inl kf)), (ad 7, .inl (G.2.1 1, 9, .inl f1)), (ad 5, .inl (G.2.1 2, 72, .inr (.inl s1))), (ad 6, .inl (G.2.1 1, 1152, .inl b1)), (ad 8, .inl (G.2.1 2, 9, .inr (.inl t1))), (ad 24, .inl (G.2.1 1, 64, .inl n1)), (ad 25, .inl (G.2.1 2, 80, .inr (.inl d1))), (ad 2, .inl (G.2.1 2, 80, .inr (.inl cf))), (ad 19, .inl (G.2.1 1, 3, .inl rz)), (ad 18, .inl (G.2.1 1, 1800, .inl rg))] H := hP
  have hD : va_D A [(o, .inr (4, mF ad sz1 osz th hsz)), (ad 4, .inl (G.2.1 1, 9, .inl kf)), (ad 7, .inl (G.2.1 1, 9, .inl f1)), (ad 5, .inl (G.2.1 2, 72, .inr (.inl s1))), (ad 6, .inl (G.2.1 1, 1152, .inl b1)), (ad 8, .inl (G.2.1 2, 9, .inr (.inl t1))), (ad 24, .inl (G.2.1 1, 64, .inl n1)), (ad 25, .inl (G.2.1 2, 80, .inr (.inl d1))), (ad 2, .inl (G.2.1 2, 80, .inr (.inl cf))), (ad 19, .inl (G.2.1 1, 3, .inl rz)), (ad 18, .inl (G.2.1 1, 1800, .inl rg))] := hD
  have hl : lv_has ls 4 [(0, .ref o), (1, .int (nI sl)), (2, .int (nI wr)), (3, .int (nI i))] := hl
  refine lv_iload_n hx hb dX4_absorbRegister_2 rfl (lv_at hl 3 rfl) ?_
  refine lv_aload_n hx hb dX4_absorbRegister_3 rfl (lv_at hl 0 rfl) ?_
  refine va_get (D := G.1) (ci := 4) (v := .ref (ad 19)) (C := RX4) (T := TX4) (N := 29) hx hb htu iwX4 hown hK.1 hP 0 rfl rfl 19 (by decide) (htu _ uF_X4_63) (fun _ h9 => h9) rfl dX4_absorbRegister_4 ?_
  refine lv_iload_n hx hb dX4_absorbRegister_7 rfl (lv_at hl 2 rfl) ?_
  refine g_iald hx hb hK.1 hP 9 1 rfl rfl ⟨hwr, by decide⟩ dX4_absorbRegister_8 ?_
  refine g_toi (y := nI z) (hz) ?_
  refine lv_icmp_ge (tgt := 35) hx hb dX4_absorbRegister_9 (by decide) (fun c_9 => ?_) (fun c_9 => ?_)
  · skip
    have hg : z ≤ i := ge_t (n := z) c_9 (by omega)
    exact gret_v hx hb hr hlk dX4_absorbRegister_35 hS (f1, s1, b1, t1, n1, d1) (hP.sub [0, 1, 2, 3, 4, 5, 6, 7, 8, 9, 10] rfl) (hD.sub [0, 1, 2, 3, 4, 5, 6, 7, 8, 9, 10] (by decide) rfl) (show (MsR (kf, f1, s1, b1, t1) sl k (t + z) (plcs k h q)) ∧ (MsO [sl] (kf, ff, sf, bf, tf) (kf, f1, s1, b1, t1)) from ⟨by have h2 := hI.2.1; rw [List.take_of_length_le (by omega), show i = z by omega] at h2; exact h2, hI.2.2⟩)
  · skip
    have hg : i < z := ge_f (n := z) c_9 (by have := hI.1; omega)
    refine lv_aload_n hx hb dX4_absorbRegister_12 rfl (lv_at hl 0 rfl) ?_
    refine lv_iload_n hx hb dX4_absorbRegister_13 rfl (lv_at hl 1 rfl) ?_
    refine lv_aload_n hx hb dX4_absorbRegister_14 rfl (lv_at hl 0 rfl) ?_
    refine va_get (D := G.1) (ci := 4) (v := .ref (ad 18)) (C := RX4) (T := TX4) (N := 29) hx hb htu iwX4 hown hK.1 hP 0 rfl rfl 18 (by decide) (htu _ uF_X4_60) (fun _ h9 => h9) rfl dX4_absorbRegister_15 ?_
    refine lv_sipush (v := nI 600) hx hb dX4_absorbRegister_18 (by decide) ?_
    refine lv_iload_n hx hb dX4_absorbRegister_21 rfl (lv_at hl 2 rfl) ?_
    refine lv_imul hx hb dX4_absorbRegister_22 ?_
    refine g_toi (y := nI (600 * wr)) (pk_mul 600 wr) ?_
    refine lv_iload_n hx hb dX4_absorbRegister_23 rfl (lv_at hl 3 rfl) ?_
    refine lv_iadd hx hb dX4_absorbRegister_24 ?_
    refine g_toi (y := nI (600 * wr + i)) (nI_add (600 * wr) i) ?_
    refine g_iald hx hb hK.1 hP 10 1 rfl rfl ⟨by omega, by decide⟩ dX4_absorbRegister_25 ?_
    refine g_toi (y := nI (q.getD i 0)) (hr9 i hg) ?_
    refine g_callv (g_runV (As := [.int (nI sl), .int (nI (q.getD i 0))]) (rest := []) ⟨hx, hb, hml, hown, htu⟩ (c_X4_absorb l G _ o ad sz1 osz th hsz sl k (t + i) (q.getD i 0) kf f1 s1 b1 t1 n1 d1 cf (plcs k h (q.take i)) hs hc hI.2.1 (getD_lt hq2 i)) uM_X4_137 ok_X4_absorb in_X4_absorb rfl rfl ⟨Nat.le_of_ble_eq_true rfl, Nat.le_of_ble_eq_true rfl⟩ hK hP hD hS hA hZ [0, 1, 2, 3, 4, 5, 6, 7, 8] rfl rfl 0 rfl rfl rfl rfl hl.1 rfl (Nat.le_of_ble_eq_true rfl) dX4_absorbRegister_26 ⟨Nat.le_of_ble_eq_true rfl, Nat.le_of_ble_eq_true rfl⟩) hP hD hS hA [0, 1, 2, 3, 4, 5, 6, 7, 8] rfl (fun u H locs hw1 hP hD hS => ?_)
    obtain ⟨ff_2, sf_3, bf_4, tf_5, nf_6, df_7⟩ := u
    have hw1 : MsR (kf, ff_2, sf_3, bf_4, tf_5) sl k ((t + i) + 1) (plc k (plcs k h (q.take i)) (q.getD i 0)) ∧ MsO [sl] (kf, f1, s1, b1, t1) (kf, ff_2, sf_3, bf_4, tf_5) := hw1
    have hP : va_P G.1 vwCl [(ad 19, .inl (G.2.1 1, 3, .inl rz)), (ad 18, .inl (G.2.1 1, 1800, .inl rg)), (o, .inr (4, mF ad sz1 osz th hsz)), (ad 4, .inl (G.2.1 1, 9, .inl kf)), (ad 7, .inl (G.2.1 1, 9, .inl ff_2)), (ad 5, .inl (G.2.1 2, 72, .inr (.inl sf_3))), (ad 6, .inl (G.2.1 1, 1152, .inl bf_4)), (ad 8, .inl (G.2.1 2, 9, .inr (.inl tf_5))), (ad 24, .inl (G.2.1 1, 64, .inl nf_6)), (ad 25, .inl (G.2.1 2, 80, .inr (.inl df_7))), (ad 2, .inl (G.2.1 2, 80, .inr (.inl cf)))] H := hP
    have hD : va_D A [(ad 19, .inl (G.2.1 1, 3, .inl rz)), (ad 18, .inl (G.2.1 1, 1800, .inl rg)), (o, .inr (4, mF ad sz1 osz th hsz)), (ad 4, .inl (G.2.1 1, 9, .inl kf)), (ad 7, .inl (G.2.1 1, 9, .inl ff_2)), (ad 5, .inl (G.2.1 2, 72, .inr (.inl sf_3))), (ad 6, .inl (G.2.1 1, 1152, .inl bf_4)), (ad 8, .inl (G.2.1 2, 9, .inr (.inl tf_5))), (ad 24, .inl (G.2.1 1, 64, .inl nf_6)), (ad 25, .inl (G.2.1 2, 80, .inr (.inl df_7))), (ad 2, .inl (G.2.1 2, 80, .inr (.inl cf)))] := hD
    refine lv_iinc (v := nI (i + 1)) (lv' := [(3, .int (nI (i + 1))), (0, .ref o), (1, .int (nI sl)), (2, .int (nI wr))]) hx hb dX4_absorbRegister_29 hl (k := 3) rfl (nI_1 i) (by decide) rfl (fun ls hl => ?_)
    refine lv_goto (tgt := 2) hx hb dX4_absorbRegister_32 (by decide) ?_
    exact ih_2 (i + 1, ff_2, sf_3, bf_4, tf_5, nf_6, df_7) (show (i + 1) ≤ z ∧ MsR (kf, ff_2, sf_3, bf_4, tf_5) sl k (t + (i + 1)) (plcs k h (q.take (i + 1))) ∧ MsO [sl] (kf, ff, sf, bf, tf) (kf, ff_2, sf_3, bf_4, tf_5) from ⟨hg, pl_take (by omega) rfl hw1.1, hI.2.2.tr hw1.2⟩) (by show z - (i + 1) < z - i; omega) _ _ _ (hP.sub [2, 3, 4, 5, 6, 7, 8, 9, 10, 0, 1] rfl) (hD.sub [2, 3, 4, 5, 6, 7, 8, 9, 10, 0, 1] (by decide) rfl) hS (lv_sub hl [1, 2, 3, 0] rfl)
set_option maxHeartbeats 4000000 in
set_option maxRecDepth 100000 in
theorem c_X4_digestOut (l : Launch) (G : GW) (sz : Nat) (o : Nat) (ad : Nat → Nat) (sz1 : Int32) (osz : Int32) (th : Int32) (hsz : Int32) (n : Nat) (dg : Nat → Int32) (uf : Nat → Int32) (hn : n ≤ 64) : Met l yX4_digestOut (Cond.code yX4_digestOut cX4_digestOut 3 (none : Option FieldType) :: UW) ({ frames := 0, cells := 0, slots := 0, locals := 0 } : Room) (va_Pc [.ref o, .int (nI n)] (gPre G [(o, .inr (4, mF ad sz1 osz th hsz)), (ad 15, .inl (G.2.1 1, 64, .inl dg)), (ad 16, .inl (G.2.1 1, 16320, .inl uf))] sz)) (va_Qv (fun (uf' : Nat → Int32) => ∀ i, i < n → uf' i = dg i) (fun u => gPost G (va_A [(o, .inr (4, mF ad sz1 osz th hsz)), (ad 15, .inl (G.2.1 1, 64, .inl dg)), (ad 16, .inl (G.2.1 1, 16320, .inl uf))] sz) ((fun (uf' : Nat → Int32) => ([(o, .inr (4, mF ad sz1 (nI n) th hsz)), (ad 15, .inl (G.2.1 1, 64, .inl dg)), (ad 16, .inl (G.2.1 1, 16320, .inl uf'))] : va_W)) u)) (va_A [(o, .inr (4, mF ad sz1 osz th hsz)), (ad 15, .inl (G.2.1 1, 64, .inl dg)), (ad 16, .inl (G.2.1 1, 16320, .inl uf))] sz)) 0 0 (va_A [(o, .inr (4, mF ad sz1 osz th hsz)), (ad 15, .inl (G.2.1 1, 64, .inl dg)), (ad 16, .inl (G.2.1 1, 16320, .inl uf))] sz) := by
  refine gM_of (Qf := fun A => va_Qv (fun (uf' : Nat → Int32) => ∀ i, i < n → uf' i = dg i) (fun u => gPost G A ((fun (uf' : Nat → Int32) => ([(o, .inr (4, mF ad sz1 (nI n) th hsz)), (ad 15, .inl (G.2.1 1, 64, .inl dg)), (ad 16, .inl (G.2.1 1, 16320, .inl uf'))] : va_W)) u)) A) (by decide) (Nat.le_of_ble_eq_true rfl) ?_
  intro p e s m below meth c A ls hx hb hml hr hown htu hlk hnm hA hP hD hS hK hZ hl
  have hown : s.vm.findClass RX4 = some m.cls := hown
  have hl : lv_has ls 3 [(0, .ref o), (1, .int (nI n))] := hl
  refine lv_iconst (v := nI 0) hx hb dX4_digestOut_0 (by decide) ?_
  refine lv_istore_n (lv' := [(2, .int (nI 0)), (0, .ref o), (1, .int (nI n))]) hx hb dX4_digestOut_1 rfl hl (by decide) rfl (fun ls hl => ?_)
  refine g_loop (σ := Nat × (Nat → Int32)) (G := G) (fun xq9 : Nat × (Nat → Int32) => [(o, .inr (4, mF ad sz1 osz th hsz)), (ad 15, .inl (G.2.1 1, 64, .inl dg)), (ad 16, .inl (G.2.1 1, 16320, .inl xq9.2))]) (fun xq9 : Nat × (Nat → Int32) => [(0, .ref o), (1, .int (nI n)), (2, .int (nI xq9.1))]) (fun xq9 : Nat × (Nat → Int32) => xq9.1 ≤ n ∧ ∀ x, x < xq9.1 → xq9.2 x = dg x) (fun xq9 : Nat × (Nat → Int32) => n - xq9.1) ?_ (0, uf) (show 0 ≤ n ∧ ∀ x, x < 0 → uf x = dg x from ⟨Nat.zero_le _, fun _ h => absurd h (Nat.not_lt_zero _)⟩) (hP.sub [0, 1, 2] rfl) (hD.sub [0, 1, 2] (by decide) rfl) hS (lv_sub hl [1, 2, 0] rfl)
  clear hP hD hS hl
  intro x hxI_2 ih_2 H locs ls hP hD hS hl
  obtain ⟨i, g⟩ := x
  have hI : i ≤ n ∧ ∀ x, x < i → g x = dg x := hxI_2
  have hP : va_P G.1 vwCl [(o, .inr (4, mF ad sz1 osz th hsz)), (ad 15, .inl (G.2.1 1, 64, .inl dg)), (ad 16, .inl (G.2.1 1, 16320, .inl g))] H := hP
  have hD : va_D A [(o, .inr (4, mF ad sz1 osz th hsz)), (ad 15, .inl (G.2.1 1, 64, .inl dg)), (ad 16, .inl (G.2.1 1, 16320, .inl g))] := hD
  have hl : lv_has ls 3 [(0, .ref o), (1, .int (nI n)), (2, .int (nI i))] := hl
  refine lv_iload_n hx hb dX4_digestOut_2 rfl (lv_at hl 2 rfl) ?_
  refine lv_iload_n hx hb dX4_digestOut_3 rfl (lv_at hl 1 rfl) ?_
  refine lv_icmp_ge (tgt := 25) hx hb dX4_digestOut_4 (by decide) (fun c_4 => ?_) (fun c_4 => ?_)
  · skip
    have hi : n ≤ i := ge_t (n := n) c_4 (by omega)
    refine lv_aload_n hx hb dX4_digestOut_25 rfl (lv_at hl 0 rfl) ?_
    refine lv_iload_n hx hb dX4_digestOut_26 rfl (lv_at hl 1 rfl) ?_
    refine va_put (D := G.1) (ci := 4) (v := .int (nI n)) (ty := .int) (C := RX4) (T := TX4) (N := 29) hx hb htu iwX4 tyX4 tyX4_ok nmX4 hown hK.1 hP hD hS 0 rfl rfl 17 (by decide) (htu _ uF_X4_168) (fun _ h9 => h9) rfl (by decide +kernel) rfl rfl (Nat.le_of_ble_eq_true rfl) dX4_digestOut_27 (fun H locs hP hD hS => ?_)
    have hP : va_P G.1 vwCl [(o, .inr (4, mF ad sz1 (nI n) th hsz)), (ad 15, .inl (G.2.1 1, 64, .inl dg)), (ad 16, .inl (G.2.1 1, 16320, .inl g))] H := hP
    have hD : va_D A [(o, .inr (4, mF ad sz1 (nI n) th hsz)), (ad 15, .inl (G.2.1 1, 64, .inl dg)), (ad 16, .inl (G.2.1 1, 16320, .inl g))] := hD
    exact gret_v hx hb hr hlk dX4_digestOut_30 hS g (hP.sub [0, 1, 2] rfl) (hD.sub [0, 1, 2] (by decide) rfl) (show ∀ i, i < n → g i = dg i from fun i hi2 => hI.2 i (by omega))
  · skip
    have hi : i < n := ge_f (n := n) c_4 (by have := hI.1; omega)
    refine lv_aload_n hx hb dX4_digestOut_7 rfl (lv_at hl 0 rfl) ?_
    refine va_get (D := G.1) (ci := 4) (v := .ref (ad 16)) (C := RX4) (T := TX4) (N := 29) hx hb htu iwX4 hown hK.1 hP 0 rfl rfl 16 (by decide) (htu _ uF_X4_57) (fun _ h9 => h9) rfl dX4_digestOut_8 ?_
    refine lv_iload_n hx hb dX4_digestOut_11 rfl (lv_at hl 2 rfl) ?_
    refine lv_aload_n hx hb dX4_digestOut_12 rfl (lv_at hl 0 rfl) ?_
    refine va_get (D := G.1) (ci := 4) (v := .ref (ad 15)) (C := RX4) (T := TX4) (N := 29) hx hb htu iwX4 hown hK.1 hP 0 rfl rfl 15 (by decide) (htu _ uF_X4_54) (fun _ h9 => h9) rfl dX4_digestOut_13 ?_
    refine lv_iload_n hx hb dX4_digestOut_16 rfl (lv_at hl 2 rfl) ?_
    refine g_iald hx hb hK.1 hP 1 1 rfl rfl ⟨by omega, by decide⟩ dX4_digestOut_17 ?_
    refine lv_topi (fun v_1 ev_1 => ?_)
    refine g_iast hx hb hK.1 hP hD hS 2 1 rfl rfl ⟨by omega, by decide⟩ dX4_digestOut_18 (fun H locs hP hD hS => ?_)
    obtain ⟨g_2, eg_2⟩ : ∃ gq9 : Nat → Int32, gq9 = upd g i v_1 := ⟨_, rfl⟩
    rw [← eg_2] at hP hD
    have hP : va_P G.1 vwCl [(o, .inr (4, mF ad sz1 osz th hsz)), (ad 15, .inl (G.2.1 1, 64, .inl dg)), (ad 16, .inl (G.2.1 1, 16320, .inl g_2))] H := hP
    have hD : va_D A [(o, .inr (4, mF ad sz1 osz th hsz)), (ad 15, .inl (G.2.1 1, 64, .inl dg)), (ad 16, .inl (G.2.1 1, 16320, .inl g_2))] := hD
    refine lv_iinc (v := nI (i + 1)) (lv' := [(2, .int (nI (i + 1))), (0, .ref o), (1, .int (nI n))]) hx hb dX4_digestOut_19 hl (k := 2) rfl (nI_1 i) (by decide) rfl (fun ls hl => ?_)
    refine lv_goto (tgt := 2) hx hb dX4_digestOut_22 (by decide) ?_
    exact ih_2 (i + 1, g_2) (show (i + 1) ≤ n ∧ ∀ x, x < (i + 1) → g_2 x = dg x from ⟨hi, upI hI.2 eg_2 ev_1⟩) (by show n - (i + 1) < n - i; omega) _ _ _ (hP.sub [0, 1, 2] rfl) (hD.sub [0, 1, 2] (by decide) rfl) hS (lv_sub hl [1, 2, 0] rfl)
