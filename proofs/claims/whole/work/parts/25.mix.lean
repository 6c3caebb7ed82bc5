/-! contracts: Hash, blocks -/
theorem lyU4 {bf : Nat → Int32} {t i : Nat} {g g' : Nat → Int32} {wd : Int32} (hI : t ≤ 16 ∧ ∀ j, j < t → g j = ly4 (oB bf) j 4) (ht : t < 16) (hJ : i ≤ 4 ∧ wd = ly4 (oB bf) t i) (hi : 4 ≤ i) (e : g' = upd g t wd) : t + 1 ≤ 16 ∧ ∀ j, j < t + 1 → g' j = ly4 (oB bf) j 4 := by
  refine ⟨ht, fun j hj => ?_⟩
  rcases Nat.lt_or_ge j t with h | h
  · rw [e, pk_un (by omega)]; exact hI.2 j h
  · have h1 : j = t := by omega
    have h2 : i = 4 := by omega
    rw [e, h1, pk_us, hJ.2, h2]
theorem sNU {bf : Nat → Int32} {t : Nat} {g g' : Nat → Int32} {v : Int32} (hI : 16 ≤ t ∧ t ≤ 64 ∧ ∀ j, j < t → g j = sN (oB bf) j) (ht : t < 64) (e : g' = upd g t v) (hv : v = s1I (g (t - 2)) + g (t - 7) + s0I (g (t - 15)) + g (t - 16)) : 16 ≤ t + 1 ∧ t + 1 ≤ 64 ∧ ∀ j, j < t + 1 → g' j = sN (oB bf) j := by
  obtain ⟨h0, h1, h2⟩ := hI
  refine ⟨by omega, ht, fun j hj => ?_⟩
  rcases Nat.lt_or_ge j t with h | h
  · rw [e, pk_un (by omega)]; exact h2 j h
  · have h3 : j = t := by omega
    rw [e, h3, pk_us, hv, sN_ge h0, h2 _ (by omega), h2 _ (by omega), h2 _ (by omega), h2 _ (by omega)]
theorem lyU8 {bf : Nat → Int32} {t i : Nat} {g g' : Nat → Int64} {wd : Int64} (hI : t ≤ 16 ∧ ∀ j, j < t → g j = ly8 (oB bf) j 8) (ht : t < 16) (hJ : i ≤ 8 ∧ wd = ly8 (oB bf) t i) (hi : 8 ≤ i) (e : g' = vp_updL g t wd) : t + 1 ≤ 16 ∧ ∀ j, j < t + 1 → g' j = ly8 (oB bf) j 8 := by
  refine ⟨ht, fun j hj => ?_⟩
  rcases Nat.lt_or_ge j t with h | h
  · rw [e, pk_uLn (by omega)]; exact hI.2 j h
  · have h1 : j = t := by omega
    have h2 : i = 8 := by omega
    rw [e, h1, pk_uLs, hJ.2, h2]
theorem sWU {bf : Nat → Int32} {t : Nat} {g g' : Nat → Int64} {v : Int64} (hI : 16 ≤ t ∧ t ≤ 80 ∧ ∀ j, j < t → g j = sW (oB bf) j) (ht : t < 80) (e : g' = vp_updL g t v) (hv : v = s1L (g (t - 2)) + g (t - 7) + s0L (g (t - 15)) + g (t - 16)) : 16 ≤ t + 1 ∧ t + 1 ≤ 80 ∧ ∀ j, j < t + 1 → g' j = sW (oB bf) j := by
  obtain ⟨h0, h1, h2⟩ := hI
  refine ⟨by omega, ht, fun j hj => ?_⟩
  rcases Nat.lt_or_ge j t with h | h
  · rw [e, pk_uLn (by omega)]; exact h2 j h
  · have h3 : j = t := by omega
    rw [e, h3, pk_uLs, hv, sW_ge h0, h2 _ (by omega), h2 _ (by omega), h2 _ (by omega), h2 _ (by omega)]
set_option maxHeartbeats 4000000 in
set_option maxRecDepth 100000 in
theorem c_X0_layNarrow (l : Launch) (G : GW) (sz : Nat) (a0 : Nat) (a1 : Nat) (a2 : Nat) (a3 : Nat) (a4 : Nat) (kk : Int32) (zz : Int32) (tt : Int64) (bf : Nat → Int32) (nf : Nat → Int32)  : Met l yX0_layNarrow (Cond.code yX0_layNarrow cX0_layNarrow 6 (none : Option FieldType) :: UW) ({ frames := 1, cells := 0, slots := 0, locals := 21 } : Room) (va_Pc [.ref a0] (gPre G [(a0, .inr (0, [.ref a1, .ref a2, .ref a3, .ref a4, .int kk, .int zz, .long tt])), (a2, .inl (G.2.1 0, 128, .inl bf)), (a3, .inl (G.2.1 1, 64, .inl nf))] sz)) (va_Qv (fun (nf' : Nat → Int32) => ∀ t, t < 64 → nf' t = sN (oB bf) t) (fun u => gPost G (va_A [(a0, .inr (0, [.ref a1, .ref a2, .ref a3, .ref a4, .int kk, .int zz, .long tt])), (a2, .inl (G.2.1 0, 128, .inl bf)), (a3, .inl (G.2.1 1, 64, .inl nf))] sz) ((fun (nf' : Nat → Int32) => ([(a0, .inr (0, [.ref a1, .ref a2, .ref a3, .ref a4, .int kk, .int zz, .long tt])), (a2, .inl (G.2.1 0, 128, .inl bf)), (a3, .inl (G.2.1 1, 64, .inl nf'))] : va_W)) u)) (va_A [(a0, .inr (0, [.ref a1, .ref a2, .ref a3, .ref a4, .int kk, .int zz, .long tt])), (a2, .inl (G.2.1 0, 128, .inl bf)), (a3, .inl (G.2.1 1, 64, .inl nf))] sz)) 0 0 (va_A [(a0, .inr (0, [.ref a1, .ref a2, .ref a3, .ref a4, .int kk, .int zz, .long tt])), (a2, .inl (G.2.1 0, 128, .inl bf)), (a3, .inl (G.2.1 1, 64, .inl nf))] sz) := by
  refine gM_of (Qf := fun A => va_Qv (fun (nf' : Nat → Int32) => ∀ t, t < 64 → nf' t = sN (oB bf) t) (fun u => gPost G A ((fun (nf' : Nat → Int32) => ([(a0, .inr (0, [.ref a1, .ref a2, .ref a3, .ref a4, .int kk, .int zz, .long tt])), (a2, .inl (G.2.1 0, 128, .inl bf)), (a3, .inl (G.2.1 1, 64, .inl nf'))] : va_W)) u)) A) (by decide) (Nat.le_of_ble_eq_true rfl) ?_
  intro p e s m below meth c A ls hx hb hml hr hown htu hlk hnm hA hP hD hS hK hZ hl
  have hown : s.vm.findClass RX0 = some m.cls := hown
  have hl : lv_has ls 6 [(0, .ref a0)] := hl
  refine lv_iconst (v := 0) hx hb dX0_layNarrow_0 (by decide) ?_
  refine lv_istore_n (lv' := [(1, .int 0), (0, .ref a0)]) hx hb dX0_layNarrow_1 rfl hl (by decide) rfl (fun ls hl => ?_)
  refine g_loop (σ := Nat × (Nat → Int32)) (G := G) (fun xq9 : Nat × (Nat → Int32) => [(a0, .inr (0, [.ref a1, .ref a2, .ref a3, .ref a4, .int kk, .int zz, .long tt])), (a2, .inl (G.2.1 0, 128, .inl bf)), (a3, .inl (G.2.1 1, 64, .inl xq9.2))]) (fun xq9 : Nat × (Nat → Int32) => [(0, .ref a0), (1, .int (nI xq9.1))]) (fun xq9 : Nat × (Nat → Int32) => xq9.1 ≤ 16 ∧ ∀ j, j < xq9.1 → xq9.2 j = ly4 (oB bf) j 4) (fun xq9 : Nat × (Nat → Int32) => 16 - xq9.1) ?_ (0, nf) (show 0 ≤ 16 ∧ ∀ j, j < 0 → nf j = ly4 (oB bf) j 4 from ⟨Nat.zero_le _, fun _ h => absurd h (Nat.not_lt_zero _)⟩) (hP.sub [0, 1, 2] rfl) (hD.sub [0, 1, 2] (by decide) rfl) hS (lv_sub hl [1, 0] rfl)
  clear hP hD hS hl
  intro x hxI_2 ih_2 H locs ls hP hD hS hl
  obtain ⟨t, g⟩ := x
  have hI : t ≤ 16 ∧ ∀ j, j < t → g j = ly4 (oB bf) j 4 := hxI_2
  have hP : va_P G.1 vwCl [(a0, .inr (0, [.ref a1, .ref a2, .ref a3, .ref a4, .int kk, .int zz, .long tt])), (a2, .inl (G.2.1 0, 128, .inl bf)), (a3, .inl (G.2.1 1, 64, .inl g))] H := hP
  have hD : va_D A [(a0, .inr (0, [.ref a1, .ref a2, .ref a3, .ref a4, .int kk, .int zz, .long tt])), (a2, .inl (G.2.1 0, 128, .inl bf)), (a3, .inl (G.2.1 1, 64, .inl g))] := hD
  have hl : lv_has ls 6 [(0, .ref a0), (1, .int (nI t))] := hl
  refine lv_iload_n hx hb dX0_layNarrow_2 rfl (lv_at hl 1 rfl) ?_
  refine lv_bipush (v := 16) hx hb dX0_layNarrow_3 (by decide) ?_
  refine lv_icmp_ge (tgt := 56) hx hb dX0_layNarrow_5 (by decide) (fun c_5 => ?_) (fun c_5 => ?_)
  · skip
    have ht : 16 ≤ t := ge_t (n := 16) c_5 (by decide)
    refine lv_bipush (v := 16) hx hb dX0_layNarrow_56 (by decide) ?_
    refine lv_istore_n (lv' := [(1, .int 16), (0, .ref a0)]) hx hb dX0_layNarrow_58 rfl hl (by decide) rfl (fun ls hl => ?_)
    refine g_loop (σ := Nat × (Nat → Int32)) (G := G) (fun xq9 : Nat × (Nat → Int32) => [(a0, .inr (0, [.ref a1, .ref a2, .ref a3, .ref a4, .int kk, .int zz, .long tt])), (a2, .inl (G.2.1 0, 128, .inl bf)), (a3, .inl (G.2.1 1, 64, .inl xq9.2))]) (fun xq9 : Nat × (Nat → Int32) => [(0, .ref a0), (1, .int (nI xq9.1))]) (fun xq9 : Nat × (Nat → Int32) => 16 ≤ xq9.1 ∧ xq9.1 ≤ 64 ∧ ∀ j, j < xq9.1 → xq9.2 j = sN (oB bf) j) (fun xq9 : Nat × (Nat → Int32) => 64 - xq9.1) ?_ (16, g) (show 16 ≤ 16 ∧ 16 ≤ 64 ∧ ∀ j, j < 16 → g j = sN (oB bf) j from ⟨Nat.le_refl _, by decide, fun j hj => by rw [hI.2 j (by omega), sN_lt hj]⟩) (hP.sub [0, 1, 2] rfl) (hD.sub [0, 1, 2] (by decide) rfl) hS (lv_sub hl [1, 0] rfl)
    clear hP hD hS hl
    intro x hxI_59 ih_59 H locs ls hP hD hS hl
    obtain ⟨t, g⟩ := x
    have hI : 16 ≤ t ∧ t ≤ 64 ∧ ∀ j, j < t → g j = sN (oB bf) j := hxI_59
    have hP : va_P G.1 vwCl [(a0, .inr (0, [.ref a1, .ref a2, .ref a3, .ref a4, .int kk, .int zz, .long tt])), (a2, .inl (G.2.1 0, 128, .inl bf)), (a3, .inl (G.2.1 1, 64, .inl g))] H := hP
    have hD : va_D A [(a0, .inr (0, [.ref a1, .ref a2, .ref a3, .ref a4, .int kk, .int zz, .long tt])), (a2, .inl (G.2.1 0, 128, .inl bf)), (a3, .inl (G.2.1 1, 64, .inl g))] := hD
    have hl : lv_has ls 6 [(0, .ref a0), (1, .int (nI t))] := hl
    refine lv_iload_n hx hb dX0_layNarrow_59 rfl (lv_at hl 1 rfl) ?_
    refine lv_bipush (v := 64) hx hb dX0_layNarrow_60 (by decide) ?_
    refine lv_icmp_ge (tgt := 160) hx hb dX0_layNarrow_62 (by decide) (fun c_62 => ?_) (fun c_62 => ?_)
    · skip
      have ht : 64 ≤ t := ge_t (n := 64) c_62 (by decide)
      exact gret_v hx hb hr hlk dX0_layNarrow_160 hS g (hP.sub [0, 1, 2] rfl) (hD.sub [0, 1, 2] (by decide) rfl) (show ∀ t, t < 64 → g t = sN (oB bf) t from fun j hj => hI.2.2 j (by omega))
    · skip
      have ht : t < 64 := ge_f (n := 64) c_62 (by omega)
      refine lv_aload_n hx hb dX0_layNarrow_65 rfl (lv_at hl 0 rfl) ?_
      refine va_get (D := G.1) (ci := 0) (v := .ref a3) (C := RX0) (T := TX0) (N := 7) hx hb htu iwX0 hown hK.1 hP 0 rfl rfl 2 (by decide) (htu _ uF_X0_19) (fun _ h9 => h9) rfl dX0_layNarrow_66 ?_
      refine lv_iload_n hx hb dX0_layNarrow_69 rfl (lv_at hl 1 rfl) ?_
      refine lv_bipush (v := 15) hx hb dX0_layNarrow_70 (by decide) ?_
      refine lv_isub hx hb dX0_layNarrow_72 ?_
      refine g_toi (y := nI (t - 15)) (pk_sub (b := 15) (by omega)) ?_
      refine g_iald hx hb hK.1 hP 2 1 rfl rfl ⟨by omega, by decide⟩ dX0_layNarrow_73 ?_
      refine lv_topi (fun v_1 ev_1 => ?_)
      refine lv_istore_n (lv' := [(2, .int v_1), (0, .ref a0), (1, .int (nI t))]) hx hb dX0_layNarrow_74 rfl hl (by decide) rfl (fun ls hl => ?_)
      refine lv_aload_n hx hb dX0_layNarrow_75 rfl (lv_at hl 1 rfl) ?_
      refine va_get (D := G.1) (ci := 0) (v := .ref a3) (C := RX0) (T := TX0) (N := 7) hx hb htu iwX0 hown hK.1 hP 0 rfl rfl 2 (by decide) (htu _ uF_X0_19) (fun _ h9 => h9) rfl dX0_layNarrow_76 ?_
      refine lv_iload_n hx hb dX0_layNarrow_79 rfl (lv_at hl 2 rfl) ?_
      refine lv_iconst (v := 2) hx hb dX0_layNarrow_80 (by decide) ?_
      refine lv_isub hx hb dX0_layNarrow_81 ?_
      refine g_toi (y := nI (t - 2)) (pk_sub (b := 2) (by omega)) ?_
      refine g_iald hx hb hK.1 hP 2 1 rfl rfl ⟨by omega, by decide⟩ dX0_layNarrow_82 ?_
      refine lv_topi (fun v_2 ev_2 => ?_)
      refine lv_istore_n (lv' := [(3, .int v_2), (2, .int v_1), (0, .ref a0), (1, .int (nI t))]) hx hb dX0_layNarrow_83 rfl hl (by decide) rfl (fun ls hl => ?_)
      refine lv_iload_n hx hb dX0_layNarrow_84 rfl (lv_at hl 1 rfl) ?_
      refine lv_bipush (v := 7) hx hb dX0_layNarrow_85 (by decide) ?_
      refine g_calli (g_runS (As := [.int v_1, .int 7]) (rest := []) ⟨hx, hb, hml, hown, htu⟩ (c_J6_rotateRight_7cf53 l G _ v_1 7 ) uM_X0_101 ok_J6_rotateRight_7cf53 uA_J6_rotateRight_7cf53 rfl rfl ⟨Nat.le_of_ble_eq_true rfl, Nat.le_of_ble_eq_true rfl⟩ hK hP hD hS hA hZ [] rfl rfl rfl hl.1 rfl (Nat.le_of_ble_eq_true rfl) dX0_layNarrow_87 ⟨Nat.le_of_ble_eq_true rfl, Nat.le_of_ble_eq_true rfl⟩) hP hD hS hA [] rfl (fun r_3 u H locs hw_4 hP hD hS => ?_)
      have hw_4 : r_3 = rotI v_1 7 := hw_4
      subst hw_4
      have hP : va_P G.1 vwCl [(a0, .inr (0, [.ref a1, .ref a2, .ref a3, .ref a4, .int kk, .int zz, .long tt])), (a2, .inl (G.2.1 0, 128, .inl bf)), (a3, .inl (G.2.1 1, 64, .inl g))] H := hP
      have hD : va_D A [(a0, .inr (0, [.ref a1, .ref a2, .ref a3, .ref a4, .int kk, .int zz, .long tt])), (a2, .inl (G.2.1 0, 128, .inl bf)), (a3, .inl (G.2.1 1, 64, .inl g))] := hD
      refine lv_iload_n hx hb dX0_layNarrow_90 rfl (lv_at hl 1 rfl) ?_
      refine lv_bipush (v := 18) hx hb dX0_layNarrow_91 (by decide) ?_
      refine g_calli (g_runS (As := [.int v_1, .int 18]) (rest := [.int (rotI v_1 7)]) ⟨hx, hb, hml, hown, htu⟩ (c_J6_rotateRight_7cf53 l G _ v_1 18 ) uM_X0_101 ok_J6_rotateRight_7cf53 uA_J6_rotateRight_7cf53 rfl rfl ⟨Nat.le_of_ble_eq_true rfl, Nat.le_of_ble_eq_true rfl⟩ hK hP hD hS hA hZ [] rfl rfl rfl hl.1 rfl (Nat.le_of_ble_eq_true rfl) dX0_layNarrow_93 ⟨Nat.le_of_ble_eq_true rfl, Nat.le_of_ble_eq_true rfl⟩) hP hD hS hA [] rfl (fun r_5 u H locs hw_6 hP hD hS => ?_)
      have hw_6 : r_5 = rotI v_1 18 := hw_6
      subst hw_6
      have hP : va_P G.1 vwCl [(a0, .inr (0, [.ref a1, .ref a2, .ref a3, .ref a4, .int kk, .int zz, .long tt])), (a2, .inl (G.2.1 0, 128, .inl bf)), (a3, .inl (G.2.1 1, 64, .inl g))] H := hP
      have hD : va_D A [(a0, .inr (0, [.ref a1, .ref a2, .ref a3, .ref a4, .int kk, .int zz, .long tt])), (a2, .inl (G.2.1 0, 128, .inl bf)), (a3, .inl (G.2.1 1, 64, .inl g))] := hD
      refine lv_ixor hx hb dX0_layNarrow_96 ?_
      refine lv_iload_n hx hb dX0_layNarrow_97 rfl (lv_at hl 1 rfl) ?_
      refine lv_iconst (v := 3) hx hb dX0_layNarrow_98 (by decide) ?_
      refine lv_iushr (v := ushI v_1 3) hx hb dX0_layNarrow_99 rfl ?_
      refine lv_ixor hx hb dX0_layNarrow_100 ?_
      refine lv_topi (fun v_7 ev_7 => ?_)
      refine lv_istore (lv' := [(4, .int v_7), (3, .int v_2), (2, .int v_1), (0, .ref a0), (1, .int (nI t))]) hx hb dX0_layNarrow_101 hl (by decide) rfl (fun ls hl => ?_)
      refine lv_iload_n hx hb dX0_layNarrow_103 rfl (lv_at hl 1 rfl) ?_
      refine lv_bipush (v := 17) hx hb dX0_layNarrow_104 (by decide) ?_
      refine g_calli (g_runS (As := [.int v_2, .int 17]) (rest := []) ⟨hx, hb, hml, hown, htu⟩ (c_J6_rotateRight_7cf53 l G _ v_2 17 ) uM_X0_101 ok_J6_rotateRight_7cf53 uA_J6_rotateRight_7cf53 rfl rfl ⟨Nat.le_of_ble_eq_true rfl, Nat.le_of_ble_eq_true rfl⟩ hK hP hD hS hA hZ [] rfl rfl rfl hl.1 rfl (Nat.le_of_ble_eq_true rfl) dX0_layNarrow_106 ⟨Nat.le_of_ble_eq_true rfl, Nat.le_of_ble_eq_true rfl⟩) hP hD hS hA [] rfl (fun r_8 u H locs hw_9 hP hD hS => ?_)
      have hw_9 : r_8 = rotI v_2 17 := hw_9
      subst hw_9
      have hP : va_P G.1 vwCl [(a0, .inr (0, [.ref a1, .ref a2, .ref a3, .ref a4, .int kk, .int zz, .long tt])), (a2, .inl (G.2.1 0, 128, .inl bf)), (a3, .inl (G.2.1 1, 64, .inl g))] H := hP
      have hD : va_D A [(a0, .inr (0, [.ref a1, .ref a2, .ref a3, .ref a4, .int kk, .int zz, .long tt])), (a2, .inl (G.2.1 0, 128, .inl bf)), (a3, .inl (G.2.1 1, 64, .inl g))] := hD
      refine lv_iload_n hx hb dX0_layNarrow_109 rfl (lv_at hl 1 rfl) ?_
      refine lv_bipush (v := 19) hx hb dX0_layNarrow_110 (by decide) ?_
      refine g_calli (g_runS (As := [.int v_2, .int 19]) (rest := [.int (rotI v_2 17)]) ⟨hx, hb, hml, hown, htu⟩ (c_J6_rotateRight_7cf53 l G _ v_2 19 ) uM_X0_101 ok_J6_rotateRight_7cf53 uA_J6_rotateRight_7cf53 rfl rfl ⟨Nat.le_of_ble_eq_true rfl, Nat.le_of_ble_eq_true rfl⟩ hK hP hD hS hA hZ [] rfl rfl rfl hl.1 rfl (Nat.le_of_ble_eq_true rfl) dX0_layNarrow_112 ⟨Nat.le_of_ble_eq_true rfl, Nat.le_of_ble_eq_true rfl⟩) hP hD hS hA [] rfl (fun r_10 u H locs hw_11 hP hD hS => ?_)
      have hw_11 : r_10 = rotI v_2 19 := hw_11
      subst hw_11
      have hP : va_P G.1 vwCl [(a0, .inr (0, [.ref a1, .ref a2, .ref a3, .ref a4, .int kk, .int zz, .long tt])), (a2, .inl (G.2.1 0, 128, .inl bf)), (a3, .inl (G.2.1 1, 64, .inl g))] H := hP
      have hD : va_D A [(a0, .inr (0, [.ref a1, .ref a2, .ref a3, .ref a4, .int kk, .int zz, .long tt])), (a2, .inl (G.2.1 0, 128, .inl bf)), (a3, .inl (G.2.1 1, 64, .inl g))] := hD
      refine lv_ixor hx hb dX0_layNarrow_115 ?_
      refine lv_iload_n hx hb dX0_layNarrow_116 rfl (lv_at hl 1 rfl) ?_
      refine lv_bipush (v := 10) hx hb dX0_layNarrow_117 (by decide) ?_
      refine lv_iushr (v := ushI v_2 10) hx hb dX0_layNarrow_119 rfl ?_
      refine lv_ixor hx hb dX0_layNarrow_120 ?_
      refine lv_topi (fun v_12 ev_12 => ?_)
      refine lv_istore (lv' := [(5, .int v_12), (4, .int v_7), (3, .int v_2), (2, .int v_1), (0, .ref a0), (1, .int (nI t))]) hx hb dX0_layNarrow_121 hl (by decide) rfl (fun ls hl => ?_)
      refine lv_aload_n hx hb dX0_layNarrow_123 rfl (lv_at hl 4 rfl) ?_
      refine va_get (D := G.1) (ci := 0) (v := .ref a3) (C := RX0) (T := TX0) (N := 7) hx hb htu iwX0 hown hK.1 hP 0 rfl rfl 2 (by decide) (htu _ uF_X0_19) (fun _ h9 => h9) rfl dX0_layNarrow_124 ?_
      refine lv_iload_n hx hb dX0_layNarrow_127 rfl (lv_at hl 5 rfl) ?_
      refine lv_iload hx hb dX0_layNarrow_128 (lv_at hl 0 rfl) ?_
      refine lv_aload_n hx hb dX0_layNarrow_130 rfl (lv_at hl 4 rfl) ?_
      refine va_get (D := G.1) (ci := 0) (v := .ref a3) (C := RX0) (T := TX0) (N := 7) hx hb htu iwX0 hown hK.1 hP 0 rfl rfl 2 (by decide) (htu _ uF_X0_19) (fun _ h9 => h9) rfl dX0_layNarrow_131 ?_
      refine lv_iload_n hx hb dX0_layNarrow_134 rfl (lv_at hl 5 rfl) ?_
      refine lv_bipush (v := 7) hx hb dX0_layNarrow_135 (by decide) ?_
      refine lv_isub hx hb dX0_layNarrow_137 ?_
      refine g_toi (y := nI (t - 7)) (pk_sub (b := 7) (by omega)) ?_
      refine g_iald hx hb hK.1 hP 2 1 rfl rfl ⟨by omega, by decide⟩ dX0_layNarrow_138 ?_
      refine lv_iadd hx hb dX0_layNarrow_139 ?_
      refine lv_iload hx hb dX0_layNarrow_140 (lv_at hl 1 rfl) ?_
      refine lv_iadd hx hb dX0_layNarrow_142 ?_
      refine lv_aload_n hx hb dX0_layNarrow_143 rfl (lv_at hl 4 rfl) ?_
      refine va_get (D := G.1) (ci := 0) (v := .ref a3) (C := RX0) (T := TX0) (N := 7) hx hb htu iwX0 hown hK.1 hP 0 rfl rfl 2 (by decide) (htu _ uF_X0_19) (fun _ h9 => h9) rfl dX0_layNarrow_144 ?_
      refine lv_iload_n hx hb dX0_layNarrow_147 rfl (lv_at hl 5 rfl) ?_
      refine lv_bipush (v := 16) hx hb dX0_layNarrow_148 (by decide) ?_
      refine lv_isub hx hb dX0_layNarrow_150 ?_
      refine g_toi (y := nI (t - 16)) (pk_sub (b := 16) (by omega)) ?_
      refine g_iald hx hb hK.1 hP 2 1 rfl rfl ⟨by omega, by decide⟩ dX0_layNarrow_151 ?_
      refine lv_iadd hx hb dX0_layNarrow_152 ?_
      refine lv_topi (fun v_13 ev_13 => ?_)
      refine g_iast hx hb hK.1 hP hD hS 2 1 rfl rfl ⟨by omega, by decide⟩ dX0_layNarrow_153 (fun H locs hP hD hS => ?_)
      obtain ⟨g_14, eg_14⟩ : ∃ gq9 : Nat → Int32, gq9 = upd g t v_13 := ⟨_, rfl⟩
      rw [← eg_14] at hP hD
      have hP : va_P G.1 vwCl [(a0, .inr (0, [.ref a1, .ref a2, .ref a3, .ref a4, .int kk, .int zz, .long tt])), (a2, .inl (G.2.1 0, 128, .inl bf)), (a3, .inl (G.2.1 1, 64, .inl g_14))] H := hP
      have hD : va_D A [(a0, .inr (0, [.ref a1, .ref a2, .ref a3, .ref a4, .int kk, .int zz, .long tt])), (a2, .inl (G.2.1 0, 128, .inl bf)), (a3, .inl (G.2.1 1, 64, .inl g_14))] := hD
      refine lv_iinc (v := nI (t + 1)) (lv' := [(1, .int (nI (t + 1))), (5, .int v_12), (4, .int v_7), (3, .int v_2), (2, .int v_1), (0, .ref a0)]) hx hb dX0_layNarrow_154 hl (k := 5) rfl (nI_1 t) (by decide) rfl (fun ls hl => ?_)
      refine lv_goto (tgt := 59) hx hb dX0_layNarrow_157 (by decide) ?_
      exact ih_59 (t + 1, g_14) (show 16 ≤ (t + 1) ∧ (t + 1) ≤ 64 ∧ ∀ j, j < (t + 1) → g_14 j = sN (oB bf) j from sNU hI ht eg_14 (by subst_vars; rfl)) (by show 64 - (t + 1) < 64 - t; omega) _ _ _ (hP.sub [0, 1, 2] rfl) (hD.sub [0, 1, 2] (by decide) rfl) hS (lv_sub hl [5, 0] rfl)
  · skip
    have ht : t < 16 := ge_f (n := 16) c_5 (by omega)
    refine lv_iconst (v := 0) hx hb dX0_layNarrow_8 (by decide) ?_
    refine lv_istore_n (lv' := [(2, .int 0), (0, .ref a0), (1, .int (nI t))]) hx hb dX0_layNarrow_9 rfl hl (by decide) rfl (fun ls hl => ?_)
    refine lv_iconst (v := 0) hx hb dX0_layNarrow_10 (by decide) ?_
    refine lv_istore_n (lv' := [(3, .int 0), (2, .int 0), (0, .ref a0), (1, .int (nI t))]) hx hb dX0_layNarrow_11 rfl hl (by decide) rfl (fun ls hl => ?_)
    refine g_loop (σ := Nat × Int32) (G := G) (fun xq9 : Nat × Int32 => [(a0, .inr (0, [.ref a1, .ref a2, .ref a3, .ref a4, .int kk, .int zz, .long tt])), (a2, .inl (G.2.1 0, 128, .inl bf)), (a3, .inl (G.2.1 1, 64, .inl g))]) (fun xq9 : Nat × Int32 => [(0, .ref a0), (1, .int (nI t)), (2, .int xq9.2), (3, .int (nI xq9.1))]) (fun xq9 : Nat × Int32 => xq9.1 ≤ 4 ∧ xq9.2 = ly4 (oB bf) t xq9.1) (fun xq9 : Nat × Int32 => 4 - xq9.1) ?_ (0, 0) (show 0 ≤ 4 ∧ 0 = ly4 (oB bf) t 0 from ⟨Nat.zero_le _, rfl⟩) (hP.sub [0, 1, 2] rfl) (hD.sub [0, 1, 2] (by decide) rfl) hS (lv_sub hl [2, 3, 1, 0] rfl)
    clear hP hD hS hl
    intro x hxI_12 ih_12 H locs ls hP hD hS hl
    obtain ⟨i, wd⟩ := x
    have hJ : i ≤ 4 ∧ wd = ly4 (oB bf) t i := hxI_12
    have hP : va_P G.1 vwCl [(a0, .inr (0, [.ref a1, .ref a2, .ref a3, .ref a4, .int kk, .int zz, .long tt])), (a2, .inl (G.2.1 0, 128, .inl bf)), (a3, .inl (G.2.1 1, 64, .inl g))] H := hP
    have hD : va_D A [(a0, .inr (0, [.ref a1, .ref a2, .ref a3, .ref a4, .int kk, .int zz, .long tt])), (a2, .inl (G.2.1 0, 128, .inl bf)), (a3, .inl (G.2.1 1, 64, .inl g))] := hD
    have hl : lv_has ls 6 [(0, .ref a0), (1, .int (nI t)), (2, .int wd), (3, .int (nI i))] := hl
    refine lv_iload_n hx hb dX0_layNarrow_12 rfl (lv_at hl 3 rfl) ?_
    refine lv_iconst (v := 4) hx hb dX0_layNarrow_13 (by decide) ?_
    refine lv_icmp_ge (tgt := 43) hx hb dX0_layNarrow_14 (by decide) (fun c_14 => ?_) (fun c_14 => ?_)
    · skip
      have hi : 4 ≤ i := ge_t (n := 4) c_14 (by decide)
      refine lv_aload_n hx hb dX0_layNarrow_43 rfl (lv_at hl 0 rfl) ?_
      refine va_get (D := G.1) (ci := 0) (v := .ref a3) (C := RX0) (T := TX0) (N := 7) hx hb htu iwX0 hown hK.1 hP 0 rfl rfl 2 (by decide) (htu _ uF_X0_19) (fun _ h9 => h9) rfl dX0_layNarrow_44 ?_
      refine lv_iload_n hx hb dX0_layNarrow_47 rfl (lv_at hl 1 rfl) ?_
      refine lv_iload_n hx hb dX0_layNarrow_48 rfl (lv_at hl 2 rfl) ?_
      refine g_iast hx hb hK.1 hP hD hS 2 1 rfl rfl ⟨by omega, by decide⟩ dX0_layNarrow_49 (fun H locs hP hD hS => ?_)
      obtain ⟨g_15, eg_15⟩ : ∃ gq9 : Nat → Int32, gq9 = upd g t wd := ⟨_, rfl⟩
      rw [← eg_15] at hP hD
      have hP : va_P G.1 vwCl [(a0, .inr (0, [.ref a1, .ref a2, .ref a3, .ref a4, .int kk, .int zz, .long tt])), (a2, .inl (G.2.1 0, 128, .inl bf)), (a3, .inl (G.2.1 1, 64, .inl g_15))] H := hP
      have hD : va_D A [(a0, .inr (0, [.ref a1, .ref a2, .ref a3, .ref a4, .int kk, .int zz, .long tt])), (a2, .inl (G.2.1 0, 128, .inl bf)), (a3, .inl (G.2.1 1, 64, .inl g_15))] := hD
      refine lv_iinc (v := nI (t + 1)) (lv' := [(1, .int (nI (t + 1))), (0, .ref a0), (2, .int wd), (3, .int (nI i))]) hx hb dX0_layNarrow_50 hl (k := 1) rfl (nI_1 t) (by decide) rfl (fun ls hl => ?_)
      refine lv_goto (tgt := 2) hx hb dX0_layNarrow_53 (by decide) ?_
      exact ih_2 (t + 1, g_15) (show (t + 1) ≤ 16 ∧ ∀ j, j < (t + 1) → g_15 j = ly4 (oB bf) j 4 from lyU4 hI ht hJ hi eg_15) (by show 16 - (t + 1) < 16 - t; omega) _ _ _ (hP.sub [0, 1, 2] rfl) (hD.sub [0, 1, 2] (by decide) rfl) hS (lv_sub hl [1, 0] rfl)
    · skip
      have hi : i < 4 := ge_f (n := 4) c_14 (by omega)
      refine lv_iload_n hx hb dX0_layNarrow_17 rfl (lv_at hl 2 rfl) ?_
      refine lv_bipush (v := 8) hx hb dX0_layNarrow_18 (by decide) ?_
      refine lv_ishl hx hb dX0_layNarrow_20 ?_
      refine lv_aload_n hx hb dX0_layNarrow_21 rfl (lv_at hl 0 rfl) ?_
      refine va_get (D := G.1) (ci := 0) (v := .ref a2) (C := RX0) (T := TX0) (N := 7) hx hb htu iwX0 hown hK.1 hP 0 rfl rfl 1 (by decide) (htu _ uF_X0_15) (fun _ h9 => h9) rfl dX0_layNarrow_22 ?_
      refine lv_iconst (v := nI 4) hx hb dX0_layNarrow_25 (by decide) ?_
      refine lv_iload_n hx hb dX0_layNarrow_26 rfl (lv_at hl 1 rfl) ?_
      refine lv_imul hx hb dX0_layNarrow_27 ?_
      refine lv_iload_n hx hb dX0_layNarrow_28 rfl (lv_at hl 3 rfl) ?_
      refine lv_iadd hx hb dX0_layNarrow_29 ?_
      refine g_toi (y := nI (4 * t + i)) (ix_ma 4 t i) ?_
      refine g_bald hx hb hK.1 hP 1 0 rfl rfl ⟨by omega, by decide⟩ dX0_layNarrow_30 ?_
      refine lv_sipush (v := 255) hx hb dX0_layNarrow_31 (by decide) ?_
      refine lv_iand hx hb dX0_layNarrow_34 ?_
      refine lv_ior hx hb dX0_layNarrow_35 ?_
      refine lv_topi (fun v_16 ev_16 => ?_)
      refine lv_istore_n (lv' := [(2, .int v_16), (0, .ref a0), (1, .int (nI t)), (3, .int (nI i))]) hx hb dX0_layNarrow_36 rfl hl (by decide) rfl (fun ls hl => ?_)
      refine lv_iinc (v := nI (i + 1)) (lv' := [(3, .int (nI (i + 1))), (2, .int v_16), (0, .ref a0), (1, .int (nI t))]) hx hb dX0_layNarrow_37 hl (k := 3) rfl (nI_1 i) (by decide) rfl (fun ls hl => ?_)
      refine lv_goto (tgt := 12) hx hb dX0_layNarrow_40 (by decide) ?_
      exact ih_12 (i + 1, v_16) (show (i + 1) ≤ 4 ∧ v_16 = ly4 (oB bf) t (i + 1) from ⟨by omega, by rw [ev_16, hJ.2]; rfl⟩) (by show 4 - (i + 1) < 4 - i; omega) _ _ _ (hP.sub [0, 1, 2] rfl) (hD.sub [0, 1, 2] (by decide) rfl) hS (lv_sub hl [2, 3, 1, 0] rfl)
set_option maxHeartbeats 4000000 in
set_option maxRecDepth 100000 in
theorem c_X0_layWide (l : Launch) (G : GW) (sz : Nat) (a0 : Nat) (a1 : Nat) (a2 : Nat) (a3 : Nat) (a4 : Nat) (kk : Int32) (zz : Int32) (tt : Int64) (bf : Nat → Int32) (nf : Nat → Int64)  : Met l yX0_layWide (Cond.code yX0_layWide cX0_layWide 10 (none : Option FieldType) :: UW) ({ frames := 1, cells := 0, slots := 0, locals := 22 } : Room) (va_Pc [.ref a0] (gPre G [(a0, .inr (0, [.ref a1, .ref a2, .ref a3, .ref a4, .int kk, .int zz, .long tt])), (a2, .inl (G.2.1 0, 128, .inl bf)), (a4, .inl (G.2.1 2, 80, .inr (.inl nf)))] sz)) (va_Qv (fun (nf' : Nat → Int64) => ∀ t, t < 80 → nf' t = sW (oB bf) t) (fun u => gPost G (va_A [(a0, .inr (0, [.ref a1, .ref a2, .ref a3, .ref a4, .int kk, .int zz, .long tt])), (a2, .inl (G.2.1 0, 128, .inl bf)), (a4, .inl (G.2.1 2, 80, .inr (.inl nf)))] sz) ((fun (nf' : Nat → Int64) => ([(a0, .inr (0, [.ref a1, .ref a2, .ref a3, .ref a4, .int kk, .int zz, .long tt])), (a2, .inl (G.2.1 0, 128, .inl bf)), (a4, .inl (G.2.1 2, 80, .inr (.inl nf')))] : va_W)) u)) (va_A [(a0, .inr (0, [.ref a1, .ref a2, .ref a3, .ref a4, .int kk, .int zz, .long tt])), (a2, .inl (G.2.1 0, 128, .inl bf)), (a4, .inl (G.2.1 2, 80, .inr (.inl nf)))] sz)) 0 0 (va_A [(a0, .inr (0, [.ref a1, .ref a2, .ref a3, .ref a4, .int kk, .int zz, .long tt])), (a2, .inl (G.2.1 0, 128, .inl bf)), (a4, .inl (G.2.1 2, 80, .inr (.inl nf)))] sz) := by
  refine gM_of (Qf := fun A => va_Qv (fun (nf' : Nat → Int64) => ∀ t, t < 80 → nf' t = sW (oB bf) t) (fun u => gPost G A ((fun (nf' : Nat → Int64) => ([(a0, .inr (0, [.ref a1, .ref a2, .ref a3, .ref a4, .int kk, .int zz, .long tt])), (a2, .inl (G.2.1 0, 128, .inl bf)), (a4, .inl (G.2.1 2, 80, .inr (.inl nf')))] : va_W)) u)) A) (by decide) (Nat.le_of_ble_eq_true rfl) ?_
  intro p e s m below meth c A ls hx hb hml hr hown htu hlk hnm hA hP hD hS hK hZ hl
  have hown : s.vm.findClass RX0 = some m.cls := hown
  have hl : lv_has ls 10 [(0, .ref a0)] := hl
  refine lv_iconst (v := 0) hx hb dX0_layWide_0 (by decide) ?_
  refine lv_istore_n (lv' := [(1, .int 0), (0, .ref a0)]) hx hb dX0_layWide_1 rfl hl (by decide) rfl (fun ls hl => ?_)
  refine g_loop (σ := Nat × (Nat → Int64)) (G := G) (fun xq9 : Nat × (Nat → Int64) => [(a0, .inr (0, [.ref a1, .ref a2, .ref a3, .ref a4, .int kk, .int zz, .long tt])), (a2, .inl (G.2.1 0, 128, .inl bf)), (a4, .inl (G.2.1 2, 80, .inr (.inl xq9.2)))]) (fun xq9 : Nat × (Nat → Int64) => [(0, .ref a0), (1, .int (nI xq9.1))]) (fun xq9 : Nat × (Nat → Int64) => xq9.1 ≤ 16 ∧ ∀ j, j < xq9.1 → xq9.2 j = ly8 (oB bf) j 8) (fun xq9 : Nat × (Nat → Int64) => 16 - xq9.1) ?_ (0, nf) (show 0 ≤ 16 ∧ ∀ j, j < 0 → nf j = ly8 (oB bf) j 8 from ⟨Nat.zero_le _, fun _ h => absurd h (Nat.not_lt_zero _)⟩) (hP.sub [0, 1, 2] rfl) (hD.sub [0, 1, 2] (by decide) rfl) hS (lv_sub hl [1, 0] rfl)
  clear hP hD hS hl
  intro x hxI_2 ih_2 H locs ls hP hD hS hl
  obtain ⟨t, g⟩ := x
  have hI : t ≤ 16 ∧ ∀ j, j < t → g j = ly8 (oB bf) j 8 := hxI_2
  have hP : va_P G.1 vwCl [(a0, .inr (0, [.ref a1, .ref a2, .ref a3, .ref a4, .int kk, .int zz, .long tt])), (a2, .inl (G.2.1 0, 128, .inl bf)), (a4, .inl (G.2.1 2, 80, .inr (.inl g)))] H := hP
  have hD : va_D A [(a0, .inr (0, [.ref a1, .ref a2, .ref a3, .ref a4, .int kk, .int zz, .long tt])), (a2, .inl (G.2.1 0, 128, .inl bf)), (a4, .inl (G.2.1 2, 80, .inr (.inl g)))] := hD
  have hl : lv_has ls 10 [(0, .ref a0), (1, .int (nI t))] := hl
  refine lv_iload_n hx hb dX0_layWide_2 rfl (lv_at hl 1 rfl) ?_
  refine lv_bipush (v := 16) hx hb dX0_layWide_3 (by decide) ?_
  refine lv_icmp_ge (tgt := 62) hx hb dX0_layWide_5 (by decide) (fun c_5 => ?_) (fun c_5 => ?_)
  · skip
    have ht : 16 ≤ t := ge_t (n := 16) c_5 (by decide)
    refine lv_bipush (v := 16) hx hb dX0_layWide_62 (by decide) ?_
    refine lv_istore_n (lv' := [(1, .int 16), (0, .ref a0)]) hx hb dX0_layWide_64 rfl hl (by decide) rfl (fun ls hl => ?_)
    refine g_loop (σ := Nat × (Nat → Int64)) (G := G) (fun xq9 : Nat × (Nat → Int64) => [(a0, .inr (0, [.ref a1, .ref a2, .ref a3, .ref a4, .int kk, .int zz, .long tt])), (a2, .inl (G.2.1 0, 128, .inl bf)), (a4, .inl (G.2.1 2, 80, .inr (.inl xq9.2)))]) (fun xq9 : Nat × (Nat → Int64) => [(0, .ref a0), (1, .int (nI xq9.1))]) (fun xq9 : Nat × (Nat → Int64) => 16 ≤ xq9.1 ∧ xq9.1 ≤ 80 ∧ ∀ j, j < xq9.1 → xq9.2 j = sW (oB bf) j) (fun xq9 : Nat × (Nat → Int64) => 80 - xq9.1) ?_ (16, g) (show 16 ≤ 16 ∧ 16 ≤ 80 ∧ ∀ j, j < 16 → g j = sW (oB bf) j from ⟨Nat.le_refl _, by decide, fun j hj => by rw [hI.2 j (by omega), sW_lt hj]⟩) (hP.sub [0, 1, 2] rfl) (hD.sub [0, 1, 2] (by decide) rfl) hS (lv_sub hl [1, 0] rfl)
    clear hP hD hS hl
    intro x hxI_65 ih_65 H locs ls hP hD hS hl
    obtain ⟨t, g⟩ := x
    have hI : 16 ≤ t ∧ t ≤ 80 ∧ ∀ j, j < t → g j = sW (oB bf) j := hxI_65
    have hP : va_P G.1 vwCl [(a0, .inr (0, [.ref a1, .ref a2, .ref a3, .ref a4, .int kk, .int zz, .long tt])), (a2, .inl (G.2.1 0, 128, .inl bf)), (a4, .inl (G.2.1 2, 80, .inr (.inl g)))] H := hP
    have hD : va_D A [(a0, .inr (0, [.ref a1, .ref a2, .ref a3, .ref a4, .int kk, .int zz, .long tt])), (a2, .inl (G.2.1 0, 128, .inl bf)), (a4, .inl (G.2.1 2, 80, .inr (.inl g)))] := hD
    have hl : lv_has ls 10 [(0, .ref a0), (1, .int (nI t))] := hl
    refine lv_iload_n hx hb dX0_layWide_65 rfl (lv_at hl 1 rfl) ?_
    refine lv_bipush (v := 80) hx hb dX0_layWide_66 (by decide) ?_
    refine lv_icmp_ge (tgt := 170) hx hb dX0_layWide_68 (by decide) (fun c_68 => ?_) (fun c_68 => ?_)
    · skip
      have ht : 80 ≤ t := ge_t (n := 80) c_68 (by decide)
      exact gret_v hx hb hr hlk dX0_layWide_170 hS g (hP.sub [0, 1, 2] rfl) (hD.sub [0, 1, 2] (by decide) rfl) (show ∀ t, t < 80 → g t = sW (oB bf) t from fun j hj => hI.2.2 j (by omega))
    · skip
      have ht : t < 80 := ge_f (n := 80) c_68 (by omega)
      refine lv_aload_n hx hb dX0_layWide_71 rfl (lv_at hl 0 rfl) ?_
      refine va_get (D := G.1) (ci := 0) (v := .ref a4) (C := RX0) (T := TX0) (N := 7) hx hb htu iwX0 hown hK.1 hP 0 rfl rfl 3 (by decide) (htu _ uF_X0_23) (fun _ h9 => h9) rfl dX0_layWide_72 ?_
      refine lv_iload_n hx hb dX0_layWide_75 rfl (lv_at hl 1 rfl) ?_
      refine lv_bipush (v := 15) hx hb dX0_layWide_76 (by decide) ?_
      refine lv_isub hx hb dX0_layWide_78 ?_
      refine g_toi (y := nI (t - 15)) (pk_sub (b := 15) (by omega)) ?_
      refine g_lald hx hb hK.1 hP 2 2 rfl rfl ⟨by omega, by decide⟩ dX0_layWide_79 ?_
      refine lv_topl (fun v_1 ev_1 => ?_)
      refine lv_lstore_n (lv' := [(2, .long v_1), (0, .ref a0), (1, .int (nI t))]) hx hb dX0_layWide_80 rfl hl (by decide) rfl (fun ls hl => ?_)
      refine lv_aload_n hx hb dX0_layWide_81 rfl (lv_at hl 1 rfl) ?_
      refine va_get (D := G.1) (ci := 0) (v := .ref a4) (C := RX0) (T := TX0) (N := 7) hx hb htu iwX0 hown hK.1 hP 0 rfl rfl 3 (by decide) (htu _ uF_X0_23) (fun _ h9 => h9) rfl dX0_layWide_82 ?_
      refine lv_iload_n hx hb dX0_layWide_85 rfl (lv_at hl 2 rfl) ?_
      refine lv_iconst (v := 2) hx hb dX0_layWide_86 (by decide) ?_
      refine lv_isub hx hb dX0_layWide_87 ?_
      refine g_toi (y := nI (t - 2)) (pk_sub (b := 2) (by omega)) ?_
      refine g_lald hx hb hK.1 hP 2 2 rfl rfl ⟨by omega, by decide⟩ dX0_layWide_88 ?_
      refine lv_topl (fun v_2 ev_2 => ?_)
      refine lv_lstore (lv' := [(4, .long v_2), (2, .long v_1), (0, .ref a0), (1, .int (nI t))]) hx hb dX0_layWide_89 hl (by decide) rfl (fun ls hl => ?_)
      refine lv_lload_n hx hb dX0_layWide_91 rfl (lv_at hl 1 rfl) ?_
      refine lv_iconst (v := 1) hx hb dX0_layWide_92 (by decide) ?_
      refine g_calll (g_runS (As := [.long v_1, .int 1]) (rest := []) ⟨hx, hb, hml, hown, htu⟩ (c_J13_rotateRight_b2ac5 l G _ v_1 1 ) uM_X0_110 ok_J13_rotateRight_b2ac5 uA_J13_rotateRight_b2ac5 rfl rfl ⟨Nat.le_of_ble_eq_true rfl, Nat.le_of_ble_eq_true rfl⟩ hK hP hD hS hA hZ [] rfl rfl rfl hl.1 rfl (Nat.le_of_ble_eq_true rfl) dX0_layWide_93 ⟨Nat.le_of_ble_eq_true rfl, Nat.le_of_ble_eq_true rfl⟩) hP hD hS hA [] rfl (fun r_3 u H locs hw_4 hP hD hS => ?_)
      have hw_4 : r_3 = rotL v_1 1 := hw_4
      subst hw_4
      have hP : va_P G.1 vwCl [(a0, .inr (0, [.ref a1, .ref a2, .ref a3, .ref a4, .int kk, .int zz, .long tt])), (a2, .inl (G.2.1 0, 128, .inl bf)), (a4, .inl (G.2.1 2, 80, .inr (.inl g)))] H := hP
      have hD : va_D A [(a0, .inr (0, [.ref a1, .ref a2, .ref a3, .ref a4, .int kk, .int zz, .long tt])), (a2, .inl (G.2.1 0, 128, .inl bf)), (a4, .inl (G.2.1 2, 80, .inr (.inl g)))] := hD
      refine lv_lload_n hx hb dX0_layWide_96 rfl (lv_at hl 1 rfl) ?_
      refine lv_bipush (v := 8) hx hb dX0_layWide_97 (by decide) ?_
      refine g_calll (g_runS (As := [.long v_1, .int 8]) (rest := [.long (rotL v_1 1)]) ⟨hx, hb, hml, hown, htu⟩ (c_J13_rotateRight_b2ac5 l G _ v_1 8 ) uM_X0_110 ok_J13_rotateRight_b2ac5 uA_J13_rotateRight_b2ac5 rfl rfl ⟨Nat.le_of_ble_eq_true rfl, Nat.le_of_ble_eq_true rfl⟩ hK hP hD hS hA hZ [] rfl rfl rfl hl.1 rfl (Nat.le_of_ble_eq_true rfl) dX0_layWide_99 ⟨Nat.le_of_ble_eq_true rfl, Nat.le_of_ble_eq_true rfl⟩) hP hD hS hA [] rfl (fun r_5 u H locs hw_6 hP hD hS => ?_)
      have hw_6 : r_5 = rotL v_1 8 := hw_6
      subst hw_6
      have hP : va_P G.1 vwCl [(a0, .inr (0, [.ref a1, .ref a2, .ref a3, .ref a4, .int kk, .int zz, .long tt])), (a2, .inl (G.2.1 0, 128, .inl bf)), (a4, .inl (G.2.1 2, 80, .inr (.inl g)))] H := hP
      have hD : va_D A [(a0, .inr (0, [.ref a1, .ref a2, .ref a3, .ref a4, .int kk, .int zz, .long tt])), (a2, .inl (G.2.1 0, 128, .inl bf)), (a4, .inl (G.2.1 2, 80, .inr (.inl g)))] := hD
      refine lv_lxor hx hb dX0_layWide_102 ?_
      refine lv_lload_n hx hb dX0_layWide_103 rfl (lv_at hl 1 rfl) ?_
      refine lv_bipush (v := 7) hx hb dX0_layWide_104 (by decide) ?_
      refine lv_lushr (v := ushL v_1 7) hx hb dX0_layWide_106 rfl ?_
      refine lv_lxor hx hb dX0_layWide_107 ?_
      refine lv_topl (fun v_7 ev_7 => ?_)
      refine lv_lstore (lv' := [(6, .long v_7), (4, .long v_2), (2, .long v_1), (0, .ref a0), (1, .int (nI t))]) hx hb dX0_layWide_108 hl (by decide) rfl (fun ls hl => ?_)
      refine lv_lload hx hb dX0_layWide_110 (lv_at hl 1 rfl) ?_
      refine lv_bipush (v := 19) hx hb dX0_layWide_112 (by decide) ?_
      refine g_calll (g_runS (As := [.long v_2, .int 19]) (rest := []) ⟨hx, hb, hml, hown, htu⟩ (c_J13_rotateRight_b2ac5 l G _ v_2 19 ) uM_X0_110 ok_J13_rotateRight_b2ac5 uA_J13_rotateRight_b2ac5 rfl rfl ⟨Nat.le_of_ble_eq_true rfl, Nat.le_of_ble_eq_true rfl⟩ hK hP hD hS hA hZ [] rfl rfl rfl hl.1 rfl (Nat.le_of_ble_eq_true rfl) dX0_layWide_114 ⟨Nat.le_of_ble_eq_true rfl, Nat.le_of_ble_eq_true rfl⟩) hP hD hS hA [] rfl (fun r_8 u H locs hw_9 hP hD hS => ?_)
      have hw_9 : r_8 = rotL v_2 19 := hw_9
      subst hw_9
      have hP : va_P G.1 vwCl [(a0, .inr (0, [.ref a1, .ref a2, .ref a3, .ref a4, .int kk, .int zz, .long tt])), (a2, .inl (G.2.1 0, 128, .inl bf)), (a4, .inl (G.2.1 2, 80, .inr (.inl g)))] H := hP
      have hD : va_D A [(a0, .inr (0, [.ref a1, .ref a2, .ref a3, .ref a4, .int kk, .int zz, .long tt])), (a2, .inl (G.2.1 0, 128, .inl bf)), (a4, .inl (G.2.1 2, 80, .inr (.inl g)))] := hD
      refine lv_lload hx hb dX0_layWide_117 (lv_at hl 1 rfl) ?_
      refine lv_bipush (v := 61) hx hb dX0_layWide_119 (by decide) ?_
      refine g_calll (g_runS (As := [.long v_2, .int 61]) (rest := [.long (rotL v_2 19)]) ⟨hx, hb, hml, hown, htu⟩ (c_J13_rotateRight_b2ac5 l G _ v_2 61 ) uM_X0_110 ok_J13_rotateRight_b2ac5 uA_J13_rotateRight_b2ac5 rfl rfl ⟨Nat.le_of_ble_eq_true rfl, Nat.le_of_ble_eq_true rfl⟩ hK hP hD hS hA hZ [] rfl rfl rfl hl.1 rfl (Nat.le_of_ble_eq_true rfl) dX0_layWide_121 ⟨Nat.le_of_ble_eq_true rfl, Nat.le_of_ble_eq_true rfl⟩) hP hD hS hA [] rfl (fun r_10 u H locs hw_11 hP hD hS => ?_)
      have hw_11 : r_10 = rotL v_2 61 := hw_11
      subst hw_11
      have hP : va_P G.1 vwCl [(a0, .inr (0, [.ref a1, .ref a2, .ref a3, .ref a4, .int kk, .int zz, .long tt])), (a2, .inl (G.2.1 0, 128, .inl bf)), (a4, .inl (G.2.1 2, 80, .inr (.inl g)))] H := hP
      have hD : va_D A [(a0, .inr (0, [.ref a1, .ref a2, .ref a3, .ref a4, .int kk, .int zz, .long tt])), (a2, .inl (G.2.1 0, 128, .inl bf)), (a4, .inl (G.2.1 2, 80, .inr (.inl g)))] := hD
      refine lv_lxor hx hb dX0_layWide_124 ?_
      refine lv_lload hx hb dX0_layWide_125 (lv_at hl 1 rfl) ?_
      refine lv_bipush (v := 6) hx hb dX0_layWide_127 (by decide) ?_
      refine lv_lushr (v := ushL v_2 6) hx hb dX0_layWide_129 rfl ?_
      refine lv_lxor hx hb dX0_layWide_130 ?_
      refine lv_topl (fun v_12 ev_12 => ?_)
      refine lv_lstore (lv' := [(8, .long v_12), (6, .long v_7), (4, .long v_2), (2, .long v_1), (0, .ref a0), (1, .int (nI t))]) hx hb dX0_layWide_131 hl (by decide) rfl (fun ls hl => ?_)
      refine lv_aload_n hx hb dX0_layWide_133 rfl (lv_at hl 4 rfl) ?_
      refine va_get (D := G.1) (ci := 0) (v := .ref a4) (C := RX0) (T := TX0) (N := 7) hx hb htu iwX0 hown hK.1 hP 0 rfl rfl 3 (by decide) (htu _ uF_X0_23) (fun _ h9 => h9) rfl dX0_layWide_134 ?_
      refine lv_iload_n hx hb dX0_layWide_137 rfl (lv_at hl 5 rfl) ?_
      refine lv_lload hx hb dX0_layWide_138 (lv_at hl 0 rfl) ?_
      refine lv_aload_n hx hb dX0_layWide_140 rfl (lv_at hl 4 rfl) ?_
      refine va_get (D := G.1) (ci := 0) (v := .ref a4) (C := RX0) (T := TX0) (N := 7) hx hb htu iwX0 hown hK.1 hP 0 rfl rfl 3 (by decide) (htu _ uF_X0_23) (fun _ h9 => h9) rfl dX0_layWide_141 ?_
      refine lv_iload_n hx hb dX0_layWide_144 rfl (lv_at hl 5 rfl) ?_
      refine lv_bipush (v := 7) hx hb dX0_layWide_145 (by decide) ?_
      refine lv_isub hx hb dX0_layWide_147 ?_
      refine g_toi (y := nI (t - 7)) (pk_sub (b := 7) (by omega)) ?_
      refine g_lald hx hb hK.1 hP 2 2 rfl rfl ⟨by omega, by decide⟩ dX0_layWide_148 ?_
      refine lv_ladd hx hb dX0_layWide_149 ?_
      refine lv_lload hx hb dX0_layWide_150 (lv_at hl 1 rfl) ?_
      refine lv_ladd hx hb dX0_layWide_152 ?_
      refine lv_aload_n hx hb dX0_layWide_153 rfl (lv_at hl 4 rfl) ?_
      refine va_get (D := G.1) (ci := 0) (v := .ref a4) (C := RX0) (T := TX0) (N := 7) hx hb htu iwX0 hown hK.1 hP 0 rfl rfl 3 (by decide) (htu _ uF_X0_23) (fun _ h9 => h9) rfl dX0_layWide_154 ?_
      refine lv_iload_n hx hb dX0_layWide_157 rfl (lv_at hl 5 rfl) ?_
      refine lv_bipush (v := 16) hx hb dX0_layWide_158 (by decide) ?_
      refine lv_isub hx hb dX0_layWide_160 ?_
      refine g_toi (y := nI (t - 16)) (pk_sub (b := 16) (by omega)) ?_
      refine g_lald hx hb hK.1 hP 2 2 rfl rfl ⟨by omega, by decide⟩ dX0_layWide_161 ?_
      refine lv_ladd hx hb dX0_layWide_162 ?_
      refine lv_topl (fun v_13 ev_13 => ?_)
      refine g_last hx hb hK.1 hP hD hS 2 2 rfl rfl ⟨by omega, by decide⟩ dX0_layWide_163 (fun H locs hP hD hS => ?_)
      obtain ⟨g_14, eg_14⟩ : ∃ gq9 : Nat → Int64, gq9 = vp_updL g t v_13 := ⟨_, rfl⟩
      rw [← eg_14] at hP hD
      have hP : va_P G.1 vwCl [(a0, .inr (0, [.ref a1, .ref a2, .ref a3, .ref a4, .int kk, .int zz, .long tt])), (a2, .inl (G.2.1 0, 128, .inl bf)), (a4, .inl (G.2.1 2, 80, .inr (.inl g_14)))] H := hP
      have hD : va_D A [(a0, .inr (0, [.ref a1, .ref a2, .ref a3, .ref a4, .int kk, .int zz, .long tt])), (a2, .inl (G.2.1 0, 128, .inl bf)), (a4, .inl (G.2.1 2, 80, .inr (.inl g_14)))] := hD
      refine lv_iinc (v := nI (t + 1)) (lv' := [(1, .int (nI (t + 1))), (8, .long v_12), (6, .long v_7), (4, .long v_2), (2, .long v_1), (0, .ref a0)]) hx hb dX0_layWide_164 hl (k := 5) rfl (nI_1 t) (by decide) rfl (fun ls hl => ?_)
      refine lv_goto (tgt := 65) hx hb dX0_layWide_167 (by decide) ?_
      exact ih_65 (t + 1, g_14) (show 16 ≤ (t + 1) ∧ (t + 1) ≤ 80 ∧ ∀ j, j < (t + 1) → g_14 j = sW (oB bf) j from sWU hI ht eg_14 (by subst_vars; rfl)) (by show 80 - (t + 1) < 80 - t; omega) _ _ _ (hP.sub [0, 1, 2] rfl) (hD.sub [0, 1, 2] (by decide) rfl) hS (lv_sub hl [5, 0] rfl)
  · skip
    have ht : t < 16 := ge_f (n := 16) c_5 (by omega)
    refine lv_lconst (v := 0) hx hb dX0_layWide_8 (by decide) ?_
    refine lv_lstore_n (lv' := [(2, .long 0), (0, .ref a0), (1, .int (nI t))]) hx hb dX0_layWide_9 rfl hl (by decide) rfl (fun ls hl => ?_)
    refine lv_iconst (v := 0) hx hb dX0_layWide_10 (by decide) ?_
    refine lv_istore (lv' := [(4, .int 0), (2, .long 0), (0, .ref a0), (1, .int (nI t))]) hx hb dX0_layWide_11 hl (by decide) rfl (fun ls hl => ?_)
    refine g_loop (σ := Nat × Int64) (G := G) (fun xq9 : Nat × Int64 => [(a0, .inr (0, [.ref a1, .ref a2, .ref a3, .ref a4, .int kk, .int zz, .long tt])), (a2, .inl (G.2.1 0, 128, .inl bf)), (a4, .inl (G.2.1 2, 80, .inr (.inl g)))]) (fun xq9 : Nat × Int64 => [(0, .ref a0), (1, .int (nI t)), (2, .long xq9.2), (4, .int (nI xq9.1))]) (fun xq9 : Nat × Int64 => xq9.1 ≤ 8 ∧ xq9.2 = ly8 (oB bf) t xq9.1) (fun xq9 : Nat × Int64 => 8 - xq9.1) ?_ (0, 0) (show 0 ≤ 8 ∧ 0 = ly8 (oB bf) t 0 from ⟨Nat.zero_le _, rfl⟩) (hP.sub [0, 1, 2] rfl) (hD.sub [0, 1, 2] (by decide) rfl) hS (lv_sub hl [2, 3, 1, 0] rfl)
    clear hP hD hS hl
    intro x hxI_13 ih_13 H locs ls hP hD hS hl
    obtain ⟨i, wd⟩ := x
    have hJ : i ≤ 8 ∧ wd = ly8 (oB bf) t i := hxI_13
    have hP : va_P G.1 vwCl [(a0, .inr (0, [.ref a1, .ref a2, .ref a3, .ref a4, .int kk, .int zz, .long tt])), (a2, .inl (G.2.1 0, 128, .inl bf)), (a4, .inl (G.2.1 2, 80, .inr (.inl g)))] H := hP
    have hD : va_D A [(a0, .inr (0, [.ref a1, .ref a2, .ref a3, .ref a4, .int kk, .int zz, .long tt])), (a2, .inl (G.2.1 0, 128, .inl bf)), (a4, .inl (G.2.1 2, 80, .inr (.inl g)))] := hD
    have hl : lv_has ls 10 [(0, .ref a0), (1, .int (nI t)), (2, .long wd), (4, .int (nI i))] := hl
    refine lv_iload hx hb dX0_layWide_13 (lv_at hl 3 rfl) ?_
    refine lv_bipush (v := 8) hx hb dX0_layWide_15 (by decide) ?_
    refine lv_icmp_ge (tgt := 49) hx hb dX0_layWide_17 (by decide) (fun c_17 => ?_) (fun c_17 => ?_)
    · skip
      have hi : 8 ≤ i := ge_t (n := 8) c_17 (by decide)
      refine lv_aload_n hx hb dX0_layWide_49 rfl (lv_at hl 0 rfl) ?_
      refine va_get (D := G.1) (ci := 0) (v := .ref a4) (C := RX0) (T := TX0) (N := 7) hx hb htu iwX0 hown hK.1 hP 0 rfl rfl 3 (by decide) (htu _ uF_X0_23) (fun _ h9 => h9) rfl dX0_layWide_50 ?_
      refine lv_iload_n hx hb dX0_layWide_53 rfl (lv_at hl 1 rfl) ?_
      refine lv_lload_n hx hb dX0_layWide_54 rfl (lv_at hl 2 rfl) ?_
      refine g_last hx hb hK.1 hP hD hS 2 2 rfl rfl ⟨by omega, by decide⟩ dX0_layWide_55 (fun H locs hP hD hS => ?_)
      obtain ⟨g_15, eg_15⟩ : ∃ gq9 : Nat → Int64, gq9 = vp_updL g t wd := ⟨_, rfl⟩
      rw [← eg_15] at hP hD
      have hP : va_P G.1 vwCl [(a0, .inr (0, [.ref a1, .ref a2, .ref a3, .ref a4, .int kk, .int zz, .long tt])), (a2, .inl (G.2.1 0, 128, .inl bf)), (a4, .inl (G.2.1 2, 80, .inr (.inl g_15)))] H := hP
      have hD : va_D A [(a0, .inr (0, [.ref a1, .ref a2, .ref a3, .ref a4, .int kk, .int zz, .long tt])), (a2, .inl (G.2.1 0, 128, .inl bf)), (a4, .inl (G.2.1 2, 80, .inr (.inl g_15)))] := hD
      refine lv_iinc (v := nI (t + 1)) (lv' := [(1, .int (nI (t + 1))), (0, .ref a0), (2, .long wd), (4, .int (nI i))]) hx hb dX0_layWide_56 hl (k := 1) rfl (nI_1 t) (by decide) rfl (fun ls hl => ?_)
      refine lv_goto (tgt := 2) hx hb dX0_layWide_59 (by decide) ?_
      exact ih_2 (t + 1, g_15) (show (t + 1) ≤ 16 ∧ ∀ j, j < (t + 1) → g_15 j = ly8 (oB bf) j 8 from lyU8 hI ht hJ hi eg_15) (by show 16 - (t + 1) < 16 - t; omega) _ _ _ (hP.sub [0, 1, 2] rfl) (hD.sub [0, 1, 2] (by decide) rfl) hS (lv_sub hl [1, 0] rfl)
    · skip
      have hi : i < 8 := ge_f (n := 8) c_17 (by omega)
      refine lv_lload_n hx hb dX0_layWide_20 rfl (lv_at hl 2 rfl) ?_
      refine lv_bipush (v := 8) hx hb dX0_layWide_21 (by decide) ?_
      refine lv_lshl (v := shlL wd 8) hx hb dX0_layWide_23 rfl ?_
      refine lv_aload_n hx hb dX0_layWide_24 rfl (lv_at hl 0 rfl) ?_
      refine va_get (D := G.1) (ci := 0) (v := .ref a2) (C := RX0) (T := TX0) (N := 7) hx hb htu iwX0 hown hK.1 hP 0 rfl rfl 1 (by decide) (htu _ uF_X0_15) (fun _ h9 => h9) rfl dX0_layWide_25 ?_
      refine lv_bipush (v := nI 8) hx hb dX0_layWide_28 (by decide) ?_
      refine lv_iload_n hx hb dX0_layWide_30 rfl (lv_at hl 1 rfl) ?_
      refine lv_imul hx hb dX0_layWide_31 ?_
      refine lv_iload hx hb dX0_layWide_32 (lv_at hl 3 rfl) ?_
      refine lv_iadd hx hb dX0_layWide_34 ?_
      refine g_toi (y := nI (8 * t + i)) (ix_ma 8 t i) ?_
      refine g_bald hx hb hK.1 hP 1 0 rfl rfl ⟨by omega, by decide⟩ dX0_layWide_35 ?_
      refine lv_sipush (v := 255) hx hb dX0_layWide_36 (by decide) ?_
      refine lv_iand hx hb dX0_layWide_39 ?_
      refine lv_i2l (v := Int32.toInt64 ((bf (8 * t + i)) &&& 255)) hx hb dX0_layWide_40 rfl ?_
      refine lv_lor hx hb dX0_layWide_41 ?_
      refine lv_topl (fun v_16 ev_16 => ?_)
      refine lv_lstore_n (lv' := [(2, .long v_16), (0, .ref a0), (1, .int (nI t)), (4, .int (nI i))]) hx hb dX0_layWide_42 rfl hl (by decide) rfl (fun ls hl => ?_)
      refine lv_iinc (v := nI (i + 1)) (lv' := [(4, .int (nI (i + 1))), (2, .long v_16), (0, .ref a0), (1, .int (nI t))]) hx hb dX0_layWide_43 hl (k := 3) rfl (nI_1 i) (by decide) rfl (fun ls hl => ?_)
      refine lv_goto (tgt := 13) hx hb dX0_layWide_46 (by decide) ?_
      exact ih_13 (i + 1, v_16) (show (i + 1) ≤ 8 ∧ v_16 = ly8 (oB bf) t (i + 1) from ⟨by omega, by rw [ev_16, hJ.2]; rfl⟩) (by show 8 - (i + 1) < 8 - i; omega) _ _ _ (hP.sub [0, 1, 2] rfl) (hD.sub [0, 1, 2] (by decide) rfl) hS (lv_sub hl [2, 3, 1, 0] rfl)
set_option maxHeartbeats 4000000 in
set_option maxRecDepth 100000 in
theorem c_X0_mixNarrow (l : Launch) (G : GW) (sz : Nat) (a0 : Nat) (a1 : Nat) (a2 : Nat) (a3 : Nat) (a4 : Nat) (kk : Int32) (zz : Int32) (tt : Int64) (wf : Nat → Int64) (nf : Nat → Int32)  : Met l yX0_mixNarrow (Cond.code yX0_mixNarrow cX0_mixNarrow 14 (none : Option FieldType) :: UW) ({ frames := 1, cells := 0, slots := 0, locals := 21 } : Room) (va_Pc [.ref a0] (gPre G [(a0, .inr (0, [.ref a1, .ref a2, .ref a3, .ref a4, .int kk, .int zz, .long tt])), (a1, .inl (G.2.1 2, 8, .inr (.inl wf))), (a3, .inl (G.2.1 1, 64, .inl nf))] sz)) (va_Qv (fun (wf' : Nat → Int64) => ∀ j, j < 8 → wf' j = mxN wf nf j) (fun u => gPost G (va_A [(a0, .inr (0, [.ref a1, .ref a2, .ref a3, .ref a4, .int kk, .int zz, .long tt])), (a1, .inl (G.2.1 2, 8, .inr (.inl wf))), (a3, .inl (G.2.1 1, 64, .inl nf))] sz) ((fun (wf' : Nat → Int64) => ([(a0, .inr (0, [.ref a1, .ref a2, .ref a3, .ref a4, .int kk, .int zz, .long tt])), (a1, .inl (G.2.1 2, 8, .inr (.inl wf'))), (a3, .inl (G.2.1 1, 64, .inl nf))] : va_W)) u)) (va_A [(a0, .inr (0, [.ref a1, .ref a2, .ref a3, .ref a4, .int kk, .int zz, .long tt])), (a1, .inl (G.2.1 2, 8, .inr (.inl wf))), (a3, .inl (G.2.1 1, 64, .inl nf))] sz)) 0 0 (va_A [(a0, .inr (0, [.ref a1, .ref a2, .ref a3, .ref a4, .int kk, .int zz, .long tt])), (a1, .inl (G.2.1 2, 8, .inr (.inl wf))), (a3, .inl (G.2.1 1, 64, .inl nf))] sz) := by
  refine gM_of (Qf := fun A => va_Qv (fun (wf' : Nat → Int64) => ∀ j, j < 8 → wf' j = mxN wf nf j) (fun u => gPost G A ((fun (wf' : Nat → Int64) => ([(a0, .inr (0, [.ref a1, .ref a2, .ref a3, .ref a4, .int kk, .int zz, .long tt])), (a1, .inl (G.2.1 2, 8, .inr (.inl wf'))), (a3, .inl (G.2.1 1, 64, .inl nf))] : va_W)) u)) A) (by decide) (Nat.le_of_ble_eq_true rfl) ?_
  intro p e s m below meth c A ls hx hb hml hr hown htu hlk hnm hA hP hD hS hK hZ hl
  have hown : s.vm.findClass RX0 = some m.cls := hown
  have hl : lv_has ls 14 [(0, .ref a0)] := hl
  refine lv_aload_n hx hb dX0_mixNarrow_0 rfl (lv_at hl 0 rfl) ?_
  refine va_get (D := G.1) (ci := 0) (v := .ref a1) (C := RX0) (T := TX0) (N := 7) hx hb htu iwX0 hown hK.1 hP 0 rfl rfl 0 (by decide) (htu _ uF_X0_9) (fun _ h9 => h9) rfl dX0_mixNarrow_1 ?_
  refine lv_iconst (v := nI 0) hx hb dX0_mixNarrow_4 (by decide) ?_
  refine g_lald hx hb hK.1 hP 1 2 rfl rfl ⟨by omega, by decide⟩ dX0_mixNarrow_5 ?_
  refine lv_l2i (v := Int64.toInt32 (wf 0)) hx hb dX0_mixNarrow_6 rfl ?_
  refine lv_topi (fun v_1 ev_1 => ?_)
  refine lv_istore_n (lv' := [(1, .int v_1), (0, .ref a0)]) hx hb dX0_mixNarrow_7 rfl hl (by decide) rfl (fun ls hl => ?_)
  refine lv_aload_n hx hb dX0_mixNarrow_8 rfl (lv_at hl 1 rfl) ?_
  refine va_get (D := G.1) (ci := 0) (v := .ref a1) (C := RX0) (T := TX0) (N := 7) hx hb htu iwX0 hown hK.1 hP 0 rfl rfl 0 (by decide) (htu _ uF_X0_9) (fun _ h9 => h9) rfl dX0_mixNarrow_9 ?_
  refine lv_iconst (v := nI 1) hx hb dX0_mixNarrow_12 (by decide) ?_
  refine g_lald hx hb hK.1 hP 1 2 rfl rfl ⟨by omega, by decide⟩ dX0_mixNarrow_13 ?_
  refine lv_l2i (v := Int64.toInt32 (wf 1)) hx hb dX0_mixNarrow_14 rfl ?_
  refine lv_topi (fun v_2 ev_2 => ?_)
  refine lv_istore_n (lv' := [(2, .int v_2), (1, .int v_1), (0, .ref a0)]) hx hb dX0_mixNarrow_15 rfl hl (by decide) rfl (fun ls hl => ?_)
  refine lv_aload_n hx hb dX0_mixNarrow_16 rfl (lv_at hl 2 rfl) ?_
  refine va_get (D := G.1) (ci := 0) (v := .ref a1) (C := RX0) (T := TX0) (N := 7) hx hb htu iwX0 hown hK.1 hP 0 rfl rfl 0 (by decide) (htu _ uF_X0_9) (fun _ h9 => h9) rfl dX0_mixNarrow_17 ?_
  refine lv_iconst (v := nI 2) hx hb dX0_mixNarrow_20 (by decide) ?_
  refine g_lald hx hb hK.1 hP 1 2 rfl rfl ⟨by omega, by decide⟩ dX0_mixNarrow_21 ?_
  refine lv_l2i (v := Int64.toInt32 (wf 2)) hx hb dX0_mixNarrow_22 rfl ?_
  refine lv_topi (fun v_3 ev_3 => ?_)
  refine lv_istore_n (lv' := [(3, .int v_3), (2, .int v_2), (1, .int v_1), (0, .ref a0)]) hx hb dX0_mixNarrow_23 rfl hl (by decide) rfl (fun ls hl => ?_)
  refine lv_aload_n hx hb dX0_mixNarrow_24 rfl (lv_at hl 3 rfl) ?_
  refine va_get (D := G.1) (ci := 0) (v := .ref a1) (C := RX0) (T := TX0) (N := 7) hx hb htu iwX0 hown hK.1 hP 0 rfl rfl 0 (by decide) (htu _ uF_X0_9) (fun _ h9 => h9) rfl dX0_mixNarrow_25 ?_
  refine lv_iconst (v := nI 3) hx hb dX0_mixNarrow_28 (by decide) ?_
  refine g_lald hx hb hK.1 hP 1 2 rfl rfl ⟨by omega, by decide⟩ dX0_mixNarrow_29 ?_
  refine lv_l2i (v := Int64.toInt32 (wf 3)) hx hb dX0_mixNarrow_30 rfl ?_
  refine lv_topi (fun v_4 ev_4 => ?_)
  refine lv_istore (lv' := [(4, .int v_4), (3, .int v_3), (2, .int v_2), (1, .int v_1), (0, .ref a0)]) hx hb dX0_mixNarrow_31 hl (by decide) rfl (fun ls hl => ?_)
  refine lv_aload_n hx hb dX0_mixNarrow_33 rfl (lv_at hl 4 rfl) ?_
  refine va_get (D := G.1) (ci := 0) (v := .ref a1) (C := RX0) (T := TX0) (N := 7) hx hb htu iwX0 hown hK.1 hP 0 rfl rfl 0 (by decide) (htu _ uF_X0_9) (fun _ h9 => h9) rfl dX0_mixNarrow_34 ?_
  refine lv_iconst (v := nI 4) hx hb dX0_mixNarrow_37 (by decide) ?_
  refine g_lald hx hb hK.1 hP 1 2 rfl rfl ⟨by omega, by decide⟩ dX0_mixNarrow_38 ?_
  refine lv_l2i (v := Int64.toInt32 (wf 4)) hx hb dX0_mixNarrow_39 rfl ?_
  refine lv_topi (fun v_5 ev_5 => ?_)
  refine lv_istore (lv' := [(5, .int v_5), (4, .int v_4), (3, .int v_3), (2, .int v_2), (1, .int v_1), (0, .ref a0)]) hx hb dX0_mixNarrow_40 hl (by decide) rfl (fun ls hl => ?_)
  refine lv_aload_n hx hb dX0_mixNarrow_42 rfl (lv_at hl 5 rfl) ?_
  refine va_get (D := G.1) (ci := 0) (v := .ref a1) (C := RX0) (T := TX0) (N := 7) hx hb htu iwX0 hown hK.1 hP 0 rfl rfl 0 (by decide) (htu _ uF_X0_9) (fun _ h9 => h9) rfl dX0_mixNarrow_43 ?_
  refine lv_iconst (v := nI 5) hx hb dX0_mixNarrow_46 (by decide) ?_
  refine g_lald hx hb hK.1 hP 1 2 rfl rfl ⟨by omega, by decide⟩ dX0_mixNarrow_47 ?_
  refine lv_l2i (v := Int64.toInt32 (wf 5)) hx hb dX0_mixNarrow_48 rfl ?_
  refine lv_topi (fun v_6 ev_6 => ?_)
  refine lv_istore (lv' := [(6, .int v_6), (5, .int v_5), (4, .int v_4), (3, .int v_3), (2, .int v_2), (1, .int v_1), (0, .ref a0)]) hx hb dX0_mixNarrow_49 hl (by decide) rfl (fun ls hl => ?_)
  refine lv_aload_n hx hb dX0_mixNarrow_51 rfl (lv_at hl 6 rfl) ?_
  refine va_get (D := G.1) (ci := 0) (v := .ref a1) (C := RX0) (T := TX0) (N := 7) hx hb htu iwX0 hown hK.1 hP 0 rfl rfl 0 (by decide) (htu _ uF_X0_9) (fun _ h9 => h9) rfl dX0_mixNarrow_52 ?_
  refine lv_bipush (v := nI 6) hx hb dX0_mixNarrow_55 (by decide) ?_
  refine g_lald hx hb hK.1 hP 1 2 rfl rfl ⟨by omega, by decide⟩ dX0_mixNarrow_57 ?_
  refine lv_l2i (v := Int64.toInt32 (wf 6)) hx hb dX0_mixNarrow_58 rfl ?_
  refine lv_topi (fun v_7 ev_7 => ?_)
  refine lv_istore (lv' := [(7, .int v_7), (6, .int v_6), (5, .int v_5), (4, .int v_4), (3, .int v_3), (2, .int v_2), (1, .int v_1), (0, .ref a0)]) hx hb dX0_mixNarrow_59 hl (by decide) rfl (fun ls hl => ?_)
  refine lv_aload_n hx hb dX0_mixNarrow_61 rfl (lv_at hl 7 rfl) ?_
  refine va_get (D := G.1) (ci := 0) (v := .ref a1) (C := RX0) (T := TX0) (N := 7) hx hb htu iwX0 hown hK.1 hP 0 rfl rfl 0 (by decide) (htu _ uF_X0_9) (fun _ h9 => h9) rfl dX0_mixNarrow_62 ?_
  refine lv_bipush (v := nI 7) hx hb dX0_mixNarrow_65 (by decide) ?_
  refine g_lald hx hb hK.1 hP 1 2 rfl rfl ⟨by omega, by decide⟩ dX0_mixNarrow_67 ?_
  refine lv_l2i (v := Int64.toInt32 (wf 7)) hx hb dX0_mixNarrow_68 rfl ?_
  refine lv_topi (fun v_8 ev_8 => ?_)
  refine lv_istore (lv' := [(8, .int v_8), (7, .int v_7), (6, .int v_6), (5, .int v_5), (4, .int v_4), (3, .int v_3), (2, .int v_2), (1, .int v_1), (0, .ref a0)]) hx hb dX0_mixNarrow_69 hl (by decide) rfl (fun ls hl => ?_)
  refine lv_iconst (v := 0) hx hb dX0_mixNarrow_71 (by decide) ?_
  refine lv_istore (lv' := [(9, .int 0), (8, .int v_8), (7, .int v_7), (6, .int v_6), (5, .int v_5), (4, .int v_4), (3, .int v_3), (2, .int v_2), (1, .int v_1), (0, .ref a0)]) hx hb dX0_mixNarrow_72 hl (by decide) rfl (fun ls hl => ?_)
  refine g_loop (σ := Nat × Int32 × Int32 × Int32 × Int32 × Int32 × Int32 × Int32 × Int32) (G := G) (fun xq9 : Nat × Int32 × Int32 × Int32 × Int32 × Int32 × Int32 × Int32 × Int32 => [(a0, .inr (0, [.ref a1, .ref a2, .ref a3, .ref a4, .int kk, .int zz, .long tt])), (a1, .inl (G.2.1 2, 8, .inr (.inl wf))), (a3, .inl (G.2.1 1, 64, .inl nf))]) (fun xq9 : Nat × Int32 × Int32 × Int32 × Int32 × Int32 × Int32 × Int32 × Int32 => [(0, .ref a0), (1, .int xq9.2.1), (2, .int xq9.2.2.1), (3, .int xq9.2.2.2.1), (4, .int xq9.2.2.2.2.1), (5, .int xq9.2.2.2.2.2.1), (6, .int xq9.2.2.2.2.2.2.1), (7, .int xq9.2.2.2.2.2.2.2.1), (8, .int xq9.2.2.2.2.2.2.2.2), (9, .int (nI xq9.1))]) (fun xq9 : Nat × Int32 × Int32 × Int32 × Int32 × Int32 × Int32 × Int32 × Int32 => xq9.1 ≤ 64 ∧ (xq9.2.1, xq9.2.2.1, xq9.2.2.2.1, xq9.2.2.2.2.1, xq9.2.2.2.2.2.1, xq9.2.2.2.2.2.2.1, xq9.2.2.2.2.2.2.2.1, xq9.2.2.2.2.2.2.2.2) = rdsN nf (v0N wf) xq9.1) (fun xq9 : Nat × Int32 × Int32 × Int32 × Int32 × Int32 × Int32 × Int32 × Int32 => 64 - xq9.1) ?_ (0, v_1, v_2, v_3, v_4, v_5, v_6, v_7, v_8) (show 0 ≤ 64 ∧ (v_1, v_2, v_3, v_4, v_5, v_6, v_7, v_8) = rdsN nf (v0N wf) 0 from ⟨Nat.zero_le _, by subst_vars; rfl⟩) (hP.sub [0, 1, 2] rfl) (hD.sub [0, 1, 2] (by decide) rfl) hS (lv_sub hl [9, 8, 7, 6, 5, 4, 3, 2, 1, 0] rfl)
  clear hP hD hS hl
  intro x hxI_74 ih_74 H locs ls hP hD hS hl
  obtain ⟨t, xa, xb, xc, xd, xe, xf, xg, xh⟩ := x
  have hI : t ≤ 64 ∧ (xa, xb, xc, xd, xe, xf, xg, xh) = rdsN nf (v0N wf) t := hxI_74
  have hP : va_P G.1 vwCl [(a0, .inr (0, [.ref a1, .ref a2, .ref a3, .ref a4, .int kk, .int zz, .long tt])), (a1, .inl (G.2.1 2, 8, .inr (.inl wf))), (a3, .inl (G.2.1 1, 64, .inl nf))] H := hP
  have hD : va_D A [(a0, .inr (0, [.ref a1, .ref a2, .ref a3, .ref a4, .int kk, .int zz, .long tt])), (a1, .inl (G.2.1 2, 8, .inr (.inl wf))), (a3, .inl (G.2.1 1, 64, .inl nf))] := hD
  have hl : lv_has ls 14 [(0, .ref a0), (1, .int xa), (2, .int xb), (3, .int xc), (4, .int xd), (5, .int xe), (6, .int xf), (7, .int xg), (8, .int xh), (9, .int (nI t))] := hl
  refine lv_iload hx hb dX0_mixNarrow_74 (lv_at hl 9 rfl) ?_
  refine lv_bipush (v := 64) hx hb dX0_mixNarrow_76 (by decide) ?_
  refine lv_icmp_ge (tgt := 221) hx hb dX0_mixNarrow_78 (by decide) (fun c_78 => ?_) (fun c_78 => ?_)
  · skip
    have ht : t = 64 := Nat.le_antisymm hI.1 (ge_t (n := 64) c_78 (by decide))
    refine lv_aload_n hx hb dX0_mixNarrow_221 rfl (lv_at hl 0 rfl) ?_
    refine va_get (D := G.1) (ci := 0) (v := .ref a1) (C := RX0) (T := TX0) (N := 7) hx hb htu iwX0 hown hK.1 hP 0 rfl rfl 0 (by decide) (htu _ uF_X0_9) (fun _ h9 => h9) rfl dX0_mixNarrow_222 ?_
    refine lv_iconst (v := nI 0) hx hb dX0_mixNarrow_225 (by decide) ?_
    refine lv_aload_n hx hb dX0_mixNarrow_226 rfl (lv_at hl 0 rfl) ?_
    refine va_get (D := G.1) (ci := 0) (v := .ref a1) (C := RX0) (T := TX0) (N := 7) hx hb htu iwX0 hown hK.1 hP 0 rfl rfl 0 (by decide) (htu _ uF_X0_9) (fun _ h9 => h9) rfl dX0_mixNarrow_227 ?_
    refine lv_iconst (v := nI 0) hx hb dX0_mixNarrow_230 (by decide) ?_
    refine g_lald hx hb hK.1 hP 1 2 rfl rfl ⟨by omega, by decide⟩ dX0_mixNarrow_231 ?_
    refine lv_iload_n hx hb dX0_mixNarrow_232 rfl (lv_at hl 1 rfl) ?_
    refine lv_i2l (v := Int32.toInt64 xa) hx hb dX0_mixNarrow_233 rfl ?_
    refine lv_ladd hx hb dX0_mixNarrow_234 ?_
    refine lv_ldc2 hx hb hown (htu _ uL_X0_44) dX0_mixNarrow_235 ?_
    refine lv_land hx hb dX0_mixNarrow_238 ?_
    refine lv_topl (fun v_9 ev_9 => ?_)
    refine g_last hx hb hK.1 hP hD hS 1 2 rfl rfl ⟨by omega, by decide⟩ dX0_mixNarrow_239 (fun H locs hP hD hS => ?_)
    obtain ⟨g_10, eg_10⟩ : ∃ gq9 : Nat → Int64, gq9 = vp_updL wf 0 v_9 := ⟨_, rfl⟩
    rw [← eg_10] at hP hD
    have hP : va_P G.1 vwCl [(a0, .inr (0, [.ref a1, .ref a2, .ref a3, .ref a4, .int kk, .int zz, .long tt])), (a1, .inl (G.2.1 2, 8, .inr (.inl g_10))), (a3, .inl (G.2.1 1, 64, .inl nf))] H := hP
    have hD : va_D A [(a0, .inr (0, [.ref a1, .ref a2, .ref a3, .ref a4, .int kk, .int zz, .long tt])), (a1, .inl (G.2.1 2, 8, .inr (.inl g_10))), (a3, .inl (G.2.1 1, 64, .inl nf))] := hD
    refine lv_aload_n hx hb dX0_mixNarrow_240 rfl (lv_at hl 0 rfl) ?_
    refine va_get (D := G.1) (ci := 0) (v := .ref a1) (C := RX0) (T := TX0) (N := 7) hx hb htu iwX0 hown hK.1 hP 0 rfl rfl 0 (by decide) (htu _ uF_X0_9) (fun _ h9 => h9) rfl dX0_mixNarrow_241 ?_
    refine lv_iconst (v := nI 1) hx hb dX0_mixNarrow_244 (by decide) ?_
    refine lv_aload_n hx hb dX0_mixNarrow_245 rfl (lv_at hl 0 rfl) ?_
    refine va_get (D := G.1) (ci := 0) (v := .ref a1) (C := RX0) (T := TX0) (N := 7) hx hb htu iwX0 hown hK.1 hP 0 rfl rfl 0 (by decide) (htu _ uF_X0_9) (fun _ h9 => h9) rfl dX0_mixNarrow_246 ?_
    refine lv_iconst (v := nI 1) hx hb dX0_mixNarrow_249 (by decide) ?_
    refine g_lald hx hb hK.1 hP 1 2 rfl rfl ⟨by omega, by decide⟩ dX0_mixNarrow_250 ?_
    refine lv_iload_n hx hb dX0_mixNarrow_251 rfl (lv_at hl 2 rfl) ?_
    refine lv_i2l (v := Int32.toInt64 xb) hx hb dX0_mixNarrow_252 rfl ?_
    refine lv_ladd hx hb dX0_mixNarrow_253 ?_
    refine lv_ldc2 hx hb hown (htu _ uL_X0_44) dX0_mixNarrow_254 ?_
    refine lv_land hx hb dX0_mixNarrow_257 ?_
    refine lv_topl (fun v_11 ev_11 => ?_)
    refine g_last hx hb hK.1 hP hD hS 1 2 rfl rfl ⟨by omega, by decide⟩ dX0_mixNarrow_258 (fun H locs hP hD hS => ?_)
    obtain ⟨g_12, eg_12⟩ : ∃ gq9 : Nat → Int64, gq9 = vp_updL g_10 1 v_11 := ⟨_, rfl⟩
    rw [← eg_12] at hP hD
    have hP : va_P G.1 vwCl [(a0, .inr (0, [.ref a1, .ref a2, .ref a3, .ref a4, .int kk, .int zz, .long tt])), (a1, .inl (G.2.1 2, 8, .inr (.inl g_12))), (a3, .inl (G.2.1 1, 64, .inl nf))] H := hP
    have hD : va_D A [(a0, .inr (0, [.ref a1, .ref a2, .ref a3, .ref a4, .int kk, .int zz, .long tt])), (a1, .inl (G.2.1 2, 8, .inr (.inl g_12))), (a3, .inl (G.2.1 1, 64, .inl nf))] := hD
    refine lv_aload_n hx hb dX0_mixNarrow_259 rfl (lv_at hl 0 rfl) ?_
    refine va_get (D := G.1) (ci := 0) (v := .ref a1) (C := RX0) (T := TX0) (N := 7) hx hb htu iwX0 hown hK.1 hP 0 rfl rfl 0 (by decide) (htu _ uF_X0_9) (fun _ h9 => h9) rfl dX0_mixNarrow_260 ?_
    refine lv_iconst (v := nI 2) hx hb dX0_mixNarrow_263 (by decide) ?_
    refine lv_aload_n hx hb dX0_mixNarrow_264 rfl (lv_at hl 0 rfl) ?_
    refine va_get (D := G.1) (ci := 0) (v := .ref a1) (C := RX0) (T := TX0) (N := 7) hx hb htu iwX0 hown hK.1 hP 0 rfl rfl 0 (by decide) (htu _ uF_X0_9) (fun _ h9 => h9) rfl dX0_mixNarrow_265 ?_
    refine lv_iconst (v := nI 2) hx hb dX0_mixNarrow_268 (by decide) ?_
    refine g_lald hx hb hK.1 hP 1 2 rfl rfl ⟨by omega, by decide⟩ dX0_mixNarrow_269 ?_
    refine lv_iload_n hx hb dX0_mixNarrow_270 rfl (lv_at hl 3 rfl) ?_
    refine lv_i2l (v := Int32.toInt64 xc) hx hb dX0_mixNarrow_271 rfl ?_
    refine lv_ladd hx hb dX0_mixNarrow_272 ?_
    refine lv_ldc2 hx hb hown (htu _ uL_X0_44) dX0_mixNarrow_273 ?_
    refine lv_land hx hb dX0_mixNarrow_276 ?_
    refine lv_topl (fun v_13 ev_13 => ?_)
    refine g_last hx hb hK.1 hP hD hS 1 2 rfl rfl ⟨by omega, by decide⟩ dX0_mixNarrow_277 (fun H locs hP hD hS => ?_)
    obtain ⟨g_14, eg_14⟩ : ∃ gq9 : Nat → Int64, gq9 = vp_updL g_12 2 v_13 := ⟨_, rfl⟩
    rw [← eg_14] at hP hD
    have hP : va_P G.1 vwCl [(a0, .inr (0, [.ref a1, .ref a2, .ref a3, .ref a4, .int kk, .int zz, .long tt])), (a1, .inl (G.2.1 2, 8, .inr (.inl g_14))), (a3, .inl (G.2.1 1, 64, .inl nf))] H := hP
    have hD : va_D A [(a0, .inr (0, [.ref a1, .ref a2, .ref a3, .ref a4, .int kk, .int zz, .long tt])), (a1, .inl (G.2.1 2, 8, .inr (.inl g_14))), (a3, .inl (G.2.1 1, 64, .inl nf))] := hD
    refine lv_aload_n hx hb dX0_mixNarrow_278 rfl (lv_at hl 0 rfl) ?_
    refine va_get (D := G.1) (ci := 0) (v := .ref a1) (C := RX0) (T := TX0) (N := 7) hx hb htu iwX0 hown hK.1 hP 0 rfl rfl 0 (by decide) (htu _ uF_X0_9) (fun _ h9 => h9) rfl dX0_mixNarrow_279 ?_
    refine lv_iconst (v := nI 3) hx hb dX0_mixNarrow_282 (by decide) ?_
    refine lv_aload_n hx hb dX0_mixNarrow_283 rfl (lv_at hl 0 rfl) ?_
    refine va_get (D := G.1) (ci := 0) (v := .ref a1) (C := RX0) (T := TX0) (N := 7) hx hb htu iwX0 hown hK.1 hP 0 rfl rfl 0 (by decide) (htu _ uF_X0_9) (fun _ h9 => h9) rfl dX0_mixNarrow_284 ?_
    refine lv_iconst (v := nI 3) hx hb dX0_mixNarrow_287 (by decide) ?_
    refine g_lald hx hb hK.1 hP 1 2 rfl rfl ⟨by omega, by decide⟩ dX0_mixNarrow_288 ?_
    refine lv_iload hx hb dX0_mixNarrow_289 (lv_at hl 4 rfl) ?_
    refine lv_i2l (v := Int32.toInt64 xd) hx hb dX0_mixNarrow_291 rfl ?_
    refine lv_ladd hx hb dX0_mixNarrow_292 ?_
    refine lv_ldc2 hx hb hown (htu _ uL_X0_44) dX0_mixNarrow_293 ?_
    refine lv_land hx hb dX0_mixNarrow_296 ?_
    refine lv_topl (fun v_15 ev_15 => ?_)
    refine g_last hx hb hK.1 hP hD hS 1 2 rfl rfl ⟨by omega, by decide⟩ dX0_mixNarrow_297 (fun H locs hP hD hS => ?_)
    obtain ⟨g_16, eg_16⟩ : ∃ gq9 : Nat → Int64, gq9 = vp_updL g_14 3 v_15 := ⟨_, rfl⟩
    rw [← eg_16] at hP hD
    have hP : va_P G.1 vwCl [(a0, .inr (0, [.ref a1, .ref a2, .ref a3, .ref a4, .int kk, .int zz, .long tt])), (a1, .inl (G.2.1 2, 8, .inr (.inl g_16))), (a3, .inl (G.2.1 1, 64, .inl nf))] H := hP
    have hD : va_D A [(a0, .inr (0, [.ref a1, .ref a2, .ref a3, .ref a4, .int kk, .int zz, .long tt])), (a1, .inl (G.2.1 2, 8, .inr (.inl g_16))), (a3, .inl (G.2.1 1, 64, .inl nf))] := hD
    refine lv_aload_n hx hb dX0_mixNarrow_298 rfl (lv_at hl 0 rfl) ?_
    refine va_get (D := G.1) (ci := 0) (v := .ref a1) (C := RX0) (T := TX0) (N := 7) hx hb htu iwX0 hown hK.1 hP 0 rfl rfl 0 (by decide) (htu _ uF_X0_9) (fun _ h9 => h9) rfl dX0_mixNarrow_299 ?_
    refine lv_iconst (v := nI 4) hx hb dX0_mixNarrow_302 (by decide) ?_
    refine lv_aload_n hx hb dX0_mixNarrow_303 rfl (lv_at hl 0 rfl) ?_
    refine va_get (D := G.1) (ci := 0) (v := .ref a1) (C := RX0) (T := TX0) (N := 7) hx hb htu iwX0 hown hK.1 hP 0 rfl rfl 0 (by decide) (htu _ uF_X0_9) (fun _ h9 => h9) rfl dX0_mixNarrow_304 ?_
    refine lv_iconst (v := nI 4) hx hb dX0_mixNarrow_307 (by decide) ?_
    refine g_lald hx hb hK.1 hP 1 2 rfl rfl ⟨by omega, by decide⟩ dX0_mixNarrow_308 ?_
    refine lv_iload hx hb dX0_mixNarrow_309 (lv_at hl 5 rfl) ?_
    refine lv_i2l (v := Int32.toInt64 xe) hx hb dX0_mixNarrow_311 rfl ?_
    refine lv_ladd hx hb dX0_mixNarrow_312 ?_
    refine lv_ldc2 hx hb hown (htu _ uL_X0_44) dX0_mixNarrow_313 ?_
    refine lv_land hx hb dX0_mixNarrow_316 ?_
    refine lv_topl (fun v_17 ev_17 => ?_)
    refine g_last hx hb hK.1 hP hD hS 1 2 rfl rfl ⟨by omega, by decide⟩ dX0_mixNarrow_317 (fun H locs hP hD hS => ?_)
    obtain ⟨g_18, eg_18⟩ : ∃ gq9 : Nat → Int64, gq9 = vp_updL g_16 4 v_17 := ⟨_, rfl⟩
    rw [← eg_18] at hP hD
    have hP : va_P G.1 vwCl [(a0, .inr (0, [.ref a1, .ref a2, .ref a3, .ref a4, .int kk, .int zz, .long tt])), (a1, .inl (G.2.1 2, 8, .inr (.inl g_18))), (a3, .inl (G.2.1 1, 64, .inl nf))] H := hP
    have hD : va_D A [(a0, .inr (0, [.ref a1, .ref a2, .ref a3, .ref a4, .int kk, .int zz, .long tt])), (a1, .inl (G.2.1 2, 8, .inr (.inl g_18))), (a3, .inl (G.2.1 1, 64, .inl nf))] := hD
    refine lv_aload_n hx hb dX0_mixNarrow_318 rfl (lv_at hl 0 rfl) ?_
    refine va_get (D := G.1) (ci := 0) (v := .ref a1) (C := RX0) (T := TX0) (N := 7) hx hb htu iwX0 hown hK.1 hP 0 rfl rfl 0 (by decide) (htu _ uF_X0_9) (fun _ h9 => h9) rfl dX0_mixNarrow_319 ?_
    refine lv_iconst (v := nI 5) hx hb dX0_mixNarrow_322 (by decide) ?_
    refine lv_aload_n hx hb dX0_mixNarrow_323 rfl (lv_at hl 0 rfl) ?_
    refine va_get (D := G.1) (ci := 0) (v := .ref a1) (C := RX0) (T := TX0) (N := 7) hx hb htu iwX0 hown hK.1 hP 0 rfl rfl 0 (by decide) (htu _ uF_X0_9) (fun _ h9 => h9) rfl dX0_mixNarrow_324 ?_
    refine lv_iconst (v := nI 5) hx hb dX0_mixNarrow_327 (by decide) ?_
    refine g_lald hx hb hK.1 hP 1 2 rfl rfl ⟨by omega, by decide⟩ dX0_mixNarrow_328 ?_
    refine lv_iload hx hb dX0_mixNarrow_329 (lv_at hl 6 rfl) ?_
    refine lv_i2l (v := Int32.toInt64 xf) hx hb dX0_mixNarrow_331 rfl ?_
    refine lv_ladd hx hb dX0_mixNarrow_332 ?_
    refine lv_ldc2 hx hb hown (htu _ uL_X0_44) dX0_mixNarrow_333 ?_
    refine lv_land hx hb dX0_mixNarrow_336 ?_
    refine lv_topl (fun v_19 ev_19 => ?_)
    refine g_last hx hb hK.1 hP hD hS 1 2 rfl rfl ⟨by omega, by decide⟩ dX0_mixNarrow_337 (fun H locs hP hD hS => ?_)
    obtain ⟨g_20, eg_20⟩ : ∃ gq9 : Nat → Int64, gq9 = vp_updL g_18 5 v_19 := ⟨_, rfl⟩
    rw [← eg_20] at hP hD
    have hP : va_P G.1 vwCl [(a0, .inr (0, [.ref a1, .ref a2, .ref a3, .ref a4, .int kk, .int zz, .long tt])), (a1, .inl (G.2.1 2, 8, .inr (.inl g_20))), (a3, .inl (G.2.1 1, 64, .inl nf))] H := hP
    have hD : va_D A [(a0, .inr (0, [.ref a1, .ref a2, .ref a3, .ref a4, .int kk, .int zz, .long tt])), (a1, .inl (G.2.1 2, 8, .inr (.inl g_20))), (a3, .inl (G.2.1 1, 64, .inl nf))] := hD
    refine lv_aload_n hx hb dX0_mixNarrow_338 rfl (lv_at hl 0 rfl) ?_
    refine va_get (D := G.1) (ci := 0) (v := .ref a1) (C := RX0) (T := TX0) (N := 7) hx hb htu iwX0 hown hK.1 hP 0 rfl rfl 0 (by decide) (htu _ uF_X0_9) (fun _ h9 => h9) rfl dX0_mixNarrow_339 ?_
    refine lv_bipush (v := nI 6) hx hb dX0_mixNarrow_342 (by decide) ?_
    refine lv_aload_n hx hb dX0_mixNarrow_344 rfl (lv_at hl 0 rfl) ?_
    refine va_get (D := G.1) (ci := 0) (v := .ref a1) (C := RX0) (T := TX0) (N := 7) hx hb htu iwX0 hown hK.1 hP 0 rfl rfl 0 (by decide) (htu _ uF_X0_9) (fun _ h9 => h9) rfl dX0_mixNarrow_345 ?_
    refine lv_bipush (v := nI 6) hx hb dX0_mixNarrow_348 (by decide) ?_
    refine g_lald hx hb hK.1 hP 1 2 rfl rfl ⟨by omega, by decide⟩ dX0_mixNarrow_350 ?_
    refine lv_iload hx hb dX0_mixNarrow_351 (lv_at hl 7 rfl) ?_
    refine lv_i2l (v := Int32.toInt64 xg) hx hb dX0_mixNarrow_353 rfl ?_
    refine lv_ladd hx hb dX0_mixNarrow_354 ?_
    refine lv_ldc2 hx hb hown (htu _ uL_X0_44) dX0_mixNarrow_355 ?_
    refine lv_land hx hb dX0_mixNarrow_358 ?_
    refine lv_topl (fun v_21 ev_21 => ?_)
    refine g_last hx hb hK.1 hP hD hS 1 2 rfl rfl ⟨by omega, by decide⟩ dX0_mixNarrow_359 (fun H locs hP hD hS => ?_)
    obtain ⟨g_22, eg_22⟩ : ∃ gq9 : Nat → Int64, gq9 = vp_updL g_20 6 v_21 := ⟨_, rfl⟩
    rw [← eg_22] at hP hD
    have hP : va_P G.1 vwCl [(a0, .inr (0, [.ref a1, .ref a2, .ref a3, .ref a4, .int kk, .int zz, .long tt])), (a1, .inl (G.2.1 2, 8, .inr (.inl g_22))), (a3, .inl (G.2.1 1, 64, .inl nf))] H := hP
    have hD : va_D A [(a0, .inr (0, [.ref a1, .ref a2, .ref a3, .ref a4, .int kk, .int zz, .long tt])), (a1, .inl (G.2.1 2, 8, .inr (.inl g_22))), (a3, .inl (G.2.1 1, 64, .inl nf))] := hD
    refine lv_aload_n hx hb dX0_mixNarrow_360 rfl (lv_at hl 0 rfl) ?_
    refine va_get (D := G.1) (ci := 0) (v := .ref a1) (C := RX0) (T := TX0) (N := 7) hx hb htu iwX0 hown hK.1 hP 0 rfl rfl 0 (by decide) (htu _ uF_X0_9) (fun _ h9 => h9) rfl dX0_mixNarrow_361 ?_
    refine lv_bipush (v := nI 7) hx hb dX0_mixNarrow_364 (by decide) ?_
    refine lv_aload_n hx hb dX0_mixNarrow_366 rfl (lv_at hl 0 rfl) ?_
    refine va_get (D := G.1) (ci := 0) (v := .ref a1) (C := RX0) (T := TX0) (N := 7) hx hb htu iwX0 hown hK.1 hP 0 rfl rfl 0 (by decide) (htu _ uF_X0_9) (fun _ h9 => h9) rfl dX0_mixNarrow_367 ?_
    refine lv_bipush (v := nI 7) hx hb dX0_mixNarrow_370 (by decide) ?_
    refine g_lald hx hb hK.1 hP 1 2 rfl rfl ⟨by omega, by decide⟩ dX0_mixNarrow_372 ?_
    refine lv_iload hx hb dX0_mixNarrow_373 (lv_at hl 8 rfl) ?_
    refine lv_i2l (v := Int32.toInt64 xh) hx hb dX0_mixNarrow_375 rfl ?_
    refine lv_ladd hx hb dX0_mixNarrow_376 ?_
    refine lv_ldc2 hx hb hown (htu _ uL_X0_44) dX0_mixNarrow_377 ?_
    refine lv_land hx hb dX0_mixNarrow_380 ?_
    refine lv_topl (fun v_23 ev_23 => ?_)
    refine g_last hx hb hK.1 hP hD hS 1 2 rfl rfl ⟨by omega, by decide⟩ dX0_mixNarrow_381 (fun H locs hP hD hS => ?_)
    obtain ⟨g_24, eg_24⟩ : ∃ gq9 : Nat → Int64, gq9 = vp_updL g_22 7 v_23 := ⟨_, rfl⟩
    rw [← eg_24] at hP hD
    have hP : va_P G.1 vwCl [(a0, .inr (0, [.ref a1, .ref a2, .ref a3, .ref a4, .int kk, .int zz, .long tt])), (a1, .inl (G.2.1 2, 8, .inr (.inl g_24))), (a3, .inl (G.2.1 1, 64, .inl nf))] H := hP
    have hD : va_D A [(a0, .inr (0, [.ref a1, .ref a2, .ref a3, .ref a4, .int kk, .int zz, .long tt])), (a1, .inl (G.2.1 2, 8, .inr (.inl g_24))), (a3, .inl (G.2.1 1, 64, .inl nf))] := hD
    exact gret_v hx hb hr hlk dX0_mixNarrow_382 hS g_24 (hP.sub [0, 1, 2] rfl) (hD.sub [0, 1, 2] (by decide) rfl) (show ∀ j, j < 8 → g_24 j = mxN wf nf j from by intro j hj; unfold mxN; rw [← ht, ← hI.2]; subst_vars; rcases (show j = 0 ∨ j = 1 ∨ j = 2 ∨ j = 3 ∨ j = 4 ∨ j = 5 ∨ j = 6 ∨ j = 7 by omega) with rfl | rfl | rfl | rfl | rfl | rfl | rfl | rfl <;> rfl)
  · skip
    have ht : t < 64 := ge_f (n := 64) c_78 (by omega)
    refine lv_iload hx hb dX0_mixNarrow_81 (lv_at hl 5 rfl) ?_
    refine lv_bipush (v := 6) hx hb dX0_mixNarrow_83 (by decide) ?_
    refine g_calli (g_runS (As := [.int xe, .int 6]) (rest := []) ⟨hx, hb, hml, hown, htu⟩ (c_J6_rotateRight_7cf53 l G _ xe 6 ) uM_X0_101 ok_J6_rotateRight_7cf53 uA_J6_rotateRight_7cf53 rfl rfl ⟨Nat.le_of_ble_eq_true rfl, Nat.le_of_ble_eq_true rfl⟩ hK hP hD hS hA hZ [] rfl rfl rfl hl.1 rfl (Nat.le_of_ble_eq_true rfl) dX0_mixNarrow_85 ⟨Nat.le_of_ble_eq_true rfl, Nat.le_of_ble_eq_true rfl⟩) hP hD hS hA [] rfl (fun r_25 u H locs hw_26 hP hD hS => ?_)
    have hw_26 : r_25 = rotI xe 6 := hw_26
    subst hw_26
    have hP : va_P G.1 vwCl [(a0, .inr (0, [.ref a1, .ref a2, .ref a3, .ref a4, .int kk, .int zz, .long tt])), (a1, .inl (G.2.1 2, 8, .inr (.inl wf))), (a3, .inl (G.2.1 1, 64, .inl nf))] H := hP
    have hD : va_D A [(a0, .inr (0, [.ref a1, .ref a2, .ref a3, .ref a4, .int kk, .int zz, .long tt])), (a1, .inl (G.2.1 2, 8, .inr (.inl wf))), (a3, .inl (G.2.1 1, 64, .inl nf))] := hD
    refine lv_iload hx hb dX0_mixNarrow_88 (lv_at hl 5 rfl) ?_
    refine lv_bipush (v := 11) hx hb dX0_mixNarrow_90 (by decide) ?_
    refine g_calli (g_runS (As := [.int xe, .int 11]) (rest := [.int (rotI xe 6)]) ⟨hx, hb, hml, hown, htu⟩ (c_J6_rotateRight_7cf53 l G _ xe 11 ) uM_X0_101 ok_J6_rotateRight_7cf53 uA_J6_rotateRight_7cf53 rfl rfl ⟨Nat.le_of_ble_eq_true rfl, Nat.le_of_ble_eq_true rfl⟩ hK hP hD hS hA hZ [] rfl rfl rfl hl.1 rfl (Nat.le_of_ble_eq_true rfl) dX0_mixNarrow_92 ⟨Nat.le_of_ble_eq_true rfl, Nat.le_of_ble_eq_true rfl⟩) hP hD hS hA [] rfl (fun r_27 u H locs hw_28 hP hD hS => ?_)
    have hw_28 : r_27 = rotI xe 11 := hw_28
    subst hw_28
    have hP : va_P G.1 vwCl [(a0, .inr (0, [.ref a1, .ref a2, .ref a3, .ref a4, .int kk, .int zz, .long tt])), (a1, .inl (G.2.1 2, 8, .inr (.inl wf))), (a3, .inl (G.2.1 1, 64, .inl nf))] H := hP
    have hD : va_D A [(a0, .inr (0, [.ref a1, .ref a2, .ref a3, .ref a4, .int kk, .int zz, .long tt])), (a1, .inl (G.2.1 2, 8, .inr (.inl wf))), (a3, .inl (G.2.1 1, 64, .inl nf))] := hD
    refine lv_ixor hx hb dX0_mixNarrow_95 ?_
    refine lv_iload hx hb dX0_mixNarrow_96 (lv_at hl 5 rfl) ?_
    refine lv_bipush (v := 25) hx hb dX0_mixNarrow_98 (by decide) ?_
    refine g_calli (g_runS (As := [.int xe, .int 25]) (rest := [.int ((rotI xe 6) ^^^ (rotI xe 11))]) ⟨hx, hb, hml, hown, htu⟩ (c_J6_rotateRight_7cf53 l G _ xe 25 ) uM_X0_101 ok_J6_rotateRight_7cf53 uA_J6_rotateRight_7cf53 rfl rfl ⟨Nat.le_of_ble_eq_true rfl, Nat.le_of_ble_eq_true rfl⟩ hK hP hD hS hA hZ [] rfl rfl rfl hl.1 rfl (Nat.le_of_ble_eq_true rfl) dX0_mixNarrow_100 ⟨Nat.le_of_ble_eq_true rfl, Nat.le_of_ble_eq_true rfl⟩) hP hD hS hA [] rfl (fun r_29 u H locs hw_30 hP hD hS => ?_)
    have hw_30 : r_29 = rotI xe 25 := hw_30
    subst hw_30
    have hP : va_P G.1 vwCl [(a0, .inr (0, [.ref a1, .ref a2, .ref a3, .ref a4, .int kk, .int zz, .long tt])), (a1, .inl (G.2.1 2, 8, .inr (.inl wf))), (a3, .inl (G.2.1 1, 64, .inl nf))] H := hP
    have hD : va_D A [(a0, .inr (0, [.ref a1, .ref a2, .ref a3, .ref a4, .int kk, .int zz, .long tt])), (a1, .inl (G.2.1 2, 8, .inr (.inl wf))), (a3, .inl (G.2.1 1, 64, .inl nf))] := hD
    refine lv_ixor hx hb dX0_mixNarrow_103 ?_
    refine lv_topi (fun v_31 ev_31 => ?_)
    refine lv_istore (lv' := [(10, .int v_31), (0, .ref a0), (1, .int xa), (2, .int xb), (3, .int xc), (4, .int xd), (5, .int xe), (6, .int xf), (7, .int xg), (8, .int xh), (9, .int (nI t))]) hx hb dX0_mixNarrow_104 hl (by decide) rfl (fun ls hl => ?_)
    refine lv_iload_n hx hb dX0_mixNarrow_106 rfl (lv_at hl 2 rfl) ?_
    refine lv_iconst (v := 2) hx hb dX0_mixNarrow_107 (by decide) ?_
    refine g_calli (g_runS (As := [.int xa, .int 2]) (rest := []) ⟨hx, hb, hml, hown, htu⟩ (c_J6_rotateRight_7cf53 l G _ xa 2 ) uM_X0_101 ok_J6_rotateRight_7cf53 uA_J6_rotateRight_7cf53 rfl rfl ⟨Nat.le_of_ble_eq_true rfl, Nat.le_of_ble_eq_true rfl⟩ hK hP hD hS hA hZ [] rfl rfl rfl hl.1 rfl (Nat.le_of_ble_eq_true rfl) dX0_mixNarrow_108 ⟨Nat.le_of_ble_eq_true rfl, Nat.le_of_ble_eq_true rfl⟩) hP hD hS hA [] rfl (fun r_32 u H locs hw_33 hP hD hS => ?_)
    have hw_33 : r_32 = rotI xa 2 := hw_33
    subst hw_33
    have hP : va_P G.1 vwCl [(a0, .inr (0, [.ref a1, .ref a2, .ref a3, .ref a4, .int kk, .int zz, .long tt])), (a1, .inl (G.2.1 2, 8, .inr (.inl wf))), (a3, .inl (G.2.1 1, 64, .inl nf))] H := hP
    have hD : va_D A [(a0, .inr (0, [.ref a1, .ref a2, .ref a3, .ref a4, .int kk, .int zz, .long tt])), (a1, .inl (G.2.1 2, 8, .inr (.inl wf))), (a3, .inl (G.2.1 1, 64, .inl nf))] := hD
    refine lv_iload_n hx hb dX0_mixNarrow_111 rfl (lv_at hl 2 rfl) ?_
    refine lv_bipush (v := 13) hx hb dX0_mixNarrow_112 (by decide) ?_
    refine g_calli (g_runS (As := [.int xa, .int 13]) (rest := [.int (rotI xa 2)]) ⟨hx, hb, hml, hown, htu⟩ (c_J6_rotateRight_7cf53 l G _ xa 13 ) uM_X0_101 ok_J6_rotateRight_7cf53 uA_J6_rotateRight_7cf53 rfl rfl ⟨Nat.le_of_ble_eq_true rfl, Nat.le_of_ble_eq_true rfl⟩ hK hP hD hS hA hZ [] rfl rfl rfl hl.1 rfl (Nat.le_of_ble_eq_true rfl) dX0_mixNarrow_114 ⟨Nat.le_of_ble_eq_true rfl, Nat.le_of_ble_eq_true rfl⟩) hP hD hS hA [] rfl (fun r_34 u H locs hw_35 hP hD hS => ?_)
    have hw_35 : r_34 = rotI xa 13 := hw_35
    subst hw_35
    have hP : va_P G.1 vwCl [(a0, .inr (0, [.ref a1, .ref a2, .ref a3, .ref a4, .int kk, .int zz, .long tt])), (a1, .inl (G.2.1 2, 8, .inr (.inl wf))), (a3, .inl (G.2.1 1, 64, .inl nf))] H := hP
    have hD : va_D A [(a0, .inr (0, [.ref a1, .ref a2, .ref a3, .ref a4, .int kk, .int zz, .long tt])), (a1, .inl (G.2.1 2, 8, .inr (.inl wf))), (a3, .inl (G.2.1 1, 64, .inl nf))] := hD
    refine lv_ixor hx hb dX0_mixNarrow_117 ?_
    refine lv_iload_n hx hb dX0_mixNarrow_118 rfl (lv_at hl 2 rfl) ?_
    refine lv_bipush (v := 22) hx hb dX0_mixNarrow_119 (by decide) ?_
    refine g_calli (g_runS (As := [.int xa, .int 22]) (rest := [.int ((rotI xa 2) ^^^ (rotI xa 13))]) ⟨hx, hb, hml, hown, htu⟩ (c_J6_rotateRight_7cf53 l G _ xa 22 ) uM_X0_101 ok_J6_rotateRight_7cf53 uA_J6_rotateRight_7cf53 rfl rfl ⟨Nat.le_of_ble_eq_true rfl, Nat.le_of_ble_eq_true rfl⟩ hK hP hD hS hA hZ [] rfl rfl rfl hl.1 rfl (Nat.le_of_ble_eq_true rfl) dX0_mixNarrow_121 ⟨Nat.le_of_ble_eq_true rfl, Nat.le_of_ble_eq_true rfl⟩) hP hD hS hA [] rfl (fun r_36 u H locs hw_37 hP hD hS => ?_)
    have hw_37 : r_36 = rotI xa 22 := hw_37
    subst hw_37
    have hP : va_P G.1 vwCl [(a0, .inr (0, [.ref a1, .ref a2, .ref a3, .ref a4, .int kk, .int zz, .long tt])), (a1, .inl (G.2.1 2, 8, .inr (.inl wf))), (a3, .inl (G.2.1 1, 64, .inl nf))] H := hP
    have hD : va_D A [(a0, .inr (0, [.ref a1, .ref a2, .ref a3, .ref a4, .int kk, .int zz, .long tt])), (a1, .inl (G.2.1 2, 8, .inr (.inl wf))), (a3, .inl (G.2.1 1, 64, .inl nf))] := hD
    refine lv_ixor hx hb dX0_mixNarrow_124 ?_
    refine lv_topi (fun v_38 ev_38 => ?_)
    refine lv_istore (lv' := [(11, .int v_38), (10, .int v_31), (0, .ref a0), (1, .int xa), (2, .int xb), (3, .int xc), (4, .int xd), (5, .int xe), (6, .int xf), (7, .int xg), (8, .int xh), (9, .int (nI t))]) hx hb dX0_mixNarrow_125 hl (by decide) rfl (fun ls hl => ?_)
    refine lv_iload hx hb dX0_mixNarrow_127 (lv_at hl 10 rfl) ?_
    refine lv_iload hx hb dX0_mixNarrow_129 (lv_at hl 1 rfl) ?_
    refine lv_iadd hx hb dX0_mixNarrow_131 ?_
    refine lv_iload hx hb dX0_mixNarrow_132 (lv_at hl 7 rfl) ?_
    refine lv_iload hx hb dX0_mixNarrow_134 (lv_at hl 8 rfl) ?_
    refine lv_iand hx hb dX0_mixNarrow_136 ?_
    refine lv_iload hx hb dX0_mixNarrow_137 (lv_at hl 7 rfl) ?_
    refine lv_iconst (v := (-1)) hx hb dX0_mixNarrow_139 (by decide) ?_
    refine lv_ixor hx hb dX0_mixNarrow_140 ?_
    refine lv_iload hx hb dX0_mixNarrow_141 (lv_at hl 9 rfl) ?_
    refine lv_iand hx hb dX0_mixNarrow_143 ?_
    refine lv_ixor hx hb dX0_mixNarrow_144 ?_
    refine lv_iadd hx hb dX0_mixNarrow_145 ?_
    refine va_getsN hx hb hZ.1.1 hS hown (va_Nw.use rfl (hK.2.1 _ nF_X0_107)) (fun _ h9 => h9) dX0_mixNarrow_146 ?_
    refine lv_iload hx hb dX0_mixNarrow_149 (lv_at hl 11 rfl) ?_
    refine g_tl hx hb hZ.1.2 hS ⟨by omega, by decide⟩ dX0_mixNarrow_151 ?_
    refine lv_bipush (v := 32) hx hb dX0_mixNarrow_152 (by decide) ?_
    refine lv_lushr (v := ushL (kT t) 32) hx hb dX0_mixNarrow_154 rfl ?_
    refine lv_l2i (v := Int64.toInt32 (ushL (kT t) 32)) hx hb dX0_mixNarrow_155 rfl ?_
    refine lv_iadd hx hb dX0_mixNarrow_156 ?_
    refine lv_aload_n hx hb dX0_mixNarrow_157 rfl (lv_at hl 2 rfl) ?_
    refine va_get (D := G.1) (ci := 0) (v := .ref a3) (C := RX0) (T := TX0) (N := 7) hx hb htu iwX0 hown hK.1 hP 0 rfl rfl 2 (by decide) (htu _ uF_X0_19) (fun _ h9 => h9) rfl dX0_mixNarrow_158 ?_
    refine lv_iload hx hb dX0_mixNarrow_161 (lv_at hl 11 rfl) ?_
    refine g_iald hx hb hK.1 hP 2 1 rfl rfl ⟨by omega, by decide⟩ dX0_mixNarrow_163 ?_
    refine lv_iadd hx hb dX0_mixNarrow_164 ?_
    refine lv_topi (fun v_39 ev_39 => ?_)
    refine lv_istore (lv' := [(12, .int v_39), (11, .int v_38), (10, .int v_31), (0, .ref a0), (1, .int xa), (2, .int xb), (3, .int xc), (4, .int xd), (5, .int xe), (6, .int xf), (7, .int xg), (8, .int xh), (9, .int (nI t))]) hx hb dX0_mixNarrow_165 hl (by decide) rfl (fun ls hl => ?_)
    refine lv_iload hx hb dX0_mixNarrow_167 (lv_at hl 1 rfl) ?_
    refine lv_iload_n hx hb dX0_mixNarrow_169 rfl (lv_at hl 4 rfl) ?_
    refine lv_iload_n hx hb dX0_mixNarrow_170 rfl (lv_at hl 5 rfl) ?_
    refine lv_iand hx hb dX0_mixNarrow_171 ?_
    refine lv_iload_n hx hb dX0_mixNarrow_172 rfl (lv_at hl 4 rfl) ?_
    refine lv_iload_n hx hb dX0_mixNarrow_173 rfl (lv_at hl 6 rfl) ?_
    refine lv_iand hx hb dX0_mixNarrow_174 ?_
    refine lv_ixor hx hb dX0_mixNarrow_175 ?_
    refine lv_iload_n hx hb dX0_mixNarrow_176 rfl (lv_at hl 5 rfl) ?_
    refine lv_iload_n hx hb dX0_mixNarrow_177 rfl (lv_at hl 6 rfl) ?_
    refine lv_iand hx hb dX0_mixNarrow_178 ?_
    refine lv_ixor hx hb dX0_mixNarrow_179 ?_
    refine lv_iadd hx hb dX0_mixNarrow_180 ?_
    refine lv_topi (fun v_40 ev_40 => ?_)
    refine lv_istore (lv' := [(13, .int v_40), (12, .int v_39), (11, .int v_38), (10, .int v_31), (0, .ref a0), (1, .int xa), (2, .int xb), (3, .int xc), (4, .int xd), (5, .int xe), (6, .int xf), (7, .int xg), (8, .int xh), (9, .int (nI t))]) hx hb dX0_mixNarrow_181 hl (by decide) rfl (fun ls hl => ?_)
    refine lv_iload hx hb dX0_mixNarrow_183 (lv_at hl 11 rfl) ?_
    refine lv_istore (lv' := [(8, .int xg), (13, .int v_40), (12, .int v_39), (11, .int v_38), (10, .int v_31), (0, .ref a0), (1, .int xa), (2, .int xb), (3, .int xc), (4, .int xd), (5, .int xe), (6, .int xf), (7, .int xg), (9, .int (nI t))]) hx hb dX0_mixNarrow_185 hl (by decide) rfl (fun ls hl => ?_)
    refine lv_iload hx hb dX0_mixNarrow_187 (lv_at hl 11 rfl) ?_
    refine lv_istore (lv' := [(7, .int xf), (8, .int xg), (13, .int v_40), (12, .int v_39), (11, .int v_38), (10, .int v_31), (0, .ref a0), (1, .int xa), (2, .int xb), (3, .int xc), (4, .int xd), (5, .int xe), (6, .int xf), (9, .int (nI t))]) hx hb dX0_mixNarrow_189 hl (by decide) rfl (fun ls hl => ?_)
    refine lv_iload hx hb dX0_mixNarrow_191 (lv_at hl 11 rfl) ?_
    refine lv_istore (lv' := [(6, .int xe), (7, .int xf), (8, .int xg), (13, .int v_40), (12, .int v_39), (11, .int v_38), (10, .int v_31), (0, .ref a0), (1, .int xa), (2, .int xb), (3, .int xc), (4, .int xd), (5, .int xe), (9, .int (nI t))]) hx hb dX0_mixNarrow_193 hl (by decide) rfl (fun ls hl => ?_)
    refine lv_iload hx hb dX0_mixNarrow_195 (lv_at hl 11 rfl) ?_
    refine lv_iload hx hb dX0_mixNarrow_197 (lv_at hl 4 rfl) ?_
    refine lv_iadd hx hb dX0_mixNarrow_199 ?_
    refine lv_topi (fun v_41 ev_41 => ?_)
    refine lv_istore (lv' := [(5, .int v_41), (6, .int xe), (7, .int xf), (8, .int xg), (13, .int v_40), (12, .int v_39), (11, .int v_38), (10, .int v_31), (0, .ref a0), (1, .int xa), (2, .int xb), (3, .int xc), (4, .int xd), (9, .int (nI t))]) hx hb dX0_mixNarrow_200 hl (by decide) rfl (fun ls hl => ?_)
    refine lv_iload_n hx hb dX0_mixNarrow_202 rfl (lv_at hl 11 rfl) ?_
    refine lv_istore (lv' := [(4, .int xc), (5, .int v_41), (6, .int xe), (7, .int xf), (8, .int xg), (13, .int v_40), (12, .int v_39), (11, .int v_38), (10, .int v_31), (0, .ref a0), (1, .int xa), (2, .int xb), (3, .int xc), (9, .int (nI t))]) hx hb dX0_mixNarrow_203 hl (by decide) rfl (fun ls hl => ?_)
    refine lv_iload_n hx hb dX0_mixNarrow_205 rfl (lv_at hl 11 rfl) ?_
    refine lv_istore_n (lv' := [(3, .int xb), (4, .int xc), (5, .int v_41), (6, .int xe), (7, .int xf), (8, .int xg), (13, .int v_40), (12, .int v_39), (11, .int v_38), (10, .int v_31), (0, .ref a0), (1, .int xa), (2, .int xb), (9, .int (nI t))]) hx hb dX0_mixNarrow_206 rfl hl (by decide) rfl (fun ls hl => ?_)
    refine lv_iload_n hx hb dX0_mixNarrow_207 rfl (lv_at hl 11 rfl) ?_
    refine lv_istore_n (lv' := [(2, .int xa), (3, .int xb), (4, .int xc), (5, .int v_41), (6, .int xe), (7, .int xf), (8, .int xg), (13, .int v_40), (12, .int v_39), (11, .int v_38), (10, .int v_31), (0, .ref a0), (1, .int xa), (9, .int (nI t))]) hx hb dX0_mixNarrow_208 rfl hl (by decide) rfl (fun ls hl => ?_)
    refine lv_iload hx hb dX0_mixNarrow_209 (lv_at hl 8 rfl) ?_
    refine lv_iload hx hb dX0_mixNarrow_211 (lv_at hl 7 rfl) ?_
    refine lv_iadd hx hb dX0_mixNarrow_213 ?_
    refine lv_topi (fun v_42 ev_42 => ?_)
    refine lv_istore_n (lv' := [(1, .int v_42), (2, .int xa), (3, .int xb), (4, .int xc), (5, .int v_41), (6, .int xe), (7, .int xf), (8, .int xg), (13, .int v_40), (12, .int v_39), (11, .int v_38), (10, .int v_31), (0, .ref a0), (9, .int (nI t))]) hx hb dX0_mixNarrow_214 rfl hl (by decide) rfl (fun ls hl => ?_)
    refine lv_iinc (v := nI (t + 1)) (lv' := [(9, .int (nI (t + 1))), (1, .int v_42), (2, .int xa), (3, .int xb), (4, .int xc), (5, .int v_41), (6, .int xe), (7, .int xf), (8, .int xg), (13, .int v_40), (12, .int v_39), (11, .int v_38), (10, .int v_31), (0, .ref a0)]) hx hb dX0_mixNarrow_215 hl (k := 13) rfl (nI_1 t) (by decide) rfl (fun ls hl => ?_)
    refine lv_goto (tgt := 74) hx hb dX0_mixNarrow_218 (by decide) ?_
    exact ih_74 (t + 1, v_42, xa, xb, xc, v_41, xe, xf, xg) (show (t + 1) ≤ 64 ∧ (v_42, xa, xb, xc, v_41, xe, xf, xg) = rdsN nf (v0N wf) (t + 1) from ⟨by omega, by rw [rdsN, ← hI.2]; subst_vars; rfl⟩) (by show 64 - (t + 1) < 64 - t; omega) _ _ _ (hP.sub [0, 1, 2] rfl) (hD.sub [0, 1, 2] (by decide) rfl) hS (lv_sub hl [13, 1, 2, 3, 4, 5, 6, 7, 8, 0] rfl)
set_option maxHeartbeats 4000000 in
set_option maxRecDepth 100000 in
theorem c_X0_mixWide (l : Launch) (G : GW) (sz : Nat) (a0 : Nat) (a1 : Nat) (a2 : Nat) (a3 : Nat) (a4 : Nat) (kk : Int32) (zz : Int32) (tt : Int64) (wf : Nat → Int64) (nf : Nat → Int64)  : Met l yX0_mixWide (Cond.code yX0_mixWide cX0_mixWide 26 (none : Option FieldType) :: UW) ({ frames := 1, cells := 0, slots := 0, locals := 22 } : Room) (va_Pc [.ref a0] (gPre G [(a0, .inr (0, [.ref a1, .ref a2, .ref a3, .ref a4, .int kk, .int zz, .long tt])), (a1, .inl (G.2.1 2, 8, .inr (.inl wf))), (a4, .inl (G.2.1 2, 80, .inr (.inl nf)))] sz)) (va_Qv (fun (wf' : Nat → Int64) => ∀ j, j < 8 → wf' j = mxW wf nf j) (fun u => gPost G (va_A [(a0, .inr (0, [.ref a1, .ref a2, .ref a3, .ref a4, .int kk, .int zz, .long tt])), (a1, .inl (G.2.1 2, 8, .inr (.inl wf))), (a4, .inl (G.2.1 2, 80, .inr (.inl nf)))] sz) ((fun (wf' : Nat → Int64) => ([(a0, .inr (0, [.ref a1, .ref a2, .ref a3, .ref a4, .int kk, .int zz, .long tt])), (a1, .inl (G.2.1 2, 8, .inr (.inl wf'))), (a4, .inl (G.2.1 2, 80, .inr (.inl nf)))] : va_W)) u)) (va_A [(a0, .inr (0, [.ref a1, .ref a2, .ref a3, .ref a4, .int kk, .int zz, .long tt])), (a1, .inl (G.2.1 2, 8, .inr (.inl wf))), (a4, .inl (G.2.1 2, 80, .inr (.inl nf)))] sz)) 0 0 (va_A [(a0, .inr (0, [.ref a1, .ref a2, .ref a3, .ref a4, .int kk, .int zz, .long tt])), (a1, .inl (G.2.1 2, 8, .inr (.inl wf))), (a4, .inl (G.2.1 2, 80, .inr (.inl nf)))] sz) := by
  refine gM_of (Qf := fun A => va_Qv (fun (wf' : Nat → Int64) => ∀ j, j < 8 → wf' j = mxW wf nf j) (fun u => gPost G A ((fun (wf' : Nat → Int64) => ([(a0, .inr (0, [.ref a1, .ref a2, .ref a3, .ref a4, .int kk, .int zz, .long tt])), (a1, .inl (G.2.1 2, 8, .inr (.inl wf'))), (a4, .inl (G.2.1 2, 80, .inr (.inl nf)))] : va_W)) u)) A) (by decide) (Nat.le_of_ble_eq_true rfl) ?_
  intro p e s m below meth c A ls hx hb hml hr hown htu hlk hnm hA hP hD hS hK hZ hl
  have hown : s.vm.findClass RX0 = some m.cls := hown
  have hl : lv_has ls 26 [(0, .ref a0)] := hl
  refine lv_aload_n hx hb dX0_mixWide_0 rfl (lv_at hl 0 rfl) ?_
  refine va_get (D := G.1) (ci := 0) (v := .ref a1) (C := RX0) (T := TX0) (N := 7) hx hb htu iwX0 hown hK.1 hP 0 rfl rfl 0 (by decide) (htu _ uF_X0_9) (fun _ h9 => h9) rfl dX0_mixWide_1 ?_
  refine lv_iconst (v := nI 0) hx hb dX0_mixWide_4 (by decide) ?_
  refine g_lald hx hb hK.1 hP 1 2 rfl rfl ⟨by omega, by decide⟩ dX0_mixWide_5 ?_
  refine lv_topl (fun v_1 ev_1 => ?_)
  refine lv_lstore_n (lv' := [(1, .long v_1), (0, .ref a0)]) hx hb dX0_mixWide_6 rfl hl (by decide) rfl (fun ls hl => ?_)
  refine lv_aload_n hx hb dX0_mixWide_7 rfl (lv_at hl 1 rfl) ?_
  refine va_get (D := G.1) (ci := 0) (v := .ref a1) (C := RX0) (T := TX0) (N := 7) hx hb htu iwX0 hown hK.1 hP 0 rfl rfl 0 (by decide) (htu _ uF_X0_9) (fun _ h9 => h9) rfl dX0_mixWide_8 ?_
  refine lv_iconst (v := nI 1) hx hb dX0_mixWide_11 (by decide) ?_
  refine g_lald hx hb hK.1 hP 1 2 rfl rfl ⟨by omega, by decide⟩ dX0_mixWide_12 ?_
  refine lv_topl (fun v_2 ev_2 => ?_)
  refine lv_lstore_n (lv' := [(3, .long v_2), (1, .long v_1), (0, .ref a0)]) hx hb dX0_mixWide_13 rfl hl (by decide) rfl (fun ls hl => ?_)
  refine lv_aload_n hx hb dX0_mixWide_14 rfl (lv_at hl 2 rfl) ?_
  refine va_get (D := G.1) (ci := 0) (v := .ref a1) (C := RX0) (T := TX0) (N := 7) hx hb htu iwX0 hown hK.1 hP 0 rfl rfl 0 (by decide) (htu _ uF_X0_9) (fun _ h9 => h9) rfl dX0_mixWide_15 ?_
  refine lv_iconst (v := nI 2) hx hb dX0_mixWide_18 (by decide) ?_
  refine g_lald hx hb hK.1 hP 1 2 rfl rfl ⟨by omega, by decide⟩ dX0_mixWide_19 ?_
  refine lv_topl (fun v_3 ev_3 => ?_)
  refine lv_lstore (lv' := [(5, .long v_3), (3, .long v_2), (1, .long v_1), (0, .ref a0)]) hx hb dX0_mixWide_20 hl (by decide) rfl (fun ls hl => ?_)
  refine lv_aload_n hx hb dX0_mixWide_22 rfl (lv_at hl 3 rfl) ?_
  refine va_get (D := G.1) (ci := 0) (v := .ref a1) (C := RX0) (T := TX0) (N := 7) hx hb htu iwX0 hown hK.1 hP 0 rfl rfl 0 (by decide) (htu _ uF_X0_9) (fun _ h9 => h9) rfl dX0_mixWide_23 ?_
  refine lv_iconst (v := nI 3) hx hb dX0_mixWide_26 (by decide) ?_
  refine g_lald hx hb hK.1 hP 1 2 rfl rfl ⟨by omega, by decide⟩ dX0_mixWide_27 ?_
  refine lv_topl (fun v_4 ev_4 => ?_)
  refine lv_lstore (lv' := [(7, .long v_4), (5, .long v_3), (3, .long v_2), (1, .long v_1), (0, .ref a0)]) hx hb dX0_mixWide_28 hl (by decide) rfl (fun ls hl => ?_)
  refine lv_aload_n hx hb dX0_mixWide_30 rfl (lv_at hl 4 rfl) ?_
  refine va_get (D := G.1) (ci := 0) (v := .ref a1) (C := RX0) (T := TX0) (N := 7) hx hb htu iwX0 hown hK.1 hP 0 rfl rfl 0 (by decide) (htu _ uF_X0_9) (fun _ h9 => h9) rfl dX0_mixWide_31 ?_
  refine lv_iconst (v := nI 4) hx hb dX0_mixWide_34 (by decide) ?_
  refine g_lald hx hb hK.1 hP 1 2 rfl rfl ⟨by omega, by decide⟩ dX0_mixWide_35 ?_
  refine lv_topl (fun v_5 ev_5 => ?_)
  refine lv_lstore (lv' := [(9, .long v_5), (7, .long v_4), (5, .long v_3), (3, .long v_2), (1, .long v_1), (0, .ref a0)]) hx hb dX0_mixWide_36 hl (by decide) rfl (fun ls hl => ?_)
  refine lv_aload_n hx hb dX0_mixWide_38 rfl (lv_at hl 5 rfl) ?_
  refine va_get (D := G.1) (ci := 0) (v := .ref a1) (C := RX0) (T := TX0) (N := 7) hx hb htu iwX0 hown hK.1 hP 0 rfl rfl 0 (by decide) (htu _ uF_X0_9) (fun _ h9 => h9) rfl dX0_mixWide_39 ?_
  refine lv_iconst (v := nI 5) hx hb dX0_mixWide_42 (by decide) ?_
  refine g_lald hx hb hK.1 hP 1 2 rfl rfl ⟨by omega, by decide⟩ dX0_mixWide_43 ?_
  refine lv_topl (fun v_6 ev_6 => ?_)
  refine lv_lstore (lv' := [(11, .long v_6), (9, .long v_5), (7, .long v_4), (5, .long v_3), (3, .long v_2), (1, .long v_1), (0, .ref a0)]) hx hb dX0_mixWide_44 hl (by decide) rfl (fun ls hl => ?_)
  refine lv_aload_n hx hb dX0_mixWide_46 rfl (lv_at hl 6 rfl) ?_
  refine va_get (D := G.1) (ci := 0) (v := .ref a1) (C := RX0) (T := TX0) (N := 7) hx hb htu iwX0 hown hK.1 hP 0 rfl rfl 0 (by decide) (htu _ uF_X0_9) (fun _ h9 => h9) rfl dX0_mixWide_47 ?_
  refine lv_bipush (v := nI 6) hx hb dX0_mixWide_50 (by decide) ?_
  refine g_lald hx hb hK.1 hP 1 2 rfl rfl ⟨by omega, by decide⟩ dX0_mixWide_52 ?_
  refine lv_topl (fun v_7 ev_7 => ?_)
  refine lv_lstore (lv' := [(13, .long v_7), (11, .long v_6), (9, .long v_5), (7, .long v_4), (5, .long v_3), (3, .long v_2), (1, .long v_1), (0, .ref a0)]) hx hb dX0_mixWide_53 hl (by decide) rfl (fun ls hl => ?_)
  refine lv_aload_n hx hb dX0_mixWide_55 rfl (lv_at hl 7 rfl) ?_
  refine va_get (D := G.1) (ci := 0) (v := .ref a1) (C := RX0) (T := TX0) (N := 7) hx hb htu iwX0 hown hK.1 hP 0 rfl rfl 0 (by decide) (htu _ uF_X0_9) (fun _ h9 => h9) rfl dX0_mixWide_56 ?_
  refine lv_bipush (v := nI 7) hx hb dX0_mixWide_59 (by decide) ?_
  refine g_lald hx hb hK.1 hP 1 2 rfl rfl ⟨by omega, by decide⟩ dX0_mixWide_61 ?_
  refine lv_topl (fun v_8 ev_8 => ?_)
  refine lv_lstore (lv' := [(15, .long v_8), (13, .long v_7), (11, .long v_6), (9, .long v_5), (7, .long v_4), (5, .long v_3), (3, .long v_2), (1, .long v_1), (0, .ref a0)]) hx hb dX0_mixWide_62 hl (by decide) rfl (fun ls hl => ?_)
  refine lv_iconst (v := 0) hx hb dX0_mixWide_64 (by decide) ?_
  refine lv_istore (lv' := [(17, .int 0), (15, .long v_8), (13, .long v_7), (11, .long v_6), (9, .long v_5), (7, .long v_4), (5, .long v_3), (3, .long v_2), (1, .long v_1), (0, .ref a0)]) hx hb dX0_mixWide_65 hl (by decide) rfl (fun ls hl => ?_)
  refine g_loop (σ := Nat × Int64 × Int64 × Int64 × Int64 × Int64 × Int64 × Int64 × Int64) (G := G) (fun xq9 : Nat × Int64 × Int64 × Int64 × Int64 × Int64 × Int64 × Int64 × Int64 => [(a0, .inr (0, [.ref a1, .ref a2, .ref a3, .ref a4, .int kk, .int zz, .long tt])), (a1, .inl (G.2.1 2, 8, .inr (.inl wf))), (a4, .inl (G.2.1 2, 80, .inr (.inl nf)))]) (fun xq9 : Nat × Int64 × Int64 × Int64 × Int64 × Int64 × Int64 × Int64 × Int64 => [(0, .ref a0), (1, .long xq9.2.1), (3, .long xq9.2.2.1), (5, .long xq9.2.2.2.1), (7, .long xq9.2.2.2.2.1), (9, .long xq9.2.2.2.2.2.1), (11, .long xq9.2.2.2.2.2.2.1), (13, .long xq9.2.2.2.2.2.2.2.1), (15, .long xq9.2.2.2.2.2.2.2.2), (17, .int (nI xq9.1))]) (fun xq9 : Nat × Int64 × Int64 × Int64 × Int64 × Int64 × Int64 × Int64 × Int64 => xq9.1 ≤ 80 ∧ (xq9.2.1, xq9.2.2.1, xq9.2.2.2.1, xq9.2.2.2.2.1, xq9.2.2.2.2.2.1, xq9.2.2.2.2.2.2.1, xq9.2.2.2.2.2.2.2.1, xq9.2.2.2.2.2.2.2.2) = rdsW nf (v0W wf) xq9.1) (fun xq9 : Nat × Int64 × Int64 × Int64 × Int64 × Int64 × Int64 × Int64 × Int64 => 80 - xq9.1) ?_ (0, v_1, v_2, v_3, v_4, v_5, v_6, v_7, v_8) (show 0 ≤ 80 ∧ (v_1, v_2, v_3, v_4, v_5, v_6, v_7, v_8) = rdsW nf (v0W wf) 0 from ⟨Nat.zero_le _, by subst_vars; rfl⟩) (hP.sub [0, 1, 2] rfl) (hD.sub [0, 1, 2] (by decide) rfl) hS (lv_sub hl [9, 8, 7, 6, 5, 4, 3, 2, 1, 0] rfl)
  clear hP hD hS hl
  intro x hxI_67 ih_67 H locs ls hP hD hS hl
  obtain ⟨t, xa, xb, xc, xd, xe, xf, xg, xh⟩ := x
  have hI : t ≤ 80 ∧ (xa, xb, xc, xd, xe, xf, xg, xh) = rdsW nf (v0W wf) t := hxI_67
  have hP : va_P G.1 vwCl [(a0, .inr (0, [.ref a1, .ref a2, .ref a3, .ref a4, .int kk, .int zz, .long tt])), (a1, .inl (G.2.1 2, 8, .inr (.inl wf))), (a4, .inl (G.2.1 2, 80, .inr (.inl nf)))] H := hP
  have hD : va_D A [(a0, .inr (0, [.ref a1, .ref a2, .ref a3, .ref a4, .int kk, .int zz, .long tt])), (a1, .inl (G.2.1 2, 8, .inr (.inl wf))), (a4, .inl (G.2.1 2, 80, .inr (.inl nf)))] := hD
  have hl : lv_has ls 26 [(0, .ref a0), (1, .long xa), (3, .long xb), (5, .long xc), (7, .long xd), (9, .long xe), (11, .long xf), (13, .long xg), (15, .long xh), (17, .int (nI t))] := hl
  refine lv_iload hx hb dX0_mixWide_67 (lv_at hl 9 rfl) ?_
  refine lv_bipush (v := 80) hx hb dX0_mixWide_69 (by decide) ?_
  refine lv_icmp_ge (tgt := 217) hx hb dX0_mixWide_71 (by decide) (fun c_71 => ?_) (fun c_71 => ?_)
  · skip
    have ht : t = 80 := Nat.le_antisymm hI.1 (ge_t (n := 80) c_71 (by decide))
    refine lv_aload_n hx hb dX0_mixWide_217 rfl (lv_at hl 0 rfl) ?_
    refine va_get (D := G.1) (ci := 0) (v := .ref a1) (C := RX0) (T := TX0) (N := 7) hx hb htu iwX0 hown hK.1 hP 0 rfl rfl 0 (by decide) (htu _ uF_X0_9) (fun _ h9 => h9) rfl dX0_mixWide_218 ?_
    refine lv_iconst (v := nI 0) hx hb dX0_mixWide_221 (by decide) ?_
    refine lv_dup2_11 hx hb dX0_mixWide_222 rfl rfl ?_
    refine g_lald hx hb hK.1 hP 1 2 rfl rfl ⟨by omega, by decide⟩ dX0_mixWide_223 ?_
    refine lv_lload_n hx hb dX0_mixWide_224 rfl (lv_at hl 1 rfl) ?_
    refine lv_ladd hx hb dX0_mixWide_225 ?_
    refine lv_topl (fun v_9 ev_9 => ?_)
    refine g_last hx hb hK.1 hP hD hS 1 2 rfl rfl ⟨by omega, by decide⟩ dX0_mixWide_226 (fun H locs hP hD hS => ?_)
    obtain ⟨g_10, eg_10⟩ : ∃ gq9 : Nat → Int64, gq9 = vp_updL wf 0 v_9 := ⟨_, rfl⟩
    rw [← eg_10] at hP hD
    have hP : va_P G.1 vwCl [(a0, .inr (0, [.ref a1, .ref a2, .ref a3, .ref a4, .int kk, .int zz, .long tt])), (a1, .inl (G.2.1 2, 8, .inr (.inl g_10))), (a4, .inl (G.2.1 2, 80, .inr (.inl nf)))] H := hP
    have hD : va_D A [(a0, .inr (0, [.ref a1, .ref a2, .ref a3, .ref a4, .int kk, .int zz, .long tt])), (a1, .inl (G.2.1 2, 8, .inr (.inl g_10))), (a4, .inl (G.2.1 2, 80, .inr (.inl nf)))] := hD
    refine lv_aload_n hx hb dX0_mixWide_227 rfl (lv_at hl 0 rfl) ?_
    refine va_get (D := G.1) (ci := 0) (v := .ref a1) (C := RX0) (T := TX0) (N := 7) hx hb htu iwX0 hown hK.1 hP 0 rfl rfl 0 (by decide) (htu _ uF_X0_9) (fun _ h9 => h9) rfl dX0_mixWide_228 ?_
    refine lv_iconst (v := nI 1) hx hb dX0_mixWide_231 (by decide) ?_
    refine lv_dup2_11 hx hb dX0_mixWide_232 rfl rfl ?_
    refine g_lald hx hb hK.1 hP 1 2 rfl rfl ⟨by omega, by decide⟩ dX0_mixWide_233 ?_
    refine lv_lload_n hx hb dX0_mixWide_234 rfl (lv_at hl 2 rfl) ?_
    refine lv_ladd hx hb dX0_mixWide_235 ?_
    refine lv_topl (fun v_11 ev_11 => ?_)
    refine g_last hx hb hK.1 hP hD hS 1 2 rfl rfl ⟨by omega, by decide⟩ dX0_mixWide_236 (fun H locs hP hD hS => ?_)
    obtain ⟨g_12, eg_12⟩ : ∃ gq9 : Nat → Int64, gq9 = vp_updL g_10 1 v_11 := ⟨_, rfl⟩
    rw [← eg_12] at hP hD
    have hP : va_P G.1 vwCl [(a0, .inr (0, [.ref a1, .ref a2, .ref a3, .ref a4, .int kk, .int zz, .long tt])), (a1, .inl (G.2.1 2, 8, .inr (.inl g_12))), (a4, .inl (G.2.1 2, 80, .inr (.inl nf)))] H := hP
    have hD : va_D A [(a0, .inr (0, [.ref a1, .ref a2, .ref a3, .ref a4, .int kk, .int zz, .long tt])), (a1, .inl (G.2.1 2, 8, .inr (.inl g_12))), (a4, .inl (G.2.1 2, 80, .inr (.inl nf)))] := hD
    refine lv_aload_n hx hb dX0_mixWide_237 rfl (lv_at hl 0 rfl) ?_
    refine va_get (D := G.1) (ci := 0) (v := .ref a1) (C := RX0) (T := TX0) (N := 7) hx hb htu iwX0 hown hK.1 hP 0 rfl rfl 0 (by decide) (htu _ uF_X0_9) (fun _ h9 => h9) rfl dX0_mixWide_238 ?_
    refine lv_iconst (v := nI 2) hx hb dX0_mixWide_241 (by decide) ?_
    refine lv_dup2_11 hx hb dX0_mixWide_242 rfl rfl ?_
    refine g_lald hx hb hK.1 hP 1 2 rfl rfl ⟨by omega, by decide⟩ dX0_mixWide_243 ?_
    refine lv_lload hx hb dX0_mixWide_244 (lv_at hl 3 rfl) ?_
    refine lv_ladd hx hb dX0_mixWide_246 ?_
    refine lv_topl (fun v_13 ev_13 => ?_)
    refine g_last hx hb hK.1 hP hD hS 1 2 rfl rfl ⟨by omega, by decide⟩ dX0_mixWide_247 (fun H locs hP hD hS => ?_)
    obtain ⟨g_14, eg_14⟩ : ∃ gq9 : Nat → Int64, gq9 = vp_updL g_12 2 v_13 := ⟨_, rfl⟩
    rw [← eg_14] at hP hD
    have hP : va_P G.1 vwCl [(a0, .inr (0, [.ref a1, .ref a2, .ref a3, .ref a4, .int kk, .int zz, .long tt])), (a1, .inl (G.2.1 2, 8, .inr (.inl g_14))), (a4, .inl (G.2.1 2, 80, .inr (.inl nf)))] H := hP
    have hD : va_D A [(a0, .inr (0, [.ref a1, .ref a2, .ref a3, .ref a4, .int kk, .int zz, .long tt])), (a1, .inl (G.2.1 2, 8, .inr (.inl g_14))), (a4, .inl (G.2.1 2, 80, .inr (.inl nf)))] := hD
    refine lv_aload_n hx hb dX0_mixWide_248 rfl (lv_at hl 0 rfl) ?_
    refine va_get (D := G.1) (ci := 0) (v := .ref a1) (C := RX0) (T := TX0) (N := 7) hx hb htu iwX0 hown hK.1 hP 0 rfl rfl 0 (by decide) (htu _ uF_X0_9) (fun _ h9 => h9) rfl dX0_mixWide_249 ?_
    refine lv_iconst (v := nI 3) hx hb dX0_mixWide_252 (by decide) ?_
    refine lv_dup2_11 hx hb dX0_mixWide_253 rfl rfl ?_
    refine g_lald hx hb hK.1 hP 1 2 rfl rfl ⟨by omega, by decide⟩ dX0_mixWide_254 ?_
    refine lv_lload hx hb dX0_mixWide_255 (lv_at hl 4 rfl) ?_
    refine lv_ladd hx hb dX0_mixWide_257 ?_
    refine lv_topl (fun v_15 ev_15 => ?_)
    refine g_last hx hb hK.1 hP hD hS 1 2 rfl rfl ⟨by omega, by decide⟩ dX0_mixWide_258 (fun H locs hP hD hS => ?_)
    obtain ⟨g_16, eg_16⟩ : ∃ gq9 : Nat → Int64, gq9 = vp_updL g_14 3 v_15 := ⟨_, rfl⟩
    rw [← eg_16] at hP hD
    have hP : va_P G.1 vwCl [(a0, .inr (0, [.ref a1, .ref a2, .ref a3, .ref a4, .int kk, .int zz, .long tt])), (a1, .inl (G.2.1 2, 8, .inr (.inl g_16))), (a4, .inl (G.2.1 2, 80, .inr (.inl nf)))] H := hP
    have hD : va_D A [(a0, .inr (0, [.ref a1, .ref a2, .ref a3, .ref a4, .int kk, .int zz, .long tt])), (a1, .inl (G.2.1 2, 8, .inr (.inl g_16))), (a4, .inl (G.2.1 2, 80, .inr (.inl nf)))] := hD
    refine lv_aload_n hx hb dX0_mixWide_259 rfl (lv_at hl 0 rfl) ?_
    refine va_get (D := G.1) (ci := 0) (v := .ref a1) (C := RX0) (T := TX0) (N := 7) hx hb htu iwX0 hown hK.1 hP 0 rfl rfl 0 (by decide) (htu _ uF_X0_9) (fun _ h9 => h9) rfl dX0_mixWide_260 ?_
    refine lv_iconst (v := nI 4) hx hb dX0_mixWide_263 (by decide) ?_
    refine lv_dup2_11 hx hb dX0_mixWide_264 rfl rfl ?_
    refine g_lald hx hb hK.1 hP 1 2 rfl rfl ⟨by omega, by decide⟩ dX0_mixWide_265 ?_
    refine lv_lload hx hb dX0_mixWide_266 (lv_at hl 5 rfl) ?_
    refine lv_ladd hx hb dX0_mixWide_268 ?_
    refine lv_topl (fun v_17 ev_17 => ?_)
    refine g_last hx hb hK.1 hP hD hS 1 2 rfl rfl ⟨by omega, by decide⟩ dX0_mixWide_269 (fun H locs hP hD hS => ?_)
    obtain ⟨g_18, eg_18⟩ : ∃ gq9 : Nat → Int64, gq9 = vp_updL g_16 4 v_17 := ⟨_, rfl⟩
    rw [← eg_18] at hP hD
    have hP : va_P G.1 vwCl [(a0, .inr (0, [.ref a1, .ref a2, .ref a3, .ref a4, .int kk, .int zz, .long tt])), (a1, .inl (G.2.1 2, 8, .inr (.inl g_18))), (a4, .inl (G.2.1 2, 80, .inr (.inl nf)))] H := hP
    have hD : va_D A [(a0, .inr (0, [.ref a1, .ref a2, .ref a3, .ref a4, .int kk, .int zz, .long tt])), (a1, .inl (G.2.1 2, 8, .inr (.inl g_18))), (a4, .inl (G.2.1 2, 80, .inr (.inl nf)))] := hD
    refine lv_aload_n hx hb dX0_mixWide_270 rfl (lv_at hl 0 rfl) ?_
    refine va_get (D := G.1) (ci := 0) (v := .ref a1) (C := RX0) (T := TX0) (N := 7) hx hb htu iwX0 hown hK.1 hP 0 rfl rfl 0 (by decide) (htu _ uF_X0_9) (fun _ h9 => h9) rfl dX0_mixWide_271 ?_
    refine lv_iconst (v := nI 5) hx hb dX0_mixWide_274 (by decide) ?_
    refine lv_dup2_11 hx hb dX0_mixWide_275 rfl rfl ?_
    refine g_lald hx hb hK.1 hP 1 2 rfl rfl ⟨by omega, by decide⟩ dX0_mixWide_276 ?_
    refine lv_lload hx hb dX0_mixWide_277 (lv_at hl 6 rfl) ?_
    refine lv_ladd hx hb dX0_mixWide_279 ?_
    refine lv_topl (fun v_19 ev_19 => ?_)
    refine g_last hx hb hK.1 hP hD hS 1 2 rfl rfl ⟨by omega, by decide⟩ dX0_mixWide_280 (fun H locs hP hD hS => ?_)
    obtain ⟨g_20, eg_20⟩ : ∃ gq9 : Nat → Int64, gq9 = vp_updL g_18 5 v_19 := ⟨_, rfl⟩
    rw [← eg_20] at hP hD
    have hP : va_P G.1 vwCl [(a0, .inr (0, [.ref a1, .ref a2, .ref a3, .ref a4, .int kk, .int zz, .long tt])), (a1, .inl (G.2.1 2, 8, .inr (.inl g_20))), (a4, .inl (G.2.1 2, 80, .inr (.inl nf)))] H := hP
    have hD : va_D A [(a0, .inr (0, [.ref a1, .ref a2, .ref a3, .ref a4, .int kk, .int zz, .long tt])), (a1, .inl (G.2.1 2, 8, .inr (.inl g_20))), (a4, .inl (G.2.1 2, 80, .inr (.inl nf)))] := hD
    refine lv_aload_n hx hb dX0_mixWide_281 rfl (lv_at hl 0 rfl) ?_
    refine va_get (D := G.1) (ci := 0) (v := .ref a1) (C := RX0) (T := TX0) (N := 7) hx hb htu iwX0 hown hK.1 hP 0 rfl rfl 0 (by decide) (htu _ uF_X0_9) (fun _ h9 => h9) rfl dX0_mixWide_282 ?_
    refine lv_bipush (v := nI 6) hx hb dX0_mixWide_285 (by decide) ?_
    refine lv_dup2_11 hx hb dX0_mixWide_287 rfl rfl ?_
    refine g_lald hx hb hK.1 hP 1 2 rfl rfl ⟨by omega, by decide⟩ dX0_mixWide_288 ?_
    refine lv_lload hx hb dX0_mixWide_289 (lv_at hl 7 rfl) ?_
    refine lv_ladd hx hb dX0_mixWide_291 ?_
    refine lv_topl (fun v_21 ev_21 => ?_)
    refine g_last hx hb hK.1 hP hD hS 1 2 rfl rfl ⟨by omega, by decide⟩ dX0_mixWide_292 (fun H locs hP hD hS => ?_)
    obtain ⟨g_22, eg_22⟩ : ∃ gq9 : Nat → Int64, gq9 = vp_updL g_20 6 v_21 := ⟨_, rfl⟩
    rw [← eg_22] at hP hD
    have hP : va_P G.1 vwCl [(a0, .inr (0, [.ref a1, .ref a2, .ref a3, .ref a4, .int kk, .int zz, .long tt])), (a1, .inl (G.2.1 2, 8, .inr (.inl g_22))), (a4, .inl (G.2.1 2, 80, .inr (.inl nf)))] H := hP
    have hD : va_D A [(a0, .inr (0, [.ref a1, .ref a2, .ref a3, .ref a4, .int kk, .int zz, .long tt])), (a1, .inl (G.2.1 2, 8, .inr (.inl g_22))), (a4, .inl (G.2.1 2, 80, .inr (.inl nf)))] := hD
    refine lv_aload_n hx hb dX0_mixWide_293 rfl (lv_at hl 0 rfl) ?_
    refine va_get (D := G.1) (ci := 0) (v := .ref a1) (C := RX0) (T := TX0) (N := 7) hx hb htu iwX0 hown hK.1 hP 0 rfl rfl 0 (by decide) (htu _ uF_X0_9) (fun _ h9 => h9) rfl dX0_mixWide_294 ?_
    refine lv_bipush (v := nI 7) hx hb dX0_mixWide_297 (by decide) ?_
    refine lv_dup2_11 hx hb dX0_mixWide_299 rfl rfl ?_
    refine g_lald hx hb hK.1 hP 1 2 rfl rfl ⟨by omega, by decide⟩ dX0_mixWide_300 ?_
    refine lv_lload hx hb dX0_mixWide_301 (lv_at hl 8 rfl) ?_
    refine lv_ladd hx hb dX0_mixWide_303 ?_
    refine lv_topl (fun v_23 ev_23 => ?_)
    refine g_last hx hb hK.1 hP hD hS 1 2 rfl rfl ⟨by omega, by decide⟩ dX0_mixWide_304 (fun H locs hP hD hS => ?_)
    obtain ⟨g_24, eg_24⟩ : ∃ gq9 : Nat → Int64, gq9 = vp_updL g_22 7 v_23 := ⟨_, rfl⟩
    rw [← eg_24] at hP hD
    have hP : va_P G.1 vwCl [(a0, .inr (0, [.ref a1, .ref a2, .ref a3, .ref a4, .int kk, .int zz, .long tt])), (a1, .inl (G.2.1 2, 8, .inr (.inl g_24))), (a4, .inl (G.2.1 2, 80, .inr (.inl nf)))] H := hP
    have hD : va_D A [(a0, .inr (0, [.ref a1, .ref a2, .ref a3, .ref a4, .int kk, .int zz, .long tt])), (a1, .inl (G.2.1 2, 8, .inr (.inl g_24))), (a4, .inl (G.2.1 2, 80, .inr (.inl nf)))] := hD
    exact gret_v hx hb hr hlk dX0_mixWide_305 hS g_24 (hP.sub [0, 1, 2] rfl) (hD.sub [0, 1, 2] (by decide) rfl) (show ∀ j, j < 8 → g_24 j = mxW wf nf j from by intro j hj; unfold mxW; rw [← ht, ← hI.2]; subst_vars; rcases (show j = 0 ∨ j = 1 ∨ j = 2 ∨ j = 3 ∨ j = 4 ∨ j = 5 ∨ j = 6 ∨ j = 7 by omega) with rfl | rfl | rfl | rfl | rfl | rfl | rfl | rfl <;> rfl)
  · skip
    have ht : t < 80 := ge_f (n := 80) c_71 (by omega)
    refine lv_lload hx hb dX0_mixWide_74 (lv_at hl 5 rfl) ?_
    refine lv_bipush (v := 14) hx hb dX0_mixWide_76 (by decide) ?_
    refine g_calll (g_runS (As := [.long xe, .int 14]) (rest := []) ⟨hx, hb, hml, hown, htu⟩ (c_J13_rotateRight_b2ac5 l G _ xe 14 ) uM_X0_110 ok_J13_rotateRight_b2ac5 uA_J13_rotateRight_b2ac5 rfl rfl ⟨Nat.le_of_ble_eq_true rfl, Nat.le_of_ble_eq_true rfl⟩ hK hP hD hS hA hZ [] rfl rfl rfl hl.1 rfl (Nat.le_of_ble_eq_true rfl) dX0_mixWide_78 ⟨Nat.le_of_ble_eq_true rfl, Nat.le_of_ble_eq_true rfl⟩) hP hD hS hA [] rfl (fun r_25 u H locs hw_26 hP hD hS => ?_)
    have hw_26 : r_25 = rotL xe 14 := hw_26
    subst hw_26
    have hP : va_P G.1 vwCl [(a0, .inr (0, [.ref a1, .ref a2, .ref a3, .ref a4, .int kk, .int zz, .long tt])), (a1, .inl (G.2.1 2, 8, .inr (.inl wf))), (a4, .inl (G.2.1 2, 80, .inr (.inl nf)))] H := hP
    have hD : va_D A [(a0, .inr (0, [.ref a1, .ref a2, .ref a3, .ref a4, .int kk, .int zz, .long tt])), (a1, .inl (G.2.1 2, 8, .inr (.inl wf))), (a4, .inl (G.2.1 2, 80, .inr (.inl nf)))] := hD
    refine lv_lload hx hb dX0_mixWide_81 (lv_at hl 5 rfl) ?_
    refine lv_bipush (v := 18) hx hb dX0_mixWide_83 (by decide) ?_
    refine g_calll (g_runS (As := [.long xe, .int 18]) (rest := [.long (rotL xe 14)]) ⟨hx, hb, hml, hown, htu⟩ (c_J13_rotateRight_b2ac5 l G _ xe 18 ) uM_X0_110 ok_J13_rotateRight_b2ac5 uA_J13_rotateRight_b2ac5 rfl rfl ⟨Nat.le_of_ble_eq_true rfl, Nat.le_of_ble_eq_true rfl⟩ hK hP hD hS hA hZ [] rfl rfl rfl hl.1 rfl (Nat.le_of_ble_eq_true rfl) dX0_mixWide_85 ⟨Nat.le_of_ble_eq_true rfl, Nat.le_of_ble_eq_true rfl⟩) hP hD hS hA [] rfl (fun r_27 u H locs hw_28 hP hD hS => ?_)
    have hw_28 : r_27 = rotL xe 18 := hw_28
    subst hw_28
    have hP : va_P G.1 vwCl [(a0, .inr (0, [.ref a1, .ref a2, .ref a3, .ref a4, .int kk, .int zz, .long tt])), (a1, .inl (G.2.1 2, 8, .inr (.inl wf))), (a4, .inl (G.2.1 2, 80, .inr (.inl nf)))] H := hP
    have hD : va_D A [(a0, .inr (0, [.ref a1, .ref a2, .ref a3, .ref a4, .int kk, .int zz, .long tt])), (a1, .inl (G.2.1 2, 8, .inr (.inl wf))), (a4, .inl (G.2.1 2, 80, .inr (.inl nf)))] := hD
    refine lv_lxor hx hb dX0_mixWide_88 ?_
    refine lv_lload hx hb dX0_mixWide_89 (lv_at hl 5 rfl) ?_
    refine lv_bipush (v := 41) hx hb dX0_mixWide_91 (by decide) ?_
    refine g_calll (g_runS (As := [.long xe, .int 41]) (rest := [.long ((rotL xe 14) ^^^ (rotL xe 18))]) ⟨hx, hb, hml, hown, htu⟩ (c_J13_rotateRight_b2ac5 l G _ xe 41 ) uM_X0_110 ok_J13_rotateRight_b2ac5 uA_J13_rotateRight_b2ac5 rfl rfl ⟨Nat.le_of_ble_eq_true rfl, Nat.le_of_ble_eq_true rfl⟩ hK hP hD hS hA hZ [] rfl rfl rfl hl.1 rfl (Nat.le_of_ble_eq_true rfl) dX0_mixWide_93 ⟨Nat.le_of_ble_eq_true rfl, Nat.le_of_ble_eq_true rfl⟩) hP hD hS hA [] rfl (fun r_29 u H locs hw_30 hP hD hS => ?_)
    have hw_30 : r_29 = rotL xe 41 := hw_30
    subst hw_30
    have hP : va_P G.1 vwCl [(a0, .inr (0, [.ref a1, .ref a2, .ref a3, .ref a4, .int kk, .int zz, .long tt])), (a1, .inl (G.2.1 2, 8, .inr (.inl wf))), (a4, .inl (G.2.1 2, 80, .inr (.inl nf)))] H := hP
    have hD : va_D A [(a0, .inr (0, [.ref a1, .ref a2, .ref a3, .ref a4, .int kk, .int zz, .long tt])), (a1, .inl (G.2.1 2, 8, .inr (.inl wf))), (a4, .inl (G.2.1 2, 80, .inr (.inl nf)))] := hD
    refine lv_lxor hx hb dX0_mixWide_96 ?_
    refine lv_topl (fun v_31 ev_31 => ?_)
    refine lv_lstore (lv' := [(18, .long v_31), (0, .ref a0), (1, .long xa), (3, .long xb), (5, .long xc), (7, .long xd), (9, .long xe), (11, .long xf), (13, .long xg), (15, .long xh), (17, .int (nI t))]) hx hb dX0_mixWide_97 hl (by decide) rfl (fun ls hl => ?_)
    refine lv_lload_n hx hb dX0_mixWide_99 rfl (lv_at hl 2 rfl) ?_
    refine lv_bipush (v := 28) hx hb dX0_mixWide_100 (by decide) ?_
    refine g_calll (g_runS (As := [.long xa, .int 28]) (rest := []) ⟨hx, hb, hml, hown, htu⟩ (c_J13_rotateRight_b2ac5 l G _ xa 28 ) uM_X0_110 ok_J13_rotateRight_b2ac5 uA_J13_rotateRight_b2ac5 rfl rfl ⟨Nat.le_of_ble_eq_true rfl, Nat.le_of_ble_eq_true rfl⟩ hK hP hD hS hA hZ [] rfl rfl rfl hl.1 rfl (Nat.le_of_ble_eq_true rfl) dX0_mixWide_102 ⟨Nat.le_of_ble_eq_true rfl, Nat.le_of_ble_eq_true rfl⟩) hP hD hS hA [] rfl (fun r_32 u H locs hw_33 hP hD hS => ?_)
    have hw_33 : r_32 = rotL xa 28 := hw_33
    subst hw_33
    have hP : va_P G.1 vwCl [(a0, .inr (0, [.ref a1, .ref a2, .ref a3, .ref a4, .int kk, .int zz, .long tt])), (a1, .inl (G.2.1 2, 8, .inr (.inl wf))), (a4, .inl (G.2.1 2, 80, .inr (.inl nf)))] H := hP
    have hD : va_D A [(a0, .inr (0, [.ref a1, .ref a2, .ref a3, .ref a4, .int kk, .int zz, .long tt])), (a1, .inl (G.2.1 2, 8, .inr (.inl wf))), (a4, .inl (G.2.1 2, 80, .inr (.inl nf)))] := hD
    refine lv_lload_n hx hb dX0_mixWide_105 rfl (lv_at hl 2 rfl) ?_
    refine lv_bipush (v := 34) hx hb dX0_mixWide_106 (by decide) ?_
    refine g_calll (g_runS (As := [.long xa, .int 34]) (rest := [.long (rotL xa 28)]) ⟨hx, hb, hml, hown, htu⟩ (c_J13_rotateRight_b2ac5 l G _ xa 34 ) uM_X0_110 ok_J13_rotateRight_b2ac5 uA_J13_rotateRight_b2ac5 rfl rfl ⟨Nat.le_of_ble_eq_true rfl, Nat.le_of_ble_eq_true rfl⟩ hK hP hD hS hA hZ [] rfl rfl rfl hl.1 rfl (Nat.le_of_ble_eq_true rfl) dX0_mixWide_108 ⟨Nat.le_of_ble_eq_true rfl, Nat.le_of_ble_eq_true rfl⟩) hP hD hS hA [] rfl (fun r_34 u H locs hw_35 hP hD hS => ?_)
    have hw_35 : r_34 = rotL xa 34 := hw_35
    subst hw_35
    have hP : va_P G.1 vwCl [(a0, .inr (0, [.ref a1, .ref a2, .ref a3, .ref a4, .int kk, .int zz, .long tt])), (a1, .inl (G.2.1 2, 8, .inr (.inl wf))), (a4, .inl (G.2.1 2, 80, .inr (.inl nf)))] H := hP
    have hD : va_D A [(a0, .inr (0, [.ref a1, .ref a2, .ref a3, .ref a4, .int kk, .int zz, .long tt])), (a1, .inl (G.2.1 2, 8, .inr (.inl wf))), (a4, .inl (G.2.1 2, 80, .inr (.inl nf)))] := hD
    refine lv_lxor hx hb dX0_mixWide_111 ?_
    refine lv_lload_n hx hb dX0_mixWide_112 rfl (lv_at hl 2 rfl) ?_
    refine lv_bipush (v := 39) hx hb dX0_mixWide_113 (by decide) ?_
    refine g_calll (g_runS (As := [.long xa, .int 39]) (rest := [.long ((rotL xa 28) ^^^ (rotL xa 34))]) ⟨hx, hb, hml, hown, htu⟩ (c_J13_rotateRight_b2ac5 l G _ xa 39 ) uM_X0_110 ok_J13_rotateRight_b2ac5 uA_J13_rotateRight_b2ac5 rfl rfl ⟨Nat.le_of_ble_eq_true rfl, Nat.le_of_ble_eq_true rfl⟩ hK hP hD hS hA hZ [] rfl rfl rfl hl.1 rfl (Nat.le_of_ble_eq_true rfl) dX0_mixWide_115 ⟨Nat.le_of_ble_eq_true rfl, Nat.le_of_ble_eq_true rfl⟩) hP hD hS hA [] rfl (fun r_36 u H locs hw_37 hP hD hS => ?_)
    have hw_37 : r_36 = rotL xa 39 := hw_37
    subst hw_37
    have hP : va_P G.1 vwCl [(a0, .inr (0, [.ref a1, .ref a2, .ref a3, .ref a4, .int kk, .int zz, .long tt])), (a1, .inl (G.2.1 2, 8, .inr (.inl wf))), (a4, .inl (G.2.1 2, 80, .inr (.inl nf)))] H := hP
    have hD : va_D A [(a0, .inr (0, [.ref a1, .ref a2, .ref a3, .ref a4, .int kk, .int zz, .long tt])), (a1, .inl (G.2.1 2, 8, .inr (.inl wf))), (a4, .inl (G.2.1 2, 80, .inr (.inl nf)))] := hD
    refine lv_lxor hx hb dX0_mixWide_118 ?_
    refine lv_topl (fun v_38 ev_38 => ?_)
    refine lv_lstore (lv' := [(20, .long v_38), (18, .long v_31), (0, .ref a0), (1, .long xa), (3, .long xb), (5, .long xc), (7, .long xd), (9, .long xe), (11, .long xf), (13, .long xg), (15, .long xh), (17, .int (nI t))]) hx hb dX0_mixWide_119 hl (by decide) rfl (fun ls hl => ?_)
    refine lv_lload hx hb dX0_mixWide_121 (lv_at hl 10 rfl) ?_
    refine lv_lload hx hb dX0_mixWide_123 (lv_at hl 1 rfl) ?_
    refine lv_ladd hx hb dX0_mixWide_125 ?_
    refine lv_lload hx hb dX0_mixWide_126 (lv_at hl 7 rfl) ?_
    refine lv_lload hx hb dX0_mixWide_128 (lv_at hl 8 rfl) ?_
    refine lv_land hx hb dX0_mixWide_130 ?_
    refine lv_lload hx hb dX0_mixWide_131 (lv_at hl 7 rfl) ?_
    refine lv_ldc2 hx hb hown (htu _ uL_X0_115) dX0_mixWide_133 ?_
    refine lv_lxor hx hb dX0_mixWide_136 ?_
    refine lv_lload hx hb dX0_mixWide_137 (lv_at hl 9 rfl) ?_
    refine lv_land hx hb dX0_mixWide_139 ?_
    refine lv_lxor hx hb dX0_mixWide_140 ?_
    refine lv_ladd hx hb dX0_mixWide_141 ?_
    refine va_getsN hx hb hZ.1.1 hS hown (va_Nw.use rfl (hK.2.1 _ nF_X0_107)) (fun _ h9 => h9) dX0_mixWide_142 ?_
    refine lv_iload hx hb dX0_mixWide_145 (lv_at hl 11 rfl) ?_
    refine g_tl hx hb hZ.1.2 hS ⟨by omega, by decide⟩ dX0_mixWide_147 ?_
    refine lv_ladd hx hb dX0_mixWide_148 ?_
    refine lv_aload_n hx hb dX0_mixWide_149 rfl (lv_at hl 2 rfl) ?_
    refine va_get (D := G.1) (ci := 0) (v := .ref a4) (C := RX0) (T := TX0) (N := 7) hx hb htu iwX0 hown hK.1 hP 0 rfl rfl 3 (by decide) (htu _ uF_X0_23) (fun _ h9 => h9) rfl dX0_mixWide_150 ?_
    refine lv_iload hx hb dX0_mixWide_153 (lv_at hl 11 rfl) ?_
    refine g_lald hx hb hK.1 hP 2 2 rfl rfl ⟨by omega, by decide⟩ dX0_mixWide_155 ?_
    refine lv_ladd hx hb dX0_mixWide_156 ?_
    refine lv_topl (fun v_39 ev_39 => ?_)
    refine lv_lstore (lv' := [(22, .long v_39), (20, .long v_38), (18, .long v_31), (0, .ref a0), (1, .long xa), (3, .long xb), (5, .long xc), (7, .long xd), (9, .long xe), (11, .long xf), (13, .long xg), (15, .long xh), (17, .int (nI t))]) hx hb dX0_mixWide_157 hl (by decide) rfl (fun ls hl => ?_)
    refine lv_lload hx hb dX0_mixWide_159 (lv_at hl 1 rfl) ?_
    refine lv_lload_n hx hb dX0_mixWide_161 rfl (lv_at hl 4 rfl) ?_
    refine lv_lload_n hx hb dX0_mixWide_162 rfl (lv_at hl 5 rfl) ?_
    refine lv_land hx hb dX0_mixWide_163 ?_
    refine lv_lload_n hx hb dX0_mixWide_164 rfl (lv_at hl 4 rfl) ?_
    refine lv_lload hx hb dX0_mixWide_165 (lv_at hl 6 rfl) ?_
    refine lv_land hx hb dX0_mixWide_167 ?_
    refine lv_lxor hx hb dX0_mixWide_168 ?_
    refine lv_lload_n hx hb dX0_mixWide_169 rfl (lv_at hl 5 rfl) ?_
    refine lv_lload hx hb dX0_mixWide_170 (lv_at hl 6 rfl) ?_
    refine lv_land hx hb dX0_mixWide_172 ?_
    refine lv_lxor hx hb dX0_mixWide_173 ?_
    refine lv_ladd hx hb dX0_mixWide_174 ?_
    refine lv_topl (fun v_40 ev_40 => ?_)
    refine lv_lstore (lv' := [(24, .long v_40), (22, .long v_39), (20, .long v_38), (18, .long v_31), (0, .ref a0), (1, .long xa), (3, .long xb), (5, .long xc), (7, .long xd), (9, .long xe), (11, .long xf), (13, .long xg), (15, .long xh), (17, .int (nI t))]) hx hb dX0_mixWide_175 hl (by decide) rfl (fun ls hl => ?_)
    refine lv_lload hx hb dX0_mixWide_177 (lv_at hl 11 rfl) ?_
    refine lv_lstore (lv' := [(15, .long xg), (24, .long v_40), (22, .long v_39), (20, .long v_38), (18, .long v_31), (0, .ref a0), (1, .long xa), (3, .long xb), (5, .long xc), (7, .long xd), (9, .long xe), (11, .long xf), (13, .long xg), (17, .int (nI t))]) hx hb dX0_mixWide_179 hl (by decide) rfl (fun ls hl => ?_)
    refine lv_lload hx hb dX0_mixWide_181 (lv_at hl 11 rfl) ?_
    refine lv_lstore (lv' := [(13, .long xf), (15, .long xg), (24, .long v_40), (22, .long v_39), (20, .long v_38), (18, .long v_31), (0, .ref a0), (1, .long xa), (3, .long xb), (5, .long xc), (7, .long xd), (9, .long xe), (11, .long xf), (17, .int (nI t))]) hx hb dX0_mixWide_183 hl (by decide) rfl (fun ls hl => ?_)
    refine lv_lload hx hb dX0_mixWide_185 (lv_at hl 11 rfl) ?_
    refine lv_lstore (lv' := [(11, .long xe), (13, .long xf), (15, .long xg), (24, .long v_40), (22, .long v_39), (20, .long v_38), (18, .long v_31), (0, .ref a0), (1, .long xa), (3, .long xb), (5, .long xc), (7, .long xd), (9, .long xe), (17, .int (nI t))]) hx hb dX0_mixWide_187 hl (by decide) rfl (fun ls hl => ?_)
    refine lv_lload hx hb dX0_mixWide_189 (lv_at hl 11 rfl) ?_
    refine lv_lload hx hb dX0_mixWide_191 (lv_at hl 4 rfl) ?_
    refine lv_ladd hx hb dX0_mixWide_193 ?_
    refine lv_topl (fun v_41 ev_41 => ?_)
    refine lv_lstore (lv' := [(9, .long v_41), (11, .long xe), (13, .long xf), (15, .long xg), (24, .long v_40), (22, .long v_39), (20, .long v_38), (18, .long v_31), (0, .ref a0), (1, .long xa), (3, .long xb), (5, .long xc), (7, .long xd), (17, .int (nI t))]) hx hb dX0_mixWide_194 hl (by decide) rfl (fun ls hl => ?_)
    refine lv_lload hx hb dX0_mixWide_196 (lv_at hl 11 rfl) ?_
    refine lv_lstore (lv' := [(7, .long xc), (9, .long v_41), (11, .long xe), (13, .long xf), (15, .long xg), (24, .long v_40), (22, .long v_39), (20, .long v_38), (18, .long v_31), (0, .ref a0), (1, .long xa), (3, .long xb), (5, .long xc), (17, .int (nI t))]) hx hb dX0_mixWide_198 hl (by decide) rfl (fun ls hl => ?_)
    refine lv_lload_n hx hb dX0_mixWide_200 rfl (lv_at hl 11 rfl) ?_
    refine lv_lstore (lv' := [(5, .long xb), (7, .long xc), (9, .long v_41), (11, .long xe), (13, .long xf), (15, .long xg), (24, .long v_40), (22, .long v_39), (20, .long v_38), (18, .long v_31), (0, .ref a0), (1, .long xa), (3, .long xb), (17, .int (nI t))]) hx hb dX0_mixWide_201 hl (by decide) rfl (fun ls hl => ?_)
    refine lv_lload_n hx hb dX0_mixWide_203 rfl (lv_at hl 11 rfl) ?_
    refine lv_lstore_n (lv' := [(3, .long xa), (5, .long xb), (7, .long xc), (9, .long v_41), (11, .long xe), (13, .long xf), (15, .long xg), (24, .long v_40), (22, .long v_39), (20, .long v_38), (18, .long v_31), (0, .ref a0), (1, .long xa), (17, .int (nI t))]) hx hb dX0_mixWide_204 rfl hl (by decide) rfl (fun ls hl => ?_)
    refine lv_lload hx hb dX0_mixWide_205 (lv_at hl 8 rfl) ?_
    refine lv_lload hx hb dX0_mixWide_207 (lv_at hl 7 rfl) ?_
    refine lv_ladd hx hb dX0_mixWide_209 ?_
    refine lv_topl (fun v_42 ev_42 => ?_)
    refine lv_lstore_n (lv' := [(1, .long v_42), (3, .long xa), (5, .long xb), (7, .long xc), (9, .long v_41), (11, .long xe), (13, .long xf), (15, .long xg), (24, .long v_40), (22, .long v_39), (20, .long v_38), (18, .long v_31), (0, .ref a0), (17, .int (nI t))]) hx hb dX0_mixWide_210 rfl hl (by decide) rfl (fun ls hl => ?_)
    refine lv_iinc (v := nI (t + 1)) (lv' := [(17, .int (nI (t + 1))), (1, .long v_42), (3, .long xa), (5, .long xb), (7, .long xc), (9, .long v_41), (11, .long xe), (13, .long xf), (15, .long xg), (24, .long v_40), (22, .long v_39), (20, .long v_38), (18, .long v_31), (0, .ref a0)]) hx hb dX0_mixWide_211 hl (k := 13) rfl (nI_1 t) (by decide) rfl (fun ls hl => ?_)
    refine lv_goto (tgt := 67) hx hb dX0_mixWide_214 (by decide) ?_
    exact ih_67 (t + 1, v_42, xa, xb, xc, v_41, xe, xf, xg) (show (t + 1) ≤ 80 ∧ (v_42, xa, xb, xc, v_41, xe, xf, xg) = rdsW nf (v0W wf) (t + 1) from ⟨by omega, by rw [rdsW, ← hI.2]; subst_vars; rfl⟩) (by show 80 - (t + 1) < 80 - t; omega) _ _ _ (hP.sub [0, 1, 2] rfl) (hD.sub [0, 1, 2] (by decide) rfl) hS (lv_sub hl [13, 1, 2, 3, 4, 5, 6, 7, 8, 0] rfl)
