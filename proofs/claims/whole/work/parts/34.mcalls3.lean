/-! the reference's calls, third part -/
theorem abF1 {b : Bool} (c : ¬ bI b = 0) : nI 1 = bI b := by cases b <;> first | rfl | exact absurd rfl c
theorem abF0 {b : Bool} (c : bI b = 0) : nI 0 = bI b := c.symm
theorem outCode {uf dg : Nat → Int32} {k : Nat} {kq msg : List Nat} (h6 : ∀ i, i < ds k → uf i = dg i) (h : ∀ i, i < ds k → dg i = nI ((codeQ k kq msg).getD i 0)) : OutR uf (ds k) (codeQ k kq msg) := by
  have hl : (codeQ k kq msg).length = ds k := dig_len _ _ _
  have := ds_le k
  exact ⟨hl.symm, by omega, dig_lt _ _ _, fun i hi => (h6 i (by omega)).trans (h i (by omega))⟩
def constQ (i : Int32) : Int64 := if i < 0 then 0 else if i < 80 then kT i.toNatClampNeg else 0
theorem constQ_in {j : Nat} (h : j < 80) : constQ (nI j) = kT j := by
  unfold constQ
  rw [if_neg (nI_pos (by omega)), if_pos (show nI j < (80 : Int32) from nI_lt (b := 80) h (by decide)), nI_clamp (by omega)]
set_option maxHeartbeats 4000000 in
set_option maxRecDepth 100000 in
theorem c_X4_copy (l : Launch) (G : GW) (sz : Nat) (o : Nat) (ad : Nat → Nat) (sz1 : Int32) (osz : Int32) (th : Int32) (hsz : Int32) (a : Nat) (b : Nat) (k : Nat) (cd : Bool) (ed : Bool) (T : Nat) (h : HS) (kq : List Nat) (kf : Nat → Int32) (ff : Nat → Int32) (sf : Nat → Int64) (bf : Nat → Int32) (tf : Nat → Int64) (nf : Nat → Int32) (df : Nat → Int64) (cf : Nat → Int64) (gb : Nat → Int32) (gc : Nat → Int32) (ge : Nat → Int32) (mf : Nat → Int64) (ys : Nat → Int32) (st : Nat → SA) (ha : a < 4) (hb4 : b < 4) (hS9 : StmR (kf, ff, sf, bf, tf) gb gc ge mf ys st) (hst : st b = (true, k, cd, ed, T, h, kq)) : Met l yX4_copy (Cond.code yX4_copy cX4_copy 4 (none : Option FieldType) :: UW) ({ frames := 1, cells := 0, slots := 0, locals := 23 } : Room) (va_Pc [.ref o, .int (nI a), .int (nI b)] (gPre G [(o, .inr (4, mF ad sz1 osz th hsz)), (ad 4, .inl (G.2.1 1, 9, .inl kf)), (ad 7, .inl (G.2.1 1, 9, .inl ff)), (ad 5, .inl (G.2.1 2, 72, .inr (.inl sf))), (ad 6, .inl (G.2.1 1, 1152, .inl bf)), (ad 8, .inl (G.2.1 2, 9, .inr (.inl tf))), (ad 24, .inl (G.2.1 1, 64, .inl nf)), (ad 25, .inl (G.2.1 2, 80, .inr (.inl df))), (ad 2, .inl (G.2.1 2, 80, .inr (.inl cf))), (ad 9, .inl (G.2.1 3, 4, .inl gb)), (ad 10, .inl (G.2.1 3, 4, .inl gc)), (ad 11, .inl (G.2.1 3, 4, .inl ge)), (ad 12, .inl (G.2.1 2, 4, .inr (.inl mf))), (ad 13, .inl (G.2.1 1, 512, .inl ys))] sz)) (va_Qv (fun (uq9 : (Nat → Int32) × (Nat → Int32) × (Nat → Int64) × (Nat → Int32) × (Nat → Int64) × (Nat → Int32) × (Nat → Int32) × (Nat → Int32) × (Nat → Int64) × (Nat → Int32)) => StmR (uq9.1, uq9.2.1, uq9.2.2.1, uq9.2.2.2.1, uq9.2.2.2.2.1) uq9.2.2.2.2.2.1 uq9.2.2.2.2.2.2.1 uq9.2.2.2.2.2.2.2.1 uq9.2.2.2.2.2.2.2.2.1 uq9.2.2.2.2.2.2.2.2.2 (va_up st a (true, k, cd, ed, T, h, kq))) (fun u => gPost G (va_A [(o, .inr (4, mF ad sz1 osz th hsz)), (ad 4, .inl (G.2.1 1, 9, .inl kf)), (ad 7, .inl (G.2.1 1, 9, .inl ff)), (ad 5, .inl (G.2.1 2, 72, .inr (.inl sf))), (ad 6, .inl (G.2.1 1, 1152, .inl bf)), (ad 8, .inl (G.2.1 2, 9, .inr (.inl tf))), (ad 24, .inl (G.2.1 1, 64, .inl nf)), (ad 25, .inl (G.2.1 2, 80, .inr (.inl df))), (ad 2, .inl (G.2.1 2, 80, .inr (.inl cf))), (ad 9, .inl (G.2.1 3, 4, .inl gb)), (ad 10, .inl (G.2.1 3, 4, .inl gc)), (ad 11, .inl (G.2.1 3, 4, .inl ge)), (ad 12, .inl (G.2.1 2, 4, .inr (.inl mf))), (ad 13, .inl (G.2.1 1, 512, .inl ys))] sz) ((fun (uq9 : (Nat → Int32) × (Nat → Int32) × (Nat → Int64) × (Nat → Int32) × (Nat → Int64) × (Nat → Int32) × (Nat → Int32) × (Nat → Int32) × (Nat → Int64) × (Nat → Int32)) => ([(o, .inr (4, mF ad sz1 osz (nI 0) hsz)), (ad 4, .inl (G.2.1 1, 9, .inl uq9.1)), (ad 7, .inl (G.2.1 1, 9, .inl uq9.2.1)), (ad 5, .inl (G.2.1 2, 72, .inr (.inl uq9.2.2.1))), (ad 6, .inl (G.2.1 1, 1152, .inl uq9.2.2.2.1)), (ad 8, .inl (G.2.1 2, 9, .inr (.inl uq9.2.2.2.2.1))), (ad 24, .inl (G.2.1 1, 64, .inl nf)), (ad 25, .inl (G.2.1 2, 80, .inr (.inl df))), (ad 2, .inl (G.2.1 2, 80, .inr (.inl cf))), (ad 9, .inl (G.2.1 3, 4, .inl uq9.2.2.2.2.2.1)), (ad 10, .inl (G.2.1 3, 4, .inl uq9.2.2.2.2.2.2.1)), (ad 11, .inl (G.2.1 3, 4, .inl uq9.2.2.2.2.2.2.2.1)), (ad 12, .inl (G.2.1 2, 4, .inr (.inl uq9.2.2.2.2.2.2.2.2.1))), (ad 13, .inl (G.2.1 1, 512, .inl uq9.2.2.2.2.2.2.2.2.2))] : va_W)) u)) (va_A [(o, .inr (4, mF ad sz1 osz th hsz)), (ad 4, .inl (G.2.1 1, 9, .inl kf)), (ad 7, .inl (G.2.1 1, 9, .inl ff)), (ad 5, .inl (G.2.1 2, 72, .inr (.inl sf))), (ad 6, .inl (G.2.1 1, 1152, .inl bf)), (ad 8, .inl (G.2.1 2, 9, .inr (.inl tf))), (ad 24, .inl (G.2.1 1, 64, .inl nf)), (ad 25, .inl (G.2.1 2, 80, .inr (.inl df))), (ad 2, .inl (G.2.1 2, 80, .inr (.inl cf))), (ad 9, .inl (G.2.1 3, 4, .inl gb)), (ad 10, .inl (G.2.1 3, 4, .inl gc)), (ad 11, .inl (G.2.1 3, 4, .inl ge)), (ad 12, .inl (G.2.1 2, 4, .inr (.inl mf))), (ad 13, .inl (G.2.1 1, 512, .inl ys))] sz)) 0 0 (va_A [(o, .inr (4, mF ad sz1 osz th hsz)), (ad 4, .inl (G.2.1 1, 9, .inl kf)), (ad 7, .inl (G.2.1 1, 9, .inl ff)), (ad 5, .inl (G.2.1 2, 72, .inr (.inl sf))), (ad 6, .inl (G.2.1 1, 1152, .inl bf)), (ad 8, .inl (G.2.1 2, 9, .inr (.inl tf))), (ad 24, .inl (G.2.1 1, 64, .inl nf)), (ad 25, .inl (G.2.1 2, 80, .inr (.inl df))), (ad 2, .inl (G.2.1 2, 80, .inr (.inl cf))), (ad 9, .inl (G.2.1 3, 4, .inl gb)), (ad 10, .inl (G.2.1 3, 4, .inl gc)), (ad 11, .inl (G.2.1 3, 4, .inl ge)), (ad 12, .inl (G.2.1 2, 4, .inr (.inl mf))), (ad 13, .inl (G.2.1 1, 512, .inl ys))] sz) := by
  refine gM_of (Qf := fun A => va_Qv (fun (uq9 : (Nat → Int32) × (Nat → Int32) × (Nat → Int64) × (Nat → Int32) × (Nat → Int64) × (Nat → Int32) × (Nat → Int32) × (Nat → Int32) × (Nat → Int64) × (Nat → Int32)) => StmR (uq9.1, uq9.2.1, uq9.2.2.1, uq9.2.2.2.1, uq9.2.2.2.2.1) uq9.2.2.2.2.2.1 uq9.2.2.2.2.2.2.1 uq9.2.2.2.2.2.2.2.1 uq9.2.2.2.2.2.2.2.2.1 uq9.2.2.2.2.2.2.2.2.2 (va_up st a (true, k, cd, ed, T, h, kq))) (fun u => gPost G A ((fun (uq9 : (Nat → Int32) × (Nat → Int32) × (Nat → Int64) × (Nat → Int32) × (Nat → Int64) × (Nat → Int32) × (Nat → Int32) × (Nat → Int32) × (Nat → Int64) × (Nat → Int32)) => ([(o, .inr (4, mF ad sz1 osz (nI 0) hsz)), (ad 4, .inl (G.2.1 1, 9, .inl uq9.1)), (ad 7, .inl (G.2.1 1, 9, .inl uq9.2.1)), (ad 5, .inl (G.2.1 2, 72, .inr (.inl uq9.2.2.1))), (ad 6, .inl (G.2.1 1, 1152, .inl uq9.2.2.2.1)), (ad 8, .inl (G.2.1 2, 9, .inr (.inl uq9.2.2.2.2.1))), (ad 24, .inl (G.2.1 1, 64, .inl nf)), (ad 25, .inl (G.2.1 2, 80, .inr (.inl df))), (ad 2, .inl (G.2.1 2, 80, .inr (.inl cf))), (ad 9, .inl (G.2.1 3, 4, .inl uq9.2.2.2.2.2.1)), (ad 10, .inl (G.2.1 3, 4, .inl uq9.2.2.2.2.2.2.1)), (ad 11, .inl (G.2.1 3, 4, .inl uq9.2.2.2.2.2.2.2.1)), (ad 12, .inl (G.2.1 2, 4, .inr (.inl uq9.2.2.2.2.2.2.2.2.1))), (ad 13, .inl (G.2.1 1, 512, .inl uq9.2.2.2.2.2.2.2.2.2))] : va_W)) u)) A) (by decide) (Nat.le_of_ble_eq_true rfl) ?_
  intro p e s m below meth c A ls hx hb hml hr hown htu hlk hnm hA hP hD hS hK hZ hl
  have hown : s.vm.findClass RX4 = some m.cls := hown
  have hl : lv_has ls 4 [(0, .ref o), (1, .int (nI a)), (2, .int (nI b))] := hl
  refine lv_aload_n hx hb dX4_copy_0 rfl (lv_at hl 0 rfl) ?_
  refine lv_iload_n hx hb dX4_copy_1 rfl (lv_at hl 1 rfl) ?_
  refine g_calli (g_runS (As := [.int (nI a)]) (rest := [.ref o]) ⟨hx, hb, hml, hown, htu⟩ (c_X4_noStream l G _ (nI a) ) uM_X4_174 ok_X4_noStream uA_X4_noStream rfl rfl ⟨Nat.le_of_ble_eq_true rfl, Nat.le_of_ble_eq_true rfl⟩ hK hP hD hS hA hZ [] rfl rfl rfl hl.1 rfl (Nat.le_of_ble_eq_true rfl) dX4_copy_2 ⟨Nat.le_of_ble_eq_true rfl, Nat.le_of_ble_eq_true rfl⟩) hP hD hS hA [] rfl (fun r_1 u H locs hw_2 hP hD hS => ?_)
  have hw_2 : r_1 = nsI (nI a) := hw_2
  subst hw_2
  have hP : va_P G.1 vwCl [(o, .inr (4, mF ad sz1 osz th hsz)), (ad 4, .inl (G.2.1 1, 9, .inl kf)), (ad 7, .inl (G.2.1 1, 9, .inl ff)), (ad 5, .inl (G.2.1 2, 72, .inr (.inl sf))), (ad 6, .inl (G.2.1 1, 1152, .inl bf)), (ad 8, .inl (G.2.1 2, 9, .inr (.inl tf))), (ad 24, .inl (G.2.1 1, 64, .inl nf)), (ad 25, .inl (G.2.1 2, 80, .inr (.inl df))), (ad 2, .inl (G.2.1 2, 80, .inr (.inl cf))), (ad 9, .inl (G.2.1 3, 4, .inl gb)), (ad 10, .inl (G.2.1 3, 4, .inl gc)), (ad 11, .inl (G.2.1 3, 4, .inl ge)), (ad 12, .inl (G.2.1 2, 4, .inr (.inl mf))), (ad 13, .inl (G.2.1 1, 512, .inl ys))] H := hP
  have hD : va_D A [(o, .inr (4, mF ad sz1 osz th hsz)), (ad 4, .inl (G.2.1 1, 9, .inl kf)), (ad 7, .inl (G.2.1 1, 9, .inl ff)), (ad 5, .inl (G.2.1 2, 72, .inr (.inl sf))), (ad 6, .inl (G.2.1 1, 1152, .inl bf)), (ad 8, .inl (G.2.1 2, 9, .inr (.inl tf))), (ad 24, .inl (G.2.1 1, 64, .inl nf)), (ad 25, .inl (G.2.1 2, 80, .inr (.inl df))), (ad 2, .inl (G.2.1 2, 80, .inr (.inl cf))), (ad 9, .inl (G.2.1 3, 4, .inl gb)), (ad 10, .inl (G.2.1 3, 4, .inl gc)), (ad 11, .inl (G.2.1 3, 4, .inl ge)), (ad 12, .inl (G.2.1 2, 4, .inr (.inl mf))), (ad 13, .inl (G.2.1 1, 512, .inl ys))] := hD
  refine g_toi (y := nI 0) (nsI_nI ha) ?_
  refine lv_if_ne (tgt := 15) hx hb dX4_copy_5 (by decide) (fun c_5 => absurd (by decide) c_5) (fun _ => ?_)
  refine lv_iload_n hx hb dX4_copy_8 rfl (lv_at hl 2 rfl) ?_
  refine g_calli (g_runS (As := [.int (nI b)]) (rest := [.ref o]) ⟨hx, hb, hml, hown, htu⟩ (c_X4_noStream l G _ (nI b) ) uM_X4_174 ok_X4_noStream uA_X4_noStream rfl rfl ⟨Nat.le_of_ble_eq_true rfl, Nat.le_of_ble_eq_true rfl⟩ hK hP hD hS hA hZ [] rfl rfl rfl hl.1 rfl (Nat.le_of_ble_eq_true rfl) dX4_copy_9 ⟨Nat.le_of_ble_eq_true rfl, Nat.le_of_ble_eq_true rfl⟩) hP hD hS hA [] rfl (fun r_3 u H locs hw_4 hP hD hS => ?_)
  have hw_4 : r_3 = nsI (nI b) := hw_4
  subst hw_4
  have hP : va_P G.1 vwCl [(o, .inr (4, mF ad sz1 osz th hsz)), (ad 4, .inl (G.2.1 1, 9, .inl kf)), (ad 7, .inl (G.2.1 1, 9, .inl ff)), (ad 5, .inl (G.2.1 2, 72, .inr (.inl sf))), (ad 6, .inl (G.2.1 1, 1152, .inl bf)), (ad 8, .inl (G.2.1 2, 9, .inr (.inl tf))), (ad 24, .inl (G.2.1 1, 64, .inl nf)), (ad 25, .inl (G.2.1 2, 80, .inr (.inl df))), (ad 2, .inl (G.2.1 2, 80, .inr (.inl cf))), (ad 9, .inl (G.2.1 3, 4, .inl gb)), (ad 10, .inl (G.2.1 3, 4, .inl gc)), (ad 11, .inl (G.2.1 3, 4, .inl ge)), (ad 12, .inl (G.2.1 2, 4, .inr (.inl mf))), (ad 13, .inl (G.2.1 1, 512, .inl ys))] H := hP
  have hD : va_D A [(o, .inr (4, mF ad sz1 osz th hsz)), (ad 4, .inl (G.2.1 1, 9, .inl kf)), (ad 7, .inl (G.2.1 1, 9, .inl ff)), (ad 5, .inl (G.2.1 2, 72, .inr (.inl sf))), (ad 6, .inl (G.2.1 1, 1152, .inl bf)), (ad 8, .inl (G.2.1 2, 9, .inr (.inl tf))), (ad 24, .inl (G.2.1 1, 64, .inl nf)), (ad 25, .inl (G.2.1 2, 80, .inr (.inl df))), (ad 2, .inl (G.2.1 2, 80, .inr (.inl cf))), (ad 9, .inl (G.2.1 3, 4, .inl gb)), (ad 10, .inl (G.2.1 3, 4, .inl gc)), (ad 11, .inl (G.2.1 3, 4, .inl ge)), (ad 12, .inl (G.2.1 2, 4, .inr (.inl mf))), (ad 13, .inl (G.2.1 1, 512, .inl ys))] := hD
  refine g_toi (y := nI 0) (nsI_nI hb4) ?_
  refine lv_if_eq (tgt := 19) hx hb dX4_copy_12 (by decide) (fun _ => ?_) (fun c_12 => absurd (by decide) c_12)
  refine lv_aload_n hx hb dX4_copy_19 rfl (lv_at hl 0 rfl) ?_
  refine va_get (D := G.1) (ci := 4) (v := .ref (ad 9)) (C := RX4) (T := TX4) (N := 29) hx hb htu iwX4 hown hK.1 hP 0 rfl rfl 9 (by decide) (htu _ uF_X4_35) (fun _ h9 => h9) rfl dX4_copy_20 ?_
  refine lv_iload_n hx hb dX4_copy_23 rfl (lv_at hl 2 rfl) ?_
  refine g_zald hx hb hK.1 hP 9 3 rfl rfl ⟨hb4, by decide⟩ dX4_copy_24 ?_
  refine g_toi (y := nI 1) ((slG hS9 hb4 hst).1) ?_
  refine lv_if_ne (tgt := 32) hx hb dX4_copy_25 (by decide) (fun _ => ?_) (fun c_25 => absurd c_25 (by decide))
  refine lv_iconst (v := nI 0) hx hb dX4_copy_32 (by decide) ?_
  refine va_put (D := G.1) (ci := 4) (v := .int (nI 0)) (ty := .int) (C := RX4) (T := TX4) (N := 29) hx hb htu iwX4 tyX4 tyX4_ok nmX4 hown hK.1 hP hD hS 0 rfl rfl 20 (by decide) (htu _ uF_X4_95) (fun _ h9 => h9) rfl (by decide +kernel) rfl rfl (Nat.le_of_ble_eq_true rfl) dX4_copy_33 (fun H locs hP hD hS => ?_)
  have hP : va_P G.1 vwCl [(o, .inr (4, mF ad sz1 osz (nI 0) hsz)), (ad 4, .inl (G.2.1 1, 9, .inl kf)), (ad 7, .inl (G.2.1 1, 9, .inl ff)), (ad 5, .inl (G.2.1 2, 72, .inr (.inl sf))), (ad 6, .inl (G.2.1 1, 1152, .inl bf)), (ad 8, .inl (G.2.1 2, 9, .inr (.inl tf))), (ad 24, .inl (G.2.1 1, 64, .inl nf)), (ad 25, .inl (G.2.1 2, 80, .inr (.inl df))), (ad 2, .inl (G.2.1 2, 80, .inr (.inl cf))), (ad 9, .inl (G.2.1 3, 4, .inl gb)), (ad 10, .inl (G.2.1 3, 4, .inl gc)), (ad 11, .inl (G.2.1 3, 4, .inl ge)), (ad 12, .inl (G.2.1 2, 4, .inr (.inl mf))), (ad 13, .inl (G.2.1 1, 512, .inl ys))] H := hP
  have hD : va_D A [(o, .inr (4, mF ad sz1 osz (nI 0) hsz)), (ad 4, .inl (G.2.1 1, 9, .inl kf)), (ad 7, .inl (G.2.1 1, 9, .inl ff)), (ad 5, .inl (G.2.1 2, 72, .inr (.inl sf))), (ad 6, .inl (G.2.1 1, 1152, .inl bf)), (ad 8, .inl (G.2.1 2, 9, .inr (.inl tf))), (ad 24, .inl (G.2.1 1, 64, .inl nf)), (ad 25, .inl (G.2.1 2, 80, .inr (.inl df))), (ad 2, .inl (G.2.1 2, 80, .inr (.inl cf))), (ad 9, .inl (G.2.1 3, 4, .inl gb)), (ad 10, .inl (G.2.1 3, 4, .inl gc)), (ad 11, .inl (G.2.1 3, 4, .inl ge)), (ad 12, .inl (G.2.1 2, 4, .inr (.inl mf))), (ad 13, .inl (G.2.1 1, 512, .inl ys))] := hD
  refine lv_aload_n hx hb dX4_copy_36 rfl (lv_at hl 0 rfl) ?_
  refine va_get (D := G.1) (ci := 4) (v := .int (nI 0)) (C := RX4) (T := TX4) (N := 29) hx hb htu iwX4 hown hK.1 hP 0 rfl rfl 20 (by decide) (htu _ uF_X4_95) (fun _ h9 => h9) rfl dX4_copy_37 ?_
  refine lv_if_ne (tgt := 131) hx hb dX4_copy_40 (by decide) (fun c_40 => absurd (by decide) c_40) (fun _ => ?_)
  refine lv_aload_n hx hb dX4_copy_43 rfl (lv_at hl 0 rfl) ?_
  refine lv_iload_n hx hb dX4_copy_44 rfl (lv_at hl 1 rfl) ?_
  refine lv_iload_n hx hb dX4_copy_45 rfl (lv_at hl 2 rfl) ?_
  refine g_callv (g_runV (As := [.int (nI a), .int (nI b)]) (rest := []) ⟨hx, hb, hml, hown, htu⟩ (c_X4_copySlot l G _ o ad sz1 osz (nI 0) hsz a b kf ff sf bf tf (by omega) (by omega)) uM_X4_162 ok_X4_copySlot in_X4_copySlot rfl rfl ⟨Nat.le_of_ble_eq_true rfl, Nat.le_of_ble_eq_true rfl⟩ hK hP hD hS hA hZ [0, 1, 2, 3, 4, 5] rfl rfl 0 rfl rfl rfl rfl hl.1 rfl (Nat.le_of_ble_eq_true rfl) dX4_copy_46 ⟨Nat.le_of_ble_eq_true rfl, Nat.le_of_ble_eq_true rfl⟩) hP hD hS hA [0, 1, 2, 3, 4, 5] rfl (fun u H locs hw1 hP hD hS => ?_)
  obtain ⟨kf_6, ff_7, sf_8, bf_9, tf_10⟩ := u
  have hw1 : MsC a b (kf, ff, sf, bf, tf) (kf_6, ff_7, sf_8, bf_9, tf_10) ∧ MsO [a] (kf, ff, sf, bf, tf) (kf_6, ff_7, sf_8, bf_9, tf_10) := hw1
  have hP : va_P G.1 vwCl [(ad 24, .inl (G.2.1 1, 64, .inl nf)), (ad 25, .inl (G.2.1 2, 80, .inr (.inl df))), (ad 2, .inl (G.2.1 2, 80, .inr (.inl cf))), (ad 9, .inl (G.2.1 3, 4, .inl gb)), (ad 10, .inl (G.2.1 3, 4, .inl gc)), (ad 11, .inl (G.2.1 3, 4, .inl ge)), (ad 12, .inl (G.2.1 2, 4, .inr (.inl mf))), (ad 13, .inl (G.2.1 1, 512, .inl ys)), (o, .inr (4, mF ad sz1 osz (nI 0) hsz)), (ad 4, .inl (G.2.1 1, 9, .inl kf_6)), (ad 7, .inl (G.2.1 1, 9, .inl ff_7)), (ad 5, .inl (G.2.1 2, 72, .inr (.inl sf_8))), (ad 6, .inl (G.2.1 1, 1152, .inl bf_9)), (ad 8, .inl (G.2.1 2, 9, .inr (.inl tf_10)))] H := hP
  have hD : va_D A [(ad 24, .inl (G.2.1 1, 64, .inl nf)), (ad 25, .inl (G.2.1 2, 80, .inr (.inl df))), (ad 2, .inl (G.2.1 2, 80, .inr (.inl cf))), (ad 9, .inl (G.2.1 3, 4, .inl gb)), (ad 10, .inl (G.2.1 3, 4, .inl gc)), (ad 11, .inl (G.2.1 3, 4, .inl ge)), (ad 12, .inl (G.2.1 2, 4, .inr (.inl mf))), (ad 13, .inl (G.2.1 1, 512, .inl ys)), (o, .inr (4, mF ad sz1 osz (nI 0) hsz)), (ad 4, .inl (G.2.1 1, 9, .inl kf_6)), (ad 7, .inl (G.2.1 1, 9, .inl ff_7)), (ad 5, .inl (G.2.1 2, 72, .inr (.inl sf_8))), (ad 6, .inl (G.2.1 1, 1152, .inl bf_9)), (ad 8, .inl (G.2.1 2, 9, .inr (.inl tf_10)))] := hD
  refine lv_aload_n hx hb dX4_copy_49 rfl (lv_at hl 0 rfl) ?_
  refine va_get (D := G.1) (ci := 4) (v := .ref (ad 9)) (C := RX4) (T := TX4) (N := 29) hx hb htu iwX4 hown hK.1 hP 8 rfl rfl 9 (by decide) (htu _ uF_X4_35) (fun _ h9 => h9) rfl dX4_copy_50 ?_
  refine lv_iload_n hx hb dX4_copy_53 rfl (lv_at hl 1 rfl) ?_
  refine lv_iconst (v := nI 1) hx hb dX4_copy_54 (by decide) ?_
  refine g_zast hx hb hK.1 hP hD hS 3 3 rfl rfl ⟨ha, by decide⟩ dX4_copy_55 (fun H locs hP hD hS => ?_)
  obtain ⟨g_11, eg_11⟩ : ∃ gq9 : Nat → Int32, gq9 = upd gb a (vp_nar .boolean (nI 1)) := ⟨_, rfl⟩
  rw [← eg_11] at hP hD
  have hP : va_P G.1 vwCl [(ad 24, .inl (G.2.1 1, 64, .inl nf)), (ad 25, .inl (G.2.1 2, 80, .inr (.inl df))), (ad 2, .inl (G.2.1 2, 80, .inr (.inl cf))), (ad 9, .inl (G.2.1 3, 4, .inl g_11)), (ad 10, .inl (G.2.1 3, 4, .inl gc)), (ad 11, .inl (G.2.1 3, 4, .inl ge)), (ad 12, .inl (G.2.1 2, 4, .inr (.inl mf))), (ad 13, .inl (G.2.1 1, 512, .inl ys)), (o, .inr (4, mF ad sz1 osz (nI 0) hsz)), (ad 4, .inl (G.2.1 1, 9, .inl kf_6)), (ad 7, .inl (G.2.1 1, 9, .inl ff_7)), (ad 5, .inl (G.2.1 2, 72, .inr (.inl sf_8))), (ad 6, .inl (G.2.1 1, 1152, .inl bf_9)), (ad 8, .inl (G.2.1 2, 9, .inr (.inl tf_10)))] H := hP
  have hD : va_D A [(ad 24, .inl (G.2.1 1, 64, .inl nf)), (ad 25, .inl (G.2.1 2, 80, .inr (.inl df))), (ad 2, .inl (G.2.1 2, 80, .inr (.inl cf))), (ad 9, .inl (G.2.1 3, 4, .inl g_11)), (ad 10, .inl (G.2.1 3, 4, .inl gc)), (ad 11, .inl (G.2.1 3, 4, .inl ge)), (ad 12, .inl (G.2.1 2, 4, .inr (.inl mf))), (ad 13, .inl (G.2.1 1, 512, .inl ys)), (o, .inr (4, mF ad sz1 osz (nI 0) hsz)), (ad 4, .inl (G.2.1 1, 9, .inl kf_6)), (ad 7, .inl (G.2.1 1, 9, .inl ff_7)), (ad 5, .inl (G.2.1 2, 72, .inr (.inl sf_8))), (ad 6, .inl (G.2.1 1, 1152, .inl bf_9)), (ad 8, .inl (G.2.1 2, 9, .inr (.inl tf_10)))] := hD
  refine lv_aload_n hx hb dX4_copy_56 rfl (lv_at hl 0 rfl) ?_
  refine va_get (D := G.1) (ci := 4) (v := .ref (ad 10)) (C := RX4) (T := TX4) (N := 29) hx hb htu iwX4 hown hK.1 hP 8 rfl rfl 10 (by decide) (htu _ uF_X4_39) (fun _ h9 => h9) rfl dX4_copy_57 ?_
  refine lv_iload_n hx hb dX4_copy_60 rfl (lv_at hl 1 rfl) ?_
  refine lv_aload_n hx hb dX4_copy_61 rfl (lv_at hl 0 rfl) ?_
  refine va_get (D := G.1) (ci := 4) (v := .ref (ad 10)) (C := RX4) (T := TX4) (N := 29) hx hb htu iwX4 hown hK.1 hP 8 rfl rfl 10 (by decide) (htu _ uF_X4_39) (fun _ h9 => h9) rfl dX4_copy_62 ?_
  refine lv_iload_n hx hb dX4_copy_65 rfl (lv_at hl 2 rfl) ?_
  refine g_zald hx hb hK.1 hP 4 3 rfl rfl ⟨hb4, by decide⟩ dX4_copy_66 ?_
  refine lv_topi (fun v_12 ev_12 => ?_)
  refine g_zast hx hb hK.1 hP hD hS 4 3 rfl rfl ⟨ha, by decide⟩ dX4_copy_67 (fun H locs hP hD hS => ?_)
  obtain ⟨g_13, eg_13⟩ : ∃ gq9 : Nat → Int32, gq9 = upd gc a (vp_nar .boolean v_12) := ⟨_, rfl⟩
  rw [← eg_13] at hP hD
  have hP : va_P G.1 vwCl [(ad 24, .inl (G.2.1 1, 64, .inl nf)), (ad 25, .inl (G.2.1 2, 80, .inr (.inl df))), (ad 2, .inl (G.2.1 2, 80, .inr (.inl cf))), (ad 9, .inl (G.2.1 3, 4, .inl g_11)), (ad 10, .inl (G.2.1 3, 4, .inl g_13)), (ad 11, .inl (G.2.1 3, 4, .inl ge)), (ad 12, .inl (G.2.1 2, 4, .inr (.inl mf))), (ad 13, .inl (G.2.1 1, 512, .inl ys)), (o, .inr (4, mF ad sz1 osz (nI 0) hsz)), (ad 4, .inl (G.2.1 1, 9, .inl kf_6)), (ad 7, .inl (G.2.1 1, 9, .inl ff_7)), (ad 5, .inl (G.2.1 2, 72, .inr (.inl sf_8))), (ad 6, .inl (G.2.1 1, 1152, .inl bf_9)), (ad 8, .inl (G.2.1 2, 9, .inr (.inl tf_10)))] H := hP
  have hD : va_D A [(ad 24, .inl (G.2.1 1, 64, .inl nf)), (ad 25, .inl (G.2.1 2, 80, .inr (.inl df))), (ad 2, .inl (G.2.1 2, 80, .inr (.inl cf))), (ad 9, .inl (G.2.1 3, 4, .inl g_11)), (ad 10, .inl (G.2.1 3, 4, .inl g_13)), (ad 11, .inl (G.2.1 3, 4, .inl ge)), (ad 12, .inl (G.2.1 2, 4, .inr (.inl mf))), (ad 13, .inl (G.2.1 1, 512, .inl ys)), (o, .inr (4, mF ad sz1 osz (nI 0) hsz)), (ad 4, .inl (G.2.1 1, 9, .inl kf_6)), (ad 7, .inl (G.2.1 1, 9, .inl ff_7)), (ad 5, .inl (G.2.1 2, 72, .inr (.inl sf_8))), (ad 6, .inl (G.2.1 1, 1152, .inl bf_9)), (ad 8, .inl (G.2.1 2, 9, .inr (.inl tf_10)))] := hD
  refine lv_aload_n hx hb dX4_copy_68 rfl (lv_at hl 0 rfl) ?_
  refine va_get (D := G.1) (ci := 4) (v := .ref (ad 11)) (C := RX4) (T := TX4) (N := 29) hx hb htu iwX4 hown hK.1 hP 8 rfl rfl 11 (by decide) (htu _ uF_X4_42) (fun _ h9 => h9) rfl dX4_copy_69 ?_
  refine lv_iload_n hx hb dX4_copy_72 rfl (lv_at hl 1 rfl) ?_
  refine lv_aload_n hx hb dX4_copy_73 rfl (lv_at hl 0 rfl) ?_
  refine va_get (D := G.1) (ci := 4) (v := .ref (ad 11)) (C := RX4) (T := TX4) (N := 29) hx hb htu iwX4 hown hK.1 hP 8 rfl rfl 11 (by decide) (htu _ uF_X4_42) (fun _ h9 => h9) rfl dX4_copy_74 ?_
  refine lv_iload_n hx hb dX4_copy_77 rfl (lv_at hl 2 rfl) ?_
  refine g_zald hx hb hK.1 hP 5 3 rfl rfl ⟨hb4, by decide⟩ dX4_copy_78 ?_
  refine lv_topi (fun v_14 ev_14 => ?_)
  refine g_zast hx hb hK.1 hP hD hS 5 3 rfl rfl ⟨ha, by decide⟩ dX4_copy_79 (fun H locs hP hD hS => ?_)
  obtain ⟨g_15, eg_15⟩ : ∃ gq9 : Nat → Int32, gq9 = upd ge a (vp_nar .boolean v_14) := ⟨_, rfl⟩
  rw [← eg_15] at hP hD
  have hP : va_P G.1 vwCl [(ad 24, .inl (G.2.1 1, 64, .inl nf)), (ad 25, .inl (G.2.1 2, 80, .inr (.inl df))), (ad 2, .inl (G.2.1 2, 80, .inr (.inl cf))), (ad 9, .inl (G.2.1 3, 4, .inl g_11)), (ad 10, .inl (G.2.1 3, 4, .inl g_13)), (ad 11, .inl (G.2.1 3, 4, .inl g_15)), (ad 12, .inl (G.2.1 2, 4, .inr (.inl mf))), (ad 13, .inl (G.2.1 1, 512, .inl ys)), (o, .inr (4, mF ad sz1 osz (nI 0) hsz)), (ad 4, .inl (G.2.1 1, 9, .inl kf_6)), (ad 7, .inl (G.2.1 1, 9, .inl ff_7)), (ad 5, .inl (G.2.1 2, 72, .inr (.inl sf_8))), (ad 6, .inl (G.2.1 1, 1152, .inl bf_9)), (ad 8, .inl (G.2.1 2, 9, .inr (.inl tf_10)))] H := hP
  have hD : va_D A [(ad 24, .inl (G.2.1 1, 64, .inl nf)), (ad 25, .inl (G.2.1 2, 80, .inr (.inl df))), (ad 2, .inl (G.2.1 2, 80, .inr (.inl cf))), (ad 9, .inl (G.2.1 3, 4, .inl g_11)), (ad 10, .inl (G.2.1 3, 4, .inl g_13)), (ad 11, .inl (G.2.1 3, 4, .inl g_15)), (ad 12, .inl (G.2.1 2, 4, .inr (.inl mf))), (ad 13, .inl (G.2.1 1, 512, .inl ys)), (o, .inr (4, mF ad sz1 osz (nI 0) hsz)), (ad 4, .inl (G.2.1 1, 9, .inl kf_6)), (ad 7, .inl (G.2.1 1, 9, .inl ff_7)), (ad 5, .inl (G.2.1 2, 72, .inr (.inl sf_8))), (ad 6, .inl (G.2.1 1, 1152, .inl bf_9)), (ad 8, .inl (G.2.1 2, 9, .inr (.inl tf_10)))] := hD
  refine lv_aload_n hx hb dX4_copy_80 rfl (lv_at hl 0 rfl) ?_
  refine va_get (D := G.1) (ci := 4) (v := .ref (ad 12)) (C := RX4) (T := TX4) (N := 29) hx hb htu iwX4 hown hK.1 hP 8 rfl rfl 12 (by decide) (htu _ uF_X4_45) (fun _ h9 => h9) rfl dX4_copy_81 ?_
  refine lv_iload_n hx hb dX4_copy_84 rfl (lv_at hl 1 rfl) ?_
  refine lv_aload_n hx hb dX4_copy_85 rfl (lv_at hl 0 rfl) ?_
  refine va_get (D := G.1) (ci := 4) (v := .ref (ad 12)) (C := RX4) (T := TX4) (N := 29) hx hb htu iwX4 hown hK.1 hP 8 rfl rfl 12 (by decide) (htu _ uF_X4_45) (fun _ h9 => h9) rfl dX4_copy_86 ?_
  refine lv_iload_n hx hb dX4_copy_89 rfl (lv_at hl 2 rfl) ?_
  refine g_lald hx hb hK.1 hP 6 2 rfl rfl ⟨hb4, by decide⟩ dX4_copy_90 ?_
  refine lv_topl (fun v_16 ev_16 => ?_)
  refine g_last hx hb hK.1 hP hD hS 6 2 rfl rfl ⟨ha, by decide⟩ dX4_copy_91 (fun H locs hP hD hS => ?_)
  obtain ⟨g_17, eg_17⟩ : ∃ gq9 : Nat → Int64, gq9 = vp_updL mf a v_16 := ⟨_, rfl⟩
  rw [← eg_17] at hP hD
  have hP : va_P G.1 vwCl [(ad 24, .inl (G.2.1 1, 64, .inl nf)), (ad 25, .inl (G.2.1 2, 80, .inr (.inl df))), (ad 2, .inl (G.2.1 2, 80, .inr (.inl cf))), (ad 9, .inl (G.2.1 3, 4, .inl g_11)), (ad 10, .inl (G.2.1 3, 4, .inl g_13)), (ad 11, .inl (G.2.1 3, 4, .inl g_15)), (ad 12, .inl (G.2.1 2, 4, .inr (.inl g_17))), (ad 13, .inl (G.2.1 1, 512, .inl ys)), (o, .inr (4, mF ad sz1 osz (nI 0) hsz)), (ad 4, .inl (G.2.1 1, 9, .inl kf_6)), (ad 7, .inl (G.2.1 1, 9, .inl ff_7)), (ad 5, .inl (G.2.1 2, 72, .inr (.inl sf_8))), (ad 6, .inl (G.2.1 1, 1152, .inl bf_9)), (ad 8, .inl (G.2.1 2, 9, .inr (.inl tf_10)))] H := hP
  have hD : va_D A [(ad 24, .inl (G.2.1 1, 64, .inl nf)), (ad 25, .inl (G.2.1 2, 80, .inr (.inl df))), (ad 2, .inl (G.2.1 2, 80, .inr (.inl cf))), (ad 9, .inl (G.2.1 3, 4, .inl g_11)), (ad 10, .inl (G.2.1 3, 4, .inl g_13)), (ad 11, .inl (G.2.1 3, 4, .inl g_15)), (ad 12, .inl (G.2.1 2, 4, .inr (.inl g_17))), (ad 13, .inl (G.2.1 1, 512, .inl ys)), (o, .inr (4, mF ad sz1 osz (nI 0) hsz)), (ad 4, .inl (G.2.1 1, 9, .inl kf_6)), (ad 7, .inl (G.2.1 1, 9, .inl ff_7)), (ad 5, .inl (G.2.1 2, 72, .inr (.inl sf_8))), (ad 6, .inl (G.2.1 1, 1152, .inl bf_9)), (ad 8, .inl (G.2.1 2, 9, .inr (.inl tf_10)))] := hD
  refine lv_iconst (v := nI 0) hx hb dX4_copy_92 (by decide) ?_
  refine lv_istore_n (lv' := [(3, .int (nI 0)), (0, .ref o), (1, .int (nI a)), (2, .int (nI b))]) hx hb dX4_copy_93 rfl hl (by decide) rfl (fun ls hl => ?_)
  refine g_loop (σ := Nat × (Nat → Int32)) (G := G) (fun xq9 : Nat × (Nat → Int32) => [(o, .inr (4, mF ad sz1 osz (nI 0) hsz)), (ad 4, .inl (G.2.1 1, 9, .inl kf_6)), (ad 7, .inl (G.2.1 1, 9, .inl ff_7)), (ad 5, .inl (G.2.1 2, 72, .inr (.inl sf_8))), (ad 6, .inl (G.2.1 1, 1152, .inl bf_9)), (ad 8, .inl (G.2.1 2, 9, .inr (.inl tf_10))), (ad 24, .inl (G.2.1 1, 64, .inl nf)), (ad 25, .inl (G.2.1 2, 80, .inr (.inl df))), (ad 2, .inl (G.2.1 2, 80, .inr (.inl cf))), (ad 9, .inl (G.2.1 3, 4, .inl g_11)), (ad 10, .inl (G.2.1 3, 4, .inl g_13)), (ad 11, .inl (G.2.1 3, 4, .inl g_15)), (ad 12, .inl (G.2.1 2, 4, .inr (.inl g_17))), (ad 13, .inl (G.2.1 1, 512, .inl xq9.2))]) (fun xq9 : Nat × (Nat → Int32) => [(0, .ref o), (1, .int (nI a)), (2, .int (nI b)), (3, .int (nI xq9.1))]) (fun xq9 : Nat × (Nat → Int32) => xq9.1 ≤ 128 ∧ (∀ x, x < xq9.1 → xq9.2 (128 * a + x) = ys (128 * b + x)) ∧ ∀ x, (x < 128 * a ∨ 128 * a + xq9.1 ≤ x) → xq9.2 x = ys x) (fun xq9 : Nat × (Nat → Int32) => 128 - xq9.1) ?_ (0, ys) (show 0 ≤ 128 ∧ (∀ x, x < 0 → ys (128 * a + x) = ys (128 * b + x)) ∧ ∀ x, (x < 128 * a ∨ 128 * a + 0 ≤ x) → ys x = ys x from ⟨Nat.zero_le _, fun _ h => absurd h (Nat.not_lt_zero _), fun _ _ => rfl⟩) (hP.sub [8, 9, 10, 11, 12, 13, 0, 1, 2, 3, 4, 5, 6, 7] rfl) (hD.sub [8, 9, 10, 11, 12, 13, 0, 1, 2, 3, 4, 5, 6, 7] (by decide) rfl) hS (lv_sub hl [1, 2, 3, 0] rfl)
  clear hP hD hS hl
  intro x hxI_94 ih_94 H locs ls hP hD hS hl
  obtain ⟨i, y⟩ := x
  have hI : i ≤ 128 ∧ (∀ x, x < i → y (128 * a + x) = ys (128 * b + x)) ∧ ∀ x, (x < 128 * a ∨ 128 * a + i ≤ x) → y x = ys x := hxI_94
  have hP : va_P G.1 vwCl [(o, .inr (4, mF ad sz1 osz (nI 0) hsz)), (ad 4, .inl (G.2.1 1, 9, .inl kf_6)), (ad 7, .inl (G.2.1 1, 9, .inl ff_7)), (ad 5, .inl (G.2.1 2, 72, .inr (.inl sf_8))), (ad 6, .inl (G.2.1 1, 1152, .inl bf_9)), (ad 8, .inl (G.2.1 2, 9, .inr (.inl tf_10))), (ad 24, .inl (G.2.1 1, 64, .inl nf)), (ad 25, .inl (G.2.1 2, 80, .inr (.inl df))), (ad 2, .inl (G.2.1 2, 80, .inr (.inl cf))), (ad 9, .inl (G.2.1 3, 4, .inl g_11)), (ad 10, .inl (G.2.1 3, 4, .inl g_13)), (ad 11, .inl (G.2.1 3, 4, .inl g_15)), (ad 12, .inl (G.2.1 2, 4, .inr (.inl g_17))), (ad 13, .inl (G.2.1 1, 512, .inl y))] H := hP
  have hD : va_D A [(o, .inr (4, mF ad sz1 osz (nI 0) hsz)), (ad 4, .inl (G.2.1 1, 9, .inl kf_6)), (ad 7, .inl (G.2.1 1, 9, .inl ff_7)), (ad 5, .inl (G.2.1 2, 72, .inr (.inl sf_8))), (ad 6, .inl (G.2.1 1, 1152, .inl bf_9)), (ad 8, .inl (G.2.1 2, 9, .inr (.inl tf_10))), (ad 24, .inl (G.2.1 1, 64, .inl nf)), (ad 25, .inl (G.2.1 2, 80, .inr (.inl df))), (ad 2, .inl (G.2.1 2, 80, .inr (.inl cf))), (ad 9, .inl (G.2.1 3, 4, .inl g_11)), (ad 10, .inl (G.2.1 3, 4, .inl g_13)), (ad 11, .inl (G.2.1 3, 4, .inl g_15)), (ad 12, .inl (G.2.1 2, 4, .inr (.inl g_17))), (ad 13, .inl (G.2.1 1, 512, .inl y))] := hD
  have hl : lv_has ls 4 [(0, .ref o), (1, .int (nI a)), (2, .int (nI b)), (3, .int (nI i))] := hl
  refine lv_iload_n hx hb dX4_copy_94 rfl (lv_at hl 3 rfl) ?_
  refine lv_sipush (v := nI 128) hx hb dX4_copy_95 (by decide) ?_
  refine lv_icmp_ge (tgt := 131) hx hb dX4_copy_98 (by decide) (fun c_98 => ?_) (fun c_98 => ?_)
  · skip
    have hg : 128 ≤ i := ge_t (n := 128) c_98 (by decide)
    exact gret_v hx hb hr hlk dX4_copy_131 hS (kf_6, ff_7, sf_8, bf_9, tf_10, g_11, g_13, g_15, g_17, y) (hP.sub [0, 1, 2, 3, 4, 5, 6, 7, 8, 9, 10, 11, 12, 13] rfl) (hD.sub [0, 1, 2, 3, 4, 5, 6, 7, 8, 9, 10, 11, 12, 13] (by decide) rfl) (show StmR (kf_6, ff_7, sf_8, bf_9, tf_10) g_11 g_13 g_15 g_17 y (va_up st a (true, k, cd, ed, T, h, kq)) from hS9.set hw1.2 (fun x hx => Or.inl (List.mem_singleton.mp hx)) (un eg_11) (un eg_13) (un eg_15) (unL eg_17) (fun x hx i hi => hI.2.2 _ (by omega)) ⟨by rw [eg_11, pk_us]; rfl, fun _ => ⟨by rw [eg_13, pk_us, ev_12, ((slG hS9 hb4 hst).2 rfl).1]; exact nar_bI cd, by rw [eg_15, pk_us, ev_14, ((slG hS9 hb4 hst).2 rfl).2.1]; exact nar_bI ed, by rw [eg_17, pk_uLs, ev_16]; exact ((slG hS9 hb4 hst).2 rfl).2.2.1, ((slG hS9 hb4 hst).2 rfl).2.2.2.1.copy hw1.1, ((slG hS9 hb4 hst).2 rfl).2.2.2.2.1, ((slG hS9 hb4 hst).2 rfl).2.2.2.2.2.1, fun e9 i hi => (hI.2.1 i (by omega)).trans (((slG hS9 hb4 hst).2 rfl).2.2.2.2.2.2 e9 i hi)⟩⟩)
  · skip
    have hg : i < 128 := ge_f (n := 128) c_98 (by omega)
    refine lv_aload_n hx hb dX4_copy_101 rfl (lv_at hl 0 rfl) ?_
    refine va_get (D := G.1) (ci := 4) (v := .ref (ad 13)) (C := RX4) (T := TX4) (N := 29) hx hb htu iwX4 hown hK.1 hP 0 rfl rfl 13 (by decide) (htu _ uF_X4_48) (fun _ h9 => h9) rfl dX4_copy_102 ?_
    refine lv_sipush (v := nI 128) hx hb dX4_copy_105 (by decide) ?_
    refine lv_iload_n hx hb dX4_copy_108 rfl (lv_at hl 1 rfl) ?_
    refine lv_imul hx hb dX4_copy_109 ?_
    refine g_toi (y := nI (128 * a)) (pk_mul 128 a) ?_
    refine lv_iload_n hx hb dX4_copy_110 rfl (lv_at hl 3 rfl) ?_
    refine lv_iadd hx hb dX4_copy_111 ?_
    refine g_toi (y := nI (128 * a + i)) (nI_add (128 * a) i) ?_
    refine lv_aload_n hx hb dX4_copy_112 rfl (lv_at hl 0 rfl) ?_
    refine va_get (D := G.1) (ci := 4) (v := .ref (ad 13)) (C := RX4) (T := TX4) (N := 29) hx hb htu iwX4 hown hK.1 hP 0 rfl rfl 13 (by decide) (htu _ uF_X4_48) (fun _ h9 => h9) rfl dX4_copy_113 ?_
    refine lv_sipush (v := nI 128) hx hb dX4_copy_116 (by decide) ?_
    refine lv_iload_n hx hb dX4_copy_119 rfl (lv_at hl 2 rfl) ?_
    refine lv_imul hx hb dX4_copy_120 ?_
    refine g_toi (y := nI (128 * b)) (pk_mul 128 b) ?_
    refine lv_iload_n hx hb dX4_copy_121 rfl (lv_at hl 3 rfl) ?_
    refine lv_iadd hx hb dX4_copy_122 ?_
    refine g_toi (y := nI (128 * b + i)) (nI_add (128 * b) i) ?_
    refine g_iald hx hb hK.1 hP 13 1 rfl rfl ⟨by omega, by decide⟩ dX4_copy_123 ?_
    refine lv_topi (fun v_18 ev_18 => ?_)
    refine g_iast hx hb hK.1 hP hD hS 13 1 rfl rfl ⟨by omega, by decide⟩ dX4_copy_124 (fun H locs hP hD hS => ?_)
    obtain ⟨g_19, eg_19⟩ : ∃ gq9 : Nat → Int32, gq9 = upd y (128 * a + i) v_18 := ⟨_, rfl⟩
    rw [← eg_19] at hP hD
    have hP : va_P G.1 vwCl [(o, .inr (4, mF ad sz1 osz (nI 0) hsz)), (ad 4, .inl (G.2.1 1, 9, .inl kf_6)), (ad 7, .inl (G.2.1 1, 9, .inl ff_7)), (ad 5, .inl (G.2.1 2, 72, .inr (.inl sf_8))), (ad 6, .inl (G.2.1 1, 1152, .inl bf_9)), (ad 8, .inl (G.2.1 2, 9, .inr (.inl tf_10))), (ad 24, .inl (G.2.1 1, 64, .inl nf)), (ad 25, .inl (G.2.1 2, 80, .inr (.inl df))), (ad 2, .inl (G.2.1 2, 80, .inr (.inl cf))), (ad 9, .inl (G.2.1 3, 4, .inl g_11)), (ad 10, .inl (G.2.1 3, 4, .inl g_13)), (ad 11, .inl (G.2.1 3, 4, .inl g_15)), (ad 12, .inl (G.2.1 2, 4, .inr (.inl g_17))), (ad 13, .inl (G.2.1 1, 512, .inl g_19))] H := hP
    have hD : va_D A [(o, .inr (4, mF ad sz1 osz (nI 0) hsz)), (ad 4, .inl (G.2.1 1, 9, .inl kf_6)), (ad 7, .inl (G.2.1 1, 9, .inl ff_7)), (ad 5, .inl (G.2.1 2, 72, .inr (.inl sf_8))), (ad 6, .inl (G.2.1 1, 1152, .inl bf_9)), (ad 8, .inl (G.2.1 2, 9, .inr (.inl tf_10))), (ad 24, .inl (G.2.1 1, 64, .inl nf)), (ad 25, .inl (G.2.1 2, 80, .inr (.inl df))), (ad 2, .inl (G.2.1 2, 80, .inr (.inl cf))), (ad 9, .inl (G.2.1 3, 4, .inl g_11)), (ad 10, .inl (G.2.1 3, 4, .inl g_13)), (ad 11, .inl (G.2.1 3, 4, .inl g_15)), (ad 12, .inl (G.2.1 2, 4, .inr (.inl g_17))), (ad 13, .inl (G.2.1 1, 512, .inl g_19))] := hD
    refine lv_iinc (v := nI (i + 1)) (lv' := [(3, .int (nI (i + 1))), (0, .ref o), (1, .int (nI a)), (2, .int (nI b))]) hx hb dX4_copy_125 hl (k := 3) rfl (nI_1 i) (by decide) rfl (fun ls hl => ?_)
    refine lv_goto (tgt := 94) hx hb dX4_copy_128 (by decide) ?_
    exact ih_94 (i + 1, g_19) (show (i + 1) ≤ 128 ∧ (∀ x, x < (i + 1) → g_19 (128 * a + x) = ys (128 * b + x)) ∧ ∀ x, (x < 128 * a ∨ 128 * a + (i + 1) ≤ x) → g_19 x = ys x from csI hI hg eg_19 ev_18) (by show 128 - (i + 1) < 128 - i; omega) _ _ _ (hP.sub [0, 1, 2, 3, 4, 5, 6, 7, 8, 9, 10, 11, 12, 13] rfl) (hD.sub [0, 1, 2, 3, 4, 5, 6, 7, 8, 9, 10, 11, 12, 13] (by decide) rfl) hS (lv_sub hl [1, 2, 3, 0] rfl)
set_option maxHeartbeats 4000000 in
set_option maxRecDepth 100000 in
theorem c_X4_copyT1 (l : Launch) (G : GW) (sz : Nat) (o : Nat) (ad : Nat → Nat) (sz1 : Int32) (osz : Int32) (th : Int32) (hsz : Int32) (x : Int32) (y : Int32) (hx1 : nsI x = 1) : Met l yX4_copy (Cond.code yX4_copy cX4_copy 4 (none : Option FieldType) :: UW) ({ frames := 1, cells := 0, slots := 0, locals := 20 } : Room) (va_Pc [.ref o, .int x, .int y] (gPre G [(o, .inr (4, mF ad sz1 osz th hsz))] sz)) (va_Qv (fun (_ : Unit) => True) (fun u => gPost G (va_A [(o, .inr (4, mF ad sz1 osz th hsz))] sz) ((fun (_ : Unit) => ([(o, .inr (4, mF ad sz1 osz (nI 1) hsz))] : va_W)) u)) (va_A [(o, .inr (4, mF ad sz1 osz th hsz))] sz)) 0 0 (va_A [(o, .inr (4, mF ad sz1 osz th hsz))] sz) := by
  refine gM_of (Qf := fun A => va_Qv (fun (_ : Unit) => True) (fun u => gPost G A ((fun (_ : Unit) => ([(o, .inr (4, mF ad sz1 osz (nI 1) hsz))] : va_W)) u)) A) (by decide) (Nat.le_of_ble_eq_true rfl) ?_
  intro p e s m below meth c A ls hx hb hml hr hown htu hlk hnm hA hP hD hS hK hZ hl
  have hown : s.vm.findClass RX4 = some m.cls := hown
  have hl : lv_has ls 4 [(0, .ref o), (1, .int x), (2, .int y)] := hl
  refine lv_aload_n hx hb dX4_copy_0 rfl (lv_at hl 0 rfl) ?_
  refine lv_iload_n hx hb dX4_copy_1 rfl (lv_at hl 1 rfl) ?_
  refine g_calli (g_runS (As := [.int x]) (rest := [.ref o]) ⟨hx, hb, hml, hown, htu⟩ (c_X4_noStream l G _ x ) uM_X4_174 ok_X4_noStream uA_X4_noStream rfl rfl ⟨Nat.le_of_ble_eq_true rfl, Nat.le_of_ble_eq_true rfl⟩ hK hP hD hS hA hZ [] rfl rfl rfl hl.1 rfl (Nat.le_of_ble_eq_true rfl) dX4_copy_2 ⟨Nat.le_of_ble_eq_true rfl, Nat.le_of_ble_eq_true rfl⟩) hP hD hS hA [] rfl (fun r_1 u H locs hw_2 hP hD hS => ?_)
  have hw_2 : r_1 = nsI x := hw_2
  subst hw_2
  have hP : va_P G.1 vwCl [(o, .inr (4, mF ad sz1 osz th hsz))] H := hP
  have hD : va_D A [(o, .inr (4, mF ad sz1 osz th hsz))] := hD
  refine g_toi (y := nI 1) (hx1) ?_
  refine lv_if_ne (tgt := 15) hx hb dX4_copy_5 (by decide) (fun _ => ?_) (fun c_5 => absurd c_5 (by decide))
  refine lv_iconst (v := nI 1) hx hb dX4_copy_15 (by decide) ?_
  refine lv_goto (tgt := 33) hx hb dX4_copy_16 (by decide) ?_
  refine va_put (D := G.1) (ci := 4) (v := .int (nI 1)) (ty := .int) (C := RX4) (T := TX4) (N := 29) hx hb htu iwX4 tyX4 tyX4_ok nmX4 hown hK.1 hP hD hS 0 rfl rfl 20 (by decide) (htu _ uF_X4_95) (fun _ h9 => h9) rfl (by decide +kernel) rfl rfl (Nat.le_of_ble_eq_true rfl) dX4_copy_33 (fun H locs hP hD hS => ?_)
  have hP : va_P G.1 vwCl [(o, .inr (4, mF ad sz1 osz (nI 1) hsz))] H := hP
  have hD : va_D A [(o, .inr (4, mF ad sz1 osz (nI 1) hsz))] := hD
  refine lv_aload_n hx hb dX4_copy_36 rfl (lv_at hl 0 rfl) ?_
  refine va_get (D := G.1) (ci := 4) (v := .int (nI 1)) (C := RX4) (T := TX4) (N := 29) hx hb htu iwX4 hown hK.1 hP 0 rfl rfl 20 (by decide) (htu _ uF_X4_95) (fun _ h9 => h9) rfl dX4_copy_37 ?_
  refine lv_if_ne (tgt := 131) hx hb dX4_copy_40 (by decide) (fun _ => ?_) (fun c_40 => absurd c_40 (by decide))
  exact gret_v hx hb hr hlk dX4_copy_131 hS () (hP.sub [0] rfl) (hD.sub [0] (by decide) rfl) (trivial)
set_option maxHeartbeats 4000000 in
set_option maxRecDepth 100000 in
theorem c_X4_copyT1b (l : Launch) (G : GW) (sz : Nat) (o : Nat) (ad : Nat → Nat) (sz1 : Int32) (osz : Int32) (th : Int32) (hsz : Int32) (x : Int32) (y : Int32) (hx1 : nsI x = 0) (hy1 : nsI y = 1) : Met l yX4_copy (Cond.code yX4_copy cX4_copy 4 (none : Option FieldType) :: UW) ({ frames := 1, cells := 0, slots := 0, locals := 20 } : Room) (va_Pc [.ref o, .int x, .int y] (gPre G [(o, .inr (4, mF ad sz1 osz th hsz))] sz)) (va_Qv (fun (_ : Unit) => True) (fun u => gPost G (va_A [(o, .inr (4, mF ad sz1 osz th hsz))] sz) ((fun (_ : Unit) => ([(o, .inr (4, mF ad sz1 osz (nI 1) hsz))] : va_W)) u)) (va_A [(o, .inr (4, mF ad sz1 osz th hsz))] sz)) 0 0 (va_A [(o, .inr (4, mF ad sz1 osz th hsz))] sz) := by
  refine gM_of (Qf := fun A => va_Qv (fun (_ : Unit) => True) (fun u => gPost G A ((fun (_ : Unit) => ([(o, .inr (4, mF ad sz1 osz (nI 1) hsz))] : va_W)) u)) A) (by decide) (Nat.le_of_ble_eq_true rfl) ?_
  intro p e s m below meth c A ls hx hb hml hr hown htu hlk hnm hA hP hD hS hK hZ hl
  have hown : s.vm.findClass RX4 = some m.cls := hown
  have hl : lv_has ls 4 [(0, .ref o), (1, .int x), (2, .int y)] := hl
  refine lv_aload_n hx hb dX4_copy_0 rfl (lv_at hl 0 rfl) ?_
  refine lv_iload_n hx hb dX4_copy_1 rfl (lv_at hl 1 rfl) ?_
  refine g_calli (g_runS (As := [.int x]) (rest := [.ref o]) ⟨hx, hb, hml, hown, htu⟩ (c_X4_noStream l G _ x ) uM_X4_174 ok_X4_noStream uA_X4_noStream rfl rfl ⟨Nat.le_of_ble_eq_true rfl, Nat.le_of_ble_eq_true rfl⟩ hK hP hD hS hA hZ [] rfl rfl rfl hl.1 rfl (Nat.le_of_ble_eq_true rfl) dX4_copy_2 ⟨Nat.le_of_ble_eq_true rfl, Nat.le_of_ble_eq_true rfl⟩) hP hD hS hA [] rfl (fun r_1 u H locs hw_2 hP hD hS => ?_)
  have hw_2 : r_1 = nsI x := hw_2
  subst hw_2
  have hP : va_P G.1 vwCl [(o, .inr (4, mF ad sz1 osz th hsz))] H := hP
  have hD : va_D A [(o, .inr (4, mF ad sz1 osz th hsz))] := hD
  refine g_toi (y := nI 0) (hx1) ?_
  refine lv_if_ne (tgt := 15) hx hb dX4_copy_5 (by decide) (fun c_5 => absurd (by decide) c_5) (fun _ => ?_)
  refine lv_iload_n hx hb dX4_copy_8 rfl (lv_at hl 2 rfl) ?_
  refine g_calli (g_runS (As := [.int y]) (rest := [.ref o]) ⟨hx, hb, hml, hown, htu⟩ (c_X4_noStream l G _ y ) uM_X4_174 ok_X4_noStream uA_X4_noStream rfl rfl ⟨Nat.le_of_ble_eq_true rfl, Nat.le_of_ble_eq_true rfl⟩ hK hP hD hS hA hZ [] rfl rfl rfl hl.1 rfl (Nat.le_of_ble_eq_true rfl) dX4_copy_9 ⟨Nat.le_of_ble_eq_true rfl, Nat.le_of_ble_eq_true rfl⟩) hP hD hS hA [] rfl (fun r_3 u H locs hw_4 hP hD hS => ?_)
  have hw_4 : r_3 = nsI y := hw_4
  subst hw_4
  have hP : va_P G.1 vwCl [(o, .inr (4, mF ad sz1 osz th hsz))] H := hP
  have hD : va_D A [(o, .inr (4, mF ad sz1 osz th hsz))] := hD
  refine g_toi (y := nI 1) (hy1) ?_
  refine lv_if_eq (tgt := 19) hx hb dX4_copy_12 (by decide) (fun c_12 => absurd c_12 (by decide)) (fun _ => ?_)
  refine lv_iconst (v := nI 1) hx hb dX4_copy_15 (by decide) ?_
  refine lv_goto (tgt := 33) hx hb dX4_copy_16 (by decide) ?_
  refine va_put (D := G.1) (ci := 4) (v := .int (nI 1)) (ty := .int) (C := RX4) (T := TX4) (N := 29) hx hb htu iwX4 tyX4 tyX4_ok nmX4 hown hK.1 hP hD hS 0 rfl rfl 20 (by decide) (htu _ uF_X4_95) (fun _ h9 => h9) rfl (by decide +kernel) rfl rfl (Nat.le_of_ble_eq_true rfl) dX4_copy_33 (fun H locs hP hD hS => ?_)
  have hP : va_P G.1 vwCl [(o, .inr (4, mF ad sz1 osz (nI 1) hsz))] H := hP
  have hD : va_D A [(o, .inr (4, mF ad sz1 osz (nI 1) hsz))] := hD
  refine lv_aload_n hx hb dX4_copy_36 rfl (lv_at hl 0 rfl) ?_
  refine va_get (D := G.1) (ci := 4) (v := .int (nI 1)) (C := RX4) (T := TX4) (N := 29) hx hb htu iwX4 hown hK.1 hP 0 rfl rfl 20 (by decide) (htu _ uF_X4_95) (fun _ h9 => h9) rfl dX4_copy_37 ?_
  refine lv_if_ne (tgt := 131) hx hb dX4_copy_40 (by decide) (fun _ => ?_) (fun c_40 => absurd c_40 (by decide))
  exact gret_v hx hb hr hlk dX4_copy_131 hS () (hP.sub [0] rfl) (hD.sub [0] (by decide) rfl) (trivial)
set_option maxHeartbeats 4000000 in
set_option maxRecDepth 100000 in
theorem c_X4_copyT2 (l : Launch) (G : GW) (sz : Nat) (o : Nat) (ad : Nat → Nat) (sz1 : Int32) (osz : Int32) (th : Int32) (hsz : Int32) (x : Int32) (b : Nat) (gb : Nat → Int32) (hx1 : nsI x = 0) (hb4 : b < 4) (h0 : gb b = 0) : Met l yX4_copy (Cond.code yX4_copy cX4_copy 4 (none : Option FieldType) :: UW) ({ frames := 1, cells := 0, slots := 0, locals := 20 } : Room) (va_Pc [.ref o, .int x, .int (nI b)] (gPre G [(o, .inr (4, mF ad sz1 osz th hsz)), (ad 9, .inl (G.2.1 3, 4, .inl gb))] sz)) (va_Qv (fun (_ : Unit) => True) (fun u => gPost G (va_A [(o, .inr (4, mF ad sz1 osz th hsz)), (ad 9, .inl (G.2.1 3, 4, .inl gb))] sz) ((fun (_ : Unit) => ([(o, .inr (4, mF ad sz1 osz (nI 2) hsz)), (ad 9, .inl (G.2.1 3, 4, .inl gb))] : va_W)) u)) (va_A [(o, .inr (4, mF ad sz1 osz th hsz)), (ad 9, .inl (G.2.1 3, 4, .inl gb))] sz)) 0 0 (va_A [(o, .inr (4, mF ad sz1 osz th hsz)), (ad 9, .inl (G.2.1 3, 4, .inl gb))] sz) := by
  refine gM_of (Qf := fun A => va_Qv (fun (_ : Unit) => True) (fun u => gPost G A ((fun (_ : Unit) => ([(o, .inr (4, mF ad sz1 osz (nI 2) hsz)), (ad 9, .inl (G.2.1 3, 4, .inl gb))] : va_W)) u)) A) (by decide) (Nat.le_of_ble_eq_true rfl) ?_
  intro p e s m below meth c A ls hx hb hml hr hown htu hlk hnm hA hP hD hS hK hZ hl
  have hown : s.vm.findClass RX4 = some m.cls := hown
  have hl : lv_has ls 4 [(0, .ref o), (1, .int x), (2, .int (nI b))] := hl
  refine lv_aload_n hx hb dX4_copy_0 rfl (lv_at hl 0 rfl) ?_
  refine lv_iload_n hx hb dX4_copy_1 rfl (lv_at hl 1 rfl) ?_
  refine g_calli (g_runS (As := [.int x]) (rest := [.ref o]) ⟨hx, hb, hml, hown, htu⟩ (c_X4_noStream l G _ x ) uM_X4_174 ok_X4_noStream uA_X4_noStream rfl rfl ⟨Nat.le_of_ble_eq_true rfl, Nat.le_of_ble_eq_true rfl⟩ hK hP hD hS hA hZ [] rfl rfl rfl hl.1 rfl (Nat.le_of_ble_eq_true rfl) dX4_copy_2 ⟨Nat.le_of_ble_eq_true rfl, Nat.le_of_ble_eq_true rfl⟩) hP hD hS hA [] rfl (fun r_1 u H locs hw_2 hP hD hS => ?_)
  have hw_2 : r_1 = nsI x := hw_2
  subst hw_2
  have hP : va_P G.1 vwCl [(o, .inr (4, mF ad sz1 osz th hsz)), (ad 9, .inl (G.2.1 3, 4, .inl gb))] H := hP
  have hD : va_D A [(o, .inr (4, mF ad sz1 osz th hsz)), (ad 9, .inl (G.2.1 3, 4, .inl gb))] := hD
  refine g_toi (y := nI 0) (hx1) ?_
  refine lv_if_ne (tgt := 15) hx hb dX4_copy_5 (by decide) (fun c_5 => absurd (by decide) c_5) (fun _ => ?_)
  refine lv_iload_n hx hb dX4_copy_8 rfl (lv_at hl 2 rfl) ?_
  refine g_calli (g_runS (As := [.int (nI b)]) (rest := [.ref o]) ⟨hx, hb, hml, hown, htu⟩ (c_X4_noStream l G _ (nI b) ) uM_X4_174 ok_X4_noStream uA_X4_noStream rfl rfl ⟨Nat.le_of_ble_eq_true rfl, Nat.le_of_ble_eq_true rfl⟩ hK hP hD hS hA hZ [] rfl rfl rfl hl.1 rfl (Nat.le_of_ble_eq_true rfl) dX4_copy_9 ⟨Nat.le_of_ble_eq_true rfl, Nat.le_of_ble_eq_true rfl⟩) hP hD hS hA [] rfl (fun r_3 u H locs hw_4 hP hD hS => ?_)
  have hw_4 : r_3 = nsI (nI b) := hw_4
  subst hw_4
  have hP : va_P G.1 vwCl [(o, .inr (4, mF ad sz1 osz th hsz)), (ad 9, .inl (G.2.1 3, 4, .inl gb))] H := hP
  have hD : va_D A [(o, .inr (4, mF ad sz1 osz th hsz)), (ad 9, .inl (G.2.1 3, 4, .inl gb))] := hD
  refine g_toi (y := nI 0) (nsI_nI hb4) ?_
  refine lv_if_eq (tgt := 19) hx hb dX4_copy_12 (by decide) (fun _ => ?_) (fun c_12 => absurd (by decide) c_12)
  refine lv_aload_n hx hb dX4_copy_19 rfl (lv_at hl 0 rfl) ?_
  refine va_get (D := G.1) (ci := 4) (v := .ref (ad 9)) (C := RX4) (T := TX4) (N := 29) hx hb htu iwX4 hown hK.1 hP 0 rfl rfl 9 (by decide) (htu _ uF_X4_35) (fun _ h9 => h9) rfl dX4_copy_20 ?_
  refine lv_iload_n hx hb dX4_copy_23 rfl (lv_at hl 2 rfl) ?_
  refine g_zald hx hb hK.1 hP 1 3 rfl rfl ⟨hb4, by decide⟩ dX4_copy_24 ?_
  refine g_toi (y := nI 0) (h0) ?_
  refine lv_if_ne (tgt := 32) hx hb dX4_copy_25 (by decide) (fun c_25 => absurd (by decide) c_25) (fun _ => ?_)
  refine lv_iconst (v := nI 2) hx hb dX4_copy_28 (by decide) ?_
  refine lv_goto (tgt := 33) hx hb dX4_copy_29 (by decide) ?_
  refine va_put (D := G.1) (ci := 4) (v := .int (nI 2)) (ty := .int) (C := RX4) (T := TX4) (N := 29) hx hb htu iwX4 tyX4 tyX4_ok nmX4 hown hK.1 hP hD hS 0 rfl rfl 20 (by decide) (htu _ uF_X4_95) (fun _ h9 => h9) rfl (by decide +kernel) rfl rfl (Nat.le_of_ble_eq_true rfl) dX4_copy_33 (fun H locs hP hD hS => ?_)
  have hP : va_P G.1 vwCl [(o, .inr (4, mF ad sz1 osz (nI 2) hsz)), (ad 9, .inl (G.2.1 3, 4, .inl gb))] H := hP
  have hD : va_D A [(o, .inr (4, mF ad sz1 osz (nI 2) hsz)), (ad 9, .inl (G.2.1 3, 4, .inl gb))] := hD
  refine lv_aload_n hx hb dX4_copy_36 rfl (lv_at hl 0 rfl) ?_
  refine va_get (D := G.1) (ci := 4) (v := .int (nI 2)) (C := RX4) (T := TX4) (N := 29) hx hb htu iwX4 hown hK.1 hP 0 rfl rfl 20 (by decide) (htu _ uF_X4_95) (fun _ h9 => h9) rfl dX4_copy_37 ?_
  refine lv_if_ne (tgt := 131) hx hb dX4_copy_40 (by decide) (fun _ => ?_) (fun c_40 => absurd c_40 (by decide))
  exact gret_v hx hb hr hlk dX4_copy_131 hS () (hP.sub [0, 1] rfl) (hD.sub [0, 1] (by decide) rfl) (trivial)
set_option maxHeartbeats 4000000 in
set_option maxRecDepth 100000 in
theorem c_X4_updateT1 (l : Launch) (G : GW) (sz : Nat) (o : Nat) (ad : Nat → Nat) (sz1 : Int32) (osz : Int32) (th : Int32) (hsz : Int32) (x : Int32) (hx1 : nsI x = 1) : Met l yX4_update (Cond.code yX4_update cX4_update 3 (some FieldType.long) :: UW) ({ frames := 1, cells := 0, slots := 0, locals := 20 } : Room) (va_Pc [.ref o, .int x] (gPre G [(o, .inr (4, mF ad sz1 osz th hsz))] sz)) (va_Ql (fun (r : Int64) (_ : Unit) => r = 0) (fun u => gPost G (va_A [(o, .inr (4, mF ad sz1 osz th hsz))] sz) ((fun (_ : Unit) => ([(o, .inr (4, mF ad sz1 osz (nI 1) hsz))] : va_W)) u)) (va_A [(o, .inr (4, mF ad sz1 osz th hsz))] sz)) 0 0 (va_A [(o, .inr (4, mF ad sz1 osz th hsz))] sz) := by
  refine gM_of (Qf := fun A => va_Ql (fun (r : Int64) (_ : Unit) => r = 0) (fun u => gPost G A ((fun (_ : Unit) => ([(o, .inr (4, mF ad sz1 osz (nI 1) hsz))] : va_W)) u)) A) (by decide) (Nat.le_of_ble_eq_true rfl) ?_
  intro p e s m below meth c A ls hx hb hml hr hown htu hlk hnm hA hP hD hS hK hZ hl
  have hown : s.vm.findClass RX4 = some m.cls := hown
  have hl : lv_has ls 3 [(0, .ref o), (1, .int x)] := hl
  refine lv_aload_n hx hb dX4_update_0 rfl (lv_at hl 0 rfl) ?_
  refine lv_iload_n hx hb dX4_update_1 rfl (lv_at hl 1 rfl) ?_
  refine g_calli (g_runS (As := [.int x]) (rest := [.ref o]) ⟨hx, hb, hml, hown, htu⟩ (c_X4_noStream l G _ x ) uM_X4_174 ok_X4_noStream uA_X4_noStream rfl rfl ⟨Nat.le_of_ble_eq_true rfl, Nat.le_of_ble_eq_true rfl⟩ hK hP hD hS hA hZ [] rfl rfl rfl hl.1 rfl (Nat.le_of_ble_eq_true rfl) dX4_update_2 ⟨Nat.le_of_ble_eq_true rfl, Nat.le_of_ble_eq_true rfl⟩) hP hD hS hA [] rfl (fun r_1 u H locs hw_2 hP hD hS => ?_)
  have hw_2 : r_1 = nsI x := hw_2
  subst hw_2
  have hP : va_P G.1 vwCl [(o, .inr (4, mF ad sz1 osz th hsz))] H := hP
  have hD : va_D A [(o, .inr (4, mF ad sz1 osz th hsz))] := hD
  refine g_toi (y := nI 1) (hx1) ?_
  refine lv_if_eq (tgt := 12) hx hb dX4_update_5 (by decide) (fun c_5 => absurd c_5 (by decide)) (fun _ => ?_)
  refine lv_iconst (v := nI 1) hx hb dX4_update_8 (by decide) ?_
  refine lv_goto (tgt := 35) hx hb dX4_update_9 (by decide) ?_
  refine va_put (D := G.1) (ci := 4) (v := .int (nI 1)) (ty := .int) (C := RX4) (T := TX4) (N := 29) hx hb htu iwX4 tyX4 tyX4_ok nmX4 hown hK.1 hP hD hS 0 rfl rfl 20 (by decide) (htu _ uF_X4_95) (fun _ h9 => h9) rfl (by decide +kernel) rfl rfl (Nat.le_of_ble_eq_true rfl) dX4_update_35 (fun H locs hP hD hS => ?_)
  have hP : va_P G.1 vwCl [(o, .inr (4, mF ad sz1 osz (nI 1) hsz))] H := hP
  have hD : va_D A [(o, .inr (4, mF ad sz1 osz (nI 1) hsz))] := hD
  refine lv_aload_n hx hb dX4_update_38 rfl (lv_at hl 0 rfl) ?_
  refine va_get (D := G.1) (ci := 4) (v := .int (nI 1)) (C := RX4) (T := TX4) (N := 29) hx hb htu iwX4 hown hK.1 hP 0 rfl rfl 20 (by decide) (htu _ uF_X4_95) (fun _ h9 => h9) rfl dX4_update_39 ?_
  refine lv_if_le (tgt := 47) hx hb dX4_update_42 (by decide) (fun c_42 => absurd c_42 (by decide)) (fun _ => ?_)
  refine lv_lconst (v := 0) hx hb dX4_update_45 (by decide) ?_
  exact gret_l hx hb hr hlk dX4_update_46 hS () (hP.sub [0] rfl) (hD.sub [0] (by decide) rfl) (rfl)
set_option maxHeartbeats 4000000 in
set_option maxRecDepth 100000 in
theorem c_X4_updateT2 (l : Launch) (G : GW) (sz : Nat) (o : Nat) (ad : Nat → Nat) (sz1 : Int32) (osz : Int32) (th : Int32) (hsz : Int32) (b : Nat) (gb : Nat → Int32) (hb4 : b < 4) (h0 : gb b = 0) : Met l yX4_update (Cond.code yX4_update cX4_update 3 (some FieldType.long) :: UW) ({ frames := 1, cells := 0, slots := 0, locals := 20 } : Room) (va_Pc [.ref o, .int (nI b)] (gPre G [(o, .inr (4, mF ad sz1 osz th hsz)), (ad 9, .inl (G.2.1 3, 4, .inl gb))] sz)) (va_Ql (fun (r : Int64) (_ : Unit) => r = 0) (fun u => gPost G (va_A [(o, .inr (4, mF ad sz1 osz th hsz)), (ad 9, .inl (G.2.1 3, 4, .inl gb))] sz) ((fun (_ : Unit) => ([(o, .inr (4, mF ad sz1 osz (nI 2) hsz)), (ad 9, .inl (G.2.1 3, 4, .inl gb))] : va_W)) u)) (va_A [(o, .inr (4, mF ad sz1 osz th hsz)), (ad 9, .inl (G.2.1 3, 4, .inl gb))] sz)) 0 0 (va_A [(o, .inr (4, mF ad sz1 osz th hsz)), (ad 9, .inl (G.2.1 3, 4, .inl gb))] sz) := by
  refine gM_of (Qf := fun A => va_Ql (fun (r : Int64) (_ : Unit) => r = 0) (fun u => gPost G A ((fun (_ : Unit) => ([(o, .inr (4, mF ad sz1 osz (nI 2) hsz)), (ad 9, .inl (G.2.1 3, 4, .inl gb))] : va_W)) u)) A) (by decide) (Nat.le_of_ble_eq_true rfl) ?_
  intro p e s m below meth c A ls hx hb hml hr hown htu hlk hnm hA hP hD hS hK hZ hl
  have hown : s.vm.findClass RX4 = some m.cls := hown
  have hl : lv_has ls 3 [(0, .ref o), (1, .int (nI b))] := hl
  refine lv_aload_n hx hb dX4_update_0 rfl (lv_at hl 0 rfl) ?_
  refine lv_iload_n hx hb dX4_update_1 rfl (lv_at hl 1 rfl) ?_
  refine g_calli (g_runS (As := [.int (nI b)]) (rest := [.ref o]) ⟨hx, hb, hml, hown, htu⟩ (c_X4_noStream l G _ (nI b) ) uM_X4_174 ok_X4_noStream uA_X4_noStream rfl rfl ⟨Nat.le_of_ble_eq_true rfl, Nat.le_of_ble_eq_true rfl⟩ hK hP hD hS hA hZ [] rfl rfl rfl hl.1 rfl (Nat.le_of_ble_eq_true rfl) dX4_update_2 ⟨Nat.le_of_ble_eq_true rfl, Nat.le_of_ble_eq_true rfl⟩) hP hD hS hA [] rfl (fun r_1 u H locs hw_2 hP hD hS => ?_)
  have hw_2 : r_1 = nsI (nI b) := hw_2
  subst hw_2
  have hP : va_P G.1 vwCl [(o, .inr (4, mF ad sz1 osz th hsz)), (ad 9, .inl (G.2.1 3, 4, .inl gb))] H := hP
  have hD : va_D A [(o, .inr (4, mF ad sz1 osz th hsz)), (ad 9, .inl (G.2.1 3, 4, .inl gb))] := hD
  refine g_toi (y := nI 0) (nsI_nI hb4) ?_
  refine lv_if_eq (tgt := 12) hx hb dX4_update_5 (by decide) (fun _ => ?_) (fun c_5 => absurd (by decide) c_5)
  refine lv_aload_n hx hb dX4_update_12 rfl (lv_at hl 0 rfl) ?_
  refine va_get (D := G.1) (ci := 4) (v := .ref (ad 9)) (C := RX4) (T := TX4) (N := 29) hx hb htu iwX4 hown hK.1 hP 0 rfl rfl 9 (by decide) (htu _ uF_X4_35) (fun _ h9 => h9) rfl dX4_update_13 ?_
  refine lv_iload_n hx hb dX4_update_16 rfl (lv_at hl 1 rfl) ?_
  refine g_zald hx hb hK.1 hP 1 3 rfl rfl ⟨hb4, by decide⟩ dX4_update_17 ?_
  refine g_toi (y := nI 0) (h0) ?_
  refine lv_if_eq (tgt := 30) hx hb dX4_update_18 (by decide) (fun _ => ?_) (fun c_18 => absurd (by decide) c_18)
  refine lv_iconst (v := nI 2) hx hb dX4_update_30 (by decide) ?_
  refine lv_goto (tgt := 35) hx hb dX4_update_31 (by decide) ?_
  refine va_put (D := G.1) (ci := 4) (v := .int (nI 2)) (ty := .int) (C := RX4) (T := TX4) (N := 29) hx hb htu iwX4 tyX4 tyX4_ok nmX4 hown hK.1 hP hD hS 0 rfl rfl 20 (by decide) (htu _ uF_X4_95) (fun _ h9 => h9) rfl (by decide +kernel) rfl rfl (Nat.le_of_ble_eq_true rfl) dX4_update_35 (fun H locs hP hD hS => ?_)
  have hP : va_P G.1 vwCl [(o, .inr (4, mF ad sz1 osz (nI 2) hsz)), (ad 9, .inl (G.2.1 3, 4, .inl gb))] H := hP
  have hD : va_D A [(o, .inr (4, mF ad sz1 osz (nI 2) hsz)), (ad 9, .inl (G.2.1 3, 4, .inl gb))] := hD
  refine lv_aload_n hx hb dX4_update_38 rfl (lv_at hl 0 rfl) ?_
  refine va_get (D := G.1) (ci := 4) (v := .int (nI 2)) (C := RX4) (T := TX4) (N := 29) hx hb htu iwX4 hown hK.1 hP 0 rfl rfl 20 (by decide) (htu _ uF_X4_95) (fun _ h9 => h9) rfl dX4_update_39 ?_
  refine lv_if_le (tgt := 47) hx hb dX4_update_42 (by decide) (fun c_42 => absurd c_42 (by decide)) (fun _ => ?_)
  refine lv_lconst (v := 0) hx hb dX4_update_45 (by decide) ?_
  exact gret_l hx hb hr hlk dX4_update_46 hS () (hP.sub [0, 1] rfl) (hD.sub [0, 1] (by decide) rfl) (rfl)
set_option maxHeartbeats 4000000 in
set_option maxRecDepth 100000 in
theorem c_X4_updateT2b (l : Launch) (G : GW) (sz : Nat) (o : Nat) (ad : Nat → Nat) (sz1 : Int32) (osz : Int32) (th : Int32) (hsz : Int32) (b : Nat) (gb : Nat → Int32) (ge : Nat → Int32) (hb4 : b < 4) (h0 : gb b = 1) (h1 : ge b = 1) : Met l yX4_update (Cond.code yX4_update cX4_update 3 (some FieldType.long) :: UW) ({ frames := 1, cells := 0, slots := 0, locals := 20 } : Room) (va_Pc [.ref o, .int (nI b)] (gPre G [(o, .inr (4, mF ad sz1 osz th hsz)), (ad 9, .inl (G.2.1 3, 4, .inl gb)), (ad 11, .inl (G.2.1 3, 4, .inl ge))] sz)) (va_Ql (fun (r : Int64) (_ : Unit) => r = 0) (fun u => gPost G (va_A [(o, .inr (4, mF ad sz1 osz th hsz)), (ad 9, .inl (G.2.1 3, 4, .inl gb)), (ad 11, .inl (G.2.1 3, 4, .inl ge))] sz) ((fun (_ : Unit) => ([(o, .inr (4, mF ad sz1 osz (nI 2) hsz)), (ad 9, .inl (G.2.1 3, 4, .inl gb)), (ad 11, .inl (G.2.1 3, 4, .inl ge))] : va_W)) u)) (va_A [(o, .inr (4, mF ad sz1 osz th hsz)), (ad 9, .inl (G.2.1 3, 4, .inl gb)), (ad 11, .inl (G.2.1 3, 4, .inl ge))] sz)) 0 0 (va_A [(o, .inr (4, mF ad sz1 osz th hsz)), (ad 9, .inl (G.2.1 3, 4, .inl gb)), (ad 11, .inl (G.2.1 3, 4, .inl ge))] sz) := by
  refine gM_of (Qf := fun A => va_Ql (fun (r : Int64) (_ : Unit) => r = 0) (fun u => gPost G A ((fun (_ : Unit) => ([(o, .inr (4, mF ad sz1 osz (nI 2) hsz)), (ad 9, .inl (G.2.1 3, 4, .inl gb)), (ad 11, .inl (G.2.1 3, 4, .inl ge))] : va_W)) u)) A) (by decide) (Nat.le_of_ble_eq_true rfl) ?_
  intro p e s m below meth c A ls hx hb hml hr hown htu hlk hnm hA hP hD hS hK hZ hl
  have hown : s.vm.findClass RX4 = some m.cls := hown
  have hl : lv_has ls 3 [(0, .ref o), (1, .int (nI b))] := hl
  refine lv_aload_n hx hb dX4_update_0 rfl (lv_at hl 0 rfl) ?_
  refine lv_iload_n hx hb dX4_update_1 rfl (lv_at hl 1 rfl) ?_
  refine g_calli (g_runS (As := [.int (nI b)]) (rest := [.ref o]) ⟨hx, hb, hml, hown, htu⟩ (c_X4_noStream l G _ (nI b) ) uM_X4_174 ok_X4_noStream uA_X4_noStream rfl rfl ⟨Nat.le_of_ble_eq_true rfl, Nat.le_of_ble_eq_true rfl⟩ hK hP hD hS hA hZ [] rfl rfl rfl hl.1 rfl (Nat.le_of_ble_eq_true rfl) dX4_update_2 ⟨Nat.le_of_ble_eq_true rfl, Nat.le_of_ble_eq_true rfl⟩) hP hD hS hA [] rfl (fun r_1 u H locs hw_2 hP hD hS => ?_)
  have hw_2 : r_1 = nsI (nI b) := hw_2
  subst hw_2
  have hP : va_P G.1 vwCl [(o, .inr (4, mF ad sz1 osz th hsz)), (ad 9, .inl (G.2.1 3, 4, .inl gb)), (ad 11, .inl (G.2.1 3, 4, .inl ge))] H := hP
  have hD : va_D A [(o, .inr (4, mF ad sz1 osz th hsz)), (ad 9, .inl (G.2.1 3, 4, .inl gb)), (ad 11, .inl (G.2.1 3, 4, .inl ge))] := hD
  refine g_toi (y := nI 0) (nsI_nI hb4) ?_
  refine lv_if_eq (tgt := 12) hx hb dX4_update_5 (by decide) (fun _ => ?_) (fun c_5 => absurd (by decide) c_5)
  refine lv_aload_n hx hb dX4_update_12 rfl (lv_at hl 0 rfl) ?_
  refine va_get (D := G.1) (ci := 4) (v := .ref (ad 9)) (C := RX4) (T := TX4) (N := 29) hx hb htu iwX4 hown hK.1 hP 0 rfl rfl 9 (by decide) (htu _ uF_X4_35) (fun _ h9 => h9) rfl dX4_update_13 ?_
  refine lv_iload_n hx hb dX4_update_16 rfl (lv_at hl 1 rfl) ?_
  refine g_zald hx hb hK.1 hP 1 3 rfl rfl ⟨hb4, by decide⟩ dX4_update_17 ?_
  refine g_toi (y := nI 1) (h0) ?_
  refine lv_if_eq (tgt := 30) hx hb dX4_update_18 (by decide) (fun c_18 => absurd c_18 (by decide)) (fun _ => ?_)
  refine lv_aload_n hx hb dX4_update_21 rfl (lv_at hl 0 rfl) ?_
  refine va_get (D := G.1) (ci := 4) (v := .ref (ad 11)) (C := RX4) (T := TX4) (N := 29) hx hb htu iwX4 hown hK.1 hP 0 rfl rfl 11 (by decide) (htu _ uF_X4_42) (fun _ h9 => h9) rfl dX4_update_22 ?_
  refine lv_iload_n hx hb dX4_update_25 rfl (lv_at hl 1 rfl) ?_
  refine g_zald hx hb hK.1 hP 2 3 rfl rfl ⟨hb4, by decide⟩ dX4_update_26 ?_
  refine g_toi (y := nI 1) (h1) ?_
  refine lv_if_eq (tgt := 34) hx hb dX4_update_27 (by decide) (fun c_27 => absurd c_27 (by decide)) (fun _ => ?_)
  refine lv_iconst (v := nI 2) hx hb dX4_update_30 (by decide) ?_
  refine lv_goto (tgt := 35) hx hb dX4_update_31 (by decide) ?_
  refine va_put (D := G.1) (ci := 4) (v := .int (nI 2)) (ty := .int) (C := RX4) (T := TX4) (N := 29) hx hb htu iwX4 tyX4 tyX4_ok nmX4 hown hK.1 hP hD hS 0 rfl rfl 20 (by decide) (htu _ uF_X4_95) (fun _ h9 => h9) rfl (by decide +kernel) rfl rfl (Nat.le_of_ble_eq_true rfl) dX4_update_35 (fun H locs hP hD hS => ?_)
  have hP : va_P G.1 vwCl [(o, .inr (4, mF ad sz1 osz (nI 2) hsz)), (ad 9, .inl (G.2.1 3, 4, .inl gb)), (ad 11, .inl (G.2.1 3, 4, .inl ge))] H := hP
  have hD : va_D A [(o, .inr (4, mF ad sz1 osz (nI 2) hsz)), (ad 9, .inl (G.2.1 3, 4, .inl gb)), (ad 11, .inl (G.2.1 3, 4, .inl ge))] := hD
  refine lv_aload_n hx hb dX4_update_38 rfl (lv_at hl 0 rfl) ?_
  refine va_get (D := G.1) (ci := 4) (v := .int (nI 2)) (C := RX4) (T := TX4) (N := 29) hx hb htu iwX4 hown hK.1 hP 0 rfl rfl 20 (by decide) (htu _ uF_X4_95) (fun _ h9 => h9) rfl dX4_update_39 ?_
  refine lv_if_le (tgt := 47) hx hb dX4_update_42 (by decide) (fun c_42 => absurd c_42 (by decide)) (fun _ => ?_)
  refine lv_lconst (v := 0) hx hb dX4_update_45 (by decide) ?_
  exact gret_l hx hb hr hlk dX4_update_46 hS () (hP.sub [0, 1, 2] rfl) (hD.sub [0, 1, 2] (by decide) rfl) (rfl)
set_option maxHeartbeats 4000000 in
set_option maxRecDepth 100000 in
theorem c_X4_finishT1 (l : Launch) (G : GW) (sz : Nat) (o : Nat) (ad : Nat → Nat) (sz1 : Int32) (osz : Int32) (th : Int32) (hsz : Int32) (x : Int32) (hx1 : nsI x = 1) : Met l yX4_finish (Cond.code yX4_finish cX4_finish 3 (some FieldType.int) :: UW) ({ frames := 1, cells := 0, slots := 0, locals := 20 } : Room) (va_Pc [.ref o, .int x] (gPre G [(o, .inr (4, mF ad sz1 osz th hsz))] sz)) (va_Qi (fun (r : Int32) (_ : Unit) => r = 0) (fun u => gPost G (va_A [(o, .inr (4, mF ad sz1 osz th hsz))] sz) ((fun (_ : Unit) => ([(o, .inr (4, mF ad sz1 osz (nI 1) hsz))] : va_W)) u)) (va_A [(o, .inr (4, mF ad sz1 osz th hsz))] sz)) 0 0 (va_A [(o, .inr (4, mF ad sz1 osz th hsz))] sz) := by
  refine gM_of (Qf := fun A => va_Qi (fun (r : Int32) (_ : Unit) => r = 0) (fun u => gPost G A ((fun (_ : Unit) => ([(o, .inr (4, mF ad sz1 osz (nI 1) hsz))] : va_W)) u)) A) (by decide) (Nat.le_of_ble_eq_true rfl) ?_
  intro p e s m below meth c A ls hx hb hml hr hown htu hlk hnm hA hP hD hS hK hZ hl
  have hown : s.vm.findClass RX4 = some m.cls := hown
  have hl : lv_has ls 3 [(0, .ref o), (1, .int x)] := hl
  refine lv_aload_n hx hb dX4_finish_0 rfl (lv_at hl 0 rfl) ?_
  refine lv_iload_n hx hb dX4_finish_1 rfl (lv_at hl 1 rfl) ?_
  refine g_calli (g_runS (As := [.int x]) (rest := [.ref o]) ⟨hx, hb, hml, hown, htu⟩ (c_X4_noStream l G _ x ) uM_X4_174 ok_X4_noStream uA_X4_noStream rfl rfl ⟨Nat.le_of_ble_eq_true rfl, Nat.le_of_ble_eq_true rfl⟩ hK hP hD hS hA hZ [] rfl rfl rfl hl.1 rfl (Nat.le_of_ble_eq_true rfl) dX4_finish_2 ⟨Nat.le_of_ble_eq_true rfl, Nat.le_of_ble_eq_true rfl⟩) hP hD hS hA [] rfl (fun r_1 u H locs hw_2 hP hD hS => ?_)
  have hw_2 : r_1 = nsI x := hw_2
  subst hw_2
  have hP : va_P G.1 vwCl [(o, .inr (4, mF ad sz1 osz th hsz))] H := hP
  have hD : va_D A [(o, .inr (4, mF ad sz1 osz th hsz))] := hD
  refine g_toi (y := nI 1) (hx1) ?_
  refine lv_if_eq (tgt := 12) hx hb dX4_finish_5 (by decide) (fun c_5 => absurd c_5 (by decide)) (fun _ => ?_)
  refine lv_iconst (v := nI 1) hx hb dX4_finish_8 (by decide) ?_
  refine lv_goto (tgt := 35) hx hb dX4_finish_9 (by decide) ?_
  refine va_put (D := G.1) (ci := 4) (v := .int (nI 1)) (ty := .int) (C := RX4) (T := TX4) (N := 29) hx hb htu iwX4 tyX4 tyX4_ok nmX4 hown hK.1 hP hD hS 0 rfl rfl 20 (by decide) (htu _ uF_X4_95) (fun _ h9 => h9) rfl (by decide +kernel) rfl rfl (Nat.le_of_ble_eq_true rfl) dX4_finish_35 (fun H locs hP hD hS => ?_)
  have hP : va_P G.1 vwCl [(o, .inr (4, mF ad sz1 osz (nI 1) hsz))] H := hP
  have hD : va_D A [(o, .inr (4, mF ad sz1 osz (nI 1) hsz))] := hD
  refine lv_aload_n hx hb dX4_finish_38 rfl (lv_at hl 0 rfl) ?_
  refine va_get (D := G.1) (ci := 4) (v := .int (nI 1)) (C := RX4) (T := TX4) (N := 29) hx hb htu iwX4 hown hK.1 hP 0 rfl rfl 20 (by decide) (htu _ uF_X4_95) (fun _ h9 => h9) rfl dX4_finish_39 ?_
  refine lv_if_le (tgt := 47) hx hb dX4_finish_42 (by decide) (fun c_42 => absurd c_42 (by decide)) (fun _ => ?_)
  refine lv_iconst (v := nI 0) hx hb dX4_finish_45 (by decide) ?_
  exact gret_i hx hb hr hlk dX4_finish_46 hS () (hP.sub [0] rfl) (hD.sub [0] (by decide) rfl) (rfl)
set_option maxHeartbeats 4000000 in
set_option maxRecDepth 100000 in
theorem c_X4_finishT2 (l : Launch) (G : GW) (sz : Nat) (o : Nat) (ad : Nat → Nat) (sz1 : Int32) (osz : Int32) (th : Int32) (hsz : Int32) (b : Nat) (gb : Nat → Int32) (hb4 : b < 4) (h0 : gb b = 0) : Met l yX4_finish (Cond.code yX4_finish cX4_finish 3 (some FieldType.int) :: UW) ({ frames := 1, cells := 0, slots := 0, locals := 20 } : Room) (va_Pc [.ref o, .int (nI b)] (gPre G [(o, .inr (4, mF ad sz1 osz th hsz)), (ad 9, .inl (G.2.1 3, 4, .inl gb))] sz)) (va_Qi (fun (r : Int32) (_ : Unit) => r = 0) (fun u => gPost G (va_A [(o, .inr (4, mF ad sz1 osz th hsz)), (ad 9, .inl (G.2.1 3, 4, .inl gb))] sz) ((fun (_ : Unit) => ([(o, .inr (4, mF ad sz1 osz (nI 2) hsz)), (ad 9, .inl (G.2.1 3, 4, .inl gb))] : va_W)) u)) (va_A [(o, .inr (4, mF ad sz1 osz th hsz)), (ad 9, .inl (G.2.1 3, 4, .inl gb))] sz)) 0 0 (va_A [(o, .inr (4, mF ad sz1 osz th hsz)), (ad 9, .inl (G.2.1 3, 4, .inl gb))] sz) := by
  refine gM_of (Qf := fun A => va_Qi (fun (r : Int32) (_ : Unit) => r = 0) (fun u => gPost G A ((fun (_ : Unit) => ([(o, .inr (4, mF ad sz1 osz (nI 2) hsz)), (ad 9, .inl (G.2.1 3, 4, .inl gb))] : va_W)) u)) A) (by decide) (Nat.le_of_ble_eq_true rfl) ?_
  intro p e s m below meth c A ls hx hb hml hr hown htu hlk hnm hA hP hD hS hK hZ hl
  have hown : s.vm.findClass RX4 = some m.cls := hown
  have hl : lv_has ls 3 [(0, .ref o), (1, .int (nI b))] := hl
  refine lv_aload_n hx hb dX4_finish_0 rfl (lv_at hl 0 rfl) ?_
  refine lv_iload_n hx hb dX4_finish_1 rfl (lv_at hl 1 rfl) ?_
  refine g_calli (g_runS (As := [.int (nI b)]) (rest := [.ref o]) ⟨hx, hb, hml, hown, htu⟩ (c_X4_noStream l G _ (nI b) ) uM_X4_174 ok_X4_noStream uA_X4_noStream rfl rfl ⟨Nat.le_of_ble_eq_true rfl, Nat.le_of_ble_eq_true rfl⟩ hK hP hD hS hA hZ [] rfl rfl rfl hl.1 rfl (Nat.le_of_ble_eq_true rfl) dX4_finish_2 ⟨Nat.le_of_ble_eq_true rfl, Nat.le_of_ble_eq_true rfl⟩) hP hD hS hA [] rfl (fun r_1 u H locs hw_2 hP hD hS => ?_)
  have hw_2 : r_1 = nsI (nI b) := hw_2
  subst hw_2
  have hP : va_P G.1 vwCl [(o, .inr (4, mF ad sz1 osz th hsz)), (ad 9, .inl (G.2.1 3, 4, .inl gb))] H := hP
  have hD : va_D A [(o, .inr (4, mF ad sz1 osz th hsz)), (ad 9, .inl (G.2.1 3, 4, .inl gb))] := hD
  refine g_toi (y := nI 0) (nsI_nI hb4) ?_
  refine lv_if_eq (tgt := 12) hx hb dX4_finish_5 (by decide) (fun _ => ?_) (fun c_5 => absurd (by decide) c_5)
  refine lv_aload_n hx hb dX4_finish_12 rfl (lv_at hl 0 rfl) ?_
  refine va_get (D := G.1) (ci := 4) (v := .ref (ad 9)) (C := RX4) (T := TX4) (N := 29) hx hb htu iwX4 hown hK.1 hP 0 rfl rfl 9 (by decide) (htu _ uF_X4_35) (fun _ h9 => h9) rfl dX4_finish_13 ?_
  refine lv_iload_n hx hb dX4_finish_16 rfl (lv_at hl 1 rfl) ?_
  refine g_zald hx hb hK.1 hP 1 3 rfl rfl ⟨hb4, by decide⟩ dX4_finish_17 ?_
  refine g_toi (y := nI 0) (h0) ?_
  refine lv_if_eq (tgt := 30) hx hb dX4_finish_18 (by decide) (fun _ => ?_) (fun c_18 => absurd (by decide) c_18)
  refine lv_iconst (v := nI 2) hx hb dX4_finish_30 (by decide) ?_
  refine lv_goto (tgt := 35) hx hb dX4_finish_31 (by decide) ?_
  refine va_put (D := G.1) (ci := 4) (v := .int (nI 2)) (ty := .int) (C := RX4) (T := TX4) (N := 29) hx hb htu iwX4 tyX4 tyX4_ok nmX4 hown hK.1 hP hD hS 0 rfl rfl 20 (by decide) (htu _ uF_X4_95) (fun _ h9 => h9) rfl (by decide +kernel) rfl rfl (Nat.le_of_ble_eq_true rfl) dX4_finish_35 (fun H locs hP hD hS => ?_)
  have hP : va_P G.1 vwCl [(o, .inr (4, mF ad sz1 osz (nI 2) hsz)), (ad 9, .inl (G.2.1 3, 4, .inl gb))] H := hP
  have hD : va_D A [(o, .inr (4, mF ad sz1 osz (nI 2) hsz)), (ad 9, .inl (G.2.1 3, 4, .inl gb))] := hD
  refine lv_aload_n hx hb dX4_finish_38 rfl (lv_at hl 0 rfl) ?_
  refine va_get (D := G.1) (ci := 4) (v := .int (nI 2)) (C := RX4) (T := TX4) (N := 29) hx hb htu iwX4 hown hK.1 hP 0 rfl rfl 20 (by decide) (htu _ uF_X4_95) (fun _ h9 => h9) rfl dX4_finish_39 ?_
  refine lv_if_le (tgt := 47) hx hb dX4_finish_42 (by decide) (fun c_42 => absurd c_42 (by decide)) (fun _ => ?_)
  refine lv_iconst (v := nI 0) hx hb dX4_finish_45 (by decide) ?_
  exact gret_i hx hb hr hlk dX4_finish_46 hS () (hP.sub [0, 1] rfl) (hD.sub [0, 1] (by decide) rfl) (rfl)
set_option maxHeartbeats 4000000 in
set_option maxRecDepth 100000 in
theorem c_X4_finishT2b (l : Launch) (G : GW) (sz : Nat) (o : Nat) (ad : Nat → Nat) (sz1 : Int32) (osz : Int32) (th : Int32) (hsz : Int32) (b : Nat) (gb : Nat → Int32) (ge : Nat → Int32) (hb4 : b < 4) (h0 : gb b = 1) (h1 : ge b = 1) : Met l yX4_finish (Cond.code yX4_finish cX4_finish 3 (some FieldType.int) :: UW) ({ frames := 1, cells := 0, slots := 0, locals := 20 } : Room) (va_Pc [.ref o, .int (nI b)] (gPre G [(o, .inr (4, mF ad sz1 osz th hsz)), (ad 9, .inl (G.2.1 3, 4, .inl gb)), (ad 11, .inl (G.2.1 3, 4, .inl ge))] sz)) (va_Qi (fun (r : Int32) (_ : Unit) => r = 0) (fun u => gPost G (va_A [(o, .inr (4, mF ad sz1 osz th hsz)), (ad 9, .inl (G.2.1 3, 4, .inl gb)), (ad 11, .inl (G.2.1 3, 4, .inl ge))] sz) ((fun (_ : Unit) => ([(o, .inr (4, mF ad sz1 osz (nI 2) hsz)), (ad 9, .inl (G.2.1 3, 4, .inl gb)), (ad 11, .inl (G.2.1 3, 4, .inl ge))] : va_W)) u)) (va_A [(o, .inr (4, mF ad sz1 osz th hsz)), (ad 9, .inl (G.2.1 3, 4, .inl gb)), (ad 11, .inl (G.2.1 3, 4, .inl ge))] sz)) 0 0 (va_A [(o, .inr (4, mF ad sz1 osz th hsz)), (ad 9, .inl (G.2.1 3, 4, .inl gb)), (ad 11, .inl (G.2.1 3, 4, .inl ge))] sz) := by
  refine gM_of (Qf := fun A => va_Qi (fun (r : Int32) (_ : Unit) => r = 0) (fun u => gPost G A ((fun (_ : Unit) => ([(o, .inr (4, mF ad sz1 osz (nI 2) hsz)), (ad 9, .inl (G.2.1 3, 4, .inl gb)), (ad 11, .inl (G.2.1 3, 4, .inl ge))] : va_W)) u)) A) (by decide) (Nat.le_of_ble_eq_true rfl) ?_
  intro p e s m below meth c A ls hx hb hml hr hown htu hlk hnm hA hP hD hS hK hZ hl
  have hown : s.vm.findClass RX4 = some m.cls := hown
  have hl : lv_has ls 3 [(0, .ref o), (1, .int (nI b))] := hl
  refine lv_aload_n hx hb dX4_finish_0 rfl (lv_at hl 0 rfl) ?_
  refine lv_iload_n hx hb dX4_finish_1 rfl (lv_at hl 1 rfl) ?_
  refine g_calli (g_runS (As := [.int (nI b)]) (rest := [.ref o]) ⟨hx, hb, hml, hown, htu⟩ (c_X4_noStream l G _ (nI b) ) uM_X4_174 ok_X4_noStream uA_X4_noStream rfl rfl ⟨Nat.le_of_ble_eq_true rfl, Nat.le_of_ble_eq_true rfl⟩ hK hP hD hS hA hZ [] rfl rfl rfl hl.1 rfl (Nat.le_of_ble_eq_true rfl) dX4_finish_2 ⟨Nat.le_of_ble_eq_true rfl, Nat.le_of_ble_eq_true rfl⟩) hP hD hS hA [] rfl (fun r_1 u H locs hw_2 hP hD hS => ?_)
  have hw_2 : r_1 = nsI (nI b) := hw_2
  subst hw_2
  have hP : va_P G.1 vwCl [(o, .inr (4, mF ad sz1 osz th hsz)), (ad 9, .inl (G.2.1 3, 4, .inl gb)), (ad 11, .inl (G.2.1 3, 4, .inl ge))] H := hP
  have hD : va_D A [(o, .inr (4, mF ad sz1 osz th hsz)), (ad 9, .inl (G.2.1 3, 4, .inl gb)), (ad 11, .inl (G.2.1 3, 4, .inl ge))] := hD
  refine g_toi (y := nI 0) (nsI_nI hb4) ?_
  refine lv_if_eq (tgt := 12) hx hb dX4_finish_5 (by decide) (fun _ => ?_) (fun c_5 => absurd (by decide) c_5)
  refine lv_aload_n hx hb dX4_finish_12 rfl (lv_at hl 0 rfl) ?_
  refine va_get (D := G.1) (ci := 4) (v := .ref (ad 9)) (C := RX4) (T := TX4) (N := 29) hx hb htu iwX4 hown hK.1 hP 0 rfl rfl 9 (by decide) (htu _ uF_X4_35) (fun _ h9 => h9) rfl dX4_finish_13 ?_
  refine lv_iload_n hx hb dX4_finish_16 rfl (lv_at hl 1 rfl) ?_
  refine g_zald hx hb hK.1 hP 1 3 rfl rfl ⟨hb4, by decide⟩ dX4_finish_17 ?_
  refine g_toi (y := nI 1) (h0) ?_
  refine lv_if_eq (tgt := 30) hx hb dX4_finish_18 (by decide) (fun c_18 => absurd c_18 (by decide)) (fun _ => ?_)
  refine lv_aload_n hx hb dX4_finish_21 rfl (lv_at hl 0 rfl) ?_
  refine va_get (D := G.1) (ci := 4) (v := .ref (ad 11)) (C := RX4) (T := TX4) (N := 29) hx hb htu iwX4 hown hK.1 hP 0 rfl rfl 11 (by decide) (htu _ uF_X4_42) (fun _ h9 => h9) rfl dX4_finish_22 ?_
  refine lv_iload_n hx hb dX4_finish_25 rfl (lv_at hl 1 rfl) ?_
  refine g_zald hx hb hK.1 hP 2 3 rfl rfl ⟨hb4, by decide⟩ dX4_finish_26 ?_
  refine g_toi (y := nI 1) (h1) ?_
  refine lv_if_eq (tgt := 34) hx hb dX4_finish_27 (by decide) (fun c_27 => absurd c_27 (by decide)) (fun _ => ?_)
  refine lv_iconst (v := nI 2) hx hb dX4_finish_30 (by decide) ?_
  refine lv_goto (tgt := 35) hx hb dX4_finish_31 (by decide) ?_
  refine va_put (D := G.1) (ci := 4) (v := .int (nI 2)) (ty := .int) (C := RX4) (T := TX4) (N := 29) hx hb htu iwX4 tyX4 tyX4_ok nmX4 hown hK.1 hP hD hS 0 rfl rfl 20 (by decide) (htu _ uF_X4_95) (fun _ h9 => h9) rfl (by decide +kernel) rfl rfl (Nat.le_of_ble_eq_true rfl) dX4_finish_35 (fun H locs hP hD hS => ?_)
  have hP : va_P G.1 vwCl [(o, .inr (4, mF ad sz1 osz (nI 2) hsz)), (ad 9, .inl (G.2.1 3, 4, .inl gb)), (ad 11, .inl (G.2.1 3, 4, .inl ge))] H := hP
  have hD : va_D A [(o, .inr (4, mF ad sz1 osz (nI 2) hsz)), (ad 9, .inl (G.2.1 3, 4, .inl gb)), (ad 11, .inl (G.2.1 3, 4, .inl ge))] := hD
  refine lv_aload_n hx hb dX4_finish_38 rfl (lv_at hl 0 rfl) ?_
  refine va_get (D := G.1) (ci := 4) (v := .int (nI 2)) (C := RX4) (T := TX4) (N := 29) hx hb htu iwX4 hown hK.1 hP 0 rfl rfl 20 (by decide) (htu _ uF_X4_95) (fun _ h9 => h9) rfl dX4_finish_39 ?_
  refine lv_if_le (tgt := 47) hx hb dX4_finish_42 (by decide) (fun c_42 => absurd c_42 (by decide)) (fun _ => ?_)
  refine lv_iconst (v := nI 0) hx hb dX4_finish_45 (by decide) ?_
  exact gret_i hx hb hr hlk dX4_finish_46 hS () (hP.sub [0, 1, 2] rfl) (hD.sub [0, 1, 2] (by decide) rfl) (rfl)
set_option maxHeartbeats 4000000 in
set_option maxRecDepth 100000 in
theorem c_X4_repeatT1 (l : Launch) (G : GW) (sz : Nat) (o : Nat) (ad : Nat → Nat) (sz1 : Int32) (osz : Int32) (th : Int32) (hsz : Int32) (x : Int32) (v : Int32) (y : Int32) (hx1 : nsI x = 1) : Met l yX4_repeat (Cond.code yX4_repeat cX4_repeat 5 (some FieldType.long) :: UW) ({ frames := 1, cells := 0, slots := 0, locals := 20 } : Room) (va_Pc [.ref o, .int x, .int v, .int y] (gPre G [(o, .inr (4, mF ad sz1 osz th hsz))] sz)) (va_Ql (fun (r : Int64) (_ : Unit) => r = 0) (fun u => gPost G (va_A [(o, .inr (4, mF ad sz1 osz th hsz))] sz) ((fun (_ : Unit) => ([(o, .inr (4, mF ad sz1 osz (nI 1) hsz))] : va_W)) u)) (va_A [(o, .inr (4, mF ad sz1 osz th hsz))] sz)) 0 0 (va_A [(o, .inr (4, mF ad sz1 osz th hsz))] sz) := by
  refine gM_of (Qf := fun A => va_Ql (fun (r : Int64) (_ : Unit) => r = 0) (fun u => gPost G A ((fun (_ : Unit) => ([(o, .inr (4, mF ad sz1 osz (nI 1) hsz))] : va_W)) u)) A) (by decide) (Nat.le_of_ble_eq_true rfl) ?_
  intro p e s m below meth c A ls hx hb hml hr hown htu hlk hnm hA hP hD hS hK hZ hl
  have hown : s.vm.findClass RX4 = some m.cls := hown
  have hl : lv_has ls 5 [(0, .ref o), (1, .int x), (2, .int v), (3, .int y)] := hl
  refine lv_aload_n hx hb dX4_repeat_0 rfl (lv_at hl 0 rfl) ?_
  refine lv_iload_n hx hb dX4_repeat_1 rfl (lv_at hl 1 rfl) ?_
  refine g_calli (g_runS (As := [.int x]) (rest := [.ref o]) ⟨hx, hb, hml, hown, htu⟩ (c_X4_noStream l G _ x ) uM_X4_174 ok_X4_noStream uA_X4_noStream rfl rfl ⟨Nat.le_of_ble_eq_true rfl, Nat.le_of_ble_eq_true rfl⟩ hK hP hD hS hA hZ [] rfl rfl rfl hl.1 rfl (Nat.le_of_ble_eq_true rfl) dX4_repeat_2 ⟨Nat.le_of_ble_eq_true rfl, Nat.le_of_ble_eq_true rfl⟩) hP hD hS hA [] rfl (fun r_1 u H locs hw_2 hP hD hS => ?_)
  have hw_2 : r_1 = nsI x := hw_2
  subst hw_2
  have hP : va_P G.1 vwCl [(o, .inr (4, mF ad sz1 osz th hsz))] H := hP
  have hD : va_D A [(o, .inr (4, mF ad sz1 osz th hsz))] := hD
  refine g_toi (y := nI 1) (hx1) ?_
  refine lv_if_eq (tgt := 12) hx hb dX4_repeat_5 (by decide) (fun c_5 => absurd c_5 (by decide)) (fun _ => ?_)
  refine lv_iconst (v := nI 1) hx hb dX4_repeat_8 (by decide) ?_
  refine lv_goto (tgt := 50) hx hb dX4_repeat_9 (by decide) ?_
  refine va_put (D := G.1) (ci := 4) (v := .int (nI 1)) (ty := .int) (C := RX4) (T := TX4) (N := 29) hx hb htu iwX4 tyX4 tyX4_ok nmX4 hown hK.1 hP hD hS 0 rfl rfl 20 (by decide) (htu _ uF_X4_95) (fun _ h9 => h9) rfl (by decide +kernel) rfl rfl (Nat.le_of_ble_eq_true rfl) dX4_repeat_50 (fun H locs hP hD hS => ?_)
  have hP : va_P G.1 vwCl [(o, .inr (4, mF ad sz1 osz (nI 1) hsz))] H := hP
  have hD : va_D A [(o, .inr (4, mF ad sz1 osz (nI 1) hsz))] := hD
  refine lv_aload_n hx hb dX4_repeat_53 rfl (lv_at hl 0 rfl) ?_
  refine va_get (D := G.1) (ci := 4) (v := .int (nI 1)) (C := RX4) (T := TX4) (N := 29) hx hb htu iwX4 hown hK.1 hP 0 rfl rfl 20 (by decide) (htu _ uF_X4_95) (fun _ h9 => h9) rfl dX4_repeat_54 ?_
  refine lv_if_le (tgt := 62) hx hb dX4_repeat_57 (by decide) (fun c_57 => absurd c_57 (by decide)) (fun _ => ?_)
  refine lv_lconst (v := 0) hx hb dX4_repeat_60 (by decide) ?_
  exact gret_l hx hb hr hlk dX4_repeat_61 hS () (hP.sub [0] rfl) (hD.sub [0] (by decide) rfl) (rfl)
set_option maxHeartbeats 4000000 in
set_option maxRecDepth 100000 in
theorem c_X4_repeatT2 (l : Launch) (G : GW) (sz : Nat) (o : Nat) (ad : Nat → Nat) (sz1 : Int32) (osz : Int32) (th : Int32) (hsz : Int32) (b : Nat) (gb : Nat → Int32) (v : Int32) (y : Int32) (hb4 : b < 4) (h0 : gb b = 0) : Met l yX4_repeat (Cond.code yX4_repeat cX4_repeat 5 (some FieldType.long) :: UW) ({ frames := 1, cells := 0, slots := 0, locals := 20 } : Room) (va_Pc [.ref o, .int (nI b), .int v, .int y] (gPre G [(o, .inr (4, mF ad sz1 osz th hsz)), (ad 9, .inl (G.2.1 3, 4, .inl gb))] sz)) (va_Ql (fun (r : Int64) (_ : Unit) => r = 0) (fun u => gPost G (va_A [(o, .inr (4, mF ad sz1 osz th hsz)), (ad 9, .inl (G.2.1 3, 4, .inl gb))] sz) ((fun (_ : Unit) => ([(o, .inr (4, mF ad sz1 osz (nI 2) hsz)), (ad 9, .inl (G.2.1 3, 4, .inl gb))] : va_W)) u)) (va_A [(o, .inr (4, mF ad sz1 osz th hsz)), (ad 9, .inl (G.2.1 3, 4, .inl gb))] sz)) 0 0 (va_A [(o, .inr (4, mF ad sz1 osz th hsz)), (ad 9, .inl (G.2.1 3, 4, .inl gb))] sz) := by
  refine gM_of (Qf := fun A => va_Ql (fun (r : Int64) (_ : Unit) => r = 0) (fun u => gPost G A ((fun (_ : Unit) => ([(o, .inr (4, mF ad sz1 osz (nI 2) hsz)), (ad 9, .inl (G.2.1 3, 4, .inl gb))] : va_W)) u)) A) (by decide) (Nat.le_of_ble_eq_true rfl) ?_
  intro p e s m below meth c A ls hx hb hml hr hown htu hlk hnm hA hP hD hS hK hZ hl
  have hown : s.vm.findClass RX4 = some m.cls := hown
  have hl : lv_has ls 5 [(0, .ref o), (1, .int (nI b)), (2, .int v), (3, .int y)] := hl
  refine lv_aload_n hx hb dX4_repeat_0 rfl (lv_at hl 0 rfl) ?_
  refine lv_iload_n hx hb dX4_repeat_1 rfl (lv_at hl 1 rfl) ?_
  refine g_calli (g_runS (As := [.int (nI b)]) (rest := [.ref o]) ⟨hx, hb, hml, hown, htu⟩ (c_X4_noStream l G _ (nI b) ) uM_X4_174 ok_X4_noStream uA_X4_noStream rfl rfl ⟨Nat.le_of_ble_eq_true rfl, Nat.le_of_ble_eq_true rfl⟩ hK hP hD hS hA hZ [] rfl rfl rfl hl.1 rfl (Nat.le_of_ble_eq_true rfl) dX4_repeat_2 ⟨Nat.le_of_ble_eq_true rfl, Nat.le_of_ble_eq_true rfl⟩) hP hD hS hA [] rfl (fun r_1 u H locs hw_2 hP hD hS => ?_)
  have hw_2 : r_1 = nsI (nI b) := hw_2
  subst hw_2
  have hP : va_P G.1 vwCl [(o, .inr (4, mF ad sz1 osz th hsz)), (ad 9, .inl (G.2.1 3, 4, .inl gb))] H := hP
  have hD : va_D A [(o, .inr (4, mF ad sz1 osz th hsz)), (ad 9, .inl (G.2.1 3, 4, .inl gb))] := hD
  refine g_toi (y := nI 0) (nsI_nI hb4) ?_
  refine lv_if_eq (tgt := 12) hx hb dX4_repeat_5 (by decide) (fun _ => ?_) (fun c_5 => absurd (by decide) c_5)
  refine lv_aload_n hx hb dX4_repeat_12 rfl (lv_at hl 0 rfl) ?_
  refine va_get (D := G.1) (ci := 4) (v := .ref (ad 9)) (C := RX4) (T := TX4) (N := 29) hx hb htu iwX4 hown hK.1 hP 0 rfl rfl 9 (by decide) (htu _ uF_X4_35) (fun _ h9 => h9) rfl dX4_repeat_13 ?_
  refine lv_iload_n hx hb dX4_repeat_16 rfl (lv_at hl 1 rfl) ?_
  refine g_zald hx hb hK.1 hP 1 3 rfl rfl ⟨hb4, by decide⟩ dX4_repeat_17 ?_
  refine g_toi (y := nI 0) (h0) ?_
  refine lv_if_eq (tgt := 30) hx hb dX4_repeat_18 (by decide) (fun _ => ?_) (fun c_18 => absurd (by decide) c_18)
  refine lv_iconst (v := nI 2) hx hb dX4_repeat_30 (by decide) ?_
  refine lv_goto (tgt := 50) hx hb dX4_repeat_31 (by decide) ?_
  refine va_put (D := G.1) (ci := 4) (v := .int (nI 2)) (ty := .int) (C := RX4) (T := TX4) (N := 29) hx hb htu iwX4 tyX4 tyX4_ok nmX4 hown hK.1 hP hD hS 0 rfl rfl 20 (by decide) (htu _ uF_X4_95) (fun _ h9 => h9) rfl (by decide +kernel) rfl rfl (Nat.le_of_ble_eq_true rfl) dX4_repeat_50 (fun H locs hP hD hS => ?_)
  have hP : va_P G.1 vwCl [(o, .inr (4, mF ad sz1 osz (nI 2) hsz)), (ad 9, .inl (G.2.1 3, 4, .inl gb))] H := hP
  have hD : va_D A [(o, .inr (4, mF ad sz1 osz (nI 2) hsz)), (ad 9, .inl (G.2.1 3, 4, .inl gb))] := hD
  refine lv_aload_n hx hb dX4_repeat_53 rfl (lv_at hl 0 rfl) ?_
  refine va_get (D := G.1) (ci := 4) (v := .int (nI 2)) (C := RX4) (T := TX4) (N := 29) hx hb htu iwX4 hown hK.1 hP 0 rfl rfl 20 (by decide) (htu _ uF_X4_95) (fun _ h9 => h9) rfl dX4_repeat_54 ?_
  refine lv_if_le (tgt := 62) hx hb dX4_repeat_57 (by decide) (fun c_57 => absurd c_57 (by decide)) (fun _ => ?_)
  refine lv_lconst (v := 0) hx hb dX4_repeat_60 (by decide) ?_
  exact gret_l hx hb hr hlk dX4_repeat_61 hS () (hP.sub [0, 1] rfl) (hD.sub [0, 1] (by decide) rfl) (rfl)
set_option maxHeartbeats 4000000 in
set_option maxRecDepth 100000 in
theorem c_X4_repeatT2b (l : Launch) (G : GW) (sz : Nat) (o : Nat) (ad : Nat → Nat) (sz1 : Int32) (osz : Int32) (th : Int32) (hsz : Int32) (b : Nat) (gb : Nat → Int32) (ge : Nat → Int32) (v : Int32) (y : Int32) (hb4 : b < 4) (h0 : gb b = 1) (h1 : ge b = 1) : Met l yX4_repeat (Cond.code yX4_repeat cX4_repeat 5 (some FieldType.long) :: UW) ({ frames := 1, cells := 0, slots := 0, locals := 20 } : Room) (va_Pc [.ref o, .int (nI b), .int v, .int y] (gPre G [(o, .inr (4, mF ad sz1 osz th hsz)), (ad 9, .inl (G.2.1 3, 4, .inl gb)), (ad 11, .inl (G.2.1 3, 4, .inl ge))] sz)) (va_Ql (fun (r : Int64) (_ : Unit) => r = 0) (fun u => gPost G (va_A [(o, .inr (4, mF ad sz1 osz th hsz)), (ad 9, .inl (G.2.1 3, 4, .inl gb)), (ad 11, .inl (G.2.1 3, 4, .inl ge))] sz) ((fun (_ : Unit) => ([(o, .inr (4, mF ad sz1 osz (nI 2) hsz)), (ad 9, .inl (G.2.1 3, 4, .inl gb)), (ad 11, .inl (G.2.1 3, 4, .inl ge))] : va_W)) u)) (va_A [(o, .inr (4, mF ad sz1 osz th hsz)), (ad 9, .inl (G.2.1 3, 4, .inl gb)), (ad 11, .inl (G.2.1 3, 4, .inl ge))] sz)) 0 0 (va_A [(o, .inr (4, mF ad sz1 osz th hsz)), (ad 9, .inl (G.2.1 3, 4, .inl gb)), (ad 11, .inl (G.2.1 3, 4, .inl ge))] sz) := by
  refine gM_of (Qf := fun A => va_Ql (fun (r : Int64) (_ : Unit) => r = 0) (fun u => gPost G A ((fun (_ : Unit) => ([(o, .inr (4, mF ad sz1 osz (nI 2) hsz)), (ad 9, .inl (G.2.1 3, 4, .inl gb)), (ad 11, .inl (G.2.1 3, 4, .inl ge))] : va_W)) u)) A) (by decide) (Nat.le_of_ble_eq_true rfl) ?_
  intro p e s m below meth c A ls hx hb hml hr hown htu hlk hnm hA hP hD hS hK hZ hl
  have hown : s.vm.findClass RX4 = some m.cls := hown
  have hl : lv_has ls 5 [(0, .ref o), (1, .int (nI b)), (2, .int v), (3, .int y)] := hl
  refine lv_aload_n hx hb dX4_repeat_0 rfl (lv_at hl 0 rfl) ?_
  refine lv_iload_n hx hb dX4_repeat_1 rfl (lv_at hl 1 rfl) ?_
  refine g_calli (g_runS (As := [.int (nI b)]) (rest := [.ref o]) ⟨hx, hb, hml, hown, htu⟩ (c_X4_noStream l G _ (nI b) ) uM_X4_174 ok_X4_noStream uA_X4_noStream rfl rfl ⟨Nat.le_of_ble_eq_true rfl, Nat.le_of_ble_eq_true rfl⟩ hK hP hD hS hA hZ [] rfl rfl rfl hl.1 rfl (Nat.le_of_ble_eq_true rfl) dX4_repeat_2 ⟨Nat.le_of_ble_eq_true rfl, Nat.le_of_ble_eq_true rfl⟩) hP hD hS hA [] rfl (fun r_1 u H locs hw_2 hP hD hS => ?_)
  have hw_2 : r_1 = nsI (nI b) := hw_2
  subst hw_2
  have hP : va_P G.1 vwCl [(o, .inr (4, mF ad sz1 osz th hsz)), (ad 9, .inl (G.2.1 3, 4, .inl gb)), (ad 11, .inl (G.2.1 3, 4, .inl ge))] H := hP
  have hD : va_D A [(o, .inr (4, mF ad sz1 osz th hsz)), (ad 9, .inl (G.2.1 3, 4, .inl gb)), (ad 11, .inl (G.2.1 3, 4, .inl ge))] := hD
  refine g_toi (y := nI 0) (nsI_nI hb4) ?_
  refine lv_if_eq (tgt := 12) hx hb dX4_repeat_5 (by decide) (fun _ => ?_) (fun c_5 => absurd (by decide) c_5)
  refine lv_aload_n hx hb dX4_repeat_12 rfl (lv_at hl 0 rfl) ?_
  refine va_get (D := G.1) (ci := 4) (v := .ref (ad 9)) (C := RX4) (T := TX4) (N := 29) hx hb htu iwX4 hown hK.1 hP 0 rfl rfl 9 (by decide) (htu _ uF_X4_35) (fun _ h9 => h9) rfl dX4_repeat_13 ?_
  refine lv_iload_n hx hb dX4_repeat_16 rfl (lv_at hl 1 rfl) ?_
  refine g_zald hx hb hK.1 hP 1 3 rfl rfl ⟨hb4, by decide⟩ dX4_repeat_17 ?_
  refine g_toi (y := nI 1) (h0) ?_
  refine lv_if_eq (tgt := 30) hx hb dX4_repeat_18 (by decide) (fun c_18 => absurd c_18 (by decide)) (fun _ => ?_)
  refine lv_aload_n hx hb dX4_repeat_21 rfl (lv_at hl 0 rfl) ?_
  refine va_get (D := G.1) (ci := 4) (v := .ref (ad 11)) (C := RX4) (T := TX4) (N := 29) hx hb htu iwX4 hown hK.1 hP 0 rfl rfl 11 (by decide) (htu _ uF_X4_42) (fun _ h9 => h9) rfl dX4_repeat_22 ?_
  refine lv_iload_n hx hb dX4_repeat_25 rfl (lv_at hl 1 rfl) ?_
  refine g_zald hx hb hK.1 hP 2 3 rfl rfl ⟨hb4, by decide⟩ dX4_repeat_26 ?_
  refine g_toi (y := nI 1) (h1) ?_
  refine lv_if_eq (tgt := 34) hx hb dX4_repeat_27 (by decide) (fun c_27 => absurd c_27 (by decide)) (fun _ => ?_)
  refine lv_iconst (v := nI 2) hx hb dX4_repeat_30 (by decide) ?_
  refine lv_goto (tgt := 50) hx hb dX4_repeat_31 (by decide) ?_
  refine va_put (D := G.1) (ci := 4) (v := .int (nI 2)) (ty := .int) (C := RX4) (T := TX4) (N := 29) hx hb htu iwX4 tyX4 tyX4_ok nmX4 hown hK.1 hP hD hS 0 rfl rfl 20 (by decide) (htu _ uF_X4_95) (fun _ h9 => h9) rfl (by decide +kernel) rfl rfl (Nat.le_of_ble_eq_true rfl) dX4_repeat_50 (fun H locs hP hD hS => ?_)
  have hP : va_P G.1 vwCl [(o, .inr (4, mF ad sz1 osz (nI 2) hsz)), (ad 9, .inl (G.2.1 3, 4, .inl gb)), (ad 11, .inl (G.2.1 3, 4, .inl ge))] H := hP
  have hD : va_D A [(o, .inr (4, mF ad sz1 osz (nI 2) hsz)), (ad 9, .inl (G.2.1 3, 4, .inl gb)), (ad 11, .inl (G.2.1 3, 4, .inl ge))] := hD
  refine lv_aload_n hx hb dX4_repeat_53 rfl (lv_at hl 0 rfl) ?_
  refine va_get (D := G.1) (ci := 4) (v := .int (nI 2)) (C := RX4) (T := TX4) (N := 29) hx hb htu iwX4 hown hK.1 hP 0 rfl rfl 20 (by decide) (htu _ uF_X4_95) (fun _ h9 => h9) rfl dX4_repeat_54 ?_
  refine lv_if_le (tgt := 62) hx hb dX4_repeat_57 (by decide) (fun c_57 => absurd c_57 (by decide)) (fun _ => ?_)
  refine lv_lconst (v := 0) hx hb dX4_repeat_60 (by decide) ?_
  exact gret_l hx hb hr hlk dX4_repeat_61 hS () (hP.sub [0, 1, 2] rfl) (hD.sub [0, 1, 2] (by decide) rfl) (rfl)
set_option maxHeartbeats 4000000 in
set_option maxRecDepth 100000 in
theorem c_X4_repeatT3 (l : Launch) (G : GW) (sz : Nat) (o : Nat) (ad : Nat → Nat) (sz1 : Int32) (osz : Int32) (th : Int32) (hsz : Int32) (b : Nat) (gb : Nat → Int32) (ge : Nat → Int32) (v : Int32) (y : Int32) (hb4 : b < 4) (h0 : gb b = 1) (h1 : ge b = 0) (hy : y < 0 ∨ 20000 < y) : Met l yX4_repeat (Cond.code yX4_repeat cX4_repeat 5 (some FieldType.long) :: UW) ({ frames := 1, cells := 0, slots := 0, locals := 20 } : Room) (va_Pc [.ref o, .int (nI b), .int v, .int y] (gPre G [(o, .inr (4, mF ad sz1 osz th hsz)), (ad 9, .inl (G.2.1 3, 4, .inl gb)), (ad 11, .inl (G.2.1 3, 4, .inl ge))] sz)) (va_Ql (fun (r : Int64) (_ : Unit) => r = 0) (fun u => gPost G (va_A [(o, .inr (4, mF ad sz1 osz th hsz)), (ad 9, .inl (G.2.1 3, 4, .inl gb)), (ad 11, .inl (G.2.1 3, 4, .inl ge))] sz) ((fun (_ : Unit) => ([(o, .inr (4, mF ad sz1 osz (nI 3) hsz)), (ad 9, .inl (G.2.1 3, 4, .inl gb)), (ad 11, .inl (G.2.1 3, 4, .inl ge))] : va_W)) u)) (va_A [(o, .inr (4, mF ad sz1 osz th hsz)), (ad 9, .inl (G.2.1 3, 4, .inl gb)), (ad 11, .inl (G.2.1 3, 4, .inl ge))] sz)) 0 0 (va_A [(o, .inr (4, mF ad sz1 osz th hsz)), (ad 9, .inl (G.2.1 3, 4, .inl gb)), (ad 11, .inl (G.2.1 3, 4, .inl ge))] sz) := by
  refine gM_of (Qf := fun A => va_Ql (fun (r : Int64) (_ : Unit) => r = 0) (fun u => gPost G A ((fun (_ : Unit) => ([(o, .inr (4, mF ad sz1 osz (nI 3) hsz)), (ad 9, .inl (G.2.1 3, 4, .inl gb)), (ad 11, .inl (G.2.1 3, 4, .inl ge))] : va_W)) u)) A) (by decide) (Nat.le_of_ble_eq_true rfl) ?_
  intro p e s m below meth c A ls hx hb hml hr hown htu hlk hnm hA hP hD hS hK hZ hl
  have hown : s.vm.findClass RX4 = some m.cls := hown
  have hl : lv_has ls 5 [(0, .ref o), (1, .int (nI b)), (2, .int v), (3, .int y)] := hl
  refine lv_aload_n hx hb dX4_repeat_0 rfl (lv_at hl 0 rfl) ?_
  refine lv_iload_n hx hb dX4_repeat_1 rfl (lv_at hl 1 rfl) ?_
  refine g_calli (g_runS (As := [.int (nI b)]) (rest := [.ref o]) ⟨hx, hb, hml, hown, htu⟩ (c_X4_noStream l G _ (nI b) ) uM_X4_174 ok_X4_noStream uA_X4_noStream rfl rfl ⟨Nat.le_of_ble_eq_true rfl, Nat.le_of_ble_eq_true rfl⟩ hK hP hD hS hA hZ [] rfl rfl rfl hl.1 rfl (Nat.le_of_ble_eq_true rfl) dX4_repeat_2 ⟨Nat.le_of_ble_eq_true rfl, Nat.le_of_ble_eq_true rfl⟩) hP hD hS hA [] rfl (fun r_1 u H locs hw_2 hP hD hS => ?_)
  have hw_2 : r_1 = nsI (nI b) := hw_2
  subst hw_2
  have hP : va_P G.1 vwCl [(o, .inr (4, mF ad sz1 osz th hsz)), (ad 9, .inl (G.2.1 3, 4, .inl gb)), (ad 11, .inl (G.2.1 3, 4, .inl ge))] H := hP
  have hD : va_D A [(o, .inr (4, mF ad sz1 osz th hsz)), (ad 9, .inl (G.2.1 3, 4, .inl gb)), (ad 11, .inl (G.2.1 3, 4, .inl ge))] := hD
  refine g_toi (y := nI 0) (nsI_nI hb4) ?_
  refine lv_if_eq (tgt := 12) hx hb dX4_repeat_5 (by decide) (fun _ => ?_) (fun c_5 => absurd (by decide) c_5)
  refine lv_aload_n hx hb dX4_repeat_12 rfl (lv_at hl 0 rfl) ?_
  refine va_get (D := G.1) (ci := 4) (v := .ref (ad 9)) (C := RX4) (T := TX4) (N := 29) hx hb htu iwX4 hown hK.1 hP 0 rfl rfl 9 (by decide) (htu _ uF_X4_35) (fun _ h9 => h9) rfl dX4_repeat_13 ?_
  refine lv_iload_n hx hb dX4_repeat_16 rfl (lv_at hl 1 rfl) ?_
  refine g_zald hx hb hK.1 hP 1 3 rfl rfl ⟨hb4, by decide⟩ dX4_repeat_17 ?_
  refine g_toi (y := nI 1) (h0) ?_
  refine lv_if_eq (tgt := 30) hx hb dX4_repeat_18 (by decide) (fun c_18 => absurd c_18 (by decide)) (fun _ => ?_)
  refine lv_aload_n hx hb dX4_repeat_21 rfl (lv_at hl 0 rfl) ?_
  refine va_get (D := G.1) (ci := 4) (v := .ref (ad 11)) (C := RX4) (T := TX4) (N := 29) hx hb htu iwX4 hown hK.1 hP 0 rfl rfl 11 (by decide) (htu _ uF_X4_42) (fun _ h9 => h9) rfl dX4_repeat_22 ?_
  refine lv_iload_n hx hb dX4_repeat_25 rfl (lv_at hl 1 rfl) ?_
  refine g_zald hx hb hK.1 hP 2 3 rfl rfl ⟨hb4, by decide⟩ dX4_repeat_26 ?_
  refine g_toi (y := nI 0) (h1) ?_
  refine lv_if_eq (tgt := 34) hx hb dX4_repeat_27 (by decide) (fun _ => ?_) (fun c_27 => absurd (by decide) c_27)
  refine lv_iload_n hx hb dX4_repeat_34 rfl (lv_at hl 3 rfl) ?_
  refine lv_if_lt (tgt := 45) hx hb dX4_repeat_35 (by decide) (fun c_35 => ?_) (fun c_35 => ?_)
  · skip
    refine lv_iconst (v := nI 3) hx hb dX4_repeat_45 (by decide) ?_
    refine lv_goto (tgt := 50) hx hb dX4_repeat_46 (by decide) ?_
    refine va_put (D := G.1) (ci := 4) (v := .int (nI 3)) (ty := .int) (C := RX4) (T := TX4) (N := 29) hx hb htu iwX4 tyX4 tyX4_ok nmX4 hown hK.1 hP hD hS 0 rfl rfl 20 (by decide) (htu _ uF_X4_95) (fun _ h9 => h9) rfl (by decide +kernel) rfl rfl (Nat.le_of_ble_eq_true rfl) dX4_repeat_50 (fun H locs hP hD hS => ?_)
    have hP : va_P G.1 vwCl [(o, .inr (4, mF ad sz1 osz (nI 3) hsz)), (ad 9, .inl (G.2.1 3, 4, .inl gb)), (ad 11, .inl (G.2.1 3, 4, .inl ge))] H := hP
    have hD : va_D A [(o, .inr (4, mF ad sz1 osz (nI 3) hsz)), (ad 9, .inl (G.2.1 3, 4, .inl gb)), (ad 11, .inl (G.2.1 3, 4, .inl ge))] := hD
    refine lv_aload_n hx hb dX4_repeat_53 rfl (lv_at hl 0 rfl) ?_
    refine va_get (D := G.1) (ci := 4) (v := .int (nI 3)) (C := RX4) (T := TX4) (N := 29) hx hb htu iwX4 hown hK.1 hP 0 rfl rfl 20 (by decide) (htu _ uF_X4_95) (fun _ h9 => h9) rfl dX4_repeat_54 ?_
    refine lv_if_le (tgt := 62) hx hb dX4_repeat_57 (by decide) (fun c_57 => absurd c_57 (by decide)) (fun _ => ?_)
    refine lv_lconst (v := 0) hx hb dX4_repeat_60 (by decide) ?_
    exact gret_l hx hb hr hlk dX4_repeat_61 hS () (hP.sub [0, 1, 2] rfl) (hD.sub [0, 1, 2] (by decide) rfl) (rfl)
  · skip
    refine lv_iload_n hx hb dX4_repeat_38 rfl (lv_at hl 3 rfl) ?_
    refine lv_sipush (v := nI 20000) hx hb dX4_repeat_39 (by decide) ?_
    refine lv_icmp_le (tgt := 49) hx hb dX4_repeat_42 (by decide) (fun c_42 => absurd c_42 (fun h => hy.elim c_35 (fun g => absurd h (Int32.not_le.mpr g)))) (fun _ => ?_)
    refine lv_iconst (v := nI 3) hx hb dX4_repeat_45 (by decide) ?_
    refine lv_goto (tgt := 50) hx hb dX4_repeat_46 (by decide) ?_
    refine va_put (D := G.1) (ci := 4) (v := .int (nI 3)) (ty := .int) (C := RX4) (T := TX4) (N := 29) hx hb htu iwX4 tyX4 tyX4_ok nmX4 hown hK.1 hP hD hS 0 rfl rfl 20 (by decide) (htu _ uF_X4_95) (fun _ h9 => h9) rfl (by decide +kernel) rfl rfl (Nat.le_of_ble_eq_true rfl) dX4_repeat_50 (fun H locs hP hD hS => ?_)
    have hP : va_P G.1 vwCl [(o, .inr (4, mF ad sz1 osz (nI 3) hsz)), (ad 9, .inl (G.2.1 3, 4, .inl gb)), (ad 11, .inl (G.2.1 3, 4, .inl ge))] H := hP
    have hD : va_D A [(o, .inr (4, mF ad sz1 osz (nI 3) hsz)), (ad 9, .inl (G.2.1 3, 4, .inl gb)), (ad 11, .inl (G.2.1 3, 4, .inl ge))] := hD
    refine lv_aload_n hx hb dX4_repeat_53 rfl (lv_at hl 0 rfl) ?_
    refine va_get (D := G.1) (ci := 4) (v := .int (nI 3)) (C := RX4) (T := TX4) (N := 29) hx hb htu iwX4 hown hK.1 hP 0 rfl rfl 20 (by decide) (htu _ uF_X4_95) (fun _ h9 => h9) rfl dX4_repeat_54 ?_
    refine lv_if_le (tgt := 62) hx hb dX4_repeat_57 (by decide) (fun c_57 => absurd c_57 (by decide)) (fun _ => ?_)
    refine lv_lconst (v := 0) hx hb dX4_repeat_60 (by decide) ?_
    exact gret_l hx hb hr hlk dX4_repeat_61 hS () (hP.sub [0, 1, 2] rfl) (hD.sub [0, 1, 2] (by decide) rfl) (rfl)
set_option maxHeartbeats 4000000 in
set_option maxRecDepth 100000 in
theorem c_X4_aboutT1 (l : Launch) (G : GW) (sz : Nat) (o : Nat) (ad : Nat → Nat) (sz1 : Int32) (osz : Int32) (th : Int32) (hsz : Int32) (x : Int32) (y : Int32) (hx1 : nsI x = 1) : Met l yX4_about (Cond.code yX4_about cX4_about 3 (some FieldType.int) :: UW) ({ frames := 1, cells := 0, slots := 0, locals := 20 } : Room) (va_Pc [.ref o, .int x, .int y] (gPre G [(o, .inr (4, mF ad sz1 osz th hsz))] sz)) (va_Qi (fun (r : Int32) (_ : Unit) => r = 0) (fun u => gPost G (va_A [(o, .inr (4, mF ad sz1 osz th hsz))] sz) ((fun (_ : Unit) => ([(o, .inr (4, mF ad sz1 osz (nI 1) hsz))] : va_W)) u)) (va_A [(o, .inr (4, mF ad sz1 osz th hsz))] sz)) 0 0 (va_A [(o, .inr (4, mF ad sz1 osz th hsz))] sz) := by
  refine gM_of (Qf := fun A => va_Qi (fun (r : Int32) (_ : Unit) => r = 0) (fun u => gPost G A ((fun (_ : Unit) => ([(o, .inr (4, mF ad sz1 osz (nI 1) hsz))] : va_W)) u)) A) (by decide) (Nat.le_of_ble_eq_true rfl) ?_
  intro p e s m below meth c A ls hx hb hml hr hown htu hlk hnm hA hP hD hS hK hZ hl
  have hown : s.vm.findClass RX4 = some m.cls := hown
  have hl : lv_has ls 3 [(0, .ref o), (1, .int x), (2, .int y)] := hl
  refine lv_aload_n hx hb dX4_about_0 rfl (lv_at hl 0 rfl) ?_
  refine lv_iload_n hx hb dX4_about_1 rfl (lv_at hl 1 rfl) ?_
  refine g_calli (g_runS (As := [.int x]) (rest := [.ref o]) ⟨hx, hb, hml, hown, htu⟩ (c_X4_noStream l G _ x ) uM_X4_174 ok_X4_noStream uA_X4_noStream rfl rfl ⟨Nat.le_of_ble_eq_true rfl, Nat.le_of_ble_eq_true rfl⟩ hK hP hD hS hA hZ [] rfl rfl rfl hl.1 rfl (Nat.le_of_ble_eq_true rfl) dX4_about_2 ⟨Nat.le_of_ble_eq_true rfl, Nat.le_of_ble_eq_true rfl⟩) hP hD hS hA [] rfl (fun r_1 u H locs hw_2 hP hD hS => ?_)
  have hw_2 : r_1 = nsI x := hw_2
  subst hw_2
  have hP : va_P G.1 vwCl [(o, .inr (4, mF ad sz1 osz th hsz))] H := hP
  have hD : va_D A [(o, .inr (4, mF ad sz1 osz th hsz))] := hD
  refine g_toi (y := nI 1) (hx1) ?_
  refine lv_if_ne (tgt := 17) hx hb dX4_about_5 (by decide) (fun _ => ?_) (fun c_5 => absurd c_5 (by decide))
  refine lv_iconst (v := nI 1) hx hb dX4_about_17 (by decide) ?_
  refine lv_goto (tgt := 22) hx hb dX4_about_18 (by decide) ?_
  refine va_put (D := G.1) (ci := 4) (v := .int (nI 1)) (ty := .int) (C := RX4) (T := TX4) (N := 29) hx hb htu iwX4 tyX4 tyX4_ok nmX4 hown hK.1 hP hD hS 0 rfl rfl 20 (by decide) (htu _ uF_X4_95) (fun _ h9 => h9) rfl (by decide +kernel) rfl rfl (Nat.le_of_ble_eq_true rfl) dX4_about_22 (fun H locs hP hD hS => ?_)
  have hP : va_P G.1 vwCl [(o, .inr (4, mF ad sz1 osz (nI 1) hsz))] H := hP
  have hD : va_D A [(o, .inr (4, mF ad sz1 osz (nI 1) hsz))] := hD
  refine lv_aload_n hx hb dX4_about_25 rfl (lv_at hl 0 rfl) ?_
  refine va_get (D := G.1) (ci := 4) (v := .int (nI 1)) (C := RX4) (T := TX4) (N := 29) hx hb htu iwX4 hown hK.1 hP 0 rfl rfl 20 (by decide) (htu _ uF_X4_95) (fun _ h9 => h9) rfl dX4_about_26 ?_
  refine lv_if_le (tgt := 34) hx hb dX4_about_29 (by decide) (fun c_29 => absurd c_29 (by decide)) (fun _ => ?_)
  refine lv_iconst (v := nI 0) hx hb dX4_about_32 (by decide) ?_
  exact gret_i hx hb hr hlk dX4_about_33 hS () (hP.sub [0] rfl) (hD.sub [0] (by decide) rfl) (rfl)
set_option maxHeartbeats 4000000 in
set_option maxRecDepth 100000 in
theorem c_X4_aboutT1b (l : Launch) (G : GW) (sz : Nat) (o : Nat) (ad : Nat → Nat) (sz1 : Int32) (osz : Int32) (th : Int32) (hsz : Int32) (x : Int32) (y : Int32) (hx1 : nsI x = 0) (hy : y < 0 ∨ 3 < y) : Met l yX4_about (Cond.code yX4_about cX4_about 3 (some FieldType.int) :: UW) ({ frames := 1, cells := 0, slots := 0, locals := 20 } : Room) (va_Pc [.ref o, .int x, .int y] (gPre G [(o, .inr (4, mF ad sz1 osz th hsz))] sz)) (va_Qi (fun (r : Int32) (_ : Unit) => r = 0) (fun u => gPost G (va_A [(o, .inr (4, mF ad sz1 osz th hsz))] sz) ((fun (_ : Unit) => ([(o, .inr (4, mF ad sz1 osz (nI 1) hsz))] : va_W)) u)) (va_A [(o, .inr (4, mF ad sz1 osz th hsz))] sz)) 0 0 (va_A [(o, .inr (4, mF ad sz1 osz th hsz))] sz) := by
  refine gM_of (Qf := fun A => va_Qi (fun (r : Int32) (_ : Unit) => r = 0) (fun u => gPost G A ((fun (_ : Unit) => ([(o, .inr (4, mF ad sz1 osz (nI 1) hsz))] : va_W)) u)) A) (by decide) (Nat.le_of_ble_eq_true rfl) ?_
  intro p e s m below meth c A ls hx hb hml hr hown htu hlk hnm hA hP hD hS hK hZ hl
  have hown : s.vm.findClass RX4 = some m.cls := hown
  have hl : lv_has ls 3 [(0, .ref o), (1, .int x), (2, .int y)] := hl
  refine lv_aload_n hx hb dX4_about_0 rfl (lv_at hl 0 rfl) ?_
  refine lv_iload_n hx hb dX4_about_1 rfl (lv_at hl 1 rfl) ?_
  refine g_calli (g_runS (As := [.int x]) (rest := [.ref o]) ⟨hx, hb, hml, hown, htu⟩ (c_X4_noStream l G _ x ) uM_X4_174 ok_X4_noStream uA_X4_noStream rfl rfl ⟨Nat.le_of_ble_eq_true rfl, Nat.le_of_ble_eq_true rfl⟩ hK hP hD hS hA hZ [] rfl rfl rfl hl.1 rfl (Nat.le_of_ble_eq_true rfl) dX4_about_2 ⟨Nat.le_of_ble_eq_true rfl, Nat.le_of_ble_eq_true rfl⟩) hP hD hS hA [] rfl (fun r_1 u H locs hw_2 hP hD hS => ?_)
  have hw_2 : r_1 = nsI x := hw_2
  subst hw_2
  have hP : va_P G.1 vwCl [(o, .inr (4, mF ad sz1 osz th hsz))] H := hP
  have hD : va_D A [(o, .inr (4, mF ad sz1 osz th hsz))] := hD
  refine g_toi (y := nI 0) (hx1) ?_
  refine lv_if_ne (tgt := 17) hx hb dX4_about_5 (by decide) (fun c_5 => absurd (by decide) c_5) (fun _ => ?_)
  refine lv_iload_n hx hb dX4_about_8 rfl (lv_at hl 2 rfl) ?_
  refine lv_if_lt (tgt := 17) hx hb dX4_about_9 (by decide) (fun c_9 => ?_) (fun c_9 => ?_)
  · skip
    refine lv_iconst (v := nI 1) hx hb dX4_about_17 (by decide) ?_
    refine lv_goto (tgt := 22) hx hb dX4_about_18 (by decide) ?_
    refine va_put (D := G.1) (ci := 4) (v := .int (nI 1)) (ty := .int) (C := RX4) (T := TX4) (N := 29) hx hb htu iwX4 tyX4 tyX4_ok nmX4 hown hK.1 hP hD hS 0 rfl rfl 20 (by decide) (htu _ uF_X4_95) (fun _ h9 => h9) rfl (by decide +kernel) rfl rfl (Nat.le_of_ble_eq_true rfl) dX4_about_22 (fun H locs hP hD hS => ?_)
    have hP : va_P G.1 vwCl [(o, .inr (4, mF ad sz1 osz (nI 1) hsz))] H := hP
    have hD : va_D A [(o, .inr (4, mF ad sz1 osz (nI 1) hsz))] := hD
    refine lv_aload_n hx hb dX4_about_25 rfl (lv_at hl 0 rfl) ?_
    refine va_get (D := G.1) (ci := 4) (v := .int (nI 1)) (C := RX4) (T := TX4) (N := 29) hx hb htu iwX4 hown hK.1 hP 0 rfl rfl 20 (by decide) (htu _ uF_X4_95) (fun _ h9 => h9) rfl dX4_about_26 ?_
    refine lv_if_le (tgt := 34) hx hb dX4_about_29 (by decide) (fun c_29 => absurd c_29 (by decide)) (fun _ => ?_)
    refine lv_iconst (v := nI 0) hx hb dX4_about_32 (by decide) ?_
    exact gret_i hx hb hr hlk dX4_about_33 hS () (hP.sub [0] rfl) (hD.sub [0] (by decide) rfl) (rfl)
  · skip
    refine lv_iload_n hx hb dX4_about_12 rfl (lv_at hl 2 rfl) ?_
    refine lv_iconst (v := nI 3) hx hb dX4_about_13 (by decide) ?_
    refine lv_icmp_le (tgt := 21) hx hb dX4_about_14 (by decide) (fun c_14 => absurd c_14 (fun h => hy.elim c_9 (fun g => absurd h (Int32.not_le.mpr g)))) (fun _ => ?_)
    refine lv_iconst (v := nI 1) hx hb dX4_about_17 (by decide) ?_
    refine lv_goto (tgt := 22) hx hb dX4_about_18 (by decide) ?_
    refine va_put (D := G.1) (ci := 4) (v := .int (nI 1)) (ty := .int) (C := RX4) (T := TX4) (N := 29) hx hb htu iwX4 tyX4 tyX4_ok nmX4 hown hK.1 hP hD hS 0 rfl rfl 20 (by decide) (htu _ uF_X4_95) (fun _ h9 => h9) rfl (by decide +kernel) rfl rfl (Nat.le_of_ble_eq_true rfl) dX4_about_22 (fun H locs hP hD hS => ?_)
    have hP : va_P G.1 vwCl [(o, .inr (4, mF ad sz1 osz (nI 1) hsz))] H := hP
    have hD : va_D A [(o, .inr (4, mF ad sz1 osz (nI 1) hsz))] := hD
    refine lv_aload_n hx hb dX4_about_25 rfl (lv_at hl 0 rfl) ?_
    refine va_get (D := G.1) (ci := 4) (v := .int (nI 1)) (C := RX4) (T := TX4) (N := 29) hx hb htu iwX4 hown hK.1 hP 0 rfl rfl 20 (by decide) (htu _ uF_X4_95) (fun _ h9 => h9) rfl dX4_about_26 ?_
    refine lv_if_le (tgt := 34) hx hb dX4_about_29 (by decide) (fun c_29 => absurd c_29 (by decide)) (fun _ => ?_)
    refine lv_iconst (v := nI 0) hx hb dX4_about_32 (by decide) ?_
    exact gret_i hx hb hr hlk dX4_about_33 hS () (hP.sub [0] rfl) (hD.sub [0] (by decide) rfl) (rfl)
set_option maxHeartbeats 4000000 in
set_option maxRecDepth 100000 in
theorem c_X4_about0N (l : Launch) (G : GW) (sz : Nat) (o : Nat) (ad : Nat → Nat) (sz1 : Int32) (osz : Int32) (th : Int32) (hsz : Int32) (sl : Nat) (kf : Nat → Int32) (ff : Nat → Int32) (sf : Nat → Int64) (bf : Nat → Int32) (tf : Nat → Int64) (nf : Nat → Int32) (df : Nat → Int64) (cf : Nat → Int64) (gb : Nat → Int32) (gc : Nat → Int32) (ge : Nat → Int32) (mf : Nat → Int64) (ys : Nat → Int32) (st : Nat → SA) (hs : sl < 4) (hS9 : StmR (kf, ff, sf, bf, tf) gb gc ge mf ys st) (hst : (st sl).1 = false) : Met l yX4_about (Cond.code yX4_about cX4_about 3 (some FieldType.int) :: UW) ({ frames := 1, cells := 0, slots := 0, locals := 20 } : Room) (va_Pc [.ref o, .int (nI sl), .int (nI 0)] (gPre G [(o, .inr (4, mF ad sz1 osz th hsz)), (ad 4, .inl (G.2.1 1, 9, .inl kf)), (ad 7, .inl (G.2.1 1, 9, .inl ff)), (ad 5, .inl (G.2.1 2, 72, .inr (.inl sf))), (ad 6, .inl (G.2.1 1, 1152, .inl bf)), (ad 8, .inl (G.2.1 2, 9, .inr (.inl tf))), (ad 24, .inl (G.2.1 1, 64, .inl nf)), (ad 25, .inl (G.2.1 2, 80, .inr (.inl df))), (ad 2, .inl (G.2.1 2, 80, .inr (.inl cf))), (ad 9, .inl (G.2.1 3, 4, .inl gb)), (ad 10, .inl (G.2.1 3, 4, .inl gc)), (ad 11, .inl (G.2.1 3, 4, .inl ge)), (ad 12, .inl (G.2.1 2, 4, .inr (.inl mf))), (ad 13, .inl (G.2.1 1, 512, .inl ys))] sz)) (va_Qi (fun (r : Int32) (_ : Unit) => r = abQ (st sl) 0) (fun u => gPost G (va_A [(o, .inr (4, mF ad sz1 osz th hsz)), (ad 4, .inl (G.2.1 1, 9, .inl kf)), (ad 7, .inl (G.2.1 1, 9, .inl ff)), (ad 5, .inl (G.2.1 2, 72, .inr (.inl sf))), (ad 6, .inl (G.2.1 1, 1152, .inl bf)), (ad 8, .inl (G.2.1 2, 9, .inr (.inl tf))), (ad 24, .inl (G.2.1 1, 64, .inl nf)), (ad 25, .inl (G.2.1 2, 80, .inr (.inl df))), (ad 2, .inl (G.2.1 2, 80, .inr (.inl cf))), (ad 9, .inl (G.2.1 3, 4, .inl gb)), (ad 10, .inl (G.2.1 3, 4, .inl gc)), (ad 11, .inl (G.2.1 3, 4, .inl ge)), (ad 12, .inl (G.2.1 2, 4, .inr (.inl mf))), (ad 13, .inl (G.2.1 1, 512, .inl ys))] sz) ((fun (_ : Unit) => ([(o, .inr (4, mF ad sz1 osz (nI 0) hsz)), (ad 4, .inl (G.2.1 1, 9, .inl kf)), (ad 7, .inl (G.2.1 1, 9, .inl ff)), (ad 5, .inl (G.2.1 2, 72, .inr (.inl sf))), (ad 6, .inl (G.2.1 1, 1152, .inl bf)), (ad 8, .inl (G.2.1 2, 9, .inr (.inl tf))), (ad 24, .inl (G.2.1 1, 64, .inl nf)), (ad 25, .inl (G.2.1 2, 80, .inr (.inl df))), (ad 2, .inl (G.2.1 2, 80, .inr (.inl cf))), (ad 9, .inl (G.2.1 3, 4, .inl gb)), (ad 10, .inl (G.2.1 3, 4, .inl gc)), (ad 11, .inl (G.2.1 3, 4, .inl ge)), (ad 12, .inl (G.2.1 2, 4, .inr (.inl mf))), (ad 13, .inl (G.2.1 1, 512, .inl ys))] : va_W)) u)) (va_A [(o, .inr (4, mF ad sz1 osz th hsz)), (ad 4, .inl (G.2.1 1, 9, .inl kf)), (ad 7, .inl (G.2.1 1, 9, .inl ff)), (ad 5, .inl (G.2.1 2, 72, .inr (.inl sf))), (ad 6, .inl (G.2.1 1, 1152, .inl bf)), (ad 8, .inl (G.2.1 2, 9, .inr (.inl tf))), (ad 24, .inl (G.2.1 1, 64, .inl nf)), (ad 25, .inl (G.2.1 2, 80, .inr (.inl df))), (ad 2, .inl (G.2.1 2, 80, .inr (.inl cf))), (ad 9, .inl (G.2.1 3, 4, .inl gb)), (ad 10, .inl (G.2.1 3, 4, .inl gc)), (ad 11, .inl (G.2.1 3, 4, .inl ge)), (ad 12, .inl (G.2.1 2, 4, .inr (.inl mf))), (ad 13, .inl (G.2.1 1, 512, .inl ys))] sz)) 0 0 (va_A [(o, .inr (4, mF ad sz1 osz th hsz)), (ad 4, .inl (G.2.1 1, 9, .inl kf)), (ad 7, .inl (G.2.1 1, 9, .inl ff)), (ad 5, .inl (G.2.1 2, 72, .inr (.inl sf))), (ad 6, .inl (G.2.1 1, 1152, .inl bf)), (ad 8, .inl (G.2.1 2, 9, .inr (.inl tf))), (ad 24, .inl (G.2.1 1, 64, .inl nf)), (ad 25, .inl (G.2.1 2, 80, .inr (.inl df))), (ad 2, .inl (G.2.1 2, 80, .inr (.inl cf))), (ad 9, .inl (G.2.1 3, 4, .inl gb)), (ad 10, .inl (G.2.1 3, 4, .inl gc)), (ad 11, .inl (G.2.1 3, 4, .inl ge)), (ad 12, .inl (G.2.1 2, 4, .inr (.inl mf))), (ad 13, .inl (G.2.1 1, 512, .inl ys))] sz) := by
  refine gM_of (Qf := fun A => va_Qi (fun (r : Int32) (_ : Unit) => r = abQ (st sl) 0) (fun u => gPost G A ((fun (_ : Unit) => ([(o, .inr (4, mF ad sz1 osz (nI 0) hsz)), (ad 4, .inl (G.2.1 1, 9, .inl kf)), (ad 7, .inl (G.2.1 1, 9, .inl ff)), (ad 5, .inl (G.2.1 2, 72, .inr (.inl sf))), (ad 6, .inl (G.2.1 1, 1152, .inl bf)), (ad 8, .inl (G.2.1 2, 9, .inr (.inl tf))), (ad 24, .inl (G.2.1 1, 64, .inl nf)), (ad 25, .inl (G.2.1 2, 80, .inr (.inl df))), (ad 2, .inl (G.2.1 2, 80, .inr (.inl cf))), (ad 9, .inl (G.2.1 3, 4, .inl gb)), (ad 10, .inl (G.2.1 3, 4, .inl gc)), (ad 11, .inl (G.2.1 3, 4, .inl ge)), (ad 12, .inl (G.2.1 2, 4, .inr (.inl mf))), (ad 13, .inl (G.2.1 1, 512, .inl ys))] : va_W)) u)) A) (by decide) (Nat.le_of_ble_eq_true rfl) ?_
  intro p e s m below meth c A ls hx hb hml hr hown htu hlk hnm hA hP hD hS hK hZ hl
  have hown : s.vm.findClass RX4 = some m.cls := hown
  have hl : lv_has ls 3 [(0, .ref o), (1, .int (nI sl)), (2, .int (nI 0))] := hl
  refine lv_aload_n hx hb dX4_about_0 rfl (lv_at hl 0 rfl) ?_
  refine lv_iload_n hx hb dX4_about_1 rfl (lv_at hl 1 rfl) ?_
  refine g_calli (g_runS (As := [.int (nI sl)]) (rest := [.ref o]) ⟨hx, hb, hml, hown, htu⟩ (c_X4_noStream l G _ (nI sl) ) uM_X4_174 ok_X4_noStream uA_X4_noStream rfl rfl ⟨Nat.le_of_ble_eq_true rfl, Nat.le_of_ble_eq_true rfl⟩ hK hP hD hS hA hZ [] rfl rfl rfl hl.1 rfl (Nat.le_of_ble_eq_true rfl) dX4_about_2 ⟨Nat.le_of_ble_eq_true rfl, Nat.le_of_ble_eq_true rfl⟩) hP hD hS hA [] rfl (fun r_1 u H locs hw_2 hP hD hS => ?_)
  have hw_2 : r_1 = nsI (nI sl) := hw_2
  subst hw_2
  have hP : va_P G.1 vwCl [(o, .inr (4, mF ad sz1 osz th hsz)), (ad 4, .inl (G.2.1 1, 9, .inl kf)), (ad 7, .inl (G.2.1 1, 9, .inl ff)), (ad 5, .inl (G.2.1 2, 72, .inr (.inl sf))), (ad 6, .inl (G.2.1 1, 1152, .inl bf)), (ad 8, .inl (G.2.1 2, 9, .inr (.inl tf))), (ad 24, .inl (G.2.1 1, 64, .inl nf)), (ad 25, .inl (G.2.1 2, 80, .inr (.inl df))), (ad 2, .inl (G.2.1 2, 80, .inr (.inl cf))), (ad 9, .inl (G.2.1 3, 4, .inl gb)), (ad 10, .inl (G.2.1 3, 4, .inl gc)), (ad 11, .inl (G.2.1 3, 4, .inl ge)), (ad 12, .inl (G.2.1 2, 4, .inr (.inl mf))), (ad 13, .inl (G.2.1 1, 512, .inl ys))] H := hP
  have hD : va_D A [(o, .inr (4, mF ad sz1 osz th hsz)), (ad 4, .inl (G.2.1 1, 9, .inl kf)), (ad 7, .inl (G.2.1 1, 9, .inl ff)), (ad 5, .inl (G.2.1 2, 72, .inr (.inl sf))), (ad 6, .inl (G.2.1 1, 1152, .inl bf)), (ad 8, .inl (G.2.1 2, 9, .inr (.inl tf))), (ad 24, .inl (G.2.1 1, 64, .inl nf)), (ad 25, .inl (G.2.1 2, 80, .inr (.inl df))), (ad 2, .inl (G.2.1 2, 80, .inr (.inl cf))), (ad 9, .inl (G.2.1 3, 4, .inl gb)), (ad 10, .inl (G.2.1 3, 4, .inl gc)), (ad 11, .inl (G.2.1 3, 4, .inl ge)), (ad 12, .inl (G.2.1 2, 4, .inr (.inl mf))), (ad 13, .inl (G.2.1 1, 512, .inl ys))] := hD
  refine g_toi (y := nI 0) (nsI_nI hs) ?_
  refine lv_if_ne (tgt := 17) hx hb dX4_about_5 (by decide) (fun c_5 => absurd (by decide) c_5) (fun _ => ?_)
  refine lv_iload_n hx hb dX4_about_8 rfl (lv_at hl 2 rfl) ?_
  refine lv_if_lt (tgt := 17) hx hb dX4_about_9 (by decide) (fun c_9 => absurd c_9 (by decide)) (fun _ => ?_)
  refine lv_iload_n hx hb dX4_about_12 rfl (lv_at hl 2 rfl) ?_
  refine lv_iconst (v := nI 3) hx hb dX4_about_13 (by decide) ?_
  refine lv_icmp_le (tgt := 21) hx hb dX4_about_14 (by decide) (fun _ => ?_) (fun c_14 => absurd (by decide) c_14)
  refine lv_iconst (v := nI 0) hx hb dX4_about_21 (by decide) ?_
  refine va_put (D := G.1) (ci := 4) (v := .int (nI 0)) (ty := .int) (C := RX4) (T := TX4) (N := 29) hx hb htu iwX4 tyX4 tyX4_ok nmX4 hown hK.1 hP hD hS 0 rfl rfl 20 (by decide) (htu _ uF_X4_95) (fun _ h9 => h9) rfl (by decide +kernel) rfl rfl (Nat.le_of_ble_eq_true rfl) dX4_about_22 (fun H locs hP hD hS => ?_)
  have hP : va_P G.1 vwCl [(o, .inr (4, mF ad sz1 osz (nI 0) hsz)), (ad 4, .inl (G.2.1 1, 9, .inl kf)), (ad 7, .inl (G.2.1 1, 9, .inl ff)), (ad 5, .inl (G.2.1 2, 72, .inr (.inl sf))), (ad 6, .inl (G.2.1 1, 1152, .inl bf)), (ad 8, .inl (G.2.1 2, 9, .inr (.inl tf))), (ad 24, .inl (G.2.1 1, 64, .inl nf)), (ad 25, .inl (G.2.1 2, 80, .inr (.inl df))), (ad 2, .inl (G.2.1 2, 80, .inr (.inl cf))), (ad 9, .inl (G.2.1 3, 4, .inl gb)), (ad 10, .inl (G.2.1 3, 4, .inl gc)), (ad 11, .inl (G.2.1 3, 4, .inl ge)), (ad 12, .inl (G.2.1 2, 4, .inr (.inl mf))), (ad 13, .inl (G.2.1 1, 512, .inl ys))] H := hP
  have hD : va_D A [(o, .inr (4, mF ad sz1 osz (nI 0) hsz)), (ad 4, .inl (G.2.1 1, 9, .inl kf)), (ad 7, .inl (G.2.1 1, 9, .inl ff)), (ad 5, .inl (G.2.1 2, 72, .inr (.inl sf))), (ad 6, .inl (G.2.1 1, 1152, .inl bf)), (ad 8, .inl (G.2.1 2, 9, .inr (.inl tf))), (ad 24, .inl (G.2.1 1, 64, .inl nf)), (ad 25, .inl (G.2.1 2, 80, .inr (.inl df))), (ad 2, .inl (G.2.1 2, 80, .inr (.inl cf))), (ad 9, .inl (G.2.1 3, 4, .inl gb)), (ad 10, .inl (G.2.1 3, 4, .inl gc)), (ad 11, .inl (G.2.1 3, 4, .inl ge)), (ad 12, .inl (G.2.1 2, 4, .inr (.inl mf))), (ad 13, .inl (G.2.1 1, 512, .inl ys))] := hD
  refine lv_aload_n hx hb dX4_about_25 rfl (lv_at hl 0 rfl) ?_
  refine va_get (D := G.1) (ci := 4) (v := .int (nI 0)) (C := RX4) (T := TX4) (N := 29) hx hb htu iwX4 hown hK.1 hP 0 rfl rfl 20 (by decide) (htu _ uF_X4_95) (fun _ h9 => h9) rfl dX4_about_26 ?_
  refine lv_if_le (tgt := 34) hx hb dX4_about_29 (by decide) (fun _ => ?_) (fun c_29 => absurd (by decide) c_29)
  refine lv_aload_n hx hb dX4_about_34 rfl (lv_at hl 0 rfl) ?_
  refine va_get (D := G.1) (ci := 4) (v := .ref (ad 9)) (C := RX4) (T := TX4) (N := 29) hx hb htu iwX4 hown hK.1 hP 0 rfl rfl 9 (by decide) (htu _ uF_X4_35) (fun _ h9 => h9) rfl dX4_about_35 ?_
  refine lv_iload_n hx hb dX4_about_38 rfl (lv_at hl 1 rfl) ?_
  refine g_zald hx hb hK.1 hP 9 3 rfl rfl ⟨hs, by decide⟩ dX4_about_39 ?_
  refine g_toi (y := nI 0) (by have h2 := (hS9 sl hs).1; rw [hst] at h2; exact h2) ?_
  refine lv_if_ne (tgt := 53) hx hb dX4_about_40 (by decide) (fun c_40 => absurd (by decide) c_40) (fun _ => ?_)
  refine lv_iload_n hx hb dX4_about_43 rfl (lv_at hl 2 rfl) ?_
  refine lv_if_ne (tgt := 51) hx hb dX4_about_44 (by decide) (fun c_44 => absurd (by decide) c_44) (fun _ => ?_)
  refine lv_iconst (v := (-1)) hx hb dX4_about_47 (by decide) ?_
  refine lv_goto (tgt := 52) hx hb dX4_about_48 (by decide) ?_
  exact gret_i hx hb hr hlk dX4_about_52 hS () (hP.sub [0, 1, 2, 3, 4, 5, 6, 7, 8, 9, 10, 11, 12, 13] rfl) (hD.sub [0, 1, 2, 3, 4, 5, 6, 7, 8, 9, 10, 11, 12, 13] (by decide) rfl) (by unfold abQ; rw [hst]; rfl)
set_option maxHeartbeats 4000000 in
set_option maxRecDepth 100000 in
theorem c_X4_about0B (l : Launch) (G : GW) (sz : Nat) (o : Nat) (ad : Nat → Nat) (sz1 : Int32) (osz : Int32) (th : Int32) (hsz : Int32) (sl : Nat) (k : Nat) (cd : Bool) (ed : Bool) (T : Nat) (h : HS) (kq : List Nat) (kf : Nat → Int32) (ff : Nat → Int32) (sf : Nat → Int64) (bf : Nat → Int32) (tf : Nat → Int64) (nf : Nat → Int32) (df : Nat → Int64) (cf : Nat → Int64) (gb : Nat → Int32) (gc : Nat → Int32) (ge : Nat → Int32) (mf : Nat → Int64) (ys : Nat → Int32) (st : Nat → SA) (hs : sl < 4) (hS9 : StmR (kf, ff, sf, bf, tf) gb gc ge mf ys st) (hst : st sl = (true, k, cd, ed, T, h, kq)) : Met l yX4_about (Cond.code yX4_about cX4_about 3 (some FieldType.int) :: UW) ({ frames := 1, cells := 0, slots := 0, locals := 20 } : Room) (va_Pc [.ref o, .int (nI sl), .int (nI 0)] (gPre G [(o, .inr (4, mF ad sz1 osz th hsz)), (ad 4, .inl (G.2.1 1, 9, .inl kf)), (ad 7, .inl (G.2.1 1, 9, .inl ff)), (ad 5, .inl (G.2.1 2, 72, .inr (.inl sf))), (ad 6, .inl (G.2.1 1, 1152, .inl bf)), (ad 8, .inl (G.2.1 2, 9, .inr (.inl tf))), (ad 24, .inl (G.2.1 1, 64, .inl nf)), (ad 25, .inl (G.2.1 2, 80, .inr (.inl df))), (ad 2, .inl (G.2.1 2, 80, .inr (.inl cf))), (ad 9, .inl (G.2.1 3, 4, .inl gb)), (ad 10, .inl (G.2.1 3, 4, .inl gc)), (ad 11, .inl (G.2.1 3, 4, .inl ge)), (ad 12, .inl (G.2.1 2, 4, .inr (.inl mf))), (ad 13, .inl (G.2.1 1, 512, .inl ys))] sz)) (va_Qi (fun (r : Int32) (_ : Unit) => r = abQ (st sl) 0) (fun u => gPost G (va_A [(o, .inr (4, mF ad sz1 osz th hsz)), (ad 4, .inl (G.2.1 1, 9, .inl kf)), (ad 7, .inl (G.2.1 1, 9, .inl ff)), (ad 5, .inl (G.2.1 2, 72, .inr (.inl sf))), (ad 6, .inl (G.2.1 1, 1152, .inl bf)), (ad 8, .inl (G.2.1 2, 9, .inr (.inl tf))), (ad 24, .inl (G.2.1 1, 64, .inl nf)), (ad 25, .inl (G.2.1 2, 80, .inr (.inl df))), (ad 2, .inl (G.2.1 2, 80, .inr (.inl cf))), (ad 9, .inl (G.2.1 3, 4, .inl gb)), (ad 10, .inl (G.2.1 3, 4, .inl gc)), (ad 11, .inl (G.2.1 3, 4, .inl ge)), (ad 12, .inl (G.2.1 2, 4, .inr (.inl mf))), (ad 13, .inl (G.2.1 1, 512, .inl ys))] sz) ((fun (_ : Unit) => ([(o, .inr (4, mF ad sz1 osz (nI 0) hsz)), (ad 4, .inl (G.2.1 1, 9, .inl kf)), (ad 7, .inl (G.2.1 1, 9, .inl ff)), (ad 5, .inl (G.2.1 2, 72, .inr (.inl sf))), (ad 6, .inl (G.2.1 1, 1152, .inl bf)), (ad 8, .inl (G.2.1 2, 9, .inr (.inl tf))), (ad 24, .inl (G.2.1 1, 64, .inl nf)), (ad 25, .inl (G.2.1 2, 80, .inr (.inl df))), (ad 2, .inl (G.2.1 2, 80, .inr (.inl cf))), (ad 9, .inl (G.2.1 3, 4, .inl gb)), (ad 10, .inl (G.2.1 3, 4, .inl gc)), (ad 11, .inl (G.2.1 3, 4, .inl ge)), (ad 12, .inl (G.2.1 2, 4, .inr (.inl mf))), (ad 13, .inl (G.2.1 1, 512, .inl ys))] : va_W)) u)) (va_A [(o, .inr (4, mF ad sz1 osz th hsz)), (ad 4, .inl (G.2.1 1, 9, .inl kf)), (ad 7, .inl (G.2.1 1, 9, .inl ff)), (ad 5, .inl (G.2.1 2, 72, .inr (.inl sf))), (ad 6, .inl (G.2.1 1, 1152, .inl bf)), (ad 8, .inl (G.2.1 2, 9, .inr (.inl tf))), (ad 24, .inl (G.2.1 1, 64, .inl nf)), (ad 25, .inl (G.2.1 2, 80, .inr (.inl df))), (ad 2, .inl (G.2.1 2, 80, .inr (.inl cf))), (ad 9, .inl (G.2.1 3, 4, .inl gb)), (ad 10, .inl (G.2.1 3, 4, .inl gc)), (ad 11, .inl (G.2.1 3, 4, .inl ge)), (ad 12, .inl (G.2.1 2, 4, .inr (.inl mf))), (ad 13, .inl (G.2.1 1, 512, .inl ys))] sz)) 0 0 (va_A [(o, .inr (4, mF ad sz1 osz th hsz)), (ad 4, .inl (G.2.1 1, 9, .inl kf)), (ad 7, .inl (G.2.1 1, 9, .inl ff)), (ad 5, .inl (G.2.1 2, 72, .inr (.inl sf))), (ad 6, .inl (G.2.1 1, 1152, .inl bf)), (ad 8, .inl (G.2.1 2, 9, .inr (.inl tf))), (ad 24, .inl (G.2.1 1, 64, .inl nf)), (ad 25, .inl (G.2.1 2, 80, .inr (.inl df))), (ad 2, .inl (G.2.1 2, 80, .inr (.inl cf))), (ad 9, .inl (G.2.1 3, 4, .inl gb)), (ad 10, .inl (G.2.1 3, 4, .inl gc)), (ad 11, .inl (G.2.1 3, 4, .inl ge)), (ad 12, .inl (G.2.1 2, 4, .inr (.inl mf))), (ad 13, .inl (G.2.1 1, 512, .inl ys))] sz) := by
  refine gM_of (Qf := fun A => va_Qi (fun (r : Int32) (_ : Unit) => r = abQ (st sl) 0) (fun u => gPost G A ((fun (_ : Unit) => ([(o, .inr (4, mF ad sz1 osz (nI 0) hsz)), (ad 4, .inl (G.2.1 1, 9, .inl kf)), (ad 7, .inl (G.2.1 1, 9, .inl ff)), (ad 5, .inl (G.2.1 2, 72, .inr (.inl sf))), (ad 6, .inl (G.2.1 1, 1152, .inl bf)), (ad 8, .inl (G.2.1 2, 9, .inr (.inl tf))), (ad 24, .inl (G.2.1 1, 64, .inl nf)), (ad 25, .inl (G.2.1 2, 80, .inr (.inl df))), (ad 2, .inl (G.2.1 2, 80, .inr (.inl cf))), (ad 9, .inl (G.2.1 3, 4, .inl gb)), (ad 10, .inl (G.2.1 3, 4, .inl gc)), (ad 11, .inl (G.2.1 3, 4, .inl ge)), (ad 12, .inl (G.2.1 2, 4, .inr (.inl mf))), (ad 13, .inl (G.2.1 1, 512, .inl ys))] : va_W)) u)) A) (by decide) (Nat.le_of_ble_eq_true rfl) ?_
  intro p e s m below meth c A ls hx hb hml hr hown htu hlk hnm hA hP hD hS hK hZ hl
  have hown : s.vm.findClass RX4 = some m.cls := hown
  have hl : lv_has ls 3 [(0, .ref o), (1, .int (nI sl)), (2, .int (nI 0))] := hl
  refine lv_aload_n hx hb dX4_about_0 rfl (lv_at hl 0 rfl) ?_
  refine lv_iload_n hx hb dX4_about_1 rfl (lv_at hl 1 rfl) ?_
  refine g_calli (g_runS (As := [.int (nI sl)]) (rest := [.ref o]) ⟨hx, hb, hml, hown, htu⟩ (c_X4_noStream l G _ (nI sl) ) uM_X4_174 ok_X4_noStream uA_X4_noStream rfl rfl ⟨Nat.le_of_ble_eq_true rfl, Nat.le_of_ble_eq_true rfl⟩ hK hP hD hS hA hZ [] rfl rfl rfl hl.1 rfl (Nat.le_of_ble_eq_true rfl) dX4_about_2 ⟨Nat.le_of_ble_eq_true rfl, Nat.le_of_ble_eq_true rfl⟩) hP hD hS hA [] rfl (fun r_1 u H locs hw_2 hP hD hS => ?_)
  have hw_2 : r_1 = nsI (nI sl) := hw_2
  subst hw_2
  have hP : va_P G.1 vwCl [(o, .inr (4, mF ad sz1 osz th hsz)), (ad 4, .inl (G.2.1 1, 9, .inl kf)), (ad 7, .inl (G.2.1 1, 9, .inl ff)), (ad 5, .inl (G.2.1 2, 72, .inr (.inl sf))), (ad 6, .inl (G.2.1 1, 1152, .inl bf)), (ad 8, .inl (G.2.1 2, 9, .inr (.inl tf))), (ad 24, .inl (G.2.1 1, 64, .inl nf)), (ad 25, .inl (G.2.1 2, 80, .inr (.inl df))), (ad 2, .inl (G.2.1 2, 80, .inr (.inl cf))), (ad 9, .inl (G.2.1 3, 4, .inl gb)), (ad 10, .inl (G.2.1 3, 4, .inl gc)), (ad 11, .inl (G.2.1 3, 4, .inl ge)), (ad 12, .inl (G.2.1 2, 4, .inr (.inl mf))), (ad 13, .inl (G.2.1 1, 512, .inl ys))] H := hP
  have hD : va_D A [(o, .inr (4, mF ad sz1 osz th hsz)), (ad 4, .inl (G.2.1 1, 9, .inl kf)), (ad 7, .inl (G.2.1 1, 9, .inl ff)), (ad 5, .inl (G.2.1 2, 72, .inr (.inl sf))), (ad 6, .inl (G.2.1 1, 1152, .inl bf)), (ad 8, .inl (G.2.1 2, 9, .inr (.inl tf))), (ad 24, .inl (G.2.1 1, 64, .inl nf)), (ad 25, .inl (G.2.1 2, 80, .inr (.inl df))), (ad 2, .inl (G.2.1 2, 80, .inr (.inl cf))), (ad 9, .inl (G.2.1 3, 4, .inl gb)), (ad 10, .inl (G.2.1 3, 4, .inl gc)), (ad 11, .inl (G.2.1 3, 4, .inl ge)), (ad 12, .inl (G.2.1 2, 4, .inr (.inl mf))), (ad 13, .inl (G.2.1 1, 512, .inl ys))] := hD
  refine g_toi (y := nI 0) (nsI_nI hs) ?_
  refine lv_if_ne (tgt := 17) hx hb dX4_about_5 (by decide) (fun c_5 => absurd (by decide) c_5) (fun _ => ?_)
  refine lv_iload_n hx hb dX4_about_8 rfl (lv_at hl 2 rfl) ?_
  refine lv_if_lt (tgt := 17) hx hb dX4_about_9 (by decide) (fun c_9 => absurd c_9 (by decide)) (fun _ => ?_)
  refine lv_iload_n hx hb dX4_about_12 rfl (lv_at hl 2 rfl) ?_
  refine lv_iconst (v := nI 3) hx hb dX4_about_13 (by decide) ?_
  refine lv_icmp_le (tgt := 21) hx hb dX4_about_14 (by decide) (fun _ => ?_) (fun c_14 => absurd (by decide) c_14)
  refine lv_iconst (v := nI 0) hx hb dX4_about_21 (by decide) ?_
  refine va_put (D := G.1) (ci := 4) (v := .int (nI 0)) (ty := .int) (C := RX4) (T := TX4) (N := 29) hx hb htu iwX4 tyX4 tyX4_ok nmX4 hown hK.1 hP hD hS 0 rfl rfl 20 (by decide) (htu _ uF_X4_95) (fun _ h9 => h9) rfl (by decide +kernel) rfl rfl (Nat.le_of_ble_eq_true rfl) dX4_about_22 (fun H locs hP hD hS => ?_)
  have hP : va_P G.1 vwCl [(o, .inr (4, mF ad sz1 osz (nI 0) hsz)), (ad 4, .inl (G.2.1 1, 9, .inl kf)), (ad 7, .inl (G.2.1 1, 9, .inl ff)), (ad 5, .inl (G.2.1 2, 72, .inr (.inl sf))), (ad 6, .inl (G.2.1 1, 1152, .inl bf)), (ad 8, .inl (G.2.1 2, 9, .inr (.inl tf))), (ad 24, .inl (G.2.1 1, 64, .inl nf)), (ad 25, .inl (G.2.1 2, 80, .inr (.inl df))), (ad 2, .inl (G.2.1 2, 80, .inr (.inl cf))), (ad 9, .inl (G.2.1 3, 4, .inl gb)), (ad 10, .inl (G.2.1 3, 4, .inl gc)), (ad 11, .inl (G.2.1 3, 4, .inl ge)), (ad 12, .inl (G.2.1 2, 4, .inr (.inl mf))), (ad 13, .inl (G.2.1 1, 512, .inl ys))] H := hP
  have hD : va_D A [(o, .inr (4, mF ad sz1 osz (nI 0) hsz)), (ad 4, .inl (G.2.1 1, 9, .inl kf)), (ad 7, .inl (G.2.1 1, 9, .inl ff)), (ad 5, .inl (G.2.1 2, 72, .inr (.inl sf))), (ad 6, .inl (G.2.1 1, 1152, .inl bf)), (ad 8, .inl (G.2.1 2, 9, .inr (.inl tf))), (ad 24, .inl (G.2.1 1, 64, .inl nf)), (ad 25, .inl (G.2.1 2, 80, .inr (.inl df))), (ad 2, .inl (G.2.1 2, 80, .inr (.inl cf))), (ad 9, .inl (G.2.1 3, 4, .inl gb)), (ad 10, .inl (G.2.1 3, 4, .inl gc)), (ad 11, .inl (G.2.1 3, 4, .inl ge)), (ad 12, .inl (G.2.1 2, 4, .inr (.inl mf))), (ad 13, .inl (G.2.1 1, 512, .inl ys))] := hD
  refine lv_aload_n hx hb dX4_about_25 rfl (lv_at hl 0 rfl) ?_
  refine va_get (D := G.1) (ci := 4) (v := .int (nI 0)) (C := RX4) (T := TX4) (N := 29) hx hb htu iwX4 hown hK.1 hP 0 rfl rfl 20 (by decide) (htu _ uF_X4_95) (fun _ h9 => h9) rfl dX4_about_26 ?_
  refine lv_if_le (tgt := 34) hx hb dX4_about_29 (by decide) (fun _ => ?_) (fun c_29 => absurd (by decide) c_29)
  refine lv_aload_n hx hb dX4_about_34 rfl (lv_at hl 0 rfl) ?_
  refine va_get (D := G.1) (ci := 4) (v := .ref (ad 9)) (C := RX4) (T := TX4) (N := 29) hx hb htu iwX4 hown hK.1 hP 0 rfl rfl 9 (by decide) (htu _ uF_X4_35) (fun _ h9 => h9) rfl dX4_about_35 ?_
  refine lv_iload_n hx hb dX4_about_38 rfl (lv_at hl 1 rfl) ?_
  refine g_zald hx hb hK.1 hP 9 3 rfl rfl ⟨hs, by decide⟩ dX4_about_39 ?_
  refine g_toi (y := nI 1) ((slG hS9 hs hst).1) ?_
  refine lv_if_ne (tgt := 53) hx hb dX4_about_40 (by decide) (fun _ => ?_) (fun c_40 => absurd c_40 (by decide))
  refine lv_iload_n hx hb dX4_about_53 rfl (lv_at hl 2 rfl) ?_
  refine lv_if_ne (tgt := 66) hx hb dX4_about_54 (by decide) (fun c_54 => absurd (by decide) c_54) (fun _ => ?_)
  refine lv_aload_n hx hb dX4_about_57 rfl (lv_at hl 0 rfl) ?_
  refine va_get (D := G.1) (ci := 4) (v := .ref (ad 4)) (C := RX4) (T := TX4) (N := 29) hx hb htu iwX4 hown hK.1 hP 0 rfl rfl 4 (by decide) (htu _ uF_X4_20) (fun _ h9 => h9) rfl dX4_about_58 ?_
  refine lv_iload_n hx hb dX4_about_61 rfl (lv_at hl 1 rfl) ?_
  refine g_iald hx hb hK.1 hP 1 1 rfl rfl ⟨by omega, by decide⟩ dX4_about_62 ?_
  refine lv_goto (tgt := 116) hx hb dX4_about_63 (by decide) ?_
  exact gret_i hx hb hr hlk dX4_about_116 hS () (hP.sub [0, 1, 2, 3, 4, 5, 6, 7, 8, 9, 10, 11, 12, 13] rfl) (hD.sub [0, 1, 2, 3, 4, 5, 6, 7, 8, 9, 10, 11, 12, 13] (by decide) rfl) (by rw [hst]; exact ((slG hS9 hs hst).2 rfl).2.2.2.1.2.1)
set_option maxHeartbeats 4000000 in
set_option maxRecDepth 100000 in
theorem c_X4_about1N (l : Launch) (G : GW) (sz : Nat) (o : Nat) (ad : Nat → Nat) (sz1 : Int32) (osz : Int32) (th : Int32) (hsz : Int32) (sl : Nat) (kf : Nat → Int32) (ff : Nat → Int32) (sf : Nat → Int64) (bf : Nat → Int32) (tf : Nat → Int64) (nf : Nat → Int32) (df : Nat → Int64) (cf : Nat → Int64) (gb : Nat → Int32) (gc : Nat → Int32) (ge : Nat → Int32) (mf : Nat → Int64) (ys : Nat → Int32) (st : Nat → SA) (hs : sl < 4) (hS9 : StmR (kf, ff, sf, bf, tf) gb gc ge mf ys st) (hst : (st sl).1 = false) : Met l yX4_about (Cond.code yX4_about cX4_about 3 (some FieldType.int) :: UW) ({ frames := 1, cells := 0, slots := 0, locals := 20 } : Room) (va_Pc [.ref o, .int (nI sl), .int (nI 1)] (gPre G [(o, .inr (4, mF ad sz1 osz th hsz)), (ad 4, .inl (G.2.1 1, 9, .inl kf)), (ad 7, .inl (G.2.1 1, 9, .inl ff)), (ad 5, .inl (G.2.1 2, 72, .inr (.inl sf))), (ad 6, .inl (G.2.1 1, 1152, .inl bf)), (ad 8, .inl (G.2.1 2, 9, .inr (.inl tf))), (ad 24, .inl (G.2.1 1, 64, .inl nf)), (ad 25, .inl (G.2.1 2, 80, .inr (.inl df))), (ad 2, .inl (G.2.1 2, 80, .inr (.inl cf))), (ad 9, .inl (G.2.1 3, 4, .inl gb)), (ad 10, .inl (G.2.1 3, 4, .inl gc)), (ad 11, .inl (G.2.1 3, 4, .inl ge)), (ad 12, .inl (G.2.1 2, 4, .inr (.inl mf))), (ad 13, .inl (G.2.1 1, 512, .inl ys))] sz)) (va_Qi (fun (r : Int32) (_ : Unit) => r = abQ (st sl) 1) (fun u => gPost G (va_A [(o, .inr (4, mF ad sz1 osz th hsz)), (ad 4, .inl (G.2.1 1, 9, .inl kf)), (ad 7, .inl (G.2.1 1, 9, .inl ff)), (ad 5, .inl (G.2.1 2, 72, .inr (.inl sf))), (ad 6, .inl (G.2.1 1, 1152, .inl bf)), (ad 8, .inl (G.2.1 2, 9, .inr (.inl tf))), (ad 24, .inl (G.2.1 1, 64, .inl nf)), (ad 25, .inl (G.2.1 2, 80, .inr (.inl df))), (ad 2, .inl (G.2.1 2, 80, .inr (.inl cf))), (ad 9, .inl (G.2.1 3, 4, .inl gb)), (ad 10, .inl (G.2.1 3, 4, .inl gc)), (ad 11, .inl (G.2.1 3, 4, .inl ge)), (ad 12, .inl (G.2.1 2, 4, .inr (.inl mf))), (ad 13, .inl (G.2.1 1, 512, .inl ys))] sz) ((fun (_ : Unit) => ([(o, .inr (4, mF ad sz1 osz (nI 0) hsz)), (ad 4, .inl (G.2.1 1, 9, .inl kf)), (ad 7, .inl (G.2.1 1, 9, .inl ff)), (ad 5, .inl (G.2.1 2, 72, .inr (.inl sf))), (ad 6, .inl (G.2.1 1, 1152, .inl bf)), (ad 8, .inl (G.2.1 2, 9, .inr (.inl tf))), (ad 24, .inl (G.2.1 1, 64, .inl nf)), (ad 25, .inl (G.2.1 2, 80, .inr (.inl df))), (ad 2, .inl (G.2.1 2, 80, .inr (.inl cf))), (ad 9, .inl (G.2.1 3, 4, .inl gb)), (ad 10, .inl (G.2.1 3, 4, .inl gc)), (ad 11, .inl (G.2.1 3, 4, .inl ge)), (ad 12, .inl (G.2.1 2, 4, .inr (.inl mf))), (ad 13, .inl (G.2.1 1, 512, .inl ys))] : va_W)) u)) (va_A [(o, .inr (4, mF ad sz1 osz th hsz)), (ad 4, .inl (G.2.1 1, 9, .inl kf)), (ad 7, .inl (G.2.1 1, 9, .inl ff)), (ad 5, .inl (G.2.1 2, 72, .inr (.inl sf))), (ad 6, .inl (G.2.1 1, 1152, .inl bf)), (ad 8, .inl (G.2.1 2, 9, .inr (.inl tf))), (ad 24, .inl (G.2.1 1, 64, .inl nf)), (ad 25, .inl (G.2.1 2, 80, .inr (.inl df))), (ad 2, .inl (G.2.1 2, 80, .inr (.inl cf))), (ad 9, .inl (G.2.1 3, 4, .inl gb)), (ad 10, .inl (G.2.1 3, 4, .inl gc)), (ad 11, .inl (G.2.1 3, 4, .inl ge)), (ad 12, .inl (G.2.1 2, 4, .inr (.inl mf))), (ad 13, .inl (G.2.1 1, 512, .inl ys))] sz)) 0 0 (va_A [(o, .inr (4, mF ad sz1 osz th hsz)), (ad 4, .inl (G.2.1 1, 9, .inl kf)), (ad 7, .inl (G.2.1 1, 9, .inl ff)), (ad 5, .inl (G.2.1 2, 72, .inr (.inl sf))), (ad 6, .inl (G.2.1 1, 1152, .inl bf)), (ad 8, .inl (G.2.1 2, 9, .inr (.inl tf))), (ad 24, .inl (G.2.1 1, 64, .inl nf)), (ad 25, .inl (G.2.1 2, 80, .inr (.inl df))), (ad 2, .inl (G.2.1 2, 80, .inr (.inl cf))), (ad 9, .inl (G.2.1 3, 4, .inl gb)), (ad 10, .inl (G.2.1 3, 4, .inl gc)), (ad 11, .inl (G.2.1 3, 4, .inl ge)), (ad 12, .inl (G.2.1 2, 4, .inr (.inl mf))), (ad 13, .inl (G.2.1 1, 512, .inl ys))] sz) := by
  refine gM_of (Qf := fun A => va_Qi (fun (r : Int32) (_ : Unit) => r = abQ (st sl) 1) (fun u => gPost G A ((fun (_ : Unit) => ([(o, .inr (4, mF ad sz1 osz (nI 0) hsz)), (ad 4, .inl (G.2.1 1, 9, .inl kf)), (ad 7, .inl (G.2.1 1, 9, .inl ff)), (ad 5, .inl (G.2.1 2, 72, .inr (.inl sf))), (ad 6, .inl (G.2.1 1, 1152, .inl bf)), (ad 8, .inl (G.2.1 2, 9, .inr (.inl tf))), (ad 24, .inl (G.2.1 1, 64, .inl nf)), (ad 25, .inl (G.2.1 2, 80, .inr (.inl df))), (ad 2, .inl (G.2.1 2, 80, .inr (.inl cf))), (ad 9, .inl (G.2.1 3, 4, .inl gb)), (ad 10, .inl (G.2.1 3, 4, .inl gc)), (ad 11, .inl (G.2.1 3, 4, .inl ge)), (ad 12, .inl (G.2.1 2, 4, .inr (.inl mf))), (ad 13, .inl (G.2.1 1, 512, .inl ys))] : va_W)) u)) A) (by decide) (Nat.le_of_ble_eq_true rfl) ?_
  intro p e s m below meth c A ls hx hb hml hr hown htu hlk hnm hA hP hD hS hK hZ hl
  have hown : s.vm.findClass RX4 = some m.cls := hown
  have hl : lv_has ls 3 [(0, .ref o), (1, .int (nI sl)), (2, .int (nI 1))] := hl
  refine lv_aload_n hx hb dX4_about_0 rfl (lv_at hl 0 rfl) ?_
  refine lv_iload_n hx hb dX4_about_1 rfl (lv_at hl 1 rfl) ?_
  refine g_calli (g_runS (As := [.int (nI sl)]) (rest := [.ref o]) ⟨hx, hb, hml, hown, htu⟩ (c_X4_noStream l G _ (nI sl) ) uM_X4_174 ok_X4_noStream uA_X4_noStream rfl rfl ⟨Nat.le_of_ble_eq_true rfl, Nat.le_of_ble_eq_true rfl⟩ hK hP hD hS hA hZ [] rfl rfl rfl hl.1 rfl (Nat.le_of_ble_eq_true rfl) dX4_about_2 ⟨Nat.le_of_ble_eq_true rfl, Nat.le_of_ble_eq_true rfl⟩) hP hD hS hA [] rfl (fun r_1 u H locs hw_2 hP hD hS => ?_)
  have hw_2 : r_1 = nsI (nI sl) := hw_2
  subst hw_2
  have hP : va_P G.1 vwCl [(o, .inr (4, mF ad sz1 osz th hsz)), (ad 4, .inl (G.2.1 1, 9, .inl kf)), (ad 7, .inl (G.2.1 1, 9, .inl ff)), (ad 5, .inl (G.2.1 2, 72, .inr (.inl sf))), (ad 6, .inl (G.2.1 1, 1152, .inl bf)), (ad 8, .inl (G.2.1 2, 9, .inr (.inl tf))), (ad 24, .inl (G.2.1 1, 64, .inl nf)), (ad 25, .inl (G.2.1 2, 80, .inr (.inl df))), (ad 2, .inl (G.2.1 2, 80, .inr (.inl cf))), (ad 9, .inl (G.2.1 3, 4, .inl gb)), (ad 10, .inl (G.2.1 3, 4, .inl gc)), (ad 11, .inl (G.2.1 3, 4, .inl ge)), (ad 12, .inl (G.2.1 2, 4, .inr (.inl mf))), (ad 13, .inl (G.2.1 1, 512, .inl ys))] H := hP
  have hD : va_D A [(o, .inr (4, mF ad sz1 osz th hsz)), (ad 4, .inl (G.2.1 1, 9, .inl kf)), (ad 7, .inl (G.2.1 1, 9, .inl ff)), (ad 5, .inl (G.2.1 2, 72, .inr (.inl sf))), (ad 6, .inl (G.2.1 1, 1152, .inl bf)), (ad 8, .inl (G.2.1 2, 9, .inr (.inl tf))), (ad 24, .inl (G.2.1 1, 64, .inl nf)), (ad 25, .inl (G.2.1 2, 80, .inr (.inl df))), (ad 2, .inl (G.2.1 2, 80, .inr (.inl cf))), (ad 9, .inl (G.2.1 3, 4, .inl gb)), (ad 10, .inl (G.2.1 3, 4, .inl gc)), (ad 11, .inl (G.2.1 3, 4, .inl ge)), (ad 12, .inl (G.2.1 2, 4, .inr (.inl mf))), (ad 13, .inl (G.2.1 1, 512, .inl ys))] := hD
  refine g_toi (y := nI 0) (nsI_nI hs) ?_
  refine lv_if_ne (tgt := 17) hx hb dX4_about_5 (by decide) (fun c_5 => absurd (by decide) c_5) (fun _ => ?_)
  refine lv_iload_n hx hb dX4_about_8 rfl (lv_at hl 2 rfl) ?_
  refine lv_if_lt (tgt := 17) hx hb dX4_about_9 (by decide) (fun c_9 => absurd c_9 (by decide)) (fun _ => ?_)
  refine lv_iload_n hx hb dX4_about_12 rfl (lv_at hl 2 rfl) ?_
  refine lv_iconst (v := nI 3) hx hb dX4_about_13 (by decide) ?_
  refine lv_icmp_le (tgt := 21) hx hb dX4_about_14 (by decide) (fun _ => ?_) (fun c_14 => absurd (by decide) c_14)
  refine lv_iconst (v := nI 0) hx hb dX4_about_21 (by decide) ?_
  refine va_put (D := G.1) (ci := 4) (v := .int (nI 0)) (ty := .int) (C := RX4) (T := TX4) (N := 29) hx hb htu iwX4 tyX4 tyX4_ok nmX4 hown hK.1 hP hD hS 0 rfl rfl 20 (by decide) (htu _ uF_X4_95) (fun _ h9 => h9) rfl (by decide +kernel) rfl rfl (Nat.le_of_ble_eq_true rfl) dX4_about_22 (fun H locs hP hD hS => ?_)
  have hP : va_P G.1 vwCl [(o, .inr (4, mF ad sz1 osz (nI 0) hsz)), (ad 4, .inl (G.2.1 1, 9, .inl kf)), (ad 7, .inl (G.2.1 1, 9, .inl ff)), (ad 5, .inl (G.2.1 2, 72, .inr (.inl sf))), (ad 6, .inl (G.2.1 1, 1152, .inl bf)), (ad 8, .inl (G.2.1 2, 9, .inr (.inl tf))), (ad 24, .inl (G.2.1 1, 64, .inl nf)), (ad 25, .inl (G.2.1 2, 80, .inr (.inl df))), (ad 2, .inl (G.2.1 2, 80, .inr (.inl cf))), (ad 9, .inl (G.2.1 3, 4, .inl gb)), (ad 10, .inl (G.2.1 3, 4, .inl gc)), (ad 11, .inl (G.2.1 3, 4, .inl ge)), (ad 12, .inl (G.2.1 2, 4, .inr (.inl mf))), (ad 13, .inl (G.2.1 1, 512, .inl ys))] H := hP
  have hD : va_D A [(o, .inr (4, mF ad sz1 osz (nI 0) hsz)), (ad 4, .inl (G.2.1 1, 9, .inl kf)), (ad 7, .inl (G.2.1 1, 9, .inl ff)), (ad 5, .inl (G.2.1 2, 72, .inr (.inl sf))), (ad 6, .inl (G.2.1 1, 1152, .inl bf)), (ad 8, .inl (G.2.1 2, 9, .inr (.inl tf))), (ad 24, .inl (G.2.1 1, 64, .inl nf)), (ad 25, .inl (G.2.1 2, 80, .inr (.inl df))), (ad 2, .inl (G.2.1 2, 80, .inr (.inl cf))), (ad 9, .inl (G.2.1 3, 4, .inl gb)), (ad 10, .inl (G.2.1 3, 4, .inl gc)), (ad 11, .inl (G.2.1 3, 4, .inl ge)), (ad 12, .inl (G.2.1 2, 4, .inr (.inl mf))), (ad 13, .inl (G.2.1 1, 512, .inl ys))] := hD
  refine lv_aload_n hx hb dX4_about_25 rfl (lv_at hl 0 rfl) ?_
  refine va_get (D := G.1) (ci := 4) (v := .int (nI 0)) (C := RX4) (T := TX4) (N := 29) hx hb htu iwX4 hown hK.1 hP 0 rfl rfl 20 (by decide) (htu _ uF_X4_95) (fun _ h9 => h9) rfl dX4_about_26 ?_
  refine lv_if_le (tgt := 34) hx hb dX4_about_29 (by decide) (fun _ => ?_) (fun c_29 => absurd (by decide) c_29)
  refine lv_aload_n hx hb dX4_about_34 rfl (lv_at hl 0 rfl) ?_
  refine va_get (D := G.1) (ci := 4) (v := .ref (ad 9)) (C := RX4) (T := TX4) (N := 29) hx hb htu iwX4 hown hK.1 hP 0 rfl rfl 9 (by decide) (htu _ uF_X4_35) (fun _ h9 => h9) rfl dX4_about_35 ?_
  refine lv_iload_n hx hb dX4_about_38 rfl (lv_at hl 1 rfl) ?_
  refine g_zald hx hb hK.1 hP 9 3 rfl rfl ⟨hs, by decide⟩ dX4_about_39 ?_
  refine g_toi (y := nI 0) (by have h2 := (hS9 sl hs).1; rw [hst] at h2; exact h2) ?_
  refine lv_if_ne (tgt := 53) hx hb dX4_about_40 (by decide) (fun c_40 => absurd (by decide) c_40) (fun _ => ?_)
  refine lv_iload_n hx hb dX4_about_43 rfl (lv_at hl 2 rfl) ?_
  refine lv_if_ne (tgt := 51) hx hb dX4_about_44 (by decide) (fun _ => ?_) (fun c_44 => absurd c_44 (by decide))
  refine lv_iconst (v := nI 0) hx hb dX4_about_51 (by decide) ?_
  exact gret_i hx hb hr hlk dX4_about_52 hS () (hP.sub [0, 1, 2, 3, 4, 5, 6, 7, 8, 9, 10, 11, 12, 13] rfl) (hD.sub [0, 1, 2, 3, 4, 5, 6, 7, 8, 9, 10, 11, 12, 13] (by decide) rfl) (by unfold abQ; rw [hst]; rfl)
set_option maxHeartbeats 4000000 in
set_option maxRecDepth 100000 in
theorem c_X4_about1B (l : Launch) (G : GW) (sz : Nat) (o : Nat) (ad : Nat → Nat) (sz1 : Int32) (osz : Int32) (th : Int32) (hsz : Int32) (sl : Nat) (k : Nat) (cd : Bool) (ed : Bool) (T : Nat) (h : HS) (kq : List Nat) (kf : Nat → Int32) (ff : Nat → Int32) (sf : Nat → Int64) (bf : Nat → Int32) (tf : Nat → Int64) (nf : Nat → Int32) (df : Nat → Int64) (cf : Nat → Int64) (gb : Nat → Int32) (gc : Nat → Int32) (ge : Nat → Int32) (mf : Nat → Int64) (ys : Nat → Int32) (st : Nat → SA) (hs : sl < 4) (hS9 : StmR (kf, ff, sf, bf, tf) gb gc ge mf ys st) (hst : st sl = (true, k, cd, ed, T, h, kq)) : Met l yX4_about (Cond.code yX4_about cX4_about 3 (some FieldType.int) :: UW) ({ frames := 1, cells := 0, slots := 0, locals := 20 } : Room) (va_Pc [.ref o, .int (nI sl), .int (nI 1)] (gPre G [(o, .inr (4, mF ad sz1 osz th hsz)), (ad 4, .inl (G.2.1 1, 9, .inl kf)), (ad 7, .inl (G.2.1 1, 9, .inl ff)), (ad 5, .inl (G.2.1 2, 72, .inr (.inl sf))), (ad 6, .inl (G.2.1 1, 1152, .inl bf)), (ad 8, .inl (G.2.1 2, 9, .inr (.inl tf))), (ad 24, .inl (G.2.1 1, 64, .inl nf)), (ad 25, .inl (G.2.1 2, 80, .inr (.inl df))), (ad 2, .inl (G.2.1 2, 80, .inr (.inl cf))), (ad 9, .inl (G.2.1 3, 4, .inl gb)), (ad 10, .inl (G.2.1 3, 4, .inl gc)), (ad 11, .inl (G.2.1 3, 4, .inl ge)), (ad 12, .inl (G.2.1 2, 4, .inr (.inl mf))), (ad 13, .inl (G.2.1 1, 512, .inl ys))] sz)) (va_Qi (fun (r : Int32) (_ : Unit) => r = abQ (st sl) 1) (fun u => gPost G (va_A [(o, .inr (4, mF ad sz1 osz th hsz)), (ad 4, .inl (G.2.1 1, 9, .inl kf)), (ad 7, .inl (G.2.1 1, 9, .inl ff)), (ad 5, .inl (G.2.1 2, 72, .inr (.inl sf))), (ad 6, .inl (G.2.1 1, 1152, .inl bf)), (ad 8, .inl (G.2.1 2, 9, .inr (.inl tf))), (ad 24, .inl (G.2.1 1, 64, .inl nf)), (ad 25, .inl (G.2.1 2, 80, .inr (.inl df))), (ad 2, .inl (G.2.1 2, 80, .inr (.inl cf))), (ad 9, .inl (G.2.1 3, 4, .inl gb)), (ad 10, .inl (G.2.1 3, 4, .inl gc)), (ad 11, .inl (G.2.1 3, 4, .inl ge)), (ad 12, .inl (G.2.1 2, 4, .inr (.inl mf))), (ad 13, .inl (G.2.1 1, 512, .inl ys))] sz) ((fun (_ : Unit) => ([(o, .inr (4, mF ad sz1 osz (nI 0) hsz)), (ad 4, .inl (G.2.1 1, 9, .inl kf)), (ad 7, .inl (G.2.1 1, 9, .inl ff)), (ad 5, .inl (G.2.1 2, 72, .inr (.inl sf))), (ad 6, .inl (G.2.1 1, 1152, .inl bf)), (ad 8, .inl (G.2.1 2, 9, .inr (.inl tf))), (ad 24, .inl (G.2.1 1, 64, .inl nf)), (ad 25, .inl (G.2.1 2, 80, .inr (.inl df))), (ad 2, .inl (G.2.1 2, 80, .inr (.inl cf))), (ad 9, .inl (G.2.1 3, 4, .inl gb)), (ad 10, .inl (G.2.1 3, 4, .inl gc)), (ad 11, .inl (G.2.1 3, 4, .inl ge)), (ad 12, .inl (G.2.1 2, 4, .inr (.inl mf))), (ad 13, .inl (G.2.1 1, 512, .inl ys))] : va_W)) u)) (va_A [(o, .inr (4, mF ad sz1 osz th hsz)), (ad 4, .inl (G.2.1 1, 9, .inl kf)), (ad 7, .inl (G.2.1 1, 9, .inl ff)), (ad 5, .inl (G.2.1 2, 72, .inr (.inl sf))), (ad 6, .inl (G.2.1 1, 1152, .inl bf)), (ad 8, .inl (G.2.1 2, 9, .inr (.inl tf))), (ad 24, .inl (G.2.1 1, 64, .inl nf)), (ad 25, .inl (G.2.1 2, 80, .inr (.inl df))), (ad 2, .inl (G.2.1 2, 80, .inr (.inl cf))), (ad 9, .inl (G.2.1 3, 4, .inl gb)), (ad 10, .inl (G.2.1 3, 4, .inl gc)), (ad 11, .inl (G.2.1 3, 4, .inl ge)), (ad 12, .inl (G.2.1 2, 4, .inr (.inl mf))), (ad 13, .inl (G.2.1 1, 512, .inl ys))] sz)) 0 0 (va_A [(o, .inr (4, mF ad sz1 osz th hsz)), (ad 4, .inl (G.2.1 1, 9, .inl kf)), (ad 7, .inl (G.2.1 1, 9, .inl ff)), (ad 5, .inl (G.2.1 2, 72, .inr (.inl sf))), (ad 6, .inl (G.2.1 1, 1152, .inl bf)), (ad 8, .inl (G.2.1 2, 9, .inr (.inl tf))), (ad 24, .inl (G.2.1 1, 64, .inl nf)), (ad 25, .inl (G.2.1 2, 80, .inr (.inl df))), (ad 2, .inl (G.2.1 2, 80, .inr (.inl cf))), (ad 9, .inl (G.2.1 3, 4, .inl gb)), (ad 10, .inl (G.2.1 3, 4, .inl gc)), (ad 11, .inl (G.2.1 3, 4, .inl ge)), (ad 12, .inl (G.2.1 2, 4, .inr (.inl mf))), (ad 13, .inl (G.2.1 1, 512, .inl ys))] sz) := by
  refine gM_of (Qf := fun A => va_Qi (fun (r : Int32) (_ : Unit) => r = abQ (st sl) 1) (fun u => gPost G A ((fun (_ : Unit) => ([(o, .inr (4, mF ad sz1 osz (nI 0) hsz)), (ad 4, .inl (G.2.1 1, 9, .inl kf)), (ad 7, .inl (G.2.1 1, 9, .inl ff)), (ad 5, .inl (G.2.1 2, 72, .inr (.inl sf))), (ad 6, .inl (G.2.1 1, 1152, .inl bf)), (ad 8, .inl (G.2.1 2, 9, .inr (.inl tf))), (ad 24, .inl (G.2.1 1, 64, .inl nf)), (ad 25, .inl (G.2.1 2, 80, .inr (.inl df))), (ad 2, .inl (G.2.1 2, 80, .inr (.inl cf))), (ad 9, .inl (G.2.1 3, 4, .inl gb)), (ad 10, .inl (G.2.1 3, 4, .inl gc)), (ad 11, .inl (G.2.1 3, 4, .inl ge)), (ad 12, .inl (G.2.1 2, 4, .inr (.inl mf))), (ad 13, .inl (G.2.1 1, 512, .inl ys))] : va_W)) u)) A) (by decide) (Nat.le_of_ble_eq_true rfl) ?_
  intro p e s m below meth c A ls hx hb hml hr hown htu hlk hnm hA hP hD hS hK hZ hl
  have hown : s.vm.findClass RX4 = some m.cls := hown
  have hl : lv_has ls 3 [(0, .ref o), (1, .int (nI sl)), (2, .int (nI 1))] := hl
  refine lv_aload_n hx hb dX4_about_0 rfl (lv_at hl 0 rfl) ?_
  refine lv_iload_n hx hb dX4_about_1 rfl (lv_at hl 1 rfl) ?_
  refine g_calli (g_runS (As := [.int (nI sl)]) (rest := [.ref o]) ⟨hx, hb, hml, hown, htu⟩ (c_X4_noStream l G _ (nI sl) ) uM_X4_174 ok_X4_noStream uA_X4_noStream rfl rfl ⟨Nat.le_of_ble_eq_true rfl, Nat.le_of_ble_eq_true rfl⟩ hK hP hD hS hA hZ [] rfl rfl rfl hl.1 rfl (Nat.le_of_ble_eq_true rfl) dX4_about_2 ⟨Nat.le_of_ble_eq_true rfl, Nat.le_of_ble_eq_true rfl⟩) hP hD hS hA [] rfl (fun r_1 u H locs hw_2 hP hD hS => ?_)
  have hw_2 : r_1 = nsI (nI sl) := hw_2
  subst hw_2
  have hP : va_P G.1 vwCl [(o, .inr (4, mF ad sz1 osz th hsz)), (ad 4, .inl (G.2.1 1, 9, .inl kf)), (ad 7, .inl (G.2.1 1, 9, .inl ff)), (ad 5, .inl (G.2.1 2, 72, .inr (.inl sf))), (ad 6, .inl (G.2.1 1, 1152, .inl bf)), (ad 8, .inl (G.2.1 2, 9, .inr (.inl tf))), (ad 24, .inl (G.2.1 1, 64, .inl nf)), (ad 25, .inl (G.2.1 2, 80, .inr (.inl df))), (ad 2, .inl (G.2.1 2, 80, .inr (.inl cf))), (ad 9, .inl (G.2.1 3, 4, .inl gb)), (ad 10, .inl (G.2.1 3, 4, .inl gc)), (ad 11, .inl (G.2.1 3, 4, .inl ge)), (ad 12, .inl (G.2.1 2, 4, .inr (.inl mf))), (ad 13, .inl (G.2.1 1, 512, .inl ys))] H := hP
  have hD : va_D A [(o, .inr (4, mF ad sz1 osz th hsz)), (ad 4, .inl (G.2.1 1, 9, .inl kf)), (ad 7, .inl (G.2.1 1, 9, .inl ff)), (ad 5, .inl (G.2.1 2, 72, .inr (.inl sf))), (ad 6, .inl (G.2.1 1, 1152, .inl bf)), (ad 8, .inl (G.2.1 2, 9, .inr (.inl tf))), (ad 24, .inl (G.2.1 1, 64, .inl nf)), (ad 25, .inl (G.2.1 2, 80, .inr (.inl df))), (ad 2, .inl (G.2.1 2, 80, .inr (.inl cf))), (ad 9, .inl (G.2.1 3, 4, .inl gb)), (ad 10, .inl (G.2.1 3, 4, .inl gc)), (ad 11, .inl (G.2.1 3, 4, .inl ge)), (ad 12, .inl (G.2.1 2, 4, .inr (.inl mf))), (ad 13, .inl (G.2.1 1, 512, .inl ys))] := hD
  refine g_toi (y := nI 0) (nsI_nI hs) ?_
  refine lv_if_ne (tgt := 17) hx hb dX4_about_5 (by decide) (fun c_5 => absurd (by decide) c_5) (fun _ => ?_)
  refine lv_iload_n hx hb dX4_about_8 rfl (lv_at hl 2 rfl) ?_
  refine lv_if_lt (tgt := 17) hx hb dX4_about_9 (by decide) (fun c_9 => absurd c_9 (by decide)) (fun _ => ?_)
  refine lv_iload_n hx hb dX4_about_12 rfl (lv_at hl 2 rfl) ?_
  refine lv_iconst (v := nI 3) hx hb dX4_about_13 (by decide) ?_
  refine lv_icmp_le (tgt := 21) hx hb dX4_about_14 (by decide) (fun _ => ?_) (fun c_14 => absurd (by decide) c_14)
  refine lv_iconst (v := nI 0) hx hb dX4_about_21 (by decide) ?_
  refine va_put (D := G.1) (ci := 4) (v := .int (nI 0)) (ty := .int) (C := RX4) (T := TX4) (N := 29) hx hb htu iwX4 tyX4 tyX4_ok nmX4 hown hK.1 hP hD hS 0 rfl rfl 20 (by decide) (htu _ uF_X4_95) (fun _ h9 => h9) rfl (by decide +kernel) rfl rfl (Nat.le_of_ble_eq_true rfl) dX4_about_22 (fun H locs hP hD hS => ?_)
  have hP : va_P G.1 vwCl [(o, .inr (4, mF ad sz1 osz (nI 0) hsz)), (ad 4, .inl (G.2.1 1, 9, .inl kf)), (ad 7, .inl (G.2.1 1, 9, .inl ff)), (ad 5, .inl (G.2.1 2, 72, .inr (.inl sf))), (ad 6, .inl (G.2.1 1, 1152, .inl bf)), (ad 8, .inl (G.2.1 2, 9, .inr (.inl tf))), (ad 24, .inl (G.2.1 1, 64, .inl nf)), (ad 25, .inl (G.2.1 2, 80, .inr (.inl df))), (ad 2, .inl (G.2.1 2, 80, .inr (.inl cf))), (ad 9, .inl (G.2.1 3, 4, .inl gb)), (ad 10, .inl (G.2.1 3, 4, .inl gc)), (ad 11, .inl (G.2.1 3, 4, .inl ge)), (ad 12, .inl (G.2.1 2, 4, .inr (.inl mf))), (ad 13, .inl (G.2.1 1, 512, .inl ys))] H := hP
  have hD : va_D A [(o, .inr (4, mF ad sz1 osz (nI 0) hsz)), (ad 4, .inl (G.2.1 1, 9, .inl kf)), (ad 7, .inl (G.2.1 1, 9, .inl ff)), (ad 5, .inl (G.2.1 2, 72, .inr (.inl sf))), (ad 6, .inl (G.2.1 1, 1152, .inl bf)), (ad 8, .inl (G.2.1 2, 9, .inr (.inl tf))), (ad 24, .inl (G.2.1 1, 64, .inl nf)), (ad 25, .inl (G.2.1 2, 80, .inr (.inl df))), (ad 2, .inl (G.2.1 2, 80, .inr (.inl cf))), (ad 9, .inl (G.2.1 3, 4, .inl gb)), (ad 10, .inl (G.2.1 3, 4, .inl gc)), (ad 11, .inl (G.2.1 3, 4, .inl ge)), (ad 12, .inl (G.2.1 2, 4, .inr (.inl mf))), (ad 13, .inl (G.2.1 1, 512, .inl ys))] := hD
  refine lv_aload_n hx hb dX4_about_25 rfl (lv_at hl 0 rfl) ?_
  refine va_get (D := G.1) (ci := 4) (v := .int (nI 0)) (C := RX4) (T := TX4) (N := 29) hx hb htu iwX4 hown hK.1 hP 0 rfl rfl 20 (by decide) (htu _ uF_X4_95) (fun _ h9 => h9) rfl dX4_about_26 ?_
  refine lv_if_le (tgt := 34) hx hb dX4_about_29 (by decide) (fun _ => ?_) (fun c_29 => absurd (by decide) c_29)
  refine lv_aload_n hx hb dX4_about_34 rfl (lv_at hl 0 rfl) ?_
  refine va_get (D := G.1) (ci := 4) (v := .ref (ad 9)) (C := RX4) (T := TX4) (N := 29) hx hb htu iwX4 hown hK.1 hP 0 rfl rfl 9 (by decide) (htu _ uF_X4_35) (fun _ h9 => h9) rfl dX4_about_35 ?_
  refine lv_iload_n hx hb dX4_about_38 rfl (lv_at hl 1 rfl) ?_
  refine g_zald hx hb hK.1 hP 9 3 rfl rfl ⟨hs, by decide⟩ dX4_about_39 ?_
  refine g_toi (y := nI 1) ((slG hS9 hs hst).1) ?_
  refine lv_if_ne (tgt := 53) hx hb dX4_about_40 (by decide) (fun _ => ?_) (fun c_40 => absurd c_40 (by decide))
  refine lv_iload_n hx hb dX4_about_53 rfl (lv_at hl 2 rfl) ?_
  refine lv_if_ne (tgt := 66) hx hb dX4_about_54 (by decide) (fun _ => ?_) (fun c_54 => absurd c_54 (by decide))
  refine lv_iload_n hx hb dX4_about_66 rfl (lv_at hl 2 rfl) ?_
  refine lv_iconst (v := nI 1) hx hb dX4_about_67 (by decide) ?_
  refine lv_icmp_ne (tgt := 88) hx hb dX4_about_68 (by decide) (fun c_68 => absurd (by decide) c_68) (fun _ => ?_)
  refine lv_aload_n hx hb dX4_about_71 rfl (lv_at hl 0 rfl) ?_
  refine va_get (D := G.1) (ci := 4) (v := .ref (ad 10)) (C := RX4) (T := TX4) (N := 29) hx hb htu iwX4 hown hK.1 hP 0 rfl rfl 10 (by decide) (htu _ uF_X4_39) (fun _ h9 => h9) rfl dX4_about_72 ?_
  refine lv_iload_n hx hb dX4_about_75 rfl (lv_at hl 1 rfl) ?_
  refine g_zald hx hb hK.1 hP 10 3 rfl rfl ⟨hs, by decide⟩ dX4_about_76 ?_
  refine lv_if_eq (tgt := 84) hx hb dX4_about_77 (by decide) (fun c_77 => ?_) (fun c_77 => ?_)
  · skip
    refine lv_iconst (v := nI 0) hx hb dX4_about_84 (by decide) ?_
    refine lv_goto (tgt := 116) hx hb dX4_about_85 (by decide) ?_
    exact gret_i hx hb hr hlk dX4_about_116 hS () (hP.sub [0, 1, 2, 3, 4, 5, 6, 7, 8, 9, 10, 11, 12, 13] rfl) (hD.sub [0, 1, 2, 3, 4, 5, 6, 7, 8, 9, 10, 11, 12, 13] (by decide) rfl) (by rw [hst]; rw [((slG hS9 hs hst).2 rfl).1] at c_77; exact abF0 c_77)
  · skip
    refine lv_iconst (v := nI 1) hx hb dX4_about_80 (by decide) ?_
    refine lv_goto (tgt := 116) hx hb dX4_about_81 (by decide) ?_
    exact gret_i hx hb hr hlk dX4_about_116 hS () (hP.sub [0, 1, 2, 3, 4, 5, 6, 7, 8, 9, 10, 11, 12, 13] rfl) (hD.sub [0, 1, 2, 3, 4, 5, 6, 7, 8, 9, 10, 11, 12, 13] (by decide) rfl) (by rw [hst]; rw [((slG hS9 hs hst).2 rfl).1] at c_77; exact abF1 c_77)
set_option maxHeartbeats 4000000 in
set_option maxRecDepth 100000 in
theorem c_X4_about2N (l : Launch) (G : GW) (sz : Nat) (o : Nat) (ad : Nat → Nat) (sz1 : Int32) (osz : Int32) (th : Int32) (hsz : Int32) (sl : Nat) (kf : Nat → Int32) (ff : Nat → Int32) (sf : Nat → Int64) (bf : Nat → Int32) (tf : Nat → Int64) (nf : Nat → Int32) (df : Nat → Int64) (cf : Nat → Int64) (gb : Nat → Int32) (gc : Nat → Int32) (ge : Nat → Int32) (mf : Nat → Int64) (ys : Nat → Int32) (st : Nat → SA) (hs : sl < 4) (hS9 : StmR (kf, ff, sf, bf, tf) gb gc ge mf ys st) (hst : (st sl).1 = false) : Met l yX4_about (Cond.code yX4_about cX4_about 3 (some FieldType.int) :: UW) ({ frames := 1, cells := 0, slots := 0, locals := 20 } : Room) (va_Pc [.ref o, .int (nI sl), .int (nI 2)] (gPre G [(o, .inr (4, mF ad sz1 osz th hsz)), (ad 4, .inl (G.2.1 1, 9, .inl kf)), (ad 7, .inl (G.2.1 1, 9, .inl ff)), (ad 5, .inl (G.2.1 2, 72, .inr (.inl sf))), (ad 6, .inl (G.2.1 1, 1152, .inl bf)), (ad 8, .inl (G.2.1 2, 9, .inr (.inl tf))), (ad 24, .inl (G.2.1 1, 64, .inl nf)), (ad 25, .inl (G.2.1 2, 80, .inr (.inl df))), (ad 2, .inl (G.2.1 2, 80, .inr (.inl cf))), (ad 9, .inl (G.2.1 3, 4, .inl gb)), (ad 10, .inl (G.2.1 3, 4, .inl gc)), (ad 11, .inl (G.2.1 3, 4, .inl ge)), (ad 12, .inl (G.2.1 2, 4, .inr (.inl mf))), (ad 13, .inl (G.2.1 1, 512, .inl ys))] sz)) (va_Qi (fun (r : Int32) (_ : Unit) => r = abQ (st sl) 2) (fun u => gPost G (va_A [(o, .inr (4, mF ad sz1 osz th hsz)), (ad 4, .inl (G.2.1 1, 9, .inl kf)), (ad 7, .inl (G.2.1 1, 9, .inl ff)), (ad 5, .inl (G.2.1 2, 72, .inr (.inl sf))), (ad 6, .inl (G.2.1 1, 1152, .inl bf)), (ad 8, .inl (G.2.1 2, 9, .inr (.inl tf))), (ad 24, .inl (G.2.1 1, 64, .inl nf)), (ad 25, .inl (G.2.1 2, 80, .inr (.inl df))), (ad 2, .inl (G.2.1 2, 80, .inr (.inl cf))), (ad 9, .inl (G.2.1 3, 4, .inl gb)), (ad 10, .inl (G.2.1 3, 4, .inl gc)), (ad 11, .inl (G.2.1 3, 4, .inl ge)), (ad 12, .inl (G.2.1 2, 4, .inr (.inl mf))), (ad 13, .inl (G.2.1 1, 512, .inl ys))] sz) ((fun (_ : Unit) => ([(o, .inr (4, mF ad sz1 osz (nI 0) hsz)), (ad 4, .inl (G.2.1 1, 9, .inl kf)), (ad 7, .inl (G.2.1 1, 9, .inl ff)), (ad 5, .inl (G.2.1 2, 72, .inr (.inl sf))), (ad 6, .inl (G.2.1 1, 1152, .inl bf)), (ad 8, .inl (G.2.1 2, 9, .inr (.inl tf))), (ad 24, .inl (G.2.1 1, 64, .inl nf)), (ad 25, .inl (G.2.1 2, 80, .inr (.inl df))), (ad 2, .inl (G.2.1 2, 80, .inr (.inl cf))), (ad 9, .inl (G.2.1 3, 4, .inl gb)), (ad 10, .inl (G.2.1 3, 4, .inl gc)), (ad 11, .inl (G.2.1 3, 4, .inl ge)), (ad 12, .inl (G.2.1 2, 4, .inr (.inl mf))), (ad 13, .inl (G.2.1 1, 512, .inl ys))] : va_W)) u)) (va_A [(o, .inr (4, mF ad sz1 osz th hsz)), (ad 4, .inl (G.2.1 1, 9, .inl kf)), (ad 7, .inl (G.2.1 1, 9, .inl ff)), (ad 5, .inl (G.2.1 2, 72, .inr (.inl sf))), (ad 6, .inl (G.2.1 1, 1152, .inl bf)), (ad 8, .inl (G.2.1 2, 9, .inr (.inl tf))), (ad 24, .inl (G.2.1 1, 64, .inl nf)), (ad 25, .inl (G.2.1 2, 80, .inr (.inl df))), (ad 2, .inl (G.2.1 2, 80, .inr (.inl cf))), (ad 9, .inl (G.2.1 3, 4, .inl gb)), (ad 10, .inl (G.2.1 3, 4, .inl gc)), (ad 11, .inl (G.2.1 3, 4, .inl ge)), (ad 12, .inl (G.2.1 2, 4, .inr (.inl mf))), (ad 13, .inl (G.2.1 1, 512, .inl ys))] sz)) 0 0 (va_A [(o, .inr (4, mF ad sz1 osz th hsz)), (ad 4, .inl (G.2.1 1, 9, .inl kf)), (ad 7, .inl (G.2.1 1, 9, .inl ff)), (ad 5, .inl (G.2.1 2, 72, .inr (.inl sf))), (ad 6, .inl (G.2.1 1, 1152, .inl bf)), (ad 8, .inl (G.2.1 2, 9, .inr (.inl tf))), (ad 24, .inl (G.2.1 1, 64, .inl nf)), (ad 25, .inl (G.2.1 2, 80, .inr (.inl df))), (ad 2, .inl (G.2.1 2, 80, .inr (.inl cf))), (ad 9, .inl (G.2.1 3, 4, .inl gb)), (ad 10, .inl (G.2.1 3, 4, .inl gc)), (ad 11, .inl (G.2.1 3, 4, .inl ge)), (ad 12, .inl (G.2.1 2, 4, .inr (.inl mf))), (ad 13, .inl (G.2.1 1, 512, .inl ys))] sz) := by
  refine gM_of (Qf := fun A => va_Qi (fun (r : Int32) (_ : Unit) => r = abQ (st sl) 2) (fun u => gPost G A ((fun (_ : Unit) => ([(o, .inr (4, mF ad sz1 osz (nI 0) hsz)), (ad 4, .inl (G.2.1 1, 9, .inl kf)), (ad 7, .inl (G.2.1 1, 9, .inl ff)), (ad 5, .inl (G.2.1 2, 72, .inr (.inl sf))), (ad 6, .inl (G.2.1 1, 1152, .inl bf)), (ad 8, .inl (G.2.1 2, 9, .inr (.inl tf))), (ad 24, .inl (G.2.1 1, 64, .inl nf)), (ad 25, .inl (G.2.1 2, 80, .inr (.inl df))), (ad 2, .inl (G.2.1 2, 80, .inr (.inl cf))), (ad 9, .inl (G.2.1 3, 4, .inl gb)), (ad 10, .inl (G.2.1 3, 4, .inl gc)), (ad 11, .inl (G.2.1 3, 4, .inl ge)), (ad 12, .inl (G.2.1 2, 4, .inr (.inl mf))), (ad 13, .inl (G.2.1 1, 512, .inl ys))] : va_W)) u)) A) (by decide) (Nat.le_of_ble_eq_true rfl) ?_
  intro p e s m below meth c A ls hx hb hml hr hown htu hlk hnm hA hP hD hS hK hZ hl
  have hown : s.vm.findClass RX4 = some m.cls := hown
  have hl : lv_has ls 3 [(0, .ref o), (1, .int (nI sl)), (2, .int (nI 2))] := hl
  refine lv_aload_n hx hb dX4_about_0 rfl (lv_at hl 0 rfl) ?_
  refine lv_iload_n hx hb dX4_about_1 rfl (lv_at hl 1 rfl) ?_
  refine g_calli (g_runS (As := [.int (nI sl)]) (rest := [.ref o]) ⟨hx, hb, hml, hown, htu⟩ (c_X4_noStream l G _ (nI sl) ) uM_X4_174 ok_X4_noStream uA_X4_noStream rfl rfl ⟨Nat.le_of_ble_eq_true rfl, Nat.le_of_ble_eq_true rfl⟩ hK hP hD hS hA hZ [] rfl rfl rfl hl.1 rfl (Nat.le_of_ble_eq_true rfl) dX4_about_2 ⟨Nat.le_of_ble_eq_true rfl, Nat.le_of_ble_eq_true rfl⟩) hP hD hS hA [] rfl (fun r_1 u H locs hw_2 hP hD hS => ?_)
  have hw_2 : r_1 = nsI (nI sl) := hw_2
  subst hw_2
  have hP : va_P G.1 vwCl [(o, .inr (4, mF ad sz1 osz th hsz)), (ad 4, .inl (G.2.1 1, 9, .inl kf)), (ad 7, .inl (G.2.1 1, 9, .inl ff)), (ad 5, .inl (G.2.1 2, 72, .inr (.inl sf))), (ad 6, .inl (G.2.1 1, 1152, .inl bf)), (ad 8, .inl (G.2.1 2, 9, .inr (.inl tf))), (ad 24, .inl (G.2.1 1, 64, .inl nf)), (ad 25, .inl (G.2.1 2, 80, .inr (.inl df))), (ad 2, .inl (G.2.1 2, 80, .inr (.inl cf))), (ad 9, .inl (G.2.1 3, 4, .inl gb)), (ad 10, .inl (G.2.1 3, 4, .inl gc)), (ad 11, .inl (G.2.1 3, 4, .inl ge)), (ad 12, .inl (G.2.1 2, 4, .inr (.inl mf))), (ad 13, .inl (G.2.1 1, 512, .inl ys))] H := hP
  have hD : va_D A [(o, .inr (4, mF ad sz1 osz th hsz)), (ad 4, .inl (G.2.1 1, 9, .inl kf)), (ad 7, .inl (G.2.1 1, 9, .inl ff)), (ad 5, .inl (G.2.1 2, 72, .inr (.inl sf))), (ad 6, .inl (G.2.1 1, 1152, .inl bf)), (ad 8, .inl (G.2.1 2, 9, .inr (.inl tf))), (ad 24, .inl (G.2.1 1, 64, .inl nf)), (ad 25, .inl (G.2.1 2, 80, .inr (.inl df))), (ad 2, .inl (G.2.1 2, 80, .inr (.inl cf))), (ad 9, .inl (G.2.1 3, 4, .inl gb)), (ad 10, .inl (G.2.1 3, 4, .inl gc)), (ad 11, .inl (G.2.1 3, 4, .inl ge)), (ad 12, .inl (G.2.1 2, 4, .inr (.inl mf))), (ad 13, .inl (G.2.1 1, 512, .inl ys))] := hD
  refine g_toi (y := nI 0) (nsI_nI hs) ?_
  refine lv_if_ne (tgt := 17) hx hb dX4_about_5 (by decide) (fun c_5 => absurd (by decide) c_5) (fun _ => ?_)
  refine lv_iload_n hx hb dX4_about_8 rfl (lv_at hl 2 rfl) ?_
  refine lv_if_lt (tgt := 17) hx hb dX4_about_9 (by decide) (fun c_9 => absurd c_9 (by decide)) (fun _ => ?_)
  refine lv_iload_n hx hb dX4_about_12 rfl (lv_at hl 2 rfl) ?_
  refine lv_iconst (v := nI 3) hx hb dX4_about_13 (by decide) ?_
  refine lv_icmp_le (tgt := 21) hx hb dX4_about_14 (by decide) (fun _ => ?_) (fun c_14 => absurd (by decide) c_14)
  refine lv_iconst (v := nI 0) hx hb dX4_about_21 (by decide) ?_
  refine va_put (D := G.1) (ci := 4) (v := .int (nI 0)) (ty := .int) (C := RX4) (T := TX4) (N := 29) hx hb htu iwX4 tyX4 tyX4_ok nmX4 hown hK.1 hP hD hS 0 rfl rfl 20 (by decide) (htu _ uF_X4_95) (fun _ h9 => h9) rfl (by decide +kernel) rfl rfl (Nat.le_of_ble_eq_true rfl) dX4_about_22 (fun H locs hP hD hS => ?_)
  have hP : va_P G.1 vwCl [(o, .inr (4, mF ad sz1 osz (nI 0) hsz)), (ad 4, .inl (G.2.1 1, 9, .inl kf)), (ad 7, .inl (G.2.1 1, 9, .inl ff)), (ad 5, .inl (G.2.1 2, 72, .inr (.inl sf))), (ad 6, .inl (G.2.1 1, 1152, .inl bf)), (ad 8, .inl (G.2.1 2, 9, .inr (.inl tf))), (ad 24, .inl (G.2.1 1, 64, .inl nf)), (ad 25, .inl (G.2.1 2, 80, .inr (.inl df))), (ad 2, .inl (G.2.1 2, 80, .inr (.inl cf))), (ad 9, .inl (G.2.1 3, 4, .inl gb)), (ad 10, .inl (G.2.1 3, 4, .inl gc)), (ad 11, .inl (G.2.1 3, 4, .inl ge)), (ad 12, .inl (G.2.1 2, 4, .inr (.inl mf))), (ad 13, .inl (G.2.1 1, 512, .inl ys))] H := hP
  have hD : va_D A [(o, .inr (4, mF ad sz1 osz (nI 0) hsz)), (ad 4, .inl (G.2.1 1, 9, .inl kf)), (ad 7, .inl (G.2.1 1, 9, .inl ff)), (ad 5, .inl (G.2.1 2, 72, .inr (.inl sf))), (ad 6, .inl (G.2.1 1, 1152, .inl bf)), (ad 8, .inl (G.2.1 2, 9, .inr (.inl tf))), (ad 24, .inl (G.2.1 1, 64, .inl nf)), (ad 25, .inl (G.2.1 2, 80, .inr (.inl df))), (ad 2, .inl (G.2.1 2, 80, .inr (.inl cf))), (ad 9, .inl (G.2.1 3, 4, .inl gb)), (ad 10, .inl (G.2.1 3, 4, .inl gc)), (ad 11, .inl (G.2.1 3, 4, .inl ge)), (ad 12, .inl (G.2.1 2, 4, .inr (.inl mf))), (ad 13, .inl (G.2.1 1, 512, .inl ys))] := hD
  refine lv_aload_n hx hb dX4_about_25 rfl (lv_at hl 0 rfl) ?_
  refine va_get (D := G.1) (ci := 4) (v := .int (nI 0)) (C := RX4) (T := TX4) (N := 29) hx hb htu iwX4 hown hK.1 hP 0 rfl rfl 20 (by decide) (htu _ uF_X4_95) (fun _ h9 => h9) rfl dX4_about_26 ?_
  refine lv_if_le (tgt := 34) hx hb dX4_about_29 (by decide) (fun _ => ?_) (fun c_29 => absurd (by decide) c_29)
  refine lv_aload_n hx hb dX4_about_34 rfl (lv_at hl 0 rfl) ?_
  refine va_get (D := G.1) (ci := 4) (v := .ref (ad 9)) (C := RX4) (T := TX4) (N := 29) hx hb htu iwX4 hown hK.1 hP 0 rfl rfl 9 (by decide) (htu _ uF_X4_35) (fun _ h9 => h9) rfl dX4_about_35 ?_
  refine lv_iload_n hx hb dX4_about_38 rfl (lv_at hl 1 rfl) ?_
  refine g_zald hx hb hK.1 hP 9 3 rfl rfl ⟨hs, by decide⟩ dX4_about_39 ?_
  refine g_toi (y := nI 0) (by have h2 := (hS9 sl hs).1; rw [hst] at h2; exact h2) ?_
  refine lv_if_ne (tgt := 53) hx hb dX4_about_40 (by decide) (fun c_40 => absurd (by decide) c_40) (fun _ => ?_)
  refine lv_iload_n hx hb dX4_about_43 rfl (lv_at hl 2 rfl) ?_
  refine lv_if_ne (tgt := 51) hx hb dX4_about_44 (by decide) (fun _ => ?_) (fun c_44 => absurd c_44 (by decide))
  refine lv_iconst (v := nI 0) hx hb dX4_about_51 (by decide) ?_
  exact gret_i hx hb hr hlk dX4_about_52 hS () (hP.sub [0, 1, 2, 3, 4, 5, 6, 7, 8, 9, 10, 11, 12, 13] rfl) (hD.sub [0, 1, 2, 3, 4, 5, 6, 7, 8, 9, 10, 11, 12, 13] (by decide) rfl) (by unfold abQ; rw [hst]; rfl)
set_option maxHeartbeats 4000000 in
set_option maxRecDepth 100000 in
theorem c_X4_about2B (l : Launch) (G : GW) (sz : Nat) (o : Nat) (ad : Nat → Nat) (sz1 : Int32) (osz : Int32) (th : Int32) (hsz : Int32) (sl : Nat) (k : Nat) (cd : Bool) (ed : Bool) (T : Nat) (h : HS) (kq : List Nat) (kf : Nat → Int32) (ff : Nat → Int32) (sf : Nat → Int64) (bf : Nat → Int32) (tf : Nat → Int64) (nf : Nat → Int32) (df : Nat → Int64) (cf : Nat → Int64) (gb : Nat → Int32) (gc : Nat → Int32) (ge : Nat → Int32) (mf : Nat → Int64) (ys : Nat → Int32) (st : Nat → SA) (hs : sl < 4) (hS9 : StmR (kf, ff, sf, bf, tf) gb gc ge mf ys st) (hst : st sl = (true, k, cd, ed, T, h, kq)) : Met l yX4_about (Cond.code yX4_about cX4_about 3 (some FieldType.int) :: UW) ({ frames := 1, cells := 0, slots := 0, locals := 20 } : Room) (va_Pc [.ref o, .int (nI sl), .int (nI 2)] (gPre G [(o, .inr (4, mF ad sz1 osz th hsz)), (ad 4, .inl (G.2.1 1, 9, .inl kf)), (ad 7, .inl (G.2.1 1, 9, .inl ff)), (ad 5, .inl (G.2.1 2, 72, .inr (.inl sf))), (ad 6, .inl (G.2.1 1, 1152, .inl bf)), (ad 8, .inl (G.2.1 2, 9, .inr (.inl tf))), (ad 24, .inl (G.2.1 1, 64, .inl nf)), (ad 25, .inl (G.2.1 2, 80, .inr (.inl df))), (ad 2, .inl (G.2.1 2, 80, .inr (.inl cf))), (ad 9, .inl (G.2.1 3, 4, .inl gb)), (ad 10, .inl (G.2.1 3, 4, .inl gc)), (ad 11, .inl (G.2.1 3, 4, .inl ge)), (ad 12, .inl (G.2.1 2, 4, .inr (.inl mf))), (ad 13, .inl (G.2.1 1, 512, .inl ys))] sz)) (va_Qi (fun (r : Int32) (_ : Unit) => r = abQ (st sl) 2) (fun u => gPost G (va_A [(o, .inr (4, mF ad sz1 osz th hsz)), (ad 4, .inl (G.2.1 1, 9, .inl kf)), (ad 7, .inl (G.2.1 1, 9, .inl ff)), (ad 5, .inl (G.2.1 2, 72, .inr (.inl sf))), (ad 6, .inl (G.2.1 1, 1152, .inl bf)), (ad 8, .inl (G.2.1 2, 9, .inr (.inl tf))), (ad 24, .inl (G.2.1 1, 64, .inl nf)), (ad 25, .inl (G.2.1 2, 80, .inr (.inl df))), (ad 2, .inl (G.2.1 2, 80, .inr (.inl cf))), (ad 9, .inl (G.2.1 3, 4, .inl gb)), (ad 10, .inl (G.2.1 3, 4, .inl gc)), (ad 11, .inl (G.2.1 3, 4, .inl ge)), (ad 12, .inl (G.2.1 2, 4, .inr (.inl mf))), (ad 13, .inl (G.2.1 1, 512, .inl ys))] sz) ((fun (_ : Unit) => ([(o, .inr (4, mF ad sz1 osz (nI 0) hsz)), (ad 4, .inl (G.2.1 1, 9, .inl kf)), (ad 7, .inl (G.2.1 1, 9, .inl ff)), (ad 5, .inl (G.2.1 2, 72, .inr (.inl sf))), (ad 6, .inl (G.2.1 1, 1152, .inl bf)), (ad 8, .inl (G.2.1 2, 9, .inr (.inl tf))), (ad 24, .inl (G.2.1 1, 64, .inl nf)), (ad 25, .inl (G.2.1 2, 80, .inr (.inl df))), (ad 2, .inl (G.2.1 2, 80, .inr (.inl cf))), (ad 9, .inl (G.2.1 3, 4, .inl gb)), (ad 10, .inl (G.2.1 3, 4, .inl gc)), (ad 11, .inl (G.2.1 3, 4, .inl ge)), (ad 12, .inl (G.2.1 2, 4, .inr (.inl mf))), (ad 13, .inl (G.2.1 1, 512, .inl ys))] : va_W)) u)) (va_A [(o, .inr (4, mF ad sz1 osz th hsz)), (ad 4, .inl (G.2.1 1, 9, .inl kf)), (ad 7, .inl (G.2.1 1, 9, .inl ff)), (ad 5, .inl (G.2.1 2, 72, .inr (.inl sf))), (ad 6, .inl (G.2.1 1, 1152, .inl bf)), (ad 8, .inl (G.2.1 2, 9, .inr (.inl tf))), (ad 24, .inl (G.2.1 1, 64, .inl nf)), (ad 25, .inl (G.2.1 2, 80, .inr (.inl df))), (ad 2, .inl (G.2.1 2, 80, .inr (.inl cf))), (ad 9, .inl (G.2.1 3, 4, .inl gb)), (ad 10, .inl (G.2.1 3, 4, .inl gc)), (ad 11, .inl (G.2.1 3, 4, .inl ge)), (ad 12, .inl (G.2.1 2, 4, .inr (.inl mf))), (ad 13, .inl (G.2.1 1, 512, .inl ys))] sz)) 0 0 (va_A [(o, .inr (4, mF ad sz1 osz th hsz)), (ad 4, .inl (G.2.1 1, 9, .inl kf)), (ad 7, .inl (G.2.1 1, 9, .inl ff)), (ad 5, .inl (G.2.1 2, 72, .inr (.inl sf))), (ad 6, .inl (G.2.1 1, 1152, .inl bf)), (ad 8, .inl (G.2.1 2, 9, .inr (.inl tf))), (ad 24, .inl (G.2.1 1, 64, .inl nf)), (ad 25, .inl (G.2.1 2, 80, .inr (.inl df))), (ad 2, .inl (G.2.1 2, 80, .inr (.inl cf))), (ad 9, .inl (G.2.1 3, 4, .inl gb)), (ad 10, .inl (G.2.1 3, 4, .inl gc)), (ad 11, .inl (G.2.1 3, 4, .inl ge)), (ad 12, .inl (G.2.1 2, 4, .inr (.inl mf))), (ad 13, .inl (G.2.1 1, 512, .inl ys))] sz) := by
  refine gM_of (Qf := fun A => va_Qi (fun (r : Int32) (_ : Unit) => r = abQ (st sl) 2) (fun u => gPost G A ((fun (_ : Unit) => ([(o, .inr (4, mF ad sz1 osz (nI 0) hsz)), (ad 4, .inl (G.2.1 1, 9, .inl kf)), (ad 7, .inl (G.2.1 1, 9, .inl ff)), (ad 5, .inl (G.2.1 2, 72, .inr (.inl sf))), (ad 6, .inl (G.2.1 1, 1152, .inl bf)), (ad 8, .inl (G.2.1 2, 9, .inr (.inl tf))), (ad 24, .inl (G.2.1 1, 64, .inl nf)), (ad 25, .inl (G.2.1 2, 80, .inr (.inl df))), (ad 2, .inl (G.2.1 2, 80, .inr (.inl cf))), (ad 9, .inl (G.2.1 3, 4, .inl gb)), (ad 10, .inl (G.2.1 3, 4, .inl gc)), (ad 11, .inl (G.2.1 3, 4, .inl ge)), (ad 12, .inl (G.2.1 2, 4, .inr (.inl mf))), (ad 13, .inl (G.2.1 1, 512, .inl ys))] : va_W)) u)) A) (by decide) (Nat.le_of_ble_eq_true rfl) ?_
  intro p e s m below meth c A ls hx hb hml hr hown htu hlk hnm hA hP hD hS hK hZ hl
  have hown : s.vm.findClass RX4 = some m.cls := hown
  have hl : lv_has ls 3 [(0, .ref o), (1, .int (nI sl)), (2, .int (nI 2))] := hl
  refine lv_aload_n hx hb dX4_about_0 rfl (lv_at hl 0 rfl) ?_
  refine lv_iload_n hx hb dX4_about_1 rfl (lv_at hl 1 rfl) ?_
  refine g_calli (g_runS (As := [.int (nI sl)]) (rest := [.ref o]) ⟨hx, hb, hml, hown, htu⟩ (c_X4_noStream l G _ (nI sl) ) uM_X4_174 ok_X4_noStream uA_X4_noStream rfl rfl ⟨Nat.le_of_ble_eq_true rfl, Nat.le_of_ble_eq_true rfl⟩ hK hP hD hS hA hZ [] rfl rfl rfl hl.1 rfl (Nat.le_of_ble_eq_true rfl) dX4_about_2 ⟨Nat.le_of_ble_eq_true rfl, Nat.le_of_ble_eq_true rfl⟩) hP hD hS hA [] rfl (fun r_1 u H locs hw_2 hP hD hS => ?_)
  have hw_2 : r_1 = nsI (nI sl) := hw_2
  subst hw_2
  have hP : va_P G.1 vwCl [(o, .inr (4, mF ad sz1 osz th hsz)), (ad 4, .inl (G.2.1 1, 9, .inl kf)), (ad 7, .inl (G.2.1 1, 9, .inl ff)), (ad 5, .inl (G.2.1 2, 72, .inr (.inl sf))), (ad 6, .inl (G.2.1 1, 1152, .inl bf)), (ad 8, .inl (G.2.1 2, 9, .inr (.inl tf))), (ad 24, .inl (G.2.1 1, 64, .inl nf)), (ad 25, .inl (G.2.1 2, 80, .inr (.inl df))), (ad 2, .inl (G.2.1 2, 80, .inr (.inl cf))), (ad 9, .inl (G.2.1 3, 4, .inl gb)), (ad 10, .inl (G.2.1 3, 4, .inl gc)), (ad 11, .inl (G.2.1 3, 4, .inl ge)), (ad 12, .inl (G.2.1 2, 4, .inr (.inl mf))), (ad 13, .inl (G.2.1 1, 512, .inl ys))] H := hP
  have hD : va_D A [(o, .inr (4, mF ad sz1 osz th hsz)), (ad 4, .inl (G.2.1 1, 9, .inl kf)), (ad 7, .inl (G.2.1 1, 9, .inl ff)), (ad 5, .inl (G.2.1 2, 72, .inr (.inl sf))), (ad 6, .inl (G.2.1 1, 1152, .inl bf)), (ad 8, .inl (G.2.1 2, 9, .inr (.inl tf))), (ad 24, .inl (G.2.1 1, 64, .inl nf)), (ad 25, .inl (G.2.1 2, 80, .inr (.inl df))), (ad 2, .inl (G.2.1 2, 80, .inr (.inl cf))), (ad 9, .inl (G.2.1 3, 4, .inl gb)), (ad 10, .inl (G.2.1 3, 4, .inl gc)), (ad 11, .inl (G.2.1 3, 4, .inl ge)), (ad 12, .inl (G.2.1 2, 4, .inr (.inl mf))), (ad 13, .inl (G.2.1 1, 512, .inl ys))] := hD
  refine g_toi (y := nI 0) (nsI_nI hs) ?_
  refine lv_if_ne (tgt := 17) hx hb dX4_about_5 (by decide) (fun c_5 => absurd (by decide) c_5) (fun _ => ?_)
  refine lv_iload_n hx hb dX4_about_8 rfl (lv_at hl 2 rfl) ?_
  refine lv_if_lt (tgt := 17) hx hb dX4_about_9 (by decide) (fun c_9 => absurd c_9 (by decide)) (fun _ => ?_)
  refine lv_iload_n hx hb dX4_about_12 rfl (lv_at hl 2 rfl) ?_
  refine lv_iconst (v := nI 3) hx hb dX4_about_13 (by decide) ?_
  refine lv_icmp_le (tgt := 21) hx hb dX4_about_14 (by decide) (fun _ => ?_) (fun c_14 => absurd (by decide) c_14)
  refine lv_iconst (v := nI 0) hx hb dX4_about_21 (by decide) ?_
  refine va_put (D := G.1) (ci := 4) (v := .int (nI 0)) (ty := .int) (C := RX4) (T := TX4) (N := 29) hx hb htu iwX4 tyX4 tyX4_ok nmX4 hown hK.1 hP hD hS 0 rfl rfl 20 (by decide) (htu _ uF_X4_95) (fun _ h9 => h9) rfl (by decide +kernel) rfl rfl (Nat.le_of_ble_eq_true rfl) dX4_about_22 (fun H locs hP hD hS => ?_)
  have hP : va_P G.1 vwCl [(o, .inr (4, mF ad sz1 osz (nI 0) hsz)), (ad 4, .inl (G.2.1 1, 9, .inl kf)), (ad 7, .inl (G.2.1 1, 9, .inl ff)), (ad 5, .inl (G.2.1 2, 72, .inr (.inl sf))), (ad 6, .inl (G.2.1 1, 1152, .inl bf)), (ad 8, .inl (G.2.1 2, 9, .inr (.inl tf))), (ad 24, .inl (G.2.1 1, 64, .inl nf)), (ad 25, .inl (G.2.1 2, 80, .inr (.inl df))), (ad 2, .inl (G.2.1 2, 80, .inr (.inl cf))), (ad 9, .inl (G.2.1 3, 4, .inl gb)), (ad 10, .inl (G.2.1 3, 4, .inl gc)), (ad 11, .inl (G.2.1 3, 4, .inl ge)), (ad 12, .inl (G.2.1 2, 4, .inr (.inl mf))), (ad 13, .inl (G.2.1 1, 512, .inl ys))] H := hP
  have hD : va_D A [(o, .inr (4, mF ad sz1 osz (nI 0) hsz)), (ad 4, .inl (G.2.1 1, 9, .inl kf)), (ad 7, .inl (G.2.1 1, 9, .inl ff)), (ad 5, .inl (G.2.1 2, 72, .inr (.inl sf))), (ad 6, .inl (G.2.1 1, 1152, .inl bf)), (ad 8, .inl (G.2.1 2, 9, .inr (.inl tf))), (ad 24, .inl (G.2.1 1, 64, .inl nf)), (ad 25, .inl (G.2.1 2, 80, .inr (.inl df))), (ad 2, .inl (G.2.1 2, 80, .inr (.inl cf))), (ad 9, .inl (G.2.1 3, 4, .inl gb)), (ad 10, .inl (G.2.1 3, 4, .inl gc)), (ad 11, .inl (G.2.1 3, 4, .inl ge)), (ad 12, .inl (G.2.1 2, 4, .inr (.inl mf))), (ad 13, .inl (G.2.1 1, 512, .inl ys))] := hD
  refine lv_aload_n hx hb dX4_about_25 rfl (lv_at hl 0 rfl) ?_
  refine va_get (D := G.1) (ci := 4) (v := .int (nI 0)) (C := RX4) (T := TX4) (N := 29) hx hb htu iwX4 hown hK.1 hP 0 rfl rfl 20 (by decide) (htu _ uF_X4_95) (fun _ h9 => h9) rfl dX4_about_26 ?_
  refine lv_if_le (tgt := 34) hx hb dX4_about_29 (by decide) (fun _ => ?_) (fun c_29 => absurd (by decide) c_29)
  refine lv_aload_n hx hb dX4_about_34 rfl (lv_at hl 0 rfl) ?_
  refine va_get (D := G.1) (ci := 4) (v := .ref (ad 9)) (C := RX4) (T := TX4) (N := 29) hx hb htu iwX4 hown hK.1 hP 0 rfl rfl 9 (by decide) (htu _ uF_X4_35) (fun _ h9 => h9) rfl dX4_about_35 ?_
  refine lv_iload_n hx hb dX4_about_38 rfl (lv_at hl 1 rfl) ?_
  refine g_zald hx hb hK.1 hP 9 3 rfl rfl ⟨hs, by decide⟩ dX4_about_39 ?_
  refine g_toi (y := nI 1) ((slG hS9 hs hst).1) ?_
  refine lv_if_ne (tgt := 53) hx hb dX4_about_40 (by decide) (fun _ => ?_) (fun c_40 => absurd c_40 (by decide))
  refine lv_iload_n hx hb dX4_about_53 rfl (lv_at hl 2 rfl) ?_
  refine lv_if_ne (tgt := 66) hx hb dX4_about_54 (by decide) (fun _ => ?_) (fun c_54 => absurd c_54 (by decide))
  refine lv_iload_n hx hb dX4_about_66 rfl (lv_at hl 2 rfl) ?_
  refine lv_iconst (v := nI 1) hx hb dX4_about_67 (by decide) ?_
  refine lv_icmp_ne (tgt := 88) hx hb dX4_about_68 (by decide) (fun _ => ?_) (fun c_68 => absurd c_68 (by decide))
  refine lv_iload_n hx hb dX4_about_88 rfl (lv_at hl 2 rfl) ?_
  refine lv_iconst (v := nI 2) hx hb dX4_about_89 (by decide) ?_
  refine lv_icmp_ne (tgt := 110) hx hb dX4_about_90 (by decide) (fun c_90 => absurd (by decide) c_90) (fun _ => ?_)
  refine lv_aload_n hx hb dX4_about_93 rfl (lv_at hl 0 rfl) ?_
  refine va_get (D := G.1) (ci := 4) (v := .ref (ad 11)) (C := RX4) (T := TX4) (N := 29) hx hb htu iwX4 hown hK.1 hP 0 rfl rfl 11 (by decide) (htu _ uF_X4_42) (fun _ h9 => h9) rfl dX4_about_94 ?_
  refine lv_iload_n hx hb dX4_about_97 rfl (lv_at hl 1 rfl) ?_
  refine g_zald hx hb hK.1 hP 11 3 rfl rfl ⟨hs, by decide⟩ dX4_about_98 ?_
  refine lv_if_eq (tgt := 106) hx hb dX4_about_99 (by decide) (fun c_99 => ?_) (fun c_99 => ?_)
  · skip
    refine lv_iconst (v := nI 0) hx hb dX4_about_106 (by decide) ?_
    refine lv_goto (tgt := 116) hx hb dX4_about_107 (by decide) ?_
    exact gret_i hx hb hr hlk dX4_about_116 hS () (hP.sub [0, 1, 2, 3, 4, 5, 6, 7, 8, 9, 10, 11, 12, 13] rfl) (hD.sub [0, 1, 2, 3, 4, 5, 6, 7, 8, 9, 10, 11, 12, 13] (by decide) rfl) (by rw [hst]; rw [((slG hS9 hs hst).2 rfl).2.1] at c_99; exact abF0 c_99)
  · skip
    refine lv_iconst (v := nI 1) hx hb dX4_about_102 (by decide) ?_
    refine lv_goto (tgt := 116) hx hb dX4_about_103 (by decide) ?_
    exact gret_i hx hb hr hlk dX4_about_116 hS () (hP.sub [0, 1, 2, 3, 4, 5, 6, 7, 8, 9, 10, 11, 12, 13] rfl) (hD.sub [0, 1, 2, 3, 4, 5, 6, 7, 8, 9, 10, 11, 12, 13] (by decide) rfl) (by rw [hst]; rw [((slG hS9 hs hst).2 rfl).2.1] at c_99; exact abF1 c_99)
set_option maxHeartbeats 4000000 in
set_option maxRecDepth 100000 in
theorem c_X4_about3N (l : Launch) (G : GW) (sz : Nat) (o : Nat) (ad : Nat → Nat) (sz1 : Int32) (osz : Int32) (th : Int32) (hsz : Int32) (sl : Nat) (kf : Nat → Int32) (ff : Nat → Int32) (sf : Nat → Int64) (bf : Nat → Int32) (tf : Nat → Int64) (nf : Nat → Int32) (df : Nat → Int64) (cf : Nat → Int64) (gb : Nat → Int32) (gc : Nat → Int32) (ge : Nat → Int32) (mf : Nat → Int64) (ys : Nat → Int32) (st : Nat → SA) (hs : sl < 4) (hS9 : StmR (kf, ff, sf, bf, tf) gb gc ge mf ys st) (hst : (st sl).1 = false) : Met l yX4_about (Cond.code yX4_about cX4_about 3 (some FieldType.int) :: UW) ({ frames := 1, cells := 0, slots := 0, locals := 20 } : Room) (va_Pc [.ref o, .int (nI sl), .int (nI 3)] (gPre G [(o, .inr (4, mF ad sz1 osz th hsz)), (ad 4, .inl (G.2.1 1, 9, .inl kf)), (ad 7, .inl (G.2.1 1, 9, .inl ff)), (ad 5, .inl (G.2.1 2, 72, .inr (.inl sf))), (ad 6, .inl (G.2.1 1, 1152, .inl bf)), (ad 8, .inl (G.2.1 2, 9, .inr (.inl tf))), (ad 24, .inl (G.2.1 1, 64, .inl nf)), (ad 25, .inl (G.2.1 2, 80, .inr (.inl df))), (ad 2, .inl (G.2.1 2, 80, .inr (.inl cf))), (ad 9, .inl (G.2.1 3, 4, .inl gb)), (ad 10, .inl (G.2.1 3, 4, .inl gc)), (ad 11, .inl (G.2.1 3, 4, .inl ge)), (ad 12, .inl (G.2.1 2, 4, .inr (.inl mf))), (ad 13, .inl (G.2.1 1, 512, .inl ys))] sz)) (va_Qi (fun (r : Int32) (_ : Unit) => r = abQ (st sl) 3) (fun u => gPost G (va_A [(o, .inr (4, mF ad sz1 osz th hsz)), (ad 4, .inl (G.2.1 1, 9, .inl kf)), (ad 7, .inl (G.2.1 1, 9, .inl ff)), (ad 5, .inl (G.2.1 2, 72, .inr (.inl sf))), (ad 6, .inl (G.2.1 1, 1152, .inl bf)), (ad 8, .inl (G.2.1 2, 9, .inr (.inl tf))), (ad 24, .inl (G.2.1 1, 64, .inl nf)), (ad 25, .inl (G.2.1 2, 80, .inr (.inl df))), (ad 2, .inl (G.2.1 2, 80, .inr (.inl cf))), (ad 9, .inl (G.2.1 3, 4, .inl gb)), (ad 10, .inl (G.2.1 3, 4, .inl gc)), (ad 11, .inl (G.2.1 3, 4, .inl ge)), (ad 12, .inl (G.2.1 2, 4, .inr (.inl mf))), (ad 13, .inl (G.2.1 1, 512, .inl ys))] sz) ((fun (_ : Unit) => ([(o, .inr (4, mF ad sz1 osz (nI 0) hsz)), (ad 4, .inl (G.2.1 1, 9, .inl kf)), (ad 7, .inl (G.2.1 1, 9, .inl ff)), (ad 5, .inl (G.2.1 2, 72, .inr (.inl sf))), (ad 6, .inl (G.2.1 1, 1152, .inl bf)), (ad 8, .inl (G.2.1 2, 9, .inr (.inl tf))), (ad 24, .inl (G.2.1 1, 64, .inl nf)), (ad 25, .inl (G.2.1 2, 80, .inr (.inl df))), (ad 2, .inl (G.2.1 2, 80, .inr (.inl cf))), (ad 9, .inl (G.2.1 3, 4, .inl gb)), (ad 10, .inl (G.2.1 3, 4, .inl gc)), (ad 11, .inl (G.2.1 3, 4, .inl ge)), (ad 12, .inl (G.2.1 2, 4, .inr (.inl mf))), (ad 13, .inl (G.2.1 1, 512, .inl ys))] : va_W)) u)) (va_A [(o, .inr (4, mF ad sz1 osz th hsz)), (ad 4, .inl (G.2.1 1, 9, .inl kf)), (ad 7, .inl (G.2.1 1, 9, .inl ff)), (ad 5, .inl (G.2.1 2, 72, .inr (.inl sf))), (ad 6, .inl (G.2.1 1, 1152, .inl bf)), (ad 8, .inl (G.2.1 2, 9, .inr (.inl tf))), (ad 24, .inl (G.2.1 1, 64, .inl nf)), (ad 25, .inl (G.2.1 2, 80, .inr (.inl df))), (ad 2, .inl (G.2.1 2, 80, .inr (.inl cf))), (ad 9, .inl (G.2.1 3, 4, .inl gb)), (ad 10, .inl (G.2.1 3, 4, .inl gc)), (ad 11, .inl (G.2.1 3, 4, .inl ge)), (ad 12, .inl (G.2.1 2, 4, .inr (.inl mf))), (ad 13, .inl (G.2.1 1, 512, .inl ys))] sz)) 0 0 (va_A [(o, .inr (4, mF ad sz1 osz th hsz)), (ad 4, .inl (G.2.1 1, 9, .inl kf)), (ad 7, .inl (G.2.1 1, 9, .inl ff)), (ad 5, .inl (G.2.1 2, 72, .inr (.inl sf))), (ad 6, .inl (G.2.1 1, 1152, .inl bf)), (ad 8, .inl (G.2.1 2, 9, .inr (.inl tf))), (ad 24, .inl (G.2.1 1, 64, .inl nf)), (ad 25, .inl (G.2.1 2, 80, .inr (.inl df))), (ad 2, .inl (G.2.1 2, 80, .inr (.inl cf))), (ad 9, .inl (G.2.1 3, 4, .inl gb)), (ad 10, .inl (G.2.1 3, 4, .inl gc)), (ad 11, .inl (G.2.1 3, 4, .inl ge)), (ad 12, .inl (G.2.1 2, 4, .inr (.inl mf))), (ad 13, .inl (G.2.1 1, 512, .inl ys))] sz) := by
  refine gM_of (Qf := fun A => va_Qi (fun (r : Int32) (_ : Unit) => r = abQ (st sl) 3) (fun u => gPost G A ((fun (_ : Unit) => ([(o, .inr (4, mF ad sz1 osz (nI 0) hsz)), (ad 4, .inl (G.2.1 1, 9, .inl kf)), (ad 7, .inl (G.2.1 1, 9, .inl ff)), (ad 5, .inl (G.2.1 2, 72, .inr (.inl sf))), (ad 6, .inl (G.2.1 1, 1152, .inl bf)), (ad 8, .inl (G.2.1 2, 9, .inr (.inl tf))), (ad 24, .inl (G.2.1 1, 64, .inl nf)), (ad 25, .inl (G.2.1 2, 80, .inr (.inl df))), (ad 2, .inl (G.2.1 2, 80, .inr (.inl cf))), (ad 9, .inl (G.2.1 3, 4, .inl gb)), (ad 10, .inl (G.2.1 3, 4, .inl gc)), (ad 11, .inl (G.2.1 3, 4, .inl ge)), (ad 12, .inl (G.2.1 2, 4, .inr (.inl mf))), (ad 13, .inl (G.2.1 1, 512, .inl ys))] : va_W)) u)) A) (by decide) (Nat.le_of_ble_eq_true rfl) ?_
  intro p e s m below meth c A ls hx hb hml hr hown htu hlk hnm hA hP hD hS hK hZ hl
  have hown : s.vm.findClass RX4 = some m.cls := hown
  have hl : lv_has ls 3 [(0, .ref o), (1, .int (nI sl)), (2, .int (nI 3))] := hl
  refine lv_aload_n hx hb dX4_about_0 rfl (lv_at hl 0 rfl) ?_
  refine lv_iload_n hx hb dX4_about_1 rfl (lv_at hl 1 rfl) ?_
  refine g_calli (g_runS (As := [.int (nI sl)]) (rest := [.ref o]) ⟨hx, hb, hml, hown, htu⟩ (c_X4_noStream l G _ (nI sl) ) uM_X4_174 ok_X4_noStream uA_X4_noStream rfl rfl ⟨Nat.le_of_ble_eq_true rfl, Nat.le_of_ble_eq_true rfl⟩ hK hP hD hS hA hZ [] rfl rfl rfl hl.1 rfl (Nat.le_of_ble_eq_true rfl) dX4_about_2 ⟨Nat.le_of_ble_eq_true rfl, Nat.le_of_ble_eq_true rfl⟩) hP hD hS hA [] rfl (fun r_1 u H locs hw_2 hP hD hS => ?_)
  have hw_2 : r_1 = nsI (nI sl) := hw_2
  subst hw_2
  have hP : va_P G.1 vwCl [(o, .inr (4, mF ad sz1 osz th hsz)), (ad 4, .inl (G.2.1 1, 9, .inl kf)), (ad 7, .inl (G.2.1 1, 9, .inl ff)), (ad 5, .inl (G.2.1 2, 72, .inr (.inl sf))), (ad 6, .inl (G.2.1 1, 1152, .inl bf)), (ad 8, .inl (G.2.1 2, 9, .inr (.inl tf))), (ad 24, .inl (G.2.1 1, 64, .inl nf)), (ad 25, .inl (G.2.1 2, 80, .inr (.inl df))), (ad 2, .inl (G.2.1 2, 80, .inr (.inl cf))), (ad 9, .inl (G.2.1 3, 4, .inl gb)), (ad 10, .inl (G.2.1 3, 4, .inl gc)), (ad 11, .inl (G.2.1 3, 4, .inl ge)), (ad 12, .inl (G.2.1 2, 4, .inr (.inl mf))), (ad 13, .inl (G.2.1 1, 512, .inl ys))] H := hP
  have hD : va_D A [(o, .inr (4, mF ad sz1 osz th hsz)), (ad 4, .inl (G.2.1 1, 9, .inl kf)), (ad 7, .inl (G.2.1 1, 9, .inl ff)), (ad 5, .inl (G.2.1 2, 72, .inr (.inl sf))), (ad 6, .inl (G.2.1 1, 1152, .inl bf)), (ad 8, .inl (G.2.1 2, 9, .inr (.inl tf))), (ad 24, .inl (G.2.1 1, 64, .inl nf)), (ad 25, .inl (G.2.1 2, 80, .inr (.inl df))), (ad 2, .inl (G.2.1 2, 80, .inr (.inl cf))), (ad 9, .inl (G.2.1 3, 4, .inl gb)), (ad 10, .inl (G.2.1 3, 4, .inl gc)), (ad 11, .inl (G.2.1 3, 4, .inl ge)), (ad 12, .inl (G.2.1 2, 4, .inr (.inl mf))), (ad 13, .inl (G.2.1 1, 512, .inl ys))] := hD
  refine g_toi (y := nI 0) (nsI_nI hs) ?_
  refine lv_if_ne (tgt := 17) hx hb dX4_about_5 (by decide) (fun c_5 => absurd (by decide) c_5) (fun _ => ?_)
  refine lv_iload_n hx hb dX4_about_8 rfl (lv_at hl 2 rfl) ?_
  refine lv_if_lt (tgt := 17) hx hb dX4_about_9 (by decide) (fun c_9 => absurd c_9 (by decide)) (fun _ => ?_)
  refine lv_iload_n hx hb dX4_about_12 rfl (lv_at hl 2 rfl) ?_
  refine lv_iconst (v := nI 3) hx hb dX4_about_13 (by decide) ?_
  refine lv_icmp_le (tgt := 21) hx hb dX4_about_14 (by decide) (fun _ => ?_) (fun c_14 => absurd (by decide) c_14)
  refine lv_iconst (v := nI 0) hx hb dX4_about_21 (by decide) ?_
  refine va_put (D := G.1) (ci := 4) (v := .int (nI 0)) (ty := .int) (C := RX4) (T := TX4) (N := 29) hx hb htu iwX4 tyX4 tyX4_ok nmX4 hown hK.1 hP hD hS 0 rfl rfl 20 (by decide) (htu _ uF_X4_95) (fun _ h9 => h9) rfl (by decide +kernel) rfl rfl (Nat.le_of_ble_eq_true rfl) dX4_about_22 (fun H locs hP hD hS => ?_)
  have hP : va_P G.1 vwCl [(o, .inr (4, mF ad sz1 osz (nI 0) hsz)), (ad 4, .inl (G.2.1 1, 9, .inl kf)), (ad 7, .inl (G.2.1 1, 9, .inl ff)), (ad 5, .inl (G.2.1 2, 72, .inr (.inl sf))), (ad 6, .inl (G.2.1 1, 1152, .inl bf)), (ad 8, .inl (G.2.1 2, 9, .inr (.inl tf))), (ad 24, .inl (G.2.1 1, 64, .inl nf)), (ad 25, .inl (G.2.1 2, 80, .inr (.inl df))), (ad 2, .inl (G.2.1 2, 80, .inr (.inl cf))), (ad 9, .inl (G.2.1 3, 4, .inl gb)), (ad 10, .inl (G.2.1 3, 4, .inl gc)), (ad 11, .inl (G.2.1 3, 4, .inl ge)), (ad 12, .inl (G.2.1 2, 4, .inr (.inl mf))), (ad 13, .inl (G.2.1 1, 512, .inl ys))] H := hP
  have hD : va_D A [(o, .inr (4, mF ad sz1 osz (nI 0) hsz)), (ad 4, .inl (G.2.1 1, 9, .inl kf)), (ad 7, .inl (G.2.1 1, 9, .inl ff)), (ad 5, .inl (G.2.1 2, 72, .inr (.inl sf))), (ad 6, .inl (G.2.1 1, 1152, .inl bf)), (ad 8, .inl (G.2.1 2, 9, .inr (.inl tf))), (ad 24, .inl (G.2.1 1, 64, .inl nf)), (ad 25, .inl (G.2.1 2, 80, .inr (.inl df))), (ad 2, .inl (G.2.1 2, 80, .inr (.inl cf))), (ad 9, .inl (G.2.1 3, 4, .inl gb)), (ad 10, .inl (G.2.1 3, 4, .inl gc)), (ad 11, .inl (G.2.1 3, 4, .inl ge)), (ad 12, .inl (G.2.1 2, 4, .inr (.inl mf))), (ad 13, .inl (G.2.1 1, 512, .inl ys))] := hD
  refine lv_aload_n hx hb dX4_about_25 rfl (lv_at hl 0 rfl) ?_
  refine va_get (D := G.1) (ci := 4) (v := .int (nI 0)) (C := RX4) (T := TX4) (N := 29) hx hb htu iwX4 hown hK.1 hP 0 rfl rfl 20 (by decide) (htu _ uF_X4_95) (fun _ h9 => h9) rfl dX4_about_26 ?_
  refine lv_if_le (tgt := 34) hx hb dX4_about_29 (by decide) (fun _ => ?_) (fun c_29 => absurd (by decide) c_29)
  refine lv_aload_n hx hb dX4_about_34 rfl (lv_at hl 0 rfl) ?_
  refine va_get (D := G.1) (ci := 4) (v := .ref (ad 9)) (C := RX4) (T := TX4) (N := 29) hx hb htu iwX4 hown hK.1 hP 0 rfl rfl 9 (by decide) (htu _ uF_X4_35) (fun _ h9 => h9) rfl dX4_about_35 ?_
  refine lv_iload_n hx hb dX4_about_38 rfl (lv_at hl 1 rfl) ?_
  refine g_zald hx hb hK.1 hP 9 3 rfl rfl ⟨hs, by decide⟩ dX4_about_39 ?_
  refine g_toi (y := nI 0) (by have h2 := (hS9 sl hs).1; rw [hst] at h2; exact h2) ?_
  refine lv_if_ne (tgt := 53) hx hb dX4_about_40 (by decide) (fun c_40 => absurd (by decide) c_40) (fun _ => ?_)
  refine lv_iload_n hx hb dX4_about_43 rfl (lv_at hl 2 rfl) ?_
  refine lv_if_ne (tgt := 51) hx hb dX4_about_44 (by decide) (fun _ => ?_) (fun c_44 => absurd c_44 (by decide))
  refine lv_iconst (v := nI 0) hx hb dX4_about_51 (by decide) ?_
  exact gret_i hx hb hr hlk dX4_about_52 hS () (hP.sub [0, 1, 2, 3, 4, 5, 6, 7, 8, 9, 10, 11, 12, 13] rfl) (hD.sub [0, 1, 2, 3, 4, 5, 6, 7, 8, 9, 10, 11, 12, 13] (by decide) rfl) (by unfold abQ; rw [hst]; rfl)
set_option maxHeartbeats 4000000 in
set_option maxRecDepth 100000 in
theorem c_X4_about3B (l : Launch) (G : GW) (sz : Nat) (o : Nat) (ad : Nat → Nat) (sz1 : Int32) (osz : Int32) (th : Int32) (hsz : Int32) (sl : Nat) (k : Nat) (cd : Bool) (ed : Bool) (T : Nat) (h : HS) (kq : List Nat) (kf : Nat → Int32) (ff : Nat → Int32) (sf : Nat → Int64) (bf : Nat → Int32) (tf : Nat → Int64) (nf : Nat → Int32) (df : Nat → Int64) (cf : Nat → Int64) (gb : Nat → Int32) (gc : Nat → Int32) (ge : Nat → Int32) (mf : Nat → Int64) (ys : Nat → Int32) (st : Nat → SA) (hs : sl < 4) (hS9 : StmR (kf, ff, sf, bf, tf) gb gc ge mf ys st) (hst : st sl = (true, k, cd, ed, T, h, kq)) : Met l yX4_about (Cond.code yX4_about cX4_about 3 (some FieldType.int) :: UW) ({ frames := 1, cells := 0, slots := 0, locals := 20 } : Room) (va_Pc [.ref o, .int (nI sl), .int (nI 3)] (gPre G [(o, .inr (4, mF ad sz1 osz th hsz)), (ad 4, .inl (G.2.1 1, 9, .inl kf)), (ad 7, .inl (G.2.1 1, 9, .inl ff)), (ad 5, .inl (G.2.1 2, 72, .inr (.inl sf))), (ad 6, .inl (G.2.1 1, 1152, .inl bf)), (ad 8, .inl (G.2.1 2, 9, .inr (.inl tf))), (ad 24, .inl (G.2.1 1, 64, .inl nf)), (ad 25, .inl (G.2.1 2, 80, .inr (.inl df))), (ad 2, .inl (G.2.1 2, 80, .inr (.inl cf))), (ad 9, .inl (G.2.1 3, 4, .inl gb)), (ad 10, .inl (G.2.1 3, 4, .inl gc)), (ad 11, .inl (G.2.1 3, 4, .inl ge)), (ad 12, .inl (G.2.1 2, 4, .inr (.inl mf))), (ad 13, .inl (G.2.1 1, 512, .inl ys))] sz)) (va_Qi (fun (r : Int32) (_ : Unit) => r = abQ (st sl) 3) (fun u => gPost G (va_A [(o, .inr (4, mF ad sz1 osz th hsz)), (ad 4, .inl (G.2.1 1, 9, .inl kf)), (ad 7, .inl (G.2.1 1, 9, .inl ff)), (ad 5, .inl (G.2.1 2, 72, .inr (.inl sf))), (ad 6, .inl (G.2.1 1, 1152, .inl bf)), (ad 8, .inl (G.2.1 2, 9, .inr (.inl tf))), (ad 24, .inl (G.2.1 1, 64, .inl nf)), (ad 25, .inl (G.2.1 2, 80, .inr (.inl df))), (ad 2, .inl (G.2.1 2, 80, .inr (.inl cf))), (ad 9, .inl (G.2.1 3, 4, .inl gb)), (ad 10, .inl (G.2.1 3, 4, .inl gc)), (ad 11, .inl (G.2.1 3, 4, .inl ge)), (ad 12, .inl (G.2.1 2, 4, .inr (.inl mf))), (ad 13, .inl (G.2.1 1, 512, .inl ys))] sz) ((fun (_ : Unit) => ([(o, .inr (4, mF ad sz1 osz (nI 0) hsz)), (ad 4, .inl (G.2.1 1, 9, .inl kf)), (ad 7, .inl (G.2.1 1, 9, .inl ff)), (ad 5, .inl (G.2.1 2, 72, .inr (.inl sf))), (ad 6, .inl (G.2.1 1, 1152, .inl bf)), (ad 8, .inl (G.2.1 2, 9, .inr (.inl tf))), (ad 24, .inl (G.2.1 1, 64, .inl nf)), (ad 25, .inl (G.2.1 2, 80, .inr (.inl df))), (ad 2, .inl (G.2.1 2, 80, .inr (.inl cf))), (ad 9, .inl (G.2.1 3, 4, .inl gb)), (ad 10, .inl (G.2.1 3, 4, .inl gc)), (ad 11, .inl (G.2.1 3, 4, .inl ge)), (ad 12, .inl (G.2.1 2, 4, .inr (.inl mf))), (ad 13, .inl (G.2.1 1, 512, .inl ys))] : va_W)) u)) (va_A [(o, .inr (4, mF ad sz1 osz th hsz)), (ad 4, .inl (G.2.1 1, 9, .inl kf)), (ad 7, .inl (G.2.1 1, 9, .inl ff)), (ad 5, .inl (G.2.1 2, 72, .inr (.inl sf))), (ad 6, .inl (G.2.1 1, 1152, .inl bf)), (ad 8, .inl (G.2.1 2, 9, .inr (.inl tf))), (ad 24, .inl (G.2.1 1, 64, .inl nf)), (ad 25, .inl (G.2.1 2, 80, .inr (.inl df))), (ad 2, .inl (G.2.1 2, 80, .inr (.inl cf))), (ad 9, .inl (G.2.1 3, 4, .inl gb)), (ad 10, .inl (G.2.1 3, 4, .inl gc)), (ad 11, .inl (G.2.1 3, 4, .inl ge)), (ad 12, .inl (G.2.1 2, 4, .inr (.inl mf))), (ad 13, .inl (G.2.1 1, 512, .inl ys))] sz)) 0 0 (va_A [(o, .inr (4, mF ad sz1 osz th hsz)), (ad 4, .inl (G.2.1 1, 9, .inl kf)), (ad 7, .inl (G.2.1 1, 9, .inl ff)), (ad 5, .inl (G.2.1 2, 72, .inr (.inl sf))), (ad 6, .inl (G.2.1 1, 1152, .inl bf)), (ad 8, .inl (G.2.1 2, 9, .inr (.inl tf))), (ad 24, .inl (G.2.1 1, 64, .inl nf)), (ad 25, .inl (G.2.1 2, 80, .inr (.inl df))), (ad 2, .inl (G.2.1 2, 80, .inr (.inl cf))), (ad 9, .inl (G.2.1 3, 4, .inl gb)), (ad 10, .inl (G.2.1 3, 4, .inl gc)), (ad 11, .inl (G.2.1 3, 4, .inl ge)), (ad 12, .inl (G.2.1 2, 4, .inr (.inl mf))), (ad 13, .inl (G.2.1 1, 512, .inl ys))] sz) := by
  refine gM_of (Qf := fun A => va_Qi (fun (r : Int32) (_ : Unit) => r = abQ (st sl) 3) (fun u => gPost G A ((fun (_ : Unit) => ([(o, .inr (4, mF ad sz1 osz (nI 0) hsz)), (ad 4, .inl (G.2.1 1, 9, .inl kf)), (ad 7, .inl (G.2.1 1, 9, .inl ff)), (ad 5, .inl (G.2.1 2, 72, .inr (.inl sf))), (ad 6, .inl (G.2.1 1, 1152, .inl bf)), (ad 8, .inl (G.2.1 2, 9, .inr (.inl tf))), (ad 24, .inl (G.2.1 1, 64, .inl nf)), (ad 25, .inl (G.2.1 2, 80, .inr (.inl df))), (ad 2, .inl (G.2.1 2, 80, .inr (.inl cf))), (ad 9, .inl (G.2.1 3, 4, .inl gb)), (ad 10, .inl (G.2.1 3, 4, .inl gc)), (ad 11, .inl (G.2.1 3, 4, .inl ge)), (ad 12, .inl (G.2.1 2, 4, .inr (.inl mf))), (ad 13, .inl (G.2.1 1, 512, .inl ys))] : va_W)) u)) A) (by decide) (Nat.le_of_ble_eq_true rfl) ?_
  intro p e s m below meth c A ls hx hb hml hr hown htu hlk hnm hA hP hD hS hK hZ hl
  have hown : s.vm.findClass RX4 = some m.cls := hown
  have hl : lv_has ls 3 [(0, .ref o), (1, .int (nI sl)), (2, .int (nI 3))] := hl
  refine lv_aload_n hx hb dX4_about_0 rfl (lv_at hl 0 rfl) ?_
  refine lv_iload_n hx hb dX4_about_1 rfl (lv_at hl 1 rfl) ?_
  refine g_calli (g_runS (As := [.int (nI sl)]) (rest := [.ref o]) ⟨hx, hb, hml, hown, htu⟩ (c_X4_noStream l G _ (nI sl) ) uM_X4_174 ok_X4_noStream uA_X4_noStream rfl rfl ⟨Nat.le_of_ble_eq_true rfl, Nat.le_of_ble_eq_true rfl⟩ hK hP hD hS hA hZ [] rfl rfl rfl hl.1 rfl (Nat.le_of_ble_eq_true rfl) dX4_about_2 ⟨Nat.le_of_ble_eq_true rfl, Nat.le_of_ble_eq_true rfl⟩) hP hD hS hA [] rfl (fun r_1 u H locs hw_2 hP hD hS => ?_)
  have hw_2 : r_1 = nsI (nI sl) := hw_2
  subst hw_2
  have hP : va_P G.1 vwCl [(o, .inr (4, mF ad sz1 osz th hsz)), (ad 4, .inl (G.2.1 1, 9, .inl kf)), (ad 7, .inl (G.2.1 1, 9, .inl ff)), (ad 5, .inl (G.2.1 2, 72, .inr (.inl sf))), (ad 6, .inl (G.2.1 1, 1152, .inl bf)), (ad 8, .inl (G.2.1 2, 9, .inr (.inl tf))), (ad 24, .inl (G.2.1 1, 64, .inl nf)), (ad 25, .inl (G.2.1 2, 80, .inr (.inl df))), (ad 2, .inl (G.2.1 2, 80, .inr (.inl cf))), (ad 9, .inl (G.2.1 3, 4, .inl gb)), (ad 10, .inl (G.2.1 3, 4, .inl gc)), (ad 11, .inl (G.2.1 3, 4, .inl ge)), (ad 12, .inl (G.2.1 2, 4, .inr (.inl mf))), (ad 13, .inl (G.2.1 1, 512, .inl ys))] H := hP
  have hD : va_D A [(o, .inr (4, mF ad sz1 osz th hsz)), (ad 4, .inl (G.2.1 1, 9, .inl kf)), (ad 7, .inl (G.2.1 1, 9, .inl ff)), (ad 5, .inl (G.2.1 2, 72, .inr (.inl sf))), (ad 6, .inl (G.2.1 1, 1152, .inl bf)), (ad 8, .inl (G.2.1 2, 9, .inr (.inl tf))), (ad 24, .inl (G.2.1 1, 64, .inl nf)), (ad 25, .inl (G.2.1 2, 80, .inr (.inl df))), (ad 2, .inl (G.2.1 2, 80, .inr (.inl cf))), (ad 9, .inl (G.2.1 3, 4, .inl gb)), (ad 10, .inl (G.2.1 3, 4, .inl gc)), (ad 11, .inl (G.2.1 3, 4, .inl ge)), (ad 12, .inl (G.2.1 2, 4, .inr (.inl mf))), (ad 13, .inl (G.2.1 1, 512, .inl ys))] := hD
  refine g_toi (y := nI 0) (nsI_nI hs) ?_
  refine lv_if_ne (tgt := 17) hx hb dX4_about_5 (by decide) (fun c_5 => absurd (by decide) c_5) (fun _ => ?_)
  refine lv_iload_n hx hb dX4_about_8 rfl (lv_at hl 2 rfl) ?_
  refine lv_if_lt (tgt := 17) hx hb dX4_about_9 (by decide) (fun c_9 => absurd c_9 (by decide)) (fun _ => ?_)
  refine lv_iload_n hx hb dX4_about_12 rfl (lv_at hl 2 rfl) ?_
  refine lv_iconst (v := nI 3) hx hb dX4_about_13 (by decide) ?_
  refine lv_icmp_le (tgt := 21) hx hb dX4_about_14 (by decide) (fun _ => ?_) (fun c_14 => absurd (by decide) c_14)
  refine lv_iconst (v := nI 0) hx hb dX4_about_21 (by decide) ?_
  refine va_put (D := G.1) (ci := 4) (v := .int (nI 0)) (ty := .int) (C := RX4) (T := TX4) (N := 29) hx hb htu iwX4 tyX4 tyX4_ok nmX4 hown hK.1 hP hD hS 0 rfl rfl 20 (by decide) (htu _ uF_X4_95) (fun _ h9 => h9) rfl (by decide +kernel) rfl rfl (Nat.le_of_ble_eq_true rfl) dX4_about_22 (fun H locs hP hD hS => ?_)
  have hP : va_P G.1 vwCl [(o, .inr (4, mF ad sz1 osz (nI 0) hsz)), (ad 4, .inl (G.2.1 1, 9, .inl kf)), (ad 7, .inl (G.2.1 1, 9, .inl ff)), (ad 5, .inl (G.2.1 2, 72, .inr (.inl sf))), (ad 6, .inl (G.2.1 1, 1152, .inl bf)), (ad 8, .inl (G.2.1 2, 9, .inr (.inl tf))), (ad 24, .inl (G.2.1 1, 64, .inl nf)), (ad 25, .inl (G.2.1 2, 80, .inr (.inl df))), (ad 2, .inl (G.2.1 2, 80, .inr (.inl cf))), (ad 9, .inl (G.2.1 3, 4, .inl gb)), (ad 10, .inl (G.2.1 3, 4, .inl gc)), (ad 11, .inl (G.2.1 3, 4, .inl ge)), (ad 12, .inl (G.2.1 2, 4, .inr (.inl mf))), (ad 13, .inl (G.2.1 1, 512, .inl ys))] H := hP
  have hD : va_D A [(o, .inr (4, mF ad sz1 osz (nI 0) hsz)), (ad 4, .inl (G.2.1 1, 9, .inl kf)), (ad 7, .inl (G.2.1 1, 9, .inl ff)), (ad 5, .inl (G.2.1 2, 72, .inr (.inl sf))), (ad 6, .inl (G.2.1 1, 1152, .inl bf)), (ad 8, .inl (G.2.1 2, 9, .inr (.inl tf))), (ad 24, .inl (G.2.1 1, 64, .inl nf)), (ad 25, .inl (G.2.1 2, 80, .inr (.inl df))), (ad 2, .inl (G.2.1 2, 80, .inr (.inl cf))), (ad 9, .inl (G.2.1 3, 4, .inl gb)), (ad 10, .inl (G.2.1 3, 4, .inl gc)), (ad 11, .inl (G.2.1 3, 4, .inl ge)), (ad 12, .inl (G.2.1 2, 4, .inr (.inl mf))), (ad 13, .inl (G.2.1 1, 512, .inl ys))] := hD
  refine lv_aload_n hx hb dX4_about_25 rfl (lv_at hl 0 rfl) ?_
  refine va_get (D := G.1) (ci := 4) (v := .int (nI 0)) (C := RX4) (T := TX4) (N := 29) hx hb htu iwX4 hown hK.1 hP 0 rfl rfl 20 (by decide) (htu _ uF_X4_95) (fun _ h9 => h9) rfl dX4_about_26 ?_
  refine lv_if_le (tgt := 34) hx hb dX4_about_29 (by decide) (fun _ => ?_) (fun c_29 => absurd (by decide) c_29)
  refine lv_aload_n hx hb dX4_about_34 rfl (lv_at hl 0 rfl) ?_
  refine va_get (D := G.1) (ci := 4) (v := .ref (ad 9)) (C := RX4) (T := TX4) (N := 29) hx hb htu iwX4 hown hK.1 hP 0 rfl rfl 9 (by decide) (htu _ uF_X4_35) (fun _ h9 => h9) rfl dX4_about_35 ?_
  refine lv_iload_n hx hb dX4_about_38 rfl (lv_at hl 1 rfl) ?_
  refine g_zald hx hb hK.1 hP 9 3 rfl rfl ⟨hs, by decide⟩ dX4_about_39 ?_
  refine g_toi (y := nI 1) ((slG hS9 hs hst).1) ?_
  refine lv_if_ne (tgt := 53) hx hb dX4_about_40 (by decide) (fun _ => ?_) (fun c_40 => absurd c_40 (by decide))
  refine lv_iload_n hx hb dX4_about_53 rfl (lv_at hl 2 rfl) ?_
  refine lv_if_ne (tgt := 66) hx hb dX4_about_54 (by decide) (fun _ => ?_) (fun c_54 => absurd c_54 (by decide))
  refine lv_iload_n hx hb dX4_about_66 rfl (lv_at hl 2 rfl) ?_
  refine lv_iconst (v := nI 1) hx hb dX4_about_67 (by decide) ?_
  refine lv_icmp_ne (tgt := 88) hx hb dX4_about_68 (by decide) (fun _ => ?_) (fun c_68 => absurd c_68 (by decide))
  refine lv_iload_n hx hb dX4_about_88 rfl (lv_at hl 2 rfl) ?_
  refine lv_iconst (v := nI 2) hx hb dX4_about_89 (by decide) ?_
  refine lv_icmp_ne (tgt := 110) hx hb dX4_about_90 (by decide) (fun _ => ?_) (fun c_90 => absurd c_90 (by decide))
  refine lv_aload_n hx hb dX4_about_110 rfl (lv_at hl 0 rfl) ?_
  refine va_get (D := G.1) (ci := 4) (v := .ref (ad 7)) (C := RX4) (T := TX4) (N := 29) hx hb htu iwX4 hown hK.1 hP 0 rfl rfl 7 (by decide) (htu _ uF_X4_29) (fun _ h9 => h9) rfl dX4_about_111 ?_
  refine lv_iload_n hx hb dX4_about_114 rfl (lv_at hl 1 rfl) ?_
  refine g_iald hx hb hK.1 hP 2 1 rfl rfl ⟨by omega, by decide⟩ dX4_about_115 ?_
  exact gret_i hx hb hr hlk dX4_about_116 hS () (hP.sub [0, 1, 2, 3, 4, 5, 6, 7, 8, 9, 10, 11, 12, 13] rfl) (hD.sub [0, 1, 2, 3, 4, 5, 6, 7, 8, 9, 10, 11, 12, 13] (by decide) rfl) (by rw [hst]; exact ((slG hS9 hs hst).2 rfl).2.2.2.1.2.2.1.trans (congrArg nI ((slG hS9 hs hst).2 rfl).2.2.2.2.1))
set_option maxHeartbeats 4000000 in
set_option maxRecDepth 100000 in
theorem c_X4_hold (l : Launch) (G : GW) (sz : Nat) (o : Nat) (ad : Nat → Nat) (osz : Int32) (th : Int32) (hsz : Int32) (z : Nat) (wr : Nat) (rz : Nat → Int32) (rg : Nat → Int32) (tp : Nat → Int32) (q : List Nat) (R : Nat → List Nat) (hwr : wr < 3) (hT : TapeR tp z q) (hR9 : RegR rg rz R) : Met l yX4_hold (Cond.code yX4_hold cX4_hold 3 (some FieldType.int) :: UW) ({ frames := 0, cells := 0, slots := 0, locals := 0 } : Room) (va_Pc [.ref o, .int (nI wr)] (gPre G [(o, .inr (4, mF ad (nI z) osz th hsz)), (ad 19, .inl (G.2.1 1, 3, .inl rz)), (ad 18, .inl (G.2.1 1, 1800, .inl rg)), (ad 0, .inl (G.2.1 1, 600, .inl tp))] sz)) (va_Qi (fun (r : Int32) (uq9 : (Nat → Int32) × (Nat → Int32)) => r = nI z ∧ RegR uq9.2 uq9.1 (va_up R wr q)) (fun u => gPost G (va_A [(o, .inr (4, mF ad (nI z) osz th hsz)), (ad 19, .inl (G.2.1 1, 3, .inl rz)), (ad 18, .inl (G.2.1 1, 1800, .inl rg)), (ad 0, .inl (G.2.1 1, 600, .inl tp))] sz) ((fun (uq9 : (Nat → Int32) × (Nat → Int32)) => ([(o, .inr (4, mF ad (nI 0) osz (nI 0) hsz)), (ad 19, .inl (G.2.1 1, 3, .inl uq9.1)), (ad 18, .inl (G.2.1 1, 1800, .inl uq9.2)), (ad 0, .inl (G.2.1 1, 600, .inl tp))] : va_W)) u)) (va_A [(o, .inr (4, mF ad (nI z) osz th hsz)), (ad 19, .inl (G.2.1 1, 3, .inl rz)), (ad 18, .inl (G.2.1 1, 1800, .inl rg)), (ad 0, .inl (G.2.1 1, 600, .inl tp))] sz)) 0 0 (va_A [(o, .inr (4, mF ad (nI z) osz th hsz)), (ad 19, .inl (G.2.1 1, 3, .inl rz)), (ad 18, .inl (G.2.1 1, 1800, .inl rg)), (ad 0, .inl (G.2.1 1, 600, .inl tp))] sz) := by
  refine gM_of (Qf := fun A => va_Qi (fun (r : Int32) (uq9 : (Nat → Int32) × (Nat → Int32)) => r = nI z ∧ RegR uq9.2 uq9.1 (va_up R wr q)) (fun u => gPost G A ((fun (uq9 : (Nat → Int32) × (Nat → Int32)) => ([(o, .inr (4, mF ad (nI 0) osz (nI 0) hsz)), (ad 19, .inl (G.2.1 1, 3, .inl uq9.1)), (ad 18, .inl (G.2.1 1, 1800, .inl uq9.2)), (ad 0, .inl (G.2.1 1, 600, .inl tp))] : va_W)) u)) A) (by decide) (Nat.le_of_ble_eq_true rfl) ?_
  intro p e s m below meth c A ls hx hb hml hr hown htu hlk hnm hA hP hD hS hK hZ hl
  have hown : s.vm.findClass RX4 = some m.cls := hown
  have hl : lv_has ls 3 [(0, .ref o), (1, .int (nI wr))] := hl
  refine lv_aload_n hx hb dX4_hold_0 rfl (lv_at hl 0 rfl) ?_
  refine lv_iload_n hx hb dX4_hold_1 rfl (lv_at hl 1 rfl) ?_
  refine lv_if_lt (tgt := 10) hx hb dX4_hold_2 (by decide) (fun c_2 => absurd c_2 (nI_pos (by omega))) (fun _ => ?_)
  refine lv_iload_n hx hb dX4_hold_5 rfl (lv_at hl 1 rfl) ?_
  refine lv_iconst (v := nI 2) hx hb dX4_hold_6 (by decide) ?_
  refine lv_icmp_le (tgt := 14) hx hb dX4_hold_7 (by decide) (fun _ => ?_) (fun c_7 => absurd (nI_le (b := 2) (by omega) (by decide)) c_7)
  refine lv_iconst (v := nI 0) hx hb dX4_hold_14 (by decide) ?_
  refine va_put (D := G.1) (ci := 4) (v := .int (nI 0)) (ty := .int) (C := RX4) (T := TX4) (N := 29) hx hb htu iwX4 tyX4 tyX4_ok nmX4 hown hK.1 hP hD hS 0 rfl rfl 20 (by decide) (htu _ uF_X4_95) (fun _ h9 => h9) rfl (by decide +kernel) rfl rfl (Nat.le_of_ble_eq_true rfl) dX4_hold_15 (fun H locs hP hD hS => ?_)
  have hP : va_P G.1 vwCl [(o, .inr (4, mF ad (nI z) osz (nI 0) hsz)), (ad 19, .inl (G.2.1 1, 3, .inl rz)), (ad 18, .inl (G.2.1 1, 1800, .inl rg)), (ad 0, .inl (G.2.1 1, 600, .inl tp))] H := hP
  have hD : va_D A [(o, .inr (4, mF ad (nI z) osz (nI 0) hsz)), (ad 19, .inl (G.2.1 1, 3, .inl rz)), (ad 18, .inl (G.2.1 1, 1800, .inl rg)), (ad 0, .inl (G.2.1 1, 600, .inl tp))] := hD
  refine lv_aload_n hx hb dX4_hold_18 rfl (lv_at hl 0 rfl) ?_
  refine va_get (D := G.1) (ci := 4) (v := .int (nI 0)) (C := RX4) (T := TX4) (N := 29) hx hb htu iwX4 hown hK.1 hP 0 rfl rfl 20 (by decide) (htu _ uF_X4_95) (fun _ h9 => h9) rfl dX4_hold_19 ?_
  refine lv_if_le (tgt := 27) hx hb dX4_hold_22 (by decide) (fun _ => ?_) (fun c_22 => absurd (by decide) c_22)
  refine lv_aload_n hx hb dX4_hold_27 rfl (lv_at hl 0 rfl) ?_
  refine va_get (D := G.1) (ci := 4) (v := .ref (ad 19)) (C := RX4) (T := TX4) (N := 29) hx hb htu iwX4 hown hK.1 hP 0 rfl rfl 19 (by decide) (htu _ uF_X4_63) (fun _ h9 => h9) rfl dX4_hold_28 ?_
  refine lv_iload_n hx hb dX4_hold_31 rfl (lv_at hl 1 rfl) ?_
  refine lv_aload_n hx hb dX4_hold_32 rfl (lv_at hl 0 rfl) ?_
  refine va_get (D := G.1) (ci := 4) (v := .int (nI z)) (C := RX4) (T := TX4) (N := 29) hx hb htu iwX4 hown hK.1 hP 0 rfl rfl 1 (by decide) (htu _ uF_X4_171) (fun _ h9 => h9) rfl dX4_hold_33 ?_
  refine g_iast hx hb hK.1 hP hD hS 1 1 rfl rfl ⟨hwr, by decide⟩ dX4_hold_36 (fun H locs hP hD hS => ?_)
  obtain ⟨g_1, eg_1⟩ : ∃ gq9 : Nat → Int32, gq9 = upd rz wr (nI z) := ⟨_, rfl⟩
  rw [← eg_1] at hP hD
  have hP : va_P G.1 vwCl [(o, .inr (4, mF ad (nI z) osz (nI 0) hsz)), (ad 19, .inl (G.2.1 1, 3, .inl g_1)), (ad 18, .inl (G.2.1 1, 1800, .inl rg)), (ad 0, .inl (G.2.1 1, 600, .inl tp))] H := hP
  have hD : va_D A [(o, .inr (4, mF ad (nI z) osz (nI 0) hsz)), (ad 19, .inl (G.2.1 1, 3, .inl g_1)), (ad 18, .inl (G.2.1 1, 1800, .inl rg)), (ad 0, .inl (G.2.1 1, 600, .inl tp))] := hD
  refine lv_iconst (v := nI 0) hx hb dX4_hold_37 (by decide) ?_
  refine lv_istore_n (lv' := [(2, .int (nI 0)), (0, .ref o), (1, .int (nI wr))]) hx hb dX4_hold_38 rfl hl (by decide) rfl (fun ls hl => ?_)
  refine g_loop (σ := Nat × (Nat → Int32)) (G := G) (fun xq9 : Nat × (Nat → Int32) => [(o, .inr (4, mF ad (nI z) osz (nI 0) hsz)), (ad 19, .inl (G.2.1 1, 3, .inl g_1)), (ad 18, .inl (G.2.1 1, 1800, .inl xq9.2)), (ad 0, .inl (G.2.1 1, 600, .inl tp))]) (fun xq9 : Nat × (Nat → Int32) => [(0, .ref o), (1, .int (nI wr)), (2, .int (nI xq9.1))]) (fun xq9 : Nat × (Nat → Int32) => xq9.1 ≤ z ∧ (∀ x, x < xq9.1 → xq9.2 (600 * wr + x) = tp x) ∧ ∀ x, (x < 600 * wr ∨ 600 * wr + xq9.1 ≤ x) → xq9.2 x = rg x) (fun xq9 : Nat × (Nat → Int32) => z - xq9.1) ?_ (0, rg) (show 0 ≤ z ∧ (∀ x, x < 0 → rg (600 * wr + x) = tp x) ∧ ∀ x, (x < 600 * wr ∨ 600 * wr + 0 ≤ x) → rg x = rg x from ⟨Nat.zero_le _, fun _ h => absurd h (Nat.not_lt_zero _), fun _ _ => rfl⟩) (hP.sub [0, 1, 2, 3] rfl) (hD.sub [0, 1, 2, 3] (by decide) rfl) hS (lv_sub hl [1, 2, 0] rfl)
  clear hP hD hS hl
  intro x hxI_39 ih_39 H locs ls hP hD hS hl
  obtain ⟨i, y⟩ := x
  have hI : i ≤ z ∧ (∀ x, x < i → y (600 * wr + x) = tp x) ∧ ∀ x, (x < 600 * wr ∨ 600 * wr + i ≤ x) → y x = rg x := hxI_39
  have hP : va_P G.1 vwCl [(o, .inr (4, mF ad (nI z) osz (nI 0) hsz)), (ad 19, .inl (G.2.1 1, 3, .inl g_1)), (ad 18, .inl (G.2.1 1, 1800, .inl y)), (ad 0, .inl (G.2.1 1, 600, .inl tp))] H := hP
  have hD : va_D A [(o, .inr (4, mF ad (nI z) osz (nI 0) hsz)), (ad 19, .inl (G.2.1 1, 3, .inl g_1)), (ad 18, .inl (G.2.1 1, 1800, .inl y)), (ad 0, .inl (G.2.1 1, 600, .inl tp))] := hD
  have hl : lv_has ls 3 [(0, .ref o), (1, .int (nI wr)), (2, .int (nI i))] := hl
  refine lv_iload_n hx hb dX4_hold_39 rfl (lv_at hl 2 rfl) ?_
  refine lv_aload_n hx hb dX4_hold_40 rfl (lv_at hl 0 rfl) ?_
  refine va_get (D := G.1) (ci := 4) (v := .int (nI z)) (C := RX4) (T := TX4) (N := 29) hx hb htu iwX4 hown hK.1 hP 0 rfl rfl 1 (by decide) (htu _ uF_X4_171) (fun _ h9 => h9) rfl dX4_hold_41 ?_
  refine lv_icmp_ge (tgt := 71) hx hb dX4_hold_44 (by decide) (fun c_44 => ?_) (fun c_44 => ?_)
  · skip
    have hi : z ≤ i := ge_t (n := z) c_44 (by have := hT.2.1; omega)
    refine lv_aload_n hx hb dX4_hold_71 rfl (lv_at hl 0 rfl) ?_
    refine lv_iconst (v := nI 0) hx hb dX4_hold_72 (by decide) ?_
    refine va_put (D := G.1) (ci := 4) (v := .int (nI 0)) (ty := .int) (C := RX4) (T := TX4) (N := 29) hx hb htu iwX4 tyX4 tyX4_ok nmX4 hown hK.1 hP hD hS 0 rfl rfl 1 (by decide) (htu _ uF_X4_171) (fun _ h9 => h9) rfl (by decide +kernel) rfl rfl (Nat.le_of_ble_eq_true rfl) dX4_hold_73 (fun H locs hP hD hS => ?_)
    have hP : va_P G.1 vwCl [(o, .inr (4, mF ad (nI 0) osz (nI 0) hsz)), (ad 19, .inl (G.2.1 1, 3, .inl g_1)), (ad 18, .inl (G.2.1 1, 1800, .inl y)), (ad 0, .inl (G.2.1 1, 600, .inl tp))] H := hP
    have hD : va_D A [(o, .inr (4, mF ad (nI 0) osz (nI 0) hsz)), (ad 19, .inl (G.2.1 1, 3, .inl g_1)), (ad 18, .inl (G.2.1 1, 1800, .inl y)), (ad 0, .inl (G.2.1 1, 600, .inl tp))] := hD
    refine lv_aload_n hx hb dX4_hold_76 rfl (lv_at hl 0 rfl) ?_
    refine va_get (D := G.1) (ci := 4) (v := .ref (ad 19)) (C := RX4) (T := TX4) (N := 29) hx hb htu iwX4 hown hK.1 hP 0 rfl rfl 19 (by decide) (htu _ uF_X4_63) (fun _ h9 => h9) rfl dX4_hold_77 ?_
    refine lv_iload_n hx hb dX4_hold_80 rfl (lv_at hl 1 rfl) ?_
    refine g_iald hx hb hK.1 hP 1 1 rfl rfl ⟨hwr, by decide⟩ dX4_hold_81 ?_
    refine g_toi (y := nI z) (by rw [eg_1, pk_us]) ?_
    exact gret_i hx hb hr hlk dX4_hold_82 hS (g_1, y) (hP.sub [0, 1, 2, 3] rfl) (hD.sub [0, 1, 2, 3] (by decide) rfl) (show (nI z = nI z) ∧ (RegR y g_1 (va_up R wr q)) from ⟨rfl, hR9.set eg_1 hT.1 (by have := hT.1; have := hT.2.1; omega) hT.2.2.1 (fun x hx => (hI.2.1 x (by omega)).trans (hT.2.2.2 x (by have := hT.1; omega))) (fun x hx => hI.2.2 x (by omega))⟩)
  · skip
    have hi : i < z := ge_f (n := z) c_44 (by have := hI.1; have := hT.2.1; omega)
    refine lv_aload_n hx hb dX4_hold_47 rfl (lv_at hl 0 rfl) ?_
    refine va_get (D := G.1) (ci := 4) (v := .ref (ad 18)) (C := RX4) (T := TX4) (N := 29) hx hb htu iwX4 hown hK.1 hP 0 rfl rfl 18 (by decide) (htu _ uF_X4_60) (fun _ h9 => h9) rfl dX4_hold_48 ?_
    refine lv_sipush (v := nI 600) hx hb dX4_hold_51 (by decide) ?_
    refine lv_iload_n hx hb dX4_hold_54 rfl (lv_at hl 1 rfl) ?_
    refine lv_imul hx hb dX4_hold_55 ?_
    refine g_toi (y := nI (600 * wr)) (pk_mul 600 wr) ?_
    refine lv_iload_n hx hb dX4_hold_56 rfl (lv_at hl 2 rfl) ?_
    refine lv_iadd hx hb dX4_hold_57 ?_
    refine g_toi (y := nI (600 * wr + i)) (nI_add (600 * wr) i) ?_
    refine lv_aload_n hx hb dX4_hold_58 rfl (lv_at hl 0 rfl) ?_
    refine va_get (D := G.1) (ci := 4) (v := .ref (ad 0)) (C := RX4) (T := TX4) (N := 29) hx hb htu iwX4 hown hK.1 hP 0 rfl rfl 0 (by decide) (htu _ uF_X4_7) (fun _ h9 => h9) rfl dX4_hold_59 ?_
    refine lv_iload_n hx hb dX4_hold_62 rfl (lv_at hl 2 rfl) ?_
    refine g_iald hx hb hK.1 hP 3 1 rfl rfl ⟨by have := hT.2.1; omega, by decide⟩ dX4_hold_63 ?_
    refine lv_topi (fun v_2 ev_2 => ?_)
    refine g_iast hx hb hK.1 hP hD hS 2 1 rfl rfl ⟨by have := hT.2.1; omega, by decide⟩ dX4_hold_64 (fun H locs hP hD hS => ?_)
    obtain ⟨g_3, eg_3⟩ : ∃ gq9 : Nat → Int32, gq9 = upd y (600 * wr + i) v_2 := ⟨_, rfl⟩
    rw [← eg_3] at hP hD
    have hP : va_P G.1 vwCl [(o, .inr (4, mF ad (nI z) osz (nI 0) hsz)), (ad 19, .inl (G.2.1 1, 3, .inl g_1)), (ad 18, .inl (G.2.1 1, 1800, .inl g_3)), (ad 0, .inl (G.2.1 1, 600, .inl tp))] H := hP
    have hD : va_D A [(o, .inr (4, mF ad (nI z) osz (nI 0) hsz)), (ad 19, .inl (G.2.1 1, 3, .inl g_1)), (ad 18, .inl (G.2.1 1, 1800, .inl g_3)), (ad 0, .inl (G.2.1 1, 600, .inl tp))] := hD
    refine lv_iinc (v := nI (i + 1)) (lv' := [(2, .int (nI (i + 1))), (0, .ref o), (1, .int (nI wr))]) hx hb dX4_hold_65 hl (k := 2) rfl (nI_1 i) (by decide) rfl (fun ls hl => ?_)
    refine lv_goto (tgt := 39) hx hb dX4_hold_68 (by decide) ?_
    exact ih_39 (i + 1, g_3) (show (i + 1) ≤ z ∧ (∀ x, x < (i + 1) → g_3 (600 * wr + x) = tp x) ∧ ∀ x, (x < 600 * wr ∨ 600 * wr + (i + 1) ≤ x) → g_3 x = rg x from cpyU hI hi eg_3 ev_2) (by show z - (i + 1) < z - i; omega) _ _ _ (hP.sub [0, 1, 2, 3] rfl) (hD.sub [0, 1, 2, 3] (by decide) rfl) hS (lv_sub hl [1, 2, 0] rfl)
set_option maxHeartbeats 4000000 in
set_option maxRecDepth 100000 in
theorem c_X4_holdT1 (l : Launch) (G : GW) (sz : Nat) (o : Nat) (ad : Nat → Nat) (sz1 : Int32) (osz : Int32) (th : Int32) (hsz : Int32) (x : Int32) (hbx : x < 0 ∨ 2 < x) : Met l yX4_hold (Cond.code yX4_hold cX4_hold 3 (some FieldType.int) :: UW) ({ frames := 0, cells := 0, slots := 0, locals := 0 } : Room) (va_Pc [.ref o, .int x] (gPre G [(o, .inr (4, mF ad sz1 osz th hsz))] sz)) (va_Qi (fun (r : Int32) (_ : Unit) => r = 0) (fun u => gPost G (va_A [(o, .inr (4, mF ad sz1 osz th hsz))] sz) ((fun (_ : Unit) => ([(o, .inr (4, mF ad sz1 osz (nI 1) hsz))] : va_W)) u)) (va_A [(o, .inr (4, mF ad sz1 osz th hsz))] sz)) 0 0 (va_A [(o, .inr (4, mF ad sz1 osz th hsz))] sz) := by
  refine gM_of (Qf := fun A => va_Qi (fun (r : Int32) (_ : Unit) => r = 0) (fun u => gPost G A ((fun (_ : Unit) => ([(o, .inr (4, mF ad sz1 osz (nI 1) hsz))] : va_W)) u)) A) (by decide) (Nat.le_of_ble_eq_true rfl) ?_
  intro p e s m below meth c A ls hx hb hml hr hown htu hlk hnm hA hP hD hS hK hZ hl
  have hown : s.vm.findClass RX4 = some m.cls := hown
  have hl : lv_has ls 3 [(0, .ref o), (1, .int x)] := hl
  refine lv_aload_n hx hb dX4_hold_0 rfl (lv_at hl 0 rfl) ?_
  refine lv_iload_n hx hb dX4_hold_1 rfl (lv_at hl 1 rfl) ?_
  refine lv_if_lt (tgt := 10) hx hb dX4_hold_2 (by decide) (fun c_2 => ?_) (fun c_2 => ?_)
  · skip
    refine lv_iconst (v := nI 1) hx hb dX4_hold_10 (by decide) ?_
    refine lv_goto (tgt := 15) hx hb dX4_hold_11 (by decide) ?_
    refine va_put (D := G.1) (ci := 4) (v := .int (nI 1)) (ty := .int) (C := RX4) (T := TX4) (N := 29) hx hb htu iwX4 tyX4 tyX4_ok nmX4 hown hK.1 hP hD hS 0 rfl rfl 20 (by decide) (htu _ uF_X4_95) (fun _ h9 => h9) rfl (by decide +kernel) rfl rfl (Nat.le_of_ble_eq_true rfl) dX4_hold_15 (fun H locs hP hD hS => ?_)
    have hP : va_P G.1 vwCl [(o, .inr (4, mF ad sz1 osz (nI 1) hsz))] H := hP
    have hD : va_D A [(o, .inr (4, mF ad sz1 osz (nI 1) hsz))] := hD
    refine lv_aload_n hx hb dX4_hold_18 rfl (lv_at hl 0 rfl) ?_
    refine va_get (D := G.1) (ci := 4) (v := .int (nI 1)) (C := RX4) (T := TX4) (N := 29) hx hb htu iwX4 hown hK.1 hP 0 rfl rfl 20 (by decide) (htu _ uF_X4_95) (fun _ h9 => h9) rfl dX4_hold_19 ?_
    refine lv_if_le (tgt := 27) hx hb dX4_hold_22 (by decide) (fun c_22 => absurd c_22 (by decide)) (fun _ => ?_)
    refine lv_iconst (v := nI 0) hx hb dX4_hold_25 (by decide) ?_
    exact gret_i hx hb hr hlk dX4_hold_26 hS () (hP.sub [0] rfl) (hD.sub [0] (by decide) rfl) (rfl)
  · skip
    refine lv_iload_n hx hb dX4_hold_5 rfl (lv_at hl 1 rfl) ?_
    refine lv_iconst (v := nI 2) hx hb dX4_hold_6 (by decide) ?_
    refine lv_icmp_le (tgt := 14) hx hb dX4_hold_7 (by decide) (fun c_7 => absurd c_7 (fun h => hbx.elim c_2 (fun g => absurd h (Int32.not_le.mpr g)))) (fun _ => ?_)
    refine lv_iconst (v := nI 1) hx hb dX4_hold_10 (by decide) ?_
    refine lv_goto (tgt := 15) hx hb dX4_hold_11 (by decide) ?_
    refine va_put (D := G.1) (ci := 4) (v := .int (nI 1)) (ty := .int) (C := RX4) (T := TX4) (N := 29) hx hb htu iwX4 tyX4 tyX4_ok nmX4 hown hK.1 hP hD hS 0 rfl rfl 20 (by decide) (htu _ uF_X4_95) (fun _ h9 => h9) rfl (by decide +kernel) rfl rfl (Nat.le_of_ble_eq_true rfl) dX4_hold_15 (fun H locs hP hD hS => ?_)
    have hP : va_P G.1 vwCl [(o, .inr (4, mF ad sz1 osz (nI 1) hsz))] H := hP
    have hD : va_D A [(o, .inr (4, mF ad sz1 osz (nI 1) hsz))] := hD
    refine lv_aload_n hx hb dX4_hold_18 rfl (lv_at hl 0 rfl) ?_
    refine va_get (D := G.1) (ci := 4) (v := .int (nI 1)) (C := RX4) (T := TX4) (N := 29) hx hb htu iwX4 hown hK.1 hP 0 rfl rfl 20 (by decide) (htu _ uF_X4_95) (fun _ h9 => h9) rfl dX4_hold_19 ?_
    refine lv_if_le (tgt := 27) hx hb dX4_hold_22 (by decide) (fun c_22 => absurd c_22 (by decide)) (fun _ => ?_)
    refine lv_iconst (v := nI 0) hx hb dX4_hold_25 (by decide) ?_
    exact gret_i hx hb hr hlk dX4_hold_26 hS () (hP.sub [0] rfl) (hD.sub [0] (by decide) rfl) (rfl)
set_option maxHeartbeats 4000000 in
set_option maxRecDepth 100000 in
theorem c_X4_keep (l : Launch) (G : GW) (sz : Nat) (o : Nat) (ad : Nat → Nat) (sz1 : Int32) (th : Int32) (hsz : Int32) (z : Nat) (wr : Nat) (rz : Nat → Int32) (rg : Nat → Int32) (uf : Nat → Int32) (q : List Nat) (R : Nat → List Nat) (hwr : wr < 3) (hT : OutR uf z q) (hR9 : RegR rg rz R) (h600 : z ≤ 600) : Met l yX4_keep (Cond.code yX4_keep cX4_keep 3 (some FieldType.int) :: UW) ({ frames := 0, cells := 0, slots := 0, locals := 0 } : Room) (va_Pc [.ref o, .int (nI wr)] (gPre G [(o, .inr (4, mF ad sz1 (nI z) th hsz)), (ad 19, .inl (G.2.1 1, 3, .inl rz)), (ad 18, .inl (G.2.1 1, 1800, .inl rg)), (ad 16, .inl (G.2.1 1, 16320, .inl uf))] sz)) (va_Qi (fun (r : Int32) (uq9 : (Nat → Int32) × (Nat → Int32)) => r = nI z ∧ RegR uq9.2 uq9.1 (va_up R wr q)) (fun u => gPost G (va_A [(o, .inr (4, mF ad sz1 (nI z) th hsz)), (ad 19, .inl (G.2.1 1, 3, .inl rz)), (ad 18, .inl (G.2.1 1, 1800, .inl rg)), (ad 16, .inl (G.2.1 1, 16320, .inl uf))] sz) ((fun (uq9 : (Nat → Int32) × (Nat → Int32)) => ([(o, .inr (4, mF ad sz1 (nI z) (nI 0) hsz)), (ad 19, .inl (G.2.1 1, 3, .inl uq9.1)), (ad 18, .inl (G.2.1 1, 1800, .inl uq9.2)), (ad 16, .inl (G.2.1 1, 16320, .inl uf))] : va_W)) u)) (va_A [(o, .inr (4, mF ad sz1 (nI z) th hsz)), (ad 19, .inl (G.2.1 1, 3, .inl rz)), (ad 18, .inl (G.2.1 1, 1800, .inl rg)), (ad 16, .inl (G.2.1 1, 16320, .inl uf))] sz)) 0 0 (va_A [(o, .inr (4, mF ad sz1 (nI z) th hsz)), (ad 19, .inl (G.2.1 1, 3, .inl rz)), (ad 18, .inl (G.2.1 1, 1800, .inl rg)), (ad 16, .inl (G.2.1 1, 16320, .inl uf))] sz) := by
  refine gM_of (Qf := fun A => va_Qi (fun (r : Int32) (uq9 : (Nat → Int32) × (Nat → Int32)) => r = nI z ∧ RegR uq9.2 uq9.1 (va_up R wr q)) (fun u => gPost G A ((fun (uq9 : (Nat → Int32) × (Nat → Int32)) => ([(o, .inr (4, mF ad sz1 (nI z) (nI 0) hsz)), (ad 19, .inl (G.2.1 1, 3, .inl uq9.1)), (ad 18, .inl (G.2.1 1, 1800, .inl uq9.2)), (ad 16, .inl (G.2.1 1, 16320, .inl uf))] : va_W)) u)) A) (by decide) (Nat.le_of_ble_eq_true rfl) ?_
  intro p e s m below meth c A ls hx hb hml hr hown htu hlk hnm hA hP hD hS hK hZ hl
  have hown : s.vm.findClass RX4 = some m.cls := hown
  have hl : lv_has ls 3 [(0, .ref o), (1, .int (nI wr))] := hl
  refine lv_aload_n hx hb dX4_keep_0 rfl (lv_at hl 0 rfl) ?_
  refine lv_iload_n hx hb dX4_keep_1 rfl (lv_at hl 1 rfl) ?_
  refine lv_if_lt (tgt := 10) hx hb dX4_keep_2 (by decide) (fun c_2 => absurd c_2 (nI_pos (by omega))) (fun _ => ?_)
  refine lv_iload_n hx hb dX4_keep_5 rfl (lv_at hl 1 rfl) ?_
  refine lv_iconst (v := nI 2) hx hb dX4_keep_6 (by decide) ?_
  refine lv_icmp_le (tgt := 14) hx hb dX4_keep_7 (by decide) (fun _ => ?_) (fun c_7 => absurd (nI_le (b := 2) (by omega) (by decide)) c_7)
  refine lv_iconst (v := nI 0) hx hb dX4_keep_14 (by decide) ?_
  refine va_put (D := G.1) (ci := 4) (v := .int (nI 0)) (ty := .int) (C := RX4) (T := TX4) (N := 29) hx hb htu iwX4 tyX4 tyX4_ok nmX4 hown hK.1 hP hD hS 0 rfl rfl 20 (by decide) (htu _ uF_X4_95) (fun _ h9 => h9) rfl (by decide +kernel) rfl rfl (Nat.le_of_ble_eq_true rfl) dX4_keep_15 (fun H locs hP hD hS => ?_)
  have hP : va_P G.1 vwCl [(o, .inr (4, mF ad sz1 (nI z) (nI 0) hsz)), (ad 19, .inl (G.2.1 1, 3, .inl rz)), (ad 18, .inl (G.2.1 1, 1800, .inl rg)), (ad 16, .inl (G.2.1 1, 16320, .inl uf))] H := hP
  have hD : va_D A [(o, .inr (4, mF ad sz1 (nI z) (nI 0) hsz)), (ad 19, .inl (G.2.1 1, 3, .inl rz)), (ad 18, .inl (G.2.1 1, 1800, .inl rg)), (ad 16, .inl (G.2.1 1, 16320, .inl uf))] := hD
  refine lv_aload_n hx hb dX4_keep_18 rfl (lv_at hl 0 rfl) ?_
  refine va_get (D := G.1) (ci := 4) (v := .int (nI 0)) (C := RX4) (T := TX4) (N := 29) hx hb htu iwX4 hown hK.1 hP 0 rfl rfl 20 (by decide) (htu _ uF_X4_95) (fun _ h9 => h9) rfl dX4_keep_19 ?_
  refine lv_if_le (tgt := 27) hx hb dX4_keep_22 (by decide) (fun _ => ?_) (fun c_22 => absurd (by decide) c_22)
  refine lv_aload_n hx hb dX4_keep_27 rfl (lv_at hl 0 rfl) ?_
  refine va_get (D := G.1) (ci := 4) (v := .int (nI z)) (C := RX4) (T := TX4) (N := 29) hx hb htu iwX4 hown hK.1 hP 0 rfl rfl 17 (by decide) (htu _ uF_X4_168) (fun _ h9 => h9) rfl dX4_keep_28 ?_
  refine lv_sipush (v := nI 600) hx hb dX4_keep_31 (by decide) ?_
  refine lv_icmp_le (tgt := 39) hx hb dX4_keep_34 (by decide) (fun _ => ?_) (fun c_34 => absurd (nI_le (b := 600) h600 (by decide)) c_34)
  refine lv_aload_n hx hb dX4_keep_39 rfl (lv_at hl 0 rfl) ?_
  refine va_get (D := G.1) (ci := 4) (v := .ref (ad 19)) (C := RX4) (T := TX4) (N := 29) hx hb htu iwX4 hown hK.1 hP 0 rfl rfl 19 (by decide) (htu _ uF_X4_63) (fun _ h9 => h9) rfl dX4_keep_40 ?_
  refine lv_iload_n hx hb dX4_keep_43 rfl (lv_at hl 1 rfl) ?_
  refine lv_aload_n hx hb dX4_keep_44 rfl (lv_at hl 0 rfl) ?_
  refine va_get (D := G.1) (ci := 4) (v := .int (nI z)) (C := RX4) (T := TX4) (N := 29) hx hb htu iwX4 hown hK.1 hP 0 rfl rfl 17 (by decide) (htu _ uF_X4_168) (fun _ h9 => h9) rfl dX4_keep_45 ?_
  refine g_iast hx hb hK.1 hP hD hS 1 1 rfl rfl ⟨hwr, by decide⟩ dX4_keep_48 (fun H locs hP hD hS => ?_)
  obtain ⟨g_1, eg_1⟩ : ∃ gq9 : Nat → Int32, gq9 = upd rz wr (nI z) := ⟨_, rfl⟩
  rw [← eg_1] at hP hD
  have hP : va_P G.1 vwCl [(o, .inr (4, mF ad sz1 (nI z) (nI 0) hsz)), (ad 19, .inl (G.2.1 1, 3, .inl g_1)), (ad 18, .inl (G.2.1 1, 1800, .inl rg)), (ad 16, .inl (G.2.1 1, 16320, .inl uf))] H := hP
  have hD : va_D A [(o, .inr (4, mF ad sz1 (nI z) (nI 0) hsz)), (ad 19, .inl (G.2.1 1, 3, .inl g_1)), (ad 18, .inl (G.2.1 1, 1800, .inl rg)), (ad 16, .inl (G.2.1 1, 16320, .inl uf))] := hD
  refine lv_iconst (v := nI 0) hx hb dX4_keep_49 (by decide) ?_
  refine lv_istore_n (lv' := [(2, .int (nI 0)), (0, .ref o), (1, .int (nI wr))]) hx hb dX4_keep_50 rfl hl (by decide) rfl (fun ls hl => ?_)
  refine g_loop (σ := Nat × (Nat → Int32)) (G := G) (fun xq9 : Nat × (Nat → Int32) => [(o, .inr (4, mF ad sz1 (nI z) (nI 0) hsz)), (ad 19, .inl (G.2.1 1, 3, .inl g_1)), (ad 18, .inl (G.2.1 1, 1800, .inl xq9.2)), (ad 16, .inl (G.2.1 1, 16320, .inl uf))]) (fun xq9 : Nat × (Nat → Int32) => [(0, .ref o), (1, .int (nI wr)), (2, .int (nI xq9.1))]) (fun xq9 : Nat × (Nat → Int32) => xq9.1 ≤ z ∧ (∀ x, x < xq9.1 → xq9.2 (600 * wr + x) = uf x) ∧ ∀ x, (x < 600 * wr ∨ 600 * wr + xq9.1 ≤ x) → xq9.2 x = rg x) (fun xq9 : Nat × (Nat → Int32) => z - xq9.1) ?_ (0, rg) (show 0 ≤ z ∧ (∀ x, x < 0 → rg (600 * wr + x) = uf x) ∧ ∀ x, (x < 600 * wr ∨ 600 * wr + 0 ≤ x) → rg x = rg x from ⟨Nat.zero_le _, fun _ h => absurd h (Nat.not_lt_zero _), fun _ _ => rfl⟩) (hP.sub [0, 1, 2, 3] rfl) (hD.sub [0, 1, 2, 3] (by decide) rfl) hS (lv_sub hl [1, 2, 0] rfl)
  clear hP hD hS hl
  intro x hxI_51 ih_51 H locs ls hP hD hS hl
  obtain ⟨i, y⟩ := x
  have hI : i ≤ z ∧ (∀ x, x < i → y (600 * wr + x) = uf x) ∧ ∀ x, (x < 600 * wr ∨ 600 * wr + i ≤ x) → y x = rg x := hxI_51
  have hP : va_P G.1 vwCl [(o, .inr (4, mF ad sz1 (nI z) (nI 0) hsz)), (ad 19, .inl (G.2.1 1, 3, .inl g_1)), (ad 18, .inl (G.2.1 1, 1800, .inl y)), (ad 16, .inl (G.2.1 1, 16320, .inl uf))] H := hP
  have hD : va_D A [(o, .inr (4, mF ad sz1 (nI z) (nI 0) hsz)), (ad 19, .inl (G.2.1 1, 3, .inl g_1)), (ad 18, .inl (G.2.1 1, 1800, .inl y)), (ad 16, .inl (G.2.1 1, 16320, .inl uf))] := hD
  have hl : lv_has ls 3 [(0, .ref o), (1, .int (nI wr)), (2, .int (nI i))] := hl
  refine lv_iload_n hx hb dX4_keep_51 rfl (lv_at hl 2 rfl) ?_
  refine lv_aload_n hx hb dX4_keep_52 rfl (lv_at hl 0 rfl) ?_
  refine va_get (D := G.1) (ci := 4) (v := .int (nI z)) (C := RX4) (T := TX4) (N := 29) hx hb htu iwX4 hown hK.1 hP 0 rfl rfl 17 (by decide) (htu _ uF_X4_168) (fun _ h9 => h9) rfl dX4_keep_53 ?_
  refine lv_icmp_ge (tgt := 83) hx hb dX4_keep_56 (by decide) (fun c_56 => ?_) (fun c_56 => ?_)
  · skip
    have hi : z ≤ i := ge_t (n := z) c_56 (by have := hT.2.1; omega)
    refine lv_aload_n hx hb dX4_keep_83 rfl (lv_at hl 0 rfl) ?_
    refine va_get (D := G.1) (ci := 4) (v := .int (nI z)) (C := RX4) (T := TX4) (N := 29) hx hb htu iwX4 hown hK.1 hP 0 rfl rfl 17 (by decide) (htu _ uF_X4_168) (fun _ h9 => h9) rfl dX4_keep_84 ?_
    exact gret_i hx hb hr hlk dX4_keep_87 hS (g_1, y) (hP.sub [0, 1, 2, 3] rfl) (hD.sub [0, 1, 2, 3] (by decide) rfl) (show (nI z = nI z) ∧ (RegR y g_1 (va_up R wr q)) from ⟨rfl, hR9.set eg_1 hT.1 (by have := hT.1; have := hT.2.1; omega) hT.2.2.1 (fun x hx => (hI.2.1 x (by omega)).trans (hT.2.2.2 x (by have := hT.1; omega))) (fun x hx => hI.2.2 x (by omega))⟩)
  · skip
    have hi : i < z := ge_f (n := z) c_56 (by have := hI.1; have := hT.2.1; omega)
    refine lv_aload_n hx hb dX4_keep_59 rfl (lv_at hl 0 rfl) ?_
    refine va_get (D := G.1) (ci := 4) (v := .ref (ad 18)) (C := RX4) (T := TX4) (N := 29) hx hb htu iwX4 hown hK.1 hP 0 rfl rfl 18 (by decide) (htu _ uF_X4_60) (fun _ h9 => h9) rfl dX4_keep_60 ?_
    refine lv_sipush (v := nI 600) hx hb dX4_keep_63 (by decide) ?_
    refine lv_iload_n hx hb dX4_keep_66 rfl (lv_at hl 1 rfl) ?_
    refine lv_imul hx hb dX4_keep_67 ?_
    refine g_toi (y := nI (600 * wr)) (pk_mul 600 wr) ?_
    refine lv_iload_n hx hb dX4_keep_68 rfl (lv_at hl 2 rfl) ?_
    refine lv_iadd hx hb dX4_keep_69 ?_
    refine g_toi (y := nI (600 * wr + i)) (nI_add (600 * wr) i) ?_
    refine lv_aload_n hx hb dX4_keep_70 rfl (lv_at hl 0 rfl) ?_
    refine va_get (D := G.1) (ci := 4) (v := .ref (ad 16)) (C := RX4) (T := TX4) (N := 29) hx hb htu iwX4 hown hK.1 hP 0 rfl rfl 16 (by decide) (htu _ uF_X4_57) (fun _ h9 => h9) rfl dX4_keep_71 ?_
    refine lv_iload_n hx hb dX4_keep_74 rfl (lv_at hl 2 rfl) ?_
    refine g_iald hx hb hK.1 hP 3 1 rfl rfl ⟨by omega, by decide⟩ dX4_keep_75 ?_
    refine lv_topi (fun v_2 ev_2 => ?_)
    refine g_iast hx hb hK.1 hP hD hS 2 1 rfl rfl ⟨by omega, by decide⟩ dX4_keep_76 (fun H locs hP hD hS => ?_)
    obtain ⟨g_3, eg_3⟩ : ∃ gq9 : Nat → Int32, gq9 = upd y (600 * wr + i) v_2 := ⟨_, rfl⟩
    rw [← eg_3] at hP hD
    have hP : va_P G.1 vwCl [(o, .inr (4, mF ad sz1 (nI z) (nI 0) hsz)), (ad 19, .inl (G.2.1 1, 3, .inl g_1)), (ad 18, .inl (G.2.1 1, 1800, .inl g_3)), (ad 16, .inl (G.2.1 1, 16320, .inl uf))] H := hP
    have hD : va_D A [(o, .inr (4, mF ad sz1 (nI z) (nI 0) hsz)), (ad 19, .inl (G.2.1 1, 3, .inl g_1)), (ad 18, .inl (G.2.1 1, 1800, .inl g_3)), (ad 16, .inl (G.2.1 1, 16320, .inl uf))] := hD
    refine lv_iinc (v := nI (i + 1)) (lv' := [(2, .int (nI (i + 1))), (0, .ref o), (1, .int (nI wr))]) hx hb dX4_keep_77 hl (k := 2) rfl (nI_1 i) (by decide) rfl (fun ls hl => ?_)
    refine lv_goto (tgt := 51) hx hb dX4_keep_80 (by decide) ?_
    exact ih_51 (i + 1, g_3) (show (i + 1) ≤ z ∧ (∀ x, x < (i + 1) → g_3 (600 * wr + x) = uf x) ∧ ∀ x, (x < 600 * wr ∨ 600 * wr + (i + 1) ≤ x) → g_3 x = rg x from cpyU hI hi eg_3 ev_2) (by show z - (i + 1) < z - i; omega) _ _ _ (hP.sub [0, 1, 2, 3] rfl) (hD.sub [0, 1, 2, 3] (by decide) rfl) hS (lv_sub hl [1, 2, 0] rfl)
set_option maxHeartbeats 4000000 in
set_option maxRecDepth 100000 in
theorem c_X4_keepT1 (l : Launch) (G : GW) (sz : Nat) (o : Nat) (ad : Nat → Nat) (sz1 : Int32) (osz : Int32) (th : Int32) (hsz : Int32) (x : Int32) (hbx : x < 0 ∨ 2 < x) : Met l yX4_keep (Cond.code yX4_keep cX4_keep 3 (some FieldType.int) :: UW) ({ frames := 0, cells := 0, slots := 0, locals := 0 } : Room) (va_Pc [.ref o, .int x] (gPre G [(o, .inr (4, mF ad sz1 osz th hsz))] sz)) (va_Qi (fun (r : Int32) (_ : Unit) => r = 0) (fun u => gPost G (va_A [(o, .inr (4, mF ad sz1 osz th hsz))] sz) ((fun (_ : Unit) => ([(o, .inr (4, mF ad sz1 osz (nI 1) hsz))] : va_W)) u)) (va_A [(o, .inr (4, mF ad sz1 osz th hsz))] sz)) 0 0 (va_A [(o, .inr (4, mF ad sz1 osz th hsz))] sz) := by
  refine gM_of (Qf := fun A => va_Qi (fun (r : Int32) (_ : Unit) => r = 0) (fun u => gPost G A ((fun (_ : Unit) => ([(o, .inr (4, mF ad sz1 osz (nI 1) hsz))] : va_W)) u)) A) (by decide) (Nat.le_of_ble_eq_true rfl) ?_
  intro p e s m below meth c A ls hx hb hml hr hown htu hlk hnm hA hP hD hS hK hZ hl
  have hown : s.vm.findClass RX4 = some m.cls := hown
  have hl : lv_has ls 3 [(0, .ref o), (1, .int x)] := hl
  refine lv_aload_n hx hb dX4_keep_0 rfl (lv_at hl 0 rfl) ?_
  refine lv_iload_n hx hb dX4_keep_1 rfl (lv_at hl 1 rfl) ?_
  refine lv_if_lt (tgt := 10) hx hb dX4_keep_2 (by decide) (fun c_2 => ?_) (fun c_2 => ?_)
  · skip
    refine lv_iconst (v := nI 1) hx hb dX4_keep_10 (by decide) ?_
    refine lv_goto (tgt := 15) hx hb dX4_keep_11 (by decide) ?_
    refine va_put (D := G.1) (ci := 4) (v := .int (nI 1)) (ty := .int) (C := RX4) (T := TX4) (N := 29) hx hb htu iwX4 tyX4 tyX4_ok nmX4 hown hK.1 hP hD hS 0 rfl rfl 20 (by decide) (htu _ uF_X4_95) (fun _ h9 => h9) rfl (by decide +kernel) rfl rfl (Nat.le_of_ble_eq_true rfl) dX4_keep_15 (fun H locs hP hD hS => ?_)
    have hP : va_P G.1 vwCl [(o, .inr (4, mF ad sz1 osz (nI 1) hsz))] H := hP
    have hD : va_D A [(o, .inr (4, mF ad sz1 osz (nI 1) hsz))] := hD
    refine lv_aload_n hx hb dX4_keep_18 rfl (lv_at hl 0 rfl) ?_
    refine va_get (D := G.1) (ci := 4) (v := .int (nI 1)) (C := RX4) (T := TX4) (N := 29) hx hb htu iwX4 hown hK.1 hP 0 rfl rfl 20 (by decide) (htu _ uF_X4_95) (fun _ h9 => h9) rfl dX4_keep_19 ?_
    refine lv_if_le (tgt := 27) hx hb dX4_keep_22 (by decide) (fun c_22 => absurd c_22 (by decide)) (fun _ => ?_)
    refine lv_iconst (v := nI 0) hx hb dX4_keep_25 (by decide) ?_
    exact gret_i hx hb hr hlk dX4_keep_26 hS () (hP.sub [0] rfl) (hD.sub [0] (by decide) rfl) (rfl)
  · skip
    refine lv_iload_n hx hb dX4_keep_5 rfl (lv_at hl 1 rfl) ?_
    refine lv_iconst (v := nI 2) hx hb dX4_keep_6 (by decide) ?_
    refine lv_icmp_le (tgt := 14) hx hb dX4_keep_7 (by decide) (fun c_7 => absurd c_7 (fun h => hbx.elim c_2 (fun g => absurd h (Int32.not_le.mpr g)))) (fun _ => ?_)
    refine lv_iconst (v := nI 1) hx hb dX4_keep_10 (by decide) ?_
    refine lv_goto (tgt := 15) hx hb dX4_keep_11 (by decide) ?_
    refine va_put (D := G.1) (ci := 4) (v := .int (nI 1)) (ty := .int) (C := RX4) (T := TX4) (N := 29) hx hb htu iwX4 tyX4 tyX4_ok nmX4 hown hK.1 hP hD hS 0 rfl rfl 20 (by decide) (htu _ uF_X4_95) (fun _ h9 => h9) rfl (by decide +kernel) rfl rfl (Nat.le_of_ble_eq_true rfl) dX4_keep_15 (fun H locs hP hD hS => ?_)
    have hP : va_P G.1 vwCl [(o, .inr (4, mF ad sz1 osz (nI 1) hsz))] H := hP
    have hD : va_D A [(o, .inr (4, mF ad sz1 osz (nI 1) hsz))] := hD
    refine lv_aload_n hx hb dX4_keep_18 rfl (lv_at hl 0 rfl) ?_
    refine va_get (D := G.1) (ci := 4) (v := .int (nI 1)) (C := RX4) (T := TX4) (N := 29) hx hb htu iwX4 hown hK.1 hP 0 rfl rfl 20 (by decide) (htu _ uF_X4_95) (fun _ h9 => h9) rfl dX4_keep_19 ?_
    refine lv_if_le (tgt := 27) hx hb dX4_keep_22 (by decide) (fun c_22 => absurd c_22 (by decide)) (fun _ => ?_)
    refine lv_iconst (v := nI 0) hx hb dX4_keep_25 (by decide) ?_
    exact gret_i hx hb hr hlk dX4_keep_26 hS () (hP.sub [0] rfl) (hD.sub [0] (by decide) rfl) (rfl)
set_option maxHeartbeats 4000000 in
set_option maxRecDepth 100000 in
theorem c_X4_keepN (l : Launch) (G : GW) (sz : Nat) (o : Nat) (ad : Nat → Nat) (sz1 : Int32) (th : Int32) (hsz : Int32) (z : Nat) (wr : Nat) (hwr : wr < 3) (hz : 600 < z ∧ z ≤ 16320) : Met l yX4_keep (Cond.code yX4_keep cX4_keep 3 (some FieldType.int) :: UW) ({ frames := 0, cells := 0, slots := 0, locals := 0 } : Room) (va_Pc [.ref o, .int (nI wr)] (gPre G [(o, .inr (4, mF ad sz1 (nI z) th hsz))] sz)) (va_Qi (fun (r : Int32) (_ : Unit) => r = -1) (fun u => gPost G (va_A [(o, .inr (4, mF ad sz1 (nI z) th hsz))] sz) ((fun (_ : Unit) => ([(o, .inr (4, mF ad sz1 (nI z) (nI 0) hsz))] : va_W)) u)) (va_A [(o, .inr (4, mF ad sz1 (nI z) th hsz))] sz)) 0 0 (va_A [(o, .inr (4, mF ad sz1 (nI z) th hsz))] sz) := by
  refine gM_of (Qf := fun A => va_Qi (fun (r : Int32) (_ : Unit) => r = -1) (fun u => gPost G A ((fun (_ : Unit) => ([(o, .inr (4, mF ad sz1 (nI z) (nI 0) hsz))] : va_W)) u)) A) (by decide) (Nat.le_of_ble_eq_true rfl) ?_
  intro p e s m below meth c A ls hx hb hml hr hown htu hlk hnm hA hP hD hS hK hZ hl
  have hown : s.vm.findClass RX4 = some m.cls := hown
  have hl : lv_has ls 3 [(0, .ref o), (1, .int (nI wr))] := hl
  refine lv_aload_n hx hb dX4_keep_0 rfl (lv_at hl 0 rfl) ?_
  refine lv_iload_n hx hb dX4_keep_1 rfl (lv_at hl 1 rfl) ?_
  refine lv_if_lt (tgt := 10) hx hb dX4_keep_2 (by decide) (fun c_2 => absurd c_2 (nI_pos (by omega))) (fun _ => ?_)
  refine lv_iload_n hx hb dX4_keep_5 rfl (lv_at hl 1 rfl) ?_
  refine lv_iconst (v := nI 2) hx hb dX4_keep_6 (by decide) ?_
  refine lv_icmp_le (tgt := 14) hx hb dX4_keep_7 (by decide) (fun _ => ?_) (fun c_7 => absurd (nI_le (b := 2) (by omega) (by decide)) c_7)
  refine lv_iconst (v := nI 0) hx hb dX4_keep_14 (by decide) ?_
  refine va_put (D := G.1) (ci := 4) (v := .int (nI 0)) (ty := .int) (C := RX4) (T := TX4) (N := 29) hx hb htu iwX4 tyX4 tyX4_ok nmX4 hown hK.1 hP hD hS 0 rfl rfl 20 (by decide) (htu _ uF_X4_95) (fun _ h9 => h9) rfl (by decide +kernel) rfl rfl (Nat.le_of_ble_eq_true rfl) dX4_keep_15 (fun H locs hP hD hS => ?_)
  have hP : va_P G.1 vwCl [(o, .inr (4, mF ad sz1 (nI z) (nI 0) hsz))] H := hP
  have hD : va_D A [(o, .inr (4, mF ad sz1 (nI z) (nI 0) hsz))] := hD
  refine lv_aload_n hx hb dX4_keep_18 rfl (lv_at hl 0 rfl) ?_
  refine va_get (D := G.1) (ci := 4) (v := .int (nI 0)) (C := RX4) (T := TX4) (N := 29) hx hb htu iwX4 hown hK.1 hP 0 rfl rfl 20 (by decide) (htu _ uF_X4_95) (fun _ h9 => h9) rfl dX4_keep_19 ?_
  refine lv_if_le (tgt := 27) hx hb dX4_keep_22 (by decide) (fun _ => ?_) (fun c_22 => absurd (by decide) c_22)
  refine lv_aload_n hx hb dX4_keep_27 rfl (lv_at hl 0 rfl) ?_
  refine va_get (D := G.1) (ci := 4) (v := .int (nI z)) (C := RX4) (T := TX4) (N := 29) hx hb htu iwX4 hown hK.1 hP 0 rfl rfl 17 (by decide) (htu _ uF_X4_168) (fun _ h9 => h9) rfl dX4_keep_28 ?_
  refine lv_sipush (v := nI 600) hx hb dX4_keep_31 (by decide) ?_
  refine lv_icmp_le (tgt := 39) hx hb dX4_keep_34 (by decide) (fun c_34 => absurd c_34 (nI_ge (a := 600) hz.1 (by omega))) (fun _ => ?_)
  refine lv_iconst (v := (-1)) hx hb dX4_keep_37 (by decide) ?_
  exact gret_i hx hb hr hlk dX4_keep_38 hS () (hP.sub [0] rfl) (hD.sub [0] (by decide) rfl) (rfl)
set_option maxHeartbeats 4000000 in
set_option maxRecDepth 100000 in
theorem c_X4_draw (l : Launch) (G : GW) (sz : Nat) (o : Nat) (ad : Nat → Nat) (sz1 : Int32) (osz : Int32) (th : Int32) (hsz : Int32) (k : Nat) (kf : Nat → Int32) (ff : Nat → Int32) (sf : Nat → Int64) (bf : Nat → Int32) (tf : Nat → Int64) (nf : Nat → Int32) (df : Nat → Int64) (cf : Nat → Int64) (gf : Nat → Int64) (ky : Nat → Int32) (dg : Nat → Int32) (hf : Nat → Int32) (rz : Nat → Int32) (rg : Nat → Int32) (uf : Nat → Int32) (R : Nat → List Nat) (hk : k < 4) (hc : ∀ j, j < 80 → cf j = kT j) (hgf : ∀ j, j < 8 → gf j = sqA j ∧ gf (8 + j) = sqB j) (hR9 : RegR rg rz R) : Met l yX4_draw (Cond.code yX4_draw cX4_draw 2 (some FieldType.int) :: UW) ({ frames := 6, cells := 0, slots := 0, locals := 158 } : Room) (va_Pc [.ref o, .int (nI k)] (gPre G [(o, .inr (4, mF ad sz1 osz th hsz)), (ad 4, .inl (G.2.1 1, 9, .inl kf)), (ad 7, .inl (G.2.1 1, 9, .inl ff)), (ad 5, .inl (G.2.1 2, 72, .inr (.inl sf))), (ad 6, .inl (G.2.1 1, 1152, .inl bf)), (ad 8, .inl (G.2.1 2, 9, .inr (.inl tf))), (ad 24, .inl (G.2.1 1, 64, .inl nf)), (ad 25, .inl (G.2.1 2, 80, .inr (.inl df))), (ad 2, .inl (G.2.1 2, 80, .inr (.inl cf))), (ad 3, .inl (G.2.1 2, 16, .inr (.inl gf))), (ad 14, .inl (G.2.1 1, 128, .inl ky)), (ad 15, .inl (G.2.1 1, 64, .inl dg)), (ad 26, .inl (G.2.1 1, 600, .inl hf)), (ad 19, .inl (G.2.1 1, 3, .inl rz)), (ad 18, .inl (G.2.1 1, 1800, .inl rg)), (ad 16, .inl (G.2.1 1, 16320, .inl uf))] sz)) (va_Qi (fun (r : Int32) (uq9 : (Nat → Int32) × (Nat → Int32) × (Nat → Int64) × (Nat → Int32) × (Nat → Int64) × (Nat → Int32) × (Nat → Int64) × (Nat → Int32) × (Nat → Int32) × (Nat → Int32) × (Nat → Int32)) => r = nI (ds k) ∧ OutR uq9.2.2.2.2.2.2.2.2.2.2 (ds k) (codeQ k (keyQ k (R 1)) (R 0)) ∧ MsO [4, 5, 6, 7, 8] (kf, ff, sf, bf, tf) (uq9.1, uq9.2.1, uq9.2.2.1, uq9.2.2.2.1, uq9.2.2.2.2.1)) (fun u => gPost G (va_A [(o, .inr (4, mF ad sz1 osz th hsz)), (ad 4, .inl (G.2.1 1, 9, .inl kf)), (ad 7, .inl (G.2.1 1, 9, .inl ff)), (ad 5, .inl (G.2.1 2, 72, .inr (.inl sf))), (ad 6, .inl (G.2.1 1, 1152, .inl bf)), (ad 8, .inl (G.2.1 2, 9, .inr (.inl tf))), (ad 24, .inl (G.2.1 1, 64, .inl nf)), (ad 25, .inl (G.2.1 2, 80, .inr (.inl df))), (ad 2, .inl (G.2.1 2, 80, .inr (.inl cf))), (ad 3, .inl (G.2.1 2, 16, .inr (.inl gf))), (ad 14, .inl (G.2.1 1, 128, .inl ky)), (ad 15, .inl (G.2.1 1, 64, .inl dg)), (ad 26, .inl (G.2.1 1, 600, .inl hf)), (ad 19, .inl (G.2.1 1, 3, .inl rz)), (ad 18, .inl (G.2.1 1, 1800, .inl rg)), (ad 16, .inl (G.2.1 1, 16320, .inl uf))] sz) ((fun (uq9 : (Nat → Int32) × (Nat → Int32) × (Nat → Int64) × (Nat → Int32) × (Nat → Int64) × (Nat → Int32) × (Nat → Int64) × (Nat → Int32) × (Nat → Int32) × (Nat → Int32) × (Nat → Int32)) => ([(o, .inr (4, mF ad sz1 (nI (ds k)) (nI 0) (nI (R 1).length))), (ad 4, .inl (G.2.1 1, 9, .inl uq9.1)), (ad 7, .inl (G.2.1 1, 9, .inl uq9.2.1)), (ad 5, .inl (G.2.1 2, 72, .inr (.inl uq9.2.2.1))), (ad 6, .inl (G.2.1 1, 1152, .inl uq9.2.2.2.1)), (ad 8, .inl (G.2.1 2, 9, .inr (.inl uq9.2.2.2.2.1))), (ad 24, .inl (G.2.1 1, 64, .inl uq9.2.2.2.2.2.1)), (ad 25, .inl (G.2.1 2, 80, .inr (.inl uq9.2.2.2.2.2.2.1))), (ad 2, .inl (G.2.1 2, 80, .inr (.inl cf))), (ad 3, .inl (G.2.1 2, 16, .inr (.inl gf))), (ad 14, .inl (G.2.1 1, 128, .inl uq9.2.2.2.2.2.2.2.1)), (ad 15, .inl (G.2.1 1, 64, .inl uq9.2.2.2.2.2.2.2.2.1)), (ad 26, .inl (G.2.1 1, 600, .inl uq9.2.2.2.2.2.2.2.2.2.1)), (ad 19, .inl (G.2.1 1, 3, .inl rz)), (ad 18, .inl (G.2.1 1, 1800, .inl rg)), (ad 16, .inl (G.2.1 1, 16320, .inl uq9.2.2.2.2.2.2.2.2.2.2))] : va_W)) u)) (va_A [(o, .inr (4, mF ad sz1 osz th hsz)), (ad 4, .inl (G.2.1 1, 9, .inl kf)), (ad 7, .inl (G.2.1 1, 9, .inl ff)), (ad 5, .inl (G.2.1 2, 72, .inr (.inl sf))), (ad 6, .inl (G.2.1 1, 1152, .inl bf)), (ad 8, .inl (G.2.1 2, 9, .inr (.inl tf))), (ad 24, .inl (G.2.1 1, 64, .inl nf)), (ad 25, .inl (G.2.1 2, 80, .inr (.inl df))), (ad 2, .inl (G.2.1 2, 80, .inr (.inl cf))), (ad 3, .inl (G.2.1 2, 16, .inr (.inl gf))), (ad 14, .inl (G.2.1 1, 128, .inl ky)), (ad 15, .inl (G.2.1 1, 64, .inl dg)), (ad 26, .inl (G.2.1 1, 600, .inl hf)), (ad 19, .inl (G.2.1 1, 3, .inl rz)), (ad 18, .inl (G.2.1 1, 1800, .inl rg)), (ad 16, .inl (G.2.1 1, 16320, .inl uf))] sz)) 0 0 (va_A [(o, .inr (4, mF ad sz1 osz th hsz)), (ad 4, .inl (G.2.1 1, 9, .inl kf)), (ad 7, .inl (G.2.1 1, 9, .inl ff)), (ad 5, .inl (G.2.1 2, 72, .inr (.inl sf))), (ad 6, .inl (G.2.1 1, 1152, .inl bf)), (ad 8, .inl (G.2.1 2, 9, .inr (.inl tf))), (ad 24, .inl (G.2.1 1, 64, .inl nf)), (ad 25, .inl (G.2.1 2, 80, .inr (.inl df))), (ad 2, .inl (G.2.1 2, 80, .inr (.inl cf))), (ad 3, .inl (G.2.1 2, 16, .inr (.inl gf))), (ad 14, .inl (G.2.1 1, 128, .inl ky)), (ad 15, .inl (G.2.1 1, 64, .inl dg)), (ad 26, .inl (G.2.1 1, 600, .inl hf)), (ad 19, .inl (G.2.1 1, 3, .inl rz)), (ad 18, .inl (G.2.1 1, 1800, .inl rg)), (ad 16, .inl (G.2.1 1, 16320, .inl uf))] sz) := by
  refine gM_of (Qf := fun A => va_Qi (fun (r : Int32) (uq9 : (Nat → Int32) × (Nat → Int32) × (Nat → Int64) × (Nat → Int32) × (Nat → Int64) × (Nat → Int32) × (Nat → Int64) × (Nat → Int32) × (Nat → Int32) × (Nat → Int32) × (Nat → Int32)) => r = nI (ds k) ∧ OutR uq9.2.2.2.2.2.2.2.2.2.2 (ds k) (codeQ k (keyQ k (R 1)) (R 0)) ∧ MsO [4, 5, 6, 7, 8] (kf, ff, sf, bf, tf) (uq9.1, uq9.2.1, uq9.2.2.1, uq9.2.2.2.1, uq9.2.2.2.2.1)) (fun u => gPost G A ((fun (uq9 : (Nat → Int32) × (Nat → Int32) × (Nat → Int64) × (Nat → Int32) × (Nat → Int64) × (Nat → Int32) × (Nat → Int64) × (Nat → Int32) × (Nat → Int32) × (Nat → Int32) × (Nat → Int32)) => ([(o, .inr (4, mF ad sz1 (nI (ds k)) (nI 0) (nI (R 1).length))), (ad 4, .inl (G.2.1 1, 9, .inl uq9.1)), (ad 7, .inl (G.2.1 1, 9, .inl uq9.2.1)), (ad 5, .inl (G.2.1 2, 72, .inr (.inl uq9.2.2.1))), (ad 6, .inl (G.2.1 1, 1152, .inl uq9.2.2.2.1)), (ad 8, .inl (G.2.1 2, 9, .inr (.inl uq9.2.2.2.2.1))), (ad 24, .inl (G.2.1 1, 64, .inl uq9.2.2.2.2.2.1)), (ad 25, .inl (G.2.1 2, 80, .inr (.inl uq9.2.2.2.2.2.2.1))), (ad 2, .inl (G.2.1 2, 80, .inr (.inl cf))), (ad 3, .inl (G.2.1 2, 16, .inr (.inl gf))), (ad 14, .inl (G.2.1 1, 128, .inl uq9.2.2.2.2.2.2.2.1)), (ad 15, .inl (G.2.1 1, 64, .inl uq9.2.2.2.2.2.2.2.2.1)), (ad 26, .inl (G.2.1 1, 600, .inl uq9.2.2.2.2.2.2.2.2.2.1)), (ad 19, .inl (G.2.1 1, 3, .inl rz)), (ad 18, .inl (G.2.1 1, 1800, .inl rg)), (ad 16, .inl (G.2.1 1, 16320, .inl uq9.2.2.2.2.2.2.2.2.2.2))] : va_W)) u)) A) (by decide) (Nat.le_of_ble_eq_true rfl) ?_
  intro p e s m below meth c A ls hx hb hml hr hown htu hlk hnm hA hP hD hS hK hZ hl
  have hown : s.vm.findClass RX4 = some m.cls := hown
  have hl : lv_has ls 2 [(0, .ref o), (1, .int (nI k))] := hl
  refine lv_aload_n hx hb dX4_draw_0 rfl (lv_at hl 0 rfl) ?_
  refine lv_iload_n hx hb dX4_draw_1 rfl (lv_at hl 1 rfl) ?_
  refine g_calli (g_runS (As := [.int (nI k)]) (rest := [.ref o]) ⟨hx, hb, hml, hown, htu⟩ (c_X4_noKind l G _ (nI k) ) uM_X4_177 ok_X4_noKind uA_X4_noKind rfl rfl ⟨Nat.le_of_ble_eq_true rfl, Nat.le_of_ble_eq_true rfl⟩ hK hP hD hS hA hZ [] rfl rfl rfl hl.1 rfl (Nat.le_of_ble_eq_true rfl) dX4_draw_2 ⟨Nat.le_of_ble_eq_true rfl, Nat.le_of_ble_eq_true rfl⟩) hP hD hS hA [] rfl (fun r_1 u H locs hw_2 hP hD hS => ?_)
  have hw_2 : r_1 = nkI (nI k) := hw_2
  subst hw_2
  have hP : va_P G.1 vwCl [(o, .inr (4, mF ad sz1 osz th hsz)), (ad 4, .inl (G.2.1 1, 9, .inl kf)), (ad 7, .inl (G.2.1 1, 9, .inl ff)), (ad 5, .inl (G.2.1 2, 72, .inr (.inl sf))), (ad 6, .inl (G.2.1 1, 1152, .inl bf)), (ad 8, .inl (G.2.1 2, 9, .inr (.inl tf))), (ad 24, .inl (G.2.1 1, 64, .inl nf)), (ad 25, .inl (G.2.1 2, 80, .inr (.inl df))), (ad 2, .inl (G.2.1 2, 80, .inr (.inl cf))), (ad 3, .inl (G.2.1 2, 16, .inr (.inl gf))), (ad 14, .inl (G.2.1 1, 128, .inl ky)), (ad 15, .inl (G.2.1 1, 64, .inl dg)), (ad 26, .inl (G.2.1 1, 600, .inl hf)), (ad 19, .inl (G.2.1 1, 3, .inl rz)), (ad 18, .inl (G.2.1 1, 1800, .inl rg)), (ad 16, .inl (G.2.1 1, 16320, .inl uf))] H := hP
  have hD : va_D A [(o, .inr (4, mF ad sz1 osz th hsz)), (ad 4, .inl (G.2.1 1, 9, .inl kf)), (ad 7, .inl (G.2.1 1, 9, .inl ff)), (ad 5, .inl (G.2.1 2, 72, .inr (.inl sf))), (ad 6, .inl (G.2.1 1, 1152, .inl bf)), (ad 8, .inl (G.2.1 2, 9, .inr (.inl tf))), (ad 24, .inl (G.2.1 1, 64, .inl nf)), (ad 25, .inl (G.2.1 2, 80, .inr (.inl df))), (ad 2, .inl (G.2.1 2, 80, .inr (.inl cf))), (ad 3, .inl (G.2.1 2, 16, .inr (.inl gf))), (ad 14, .inl (G.2.1 1, 128, .inl ky)), (ad 15, .inl (G.2.1 1, 64, .inl dg)), (ad 26, .inl (G.2.1 1, 600, .inl hf)), (ad 19, .inl (G.2.1 1, 3, .inl rz)), (ad 18, .inl (G.2.1 1, 1800, .inl rg)), (ad 16, .inl (G.2.1 1, 16320, .inl uf))] := hD
  refine g_toi (y := nI 0) (nkI_nI hk) ?_
  refine lv_if_eq (tgt := 12) hx hb dX4_draw_5 (by decide) (fun _ => ?_) (fun c_5 => absurd (by decide) c_5)
  refine lv_iconst (v := nI 0) hx hb dX4_draw_12 (by decide) ?_
  refine va_put (D := G.1) (ci := 4) (v := .int (nI 0)) (ty := .int) (C := RX4) (T := TX4) (N := 29) hx hb htu iwX4 tyX4 tyX4_ok nmX4 hown hK.1 hP hD hS 0 rfl rfl 20 (by decide) (htu _ uF_X4_95) (fun _ h9 => h9) rfl (by decide +kernel) rfl rfl (Nat.le_of_ble_eq_true rfl) dX4_draw_13 (fun H locs hP hD hS => ?_)
  have hP : va_P G.1 vwCl [(o, .inr (4, mF ad sz1 osz (nI 0) hsz)), (ad 4, .inl (G.2.1 1, 9, .inl kf)), (ad 7, .inl (G.2.1 1, 9, .inl ff)), (ad 5, .inl (G.2.1 2, 72, .inr (.inl sf))), (ad 6, .inl (G.2.1 1, 1152, .inl bf)), (ad 8, .inl (G.2.1 2, 9, .inr (.inl tf))), (ad 24, .inl (G.2.1 1, 64, .inl nf)), (ad 25, .inl (G.2.1 2, 80, .inr (.inl df))), (ad 2, .inl (G.2.1 2, 80, .inr (.inl cf))), (ad 3, .inl (G.2.1 2, 16, .inr (.inl gf))), (ad 14, .inl (G.2.1 1, 128, .inl ky)), (ad 15, .inl (G.2.1 1, 64, .inl dg)), (ad 26, .inl (G.2.1 1, 600, .inl hf)), (ad 19, .inl (G.2.1 1, 3, .inl rz)), (ad 18, .inl (G.2.1 1, 1800, .inl rg)), (ad 16, .inl (G.2.1 1, 16320, .inl uf))] H := hP
  have hD : va_D A [(o, .inr (4, mF ad sz1 osz (nI 0) hsz)), (ad 4, .inl (G.2.1 1, 9, .inl kf)), (ad 7, .inl (G.2.1 1, 9, .inl ff)), (ad 5, .inl (G.2.1 2, 72, .inr (.inl sf))), (ad 6, .inl (G.2.1 1, 1152, .inl bf)), (ad 8, .inl (G.2.1 2, 9, .inr (.inl tf))), (ad 24, .inl (G.2.1 1, 64, .inl nf)), (ad 25, .inl (G.2.1 2, 80, .inr (.inl df))), (ad 2, .inl (G.2.1 2, 80, .inr (.inl cf))), (ad 3, .inl (G.2.1 2, 16, .inr (.inl gf))), (ad 14, .inl (G.2.1 1, 128, .inl ky)), (ad 15, .inl (G.2.1 1, 64, .inl dg)), (ad 26, .inl (G.2.1 1, 600, .inl hf)), (ad 19, .inl (G.2.1 1, 3, .inl rz)), (ad 18, .inl (G.2.1 1, 1800, .inl rg)), (ad 16, .inl (G.2.1 1, 16320, .inl uf))] := hD
  refine lv_aload_n hx hb dX4_draw_16 rfl (lv_at hl 0 rfl) ?_
  refine va_get (D := G.1) (ci := 4) (v := .int (nI 0)) (C := RX4) (T := TX4) (N := 29) hx hb htu iwX4 hown hK.1 hP 0 rfl rfl 20 (by decide) (htu _ uF_X4_95) (fun _ h9 => h9) rfl dX4_draw_17 ?_
  refine lv_if_le (tgt := 25) hx hb dX4_draw_20 (by decide) (fun _ => ?_) (fun c_20 => absurd (by decide) c_20)
  refine lv_aload_n hx hb dX4_draw_25 rfl (lv_at hl 0 rfl) ?_
  refine lv_iconst (v := nI 1) hx hb dX4_draw_26 (by decide) ?_
  refine g_callv (g_runV (As := [.int (nI 1)]) (rest := []) ⟨hx, hb, hml, hown, htu⟩ (c_X4_takeRegister l G _ o ad sz1 osz (nI 0) hsz 1 ((R 1).length) rz rg hf (by decide) ((hR9 1 (by decide)).1) ((hR9 1 (by decide)).2.1)) uM_X4_183 ok_X4_takeRegister in_X4_takeRegister rfl rfl ⟨Nat.le_of_ble_eq_true rfl, Nat.le_of_ble_eq_true rfl⟩ hK hP hD hS hA hZ [0, 13, 14, 12] rfl rfl 0 rfl rfl rfl rfl hl.1 rfl (Nat.le_of_ble_eq_true rfl) dX4_draw_27 ⟨Nat.le_of_ble_eq_true rfl, Nat.le_of_ble_eq_true rfl⟩) hP hD hS hA [0, 13, 14, 12] rfl (fun u H locs hw0 hP hD hS => ?_)
  obtain ⟨hf_4, rfl⟩ : ∃ z, z = u := ⟨_, rfl⟩
  have hw0 : ∀ iq8, iq8 < ((R 1).length) → hf_4 iq8 = rg (600 * 1 + iq8) := hw0
  have hP : va_P G.1 vwCl [(ad 4, .inl (G.2.1 1, 9, .inl kf)), (ad 7, .inl (G.2.1 1, 9, .inl ff)), (ad 5, .inl (G.2.1 2, 72, .inr (.inl sf))), (ad 6, .inl (G.2.1 1, 1152, .inl bf)), (ad 8, .inl (G.2.1 2, 9, .inr (.inl tf))), (ad 24, .inl (G.2.1 1, 64, .inl nf)), (ad 25, .inl (G.2.1 2, 80, .inr (.inl df))), (ad 2, .inl (G.2.1 2, 80, .inr (.inl cf))), (ad 3, .inl (G.2.1 2, 16, .inr (.inl gf))), (ad 14, .inl (G.2.1 1, 128, .inl ky)), (ad 15, .inl (G.2.1 1, 64, .inl dg)), (ad 16, .inl (G.2.1 1, 16320, .inl uf)), (o, .inr (4, mF ad sz1 osz (nI 0) (nI ((R 1).length)))), (ad 19, .inl (G.2.1 1, 3, .inl rz)), (ad 18, .inl (G.2.1 1, 1800, .inl rg)), (ad 26, .inl (G.2.1 1, 600, .inl hf_4))] H := hP
  have hD : va_D A [(ad 4, .inl (G.2.1 1, 9, .inl kf)), (ad 7, .inl (G.2.1 1, 9, .inl ff)), (ad 5, .inl (G.2.1 2, 72, .inr (.inl sf))), (ad 6, .inl (G.2.1 1, 1152, .inl bf)), (ad 8, .inl (G.2.1 2, 9, .inr (.inl tf))), (ad 24, .inl (G.2.1 1, 64, .inl nf)), (ad 25, .inl (G.2.1 2, 80, .inr (.inl df))), (ad 2, .inl (G.2.1 2, 80, .inr (.inl cf))), (ad 3, .inl (G.2.1 2, 16, .inr (.inl gf))), (ad 14, .inl (G.2.1 1, 128, .inl ky)), (ad 15, .inl (G.2.1 1, 64, .inl dg)), (ad 16, .inl (G.2.1 1, 16320, .inl uf)), (o, .inr (4, mF ad sz1 osz (nI 0) (nI ((R 1).length)))), (ad 19, .inl (G.2.1 1, 3, .inl rz)), (ad 18, .inl (G.2.1 1, 1800, .inl rg)), (ad 26, .inl (G.2.1 1, 600, .inl hf_4))] := hD
  refine lv_aload_n hx hb dX4_draw_30 rfl (lv_at hl 0 rfl) ?_
  refine lv_iload_n hx hb dX4_draw_31 rfl (lv_at hl 1 rfl) ?_
  refine g_callv (g_runV (As := [.int (nI k)]) (rest := []) ⟨hx, hb, hml, hown, htu⟩ (c_X4_prepare l G _ o ad sz1 osz (nI 0) k ((R 1).length) kf ff sf bf tf nf df cf gf ky dg hf_4 (R 1) hc hgf hk (⟨(hR9 1 (by decide)).2.2.1, fun i hi => (hw0 i hi).trans ((hR9 1 (by decide)).2.2.2 i hi)⟩) rfl ((hR9 1 (by decide)).2.1)) uM_X4_186 ok_X4_prepare in_X4_prepare rfl rfl ⟨Nat.le_of_ble_eq_true rfl, Nat.le_of_ble_eq_true rfl⟩ hK hP hD hS hA hZ [12, 0, 1, 2, 3, 4, 5, 6, 7, 8, 9, 10, 15] rfl rfl 12 rfl rfl rfl rfl hl.1 rfl (Nat.le_of_ble_eq_true rfl) dX4_draw_32 ⟨Nat.le_of_ble_eq_true rfl, Nat.le_of_ble_eq_true rfl⟩) hP hD hS hA [12, 0, 1, 2, 3, 4, 5, 6, 7, 8, 9, 10, 15] rfl (fun u H locs hw1 hP hD hS => ?_)
  obtain ⟨kf_6, ff_7, sf_8, bf_9, tf_10, nf_11, df_12, ky_13, dg_14⟩ := u
  have hw1 : MsR (kf_6, ff_7, sf_8, bf_9, tf_10) 7 k (bs k) (kin k (keyQ k (R 1)) 54) ∧ MsR (kf_6, ff_7, sf_8, bf_9, tf_10) 8 k (bs k) (kin k (keyQ k (R 1)) 92) ∧ MsO [6, 7, 8] (kf, ff, sf, bf, tf) (kf_6, ff_7, sf_8, bf_9, tf_10) := hw1
  have hP : va_P G.1 vwCl [(ad 16, .inl (G.2.1 1, 16320, .inl uf)), (ad 19, .inl (G.2.1 1, 3, .inl rz)), (ad 18, .inl (G.2.1 1, 1800, .inl rg)), (o, .inr (4, mF ad sz1 osz (nI 0) (nI ((R 1).length)))), (ad 4, .inl (G.2.1 1, 9, .inl kf_6)), (ad 7, .inl (G.2.1 1, 9, .inl ff_7)), (ad 5, .inl (G.2.1 2, 72, .inr (.inl sf_8))), (ad 6, .inl (G.2.1 1, 1152, .inl bf_9)), (ad 8, .inl (G.2.1 2, 9, .inr (.inl tf_10))), (ad 24, .inl (G.2.1 1, 64, .inl nf_11)), (ad 25, .inl (G.2.1 2, 80, .inr (.inl df_12))), (ad 2, .inl (G.2.1 2, 80, .inr (.inl cf))), (ad 3, .inl (G.2.1 2, 16, .inr (.inl gf))), (ad 14, .inl (G.2.1 1, 128, .inl ky_13)), (ad 15, .inl (G.2.1 1, 64, .inl dg_14)), (ad 26, .inl (G.2.1 1, 600, .inl hf_4))] H := hP
  have hD : va_D A [(ad 16, .inl (G.2.1 1, 16320, .inl uf)), (ad 19, .inl (G.2.1 1, 3, .inl rz)), (ad 18, .inl (G.2.1 1, 1800, .inl rg)), (o, .inr (4, mF ad sz1 osz (nI 0) (nI ((R 1).length)))), (ad 4, .inl (G.2.1 1, 9, .inl kf_6)), (ad 7, .inl (G.2.1 1, 9, .inl ff_7)), (ad 5, .inl (G.2.1 2, 72, .inr (.inl sf_8))), (ad 6, .inl (G.2.1 1, 1152, .inl bf_9)), (ad 8, .inl (G.2.1 2, 9, .inr (.inl tf_10))), (ad 24, .inl (G.2.1 1, 64, .inl nf_11)), (ad 25, .inl (G.2.1 2, 80, .inr (.inl df_12))), (ad 2, .inl (G.2.1 2, 80, .inr (.inl cf))), (ad 3, .inl (G.2.1 2, 16, .inr (.inl gf))), (ad 14, .inl (G.2.1 1, 128, .inl ky_13)), (ad 15, .inl (G.2.1 1, 64, .inl dg_14)), (ad 26, .inl (G.2.1 1, 600, .inl hf_4))] := hD
  refine lv_aload_n hx hb dX4_draw_35 rfl (lv_at hl 0 rfl) ?_
  refine lv_iconst (v := nI 4) hx hb dX4_draw_36 (by decide) ?_
  refine lv_bipush (v := nI 7) hx hb dX4_draw_37 (by decide) ?_
  refine g_callv (g_runV (As := [.int (nI 4), .int (nI 7)]) (rest := []) ⟨hx, hb, hml, hown, htu⟩ (c_X4_copySlot l G _ o ad sz1 osz (nI 0) (nI ((R 1).length)) 4 7 kf_6 ff_7 sf_8 bf_9 tf_10 (by decide) (by decide)) uM_X4_162 ok_X4_copySlot in_X4_copySlot rfl rfl ⟨Nat.le_of_ble_eq_true rfl, Nat.le_of_ble_eq_true rfl⟩ hK hP hD hS hA hZ [3, 4, 5, 6, 7, 8] rfl rfl 3 rfl rfl rfl rfl hl.1 rfl (Nat.le_of_ble_eq_true rfl) dX4_draw_39 ⟨Nat.le_of_ble_eq_true rfl, Nat.le_of_ble_eq_true rfl⟩) hP hD hS hA [3, 4, 5, 6, 7, 8] rfl (fun u H locs hw2 hP hD hS => ?_)
  obtain ⟨kf_16, ff_17, sf_18, bf_19, tf_20⟩ := u
  have hw2 : MsC 4 7 (kf_6, ff_7, sf_8, bf_9, tf_10) (kf_16, ff_17, sf_18, bf_19, tf_20) ∧ MsO [4] (kf_6, ff_7, sf_8, bf_9, tf_10) (kf_16, ff_17, sf_18, bf_19, tf_20) := hw2
  have hP : va_P G.1 vwCl [(ad 16, .inl (G.2.1 1, 16320, .inl uf)), (ad 19, .inl (G.2.1 1, 3, .inl rz)), (ad 18, .inl (G.2.1 1, 1800, .inl rg)), (ad 24, .inl (G.2.1 1, 64, .inl nf_11)), (ad 25, .inl (G.2.1 2, 80, .inr (.inl df_12))), (ad 2, .inl (G.2.1 2, 80, .inr (.inl cf))), (ad 3, .inl (G.2.1 2, 16, .inr (.inl gf))), (ad 14, .inl (G.2.1 1, 128, .inl ky_13)), (ad 15, .inl (G.2.1 1, 64, .inl dg_14)), (ad 26, .inl (G.2.1 1, 600, .inl hf_4)), (o, .inr (4, mF ad sz1 osz (nI 0) (nI ((R 1).length)))), (ad 4, .inl (G.2.1 1, 9, .inl kf_16)), (ad 7, .inl (G.2.1 1, 9, .inl ff_17)), (ad 5, .inl (G.2.1 2, 72, .inr (.inl sf_18))), (ad 6, .inl (G.2.1 1, 1152, .inl bf_19)), (ad 8, .inl (G.2.1 2, 9, .inr (.inl tf_20)))] H := hP
  have hD : va_D A [(ad 16, .inl (G.2.1 1, 16320, .inl uf)), (ad 19, .inl (G.2.1 1, 3, .inl rz)), (ad 18, .inl (G.2.1 1, 1800, .inl rg)), (ad 24, .inl (G.2.1 1, 64, .inl nf_11)), (ad 25, .inl (G.2.1 2, 80, .inr (.inl df_12))), (ad 2, .inl (G.2.1 2, 80, .inr (.inl cf))), (ad 3, .inl (G.2.1 2, 16, .inr (.inl gf))), (ad 14, .inl (G.2.1 1, 128, .inl ky_13)), (ad 15, .inl (G.2.1 1, 64, .inl dg_14)), (ad 26, .inl (G.2.1 1, 600, .inl hf_4)), (o, .inr (4, mF ad sz1 osz (nI 0) (nI ((R 1).length)))), (ad 4, .inl (G.2.1 1, 9, .inl kf_16)), (ad 7, .inl (G.2.1 1, 9, .inl ff_17)), (ad 5, .inl (G.2.1 2, 72, .inr (.inl sf_18))), (ad 6, .inl (G.2.1 1, 1152, .inl bf_19)), (ad 8, .inl (G.2.1 2, 9, .inr (.inl tf_20)))] := hD
  refine lv_aload_n hx hb dX4_draw_42 rfl (lv_at hl 0 rfl) ?_
  refine lv_iconst (v := nI 4) hx hb dX4_draw_43 (by decide) ?_
  refine lv_iconst (v := nI 0) hx hb dX4_draw_44 (by decide) ?_
  refine g_callv (g_runV (As := [.int (nI 4), .int (nI 0)]) (rest := []) ⟨hx, hb, hml, hown, htu⟩ (c_X4_absorbRegister l G _ o ad sz1 osz (nI 0) (nI ((R 1).length)) 4 0 k (bs k) ((R 0).length) kf_16 ff_17 sf_18 bf_19 tf_20 nf_11 df_12 cf rz rg (kin k (keyQ k (R 1)) 54) (R 0) (by decide) hc (hw1.1.copy hw2.1) (by decide) ((hR9 0 (by decide)).1) rfl ((hR9 0 (by decide)).2.1) ((hR9 0 (by decide)).2.2.1) ((hR9 0 (by decide)).2.2.2)) uM_X4_189 ok_X4_absorbRegister in_X4_absorbRegister rfl rfl ⟨Nat.le_of_ble_eq_true rfl, Nat.le_of_ble_eq_true rfl⟩ hK hP hD hS hA hZ [10, 11, 12, 13, 14, 15, 3, 4, 5, 1, 2] rfl rfl 10 rfl rfl rfl rfl hl.1 rfl (Nat.le_of_ble_eq_true rfl) dX4_draw_45 ⟨Nat.le_of_ble_eq_true rfl, Nat.le_of_ble_eq_true rfl⟩) hP hD hS hA [10, 11, 12, 13, 14, 15, 3, 4, 5, 1, 2] rfl (fun u H locs hw3 hP hD hS => ?_)
  obtain ⟨ff_22, sf_23, bf_24, tf_25, nf_26, df_27⟩ := u
  have hw3 : MsR (kf_16, ff_22, sf_23, bf_24, tf_25) 4 k ((bs k) + ((R 0).length)) (plcs k (kin k (keyQ k (R 1)) 54) (R 0)) ∧ MsO [4] (kf_16, ff_17, sf_18, bf_19, tf_20) (kf_16, ff_22, sf_23, bf_24, tf_25) := hw3
  have hP : va_P G.1 vwCl [(ad 16, .inl (G.2.1 1, 16320, .inl uf)), (ad 3, .inl (G.2.1 2, 16, .inr (.inl gf))), (ad 14, .inl (G.2.1 1, 128, .inl ky_13)), (ad 15, .inl (G.2.1 1, 64, .inl dg_14)), (ad 26, .inl (G.2.1 1, 600, .inl hf_4)), (o, .inr (4, mF ad sz1 osz (nI 0) (nI ((R 1).length)))), (ad 4, .inl (G.2.1 1, 9, .inl kf_16)), (ad 7, .inl (G.2.1 1, 9, .inl ff_22)), (ad 5, .inl (G.2.1 2, 72, .inr (.inl sf_23))), (ad 6, .inl (G.2.1 1, 1152, .inl bf_24)), (ad 8, .inl (G.2.1 2, 9, .inr (.inl tf_25))), (ad 24, .inl (G.2.1 1, 64, .inl nf_26)), (ad 25, .inl (G.2.1 2, 80, .inr (.inl df_27))), (ad 2, .inl (G.2.1 2, 80, .inr (.inl cf))), (ad 19, .inl (G.2.1 1, 3, .inl rz)), (ad 18, .inl (G.2.1 1, 1800, .inl rg))] H := hP
  have hD : va_D A [(ad 16, .inl (G.2.1 1, 16320, .inl uf)), (ad 3, .inl (G.2.1 2, 16, .inr (.inl gf))), (ad 14, .inl (G.2.1 1, 128, .inl ky_13)), (ad 15, .inl (G.2.1 1, 64, .inl dg_14)), (ad 26, .inl (G.2.1 1, 600, .inl hf_4)), (o, .inr (4, mF ad sz1 osz (nI 0) (nI ((R 1).length)))), (ad 4, .inl (G.2.1 1, 9, .inl kf_16)), (ad 7, .inl (G.2.1 1, 9, .inl ff_22)), (ad 5, .inl (G.2.1 2, 72, .inr (.inl sf_23))), (ad 6, .inl (G.2.1 1, 1152, .inl bf_24)), (ad 8, .inl (G.2.1 2, 9, .inr (.inl tf_25))), (ad 24, .inl (G.2.1 1, 64, .inl nf_26)), (ad 25, .inl (G.2.1 2, 80, .inr (.inl df_27))), (ad 2, .inl (G.2.1 2, 80, .inr (.inl cf))), (ad 19, .inl (G.2.1 1, 3, .inl rz)), (ad 18, .inl (G.2.1 1, 1800, .inl rg))] := hD
  refine lv_aload_n hx hb dX4_draw_48 rfl (lv_at hl 0 rfl) ?_
  refine g_callv (g_runV (As := []) (rest := []) ⟨hx, hb, hml, hown, htu⟩ (c_X4_closeCode l G _ o ad sz1 osz (nI 0) (nI ((R 1).length)) k (bs k + (R 0).length) kf_16 ff_22 sf_23 bf_24 tf_25 nf_26 df_27 cf dg_14 (plcs k (kin k (keyQ k (R 1)) 54) (R 0)) (kin k (keyQ k (R 1)) 92) hc hw3.1 ((hw1.2.1.keep hw2.2 (by decide) (by decide)).keep hw3.2 (by decide) (by decide))) uM_X4_192 ok_X4_closeCode in_X4_closeCode rfl rfl ⟨Nat.le_of_ble_eq_true rfl, Nat.le_of_ble_eq_true rfl⟩ hK hP hD hS hA hZ [5, 6, 7, 8, 9, 10, 11, 12, 13, 3] rfl rfl 5 rfl rfl rfl rfl hl.1 rfl (Nat.le_of_ble_eq_true rfl) dX4_draw_49 ⟨Nat.le_of_ble_eq_true rfl, Nat.le_of_ble_eq_true rfl⟩) hP hD hS hA [5, 6, 7, 8, 9, 10, 11, 12, 13, 3] rfl (fun u H locs hw4 hP hD hS => ?_)
  obtain ⟨kf_29, ff_30, sf_31, bf_32, tf_33, nf_34, df_35, dg_36⟩ := u
  have hw4 : (∀ iq8, iq8 < ds k → dg_36 iq8 = nI ((dig k (plcs k (kin k (keyQ k (R 1)) 92) (dig k (plcs k (kin k (keyQ k (R 1)) 54) (R 0)) (lN (bs k + (R 0).length)))) (lN (bs k + ds k))).getD iq8 0)) ∧ MsO [4, 5] (kf_16, ff_22, sf_23, bf_24, tf_25) (kf_29, ff_30, sf_31, bf_32, tf_33) := hw4
  have hP : va_P G.1 vwCl [(ad 16, .inl (G.2.1 1, 16320, .inl uf)), (ad 3, .inl (G.2.1 2, 16, .inr (.inl gf))), (ad 14, .inl (G.2.1 1, 128, .inl ky_13)), (ad 26, .inl (G.2.1 1, 600, .inl hf_4)), (ad 19, .inl (G.2.1 1, 3, .inl rz)), (ad 18, .inl (G.2.1 1, 1800, .inl rg)), (o, .inr (4, mF ad sz1 osz (nI 0) (nI ((R 1).length)))), (ad 4, .inl (G.2.1 1, 9, .inl kf_29)), (ad 7, .inl (G.2.1 1, 9, .inl ff_30)), (ad 5, .inl (G.2.1 2, 72, .inr (.inl sf_31))), (ad 6, .inl (G.2.1 1, 1152, .inl bf_32)), (ad 8, .inl (G.2.1 2, 9, .inr (.inl tf_33))), (ad 24, .inl (G.2.1 1, 64, .inl nf_34)), (ad 25, .inl (G.2.1 2, 80, .inr (.inl df_35))), (ad 2, .inl (G.2.1 2, 80, .inr (.inl cf))), (ad 15, .inl (G.2.1 1, 64, .inl dg_36))] H := hP
  have hD : va_D A [(ad 16, .inl (G.2.1 1, 16320, .inl uf)), (ad 3, .inl (G.2.1 2, 16, .inr (.inl gf))), (ad 14, .inl (G.2.1 1, 128, .inl ky_13)), (ad 26, .inl (G.2.1 1, 600, .inl hf_4)), (ad 19, .inl (G.2.1 1, 3, .inl rz)), (ad 18, .inl (G.2.1 1, 1800, .inl rg)), (o, .inr (4, mF ad sz1 osz (nI 0) (nI ((R 1).length)))), (ad 4, .inl (G.2.1 1, 9, .inl kf_29)), (ad 7, .inl (G.2.1 1, 9, .inl ff_30)), (ad 5, .inl (G.2.1 2, 72, .inr (.inl sf_31))), (ad 6, .inl (G.2.1 1, 1152, .inl bf_32)), (ad 8, .inl (G.2.1 2, 9, .inr (.inl tf_33))), (ad 24, .inl (G.2.1 1, 64, .inl nf_34)), (ad 25, .inl (G.2.1 2, 80, .inr (.inl df_35))), (ad 2, .inl (G.2.1 2, 80, .inr (.inl cf))), (ad 15, .inl (G.2.1 1, 64, .inl dg_36))] := hD
  refine lv_aload_n hx hb dX4_draw_52 rfl (lv_at hl 0 rfl) ?_
  refine lv_iload_n hx hb dX4_draw_53 rfl (lv_at hl 1 rfl) ?_
  refine g_calli (g_runS (As := [.int (nI k)]) (rest := [.ref o]) ⟨hx, hb, hml, hown, htu⟩ (c_X4_digestOf l G _ k hk) uM_X4_143 ok_X4_digestOf uA_X4_digestOf rfl rfl ⟨Nat.le_of_ble_eq_true rfl, Nat.le_of_ble_eq_true rfl⟩ hK hP hD hS hA hZ [] rfl rfl rfl hl.1 rfl (Nat.le_of_ble_eq_true rfl) dX4_draw_54 ⟨Nat.le_of_ble_eq_true rfl, Nat.le_of_ble_eq_true rfl⟩) hP hD hS hA [] rfl (fun r_37 u H locs hw_38 hP hD hS => ?_)
  have hw_38 : r_37 = nI (ds k) := hw_38
  subst hw_38
  have hP : va_P G.1 vwCl [(ad 16, .inl (G.2.1 1, 16320, .inl uf)), (ad 3, .inl (G.2.1 2, 16, .inr (.inl gf))), (ad 14, .inl (G.2.1 1, 128, .inl ky_13)), (ad 26, .inl (G.2.1 1, 600, .inl hf_4)), (ad 19, .inl (G.2.1 1, 3, .inl rz)), (ad 18, .inl (G.2.1 1, 1800, .inl rg)), (o, .inr (4, mF ad sz1 osz (nI 0) (nI ((R 1).length)))), (ad 4, .inl (G.2.1 1, 9, .inl kf_29)), (ad 7, .inl (G.2.1 1, 9, .inl ff_30)), (ad 5, .inl (G.2.1 2, 72, .inr (.inl sf_31))), (ad 6, .inl (G.2.1 1, 1152, .inl bf_32)), (ad 8, .inl (G.2.1 2, 9, .inr (.inl tf_33))), (ad 24, .inl (G.2.1 1, 64, .inl nf_34)), (ad 25, .inl (G.2.1 2, 80, .inr (.inl df_35))), (ad 2, .inl (G.2.1 2, 80, .inr (.inl cf))), (ad 15, .inl (G.2.1 1, 64, .inl dg_36))] H := hP
  have hD : va_D A [(ad 16, .inl (G.2.1 1, 16320, .inl uf)), (ad 3, .inl (G.2.1 2, 16, .inr (.inl gf))), (ad 14, .inl (G.2.1 1, 128, .inl ky_13)), (ad 26, .inl (G.2.1 1, 600, .inl hf_4)), (ad 19, .inl (G.2.1 1, 3, .inl rz)), (ad 18, .inl (G.2.1 1, 1800, .inl rg)), (o, .inr (4, mF ad sz1 osz (nI 0) (nI ((R 1).length)))), (ad 4, .inl (G.2.1 1, 9, .inl kf_29)), (ad 7, .inl (G.2.1 1, 9, .inl ff_30)), (ad 5, .inl (G.2.1 2, 72, .inr (.inl sf_31))), (ad 6, .inl (G.2.1 1, 1152, .inl bf_32)), (ad 8, .inl (G.2.1 2, 9, .inr (.inl tf_33))), (ad 24, .inl (G.2.1 1, 64, .inl nf_34)), (ad 25, .inl (G.2.1 2, 80, .inr (.inl df_35))), (ad 2, .inl (G.2.1 2, 80, .inr (.inl cf))), (ad 15, .inl (G.2.1 1, 64, .inl dg_36))] := hD
  refine g_callv (g_runV (As := [.int (nI (ds k))]) (rest := []) ⟨hx, hb, hml, hown, htu⟩ (c_X4_digestOut l G _ o ad sz1 osz (nI 0) (nI ((R 1).length)) (ds k) dg_36 uf (ds_le k)) uM_X4_180 ok_X4_digestOut in_X4_digestOut rfl rfl ⟨Nat.le_of_ble_eq_true rfl, Nat.le_of_ble_eq_true rfl⟩ hK hP hD hS hA hZ [6, 15, 0] rfl rfl 6 rfl rfl rfl rfl hl.1 rfl (Nat.le_of_ble_eq_true rfl) dX4_draw_57 ⟨Nat.le_of_ble_eq_true rfl, Nat.le_of_ble_eq_true rfl⟩) hP hD hS hA [6, 15, 0] rfl (fun u H locs hw5 hP hD hS => ?_)
  obtain ⟨uf_40, rfl⟩ : ∃ z, z = u := ⟨_, rfl⟩
  have hw5 : ∀ iq8, iq8 < (ds k) → uf_40 iq8 = dg_36 iq8 := hw5
  have hP : va_P G.1 vwCl [(ad 3, .inl (G.2.1 2, 16, .inr (.inl gf))), (ad 14, .inl (G.2.1 1, 128, .inl ky_13)), (ad 26, .inl (G.2.1 1, 600, .inl hf_4)), (ad 19, .inl (G.2.1 1, 3, .inl rz)), (ad 18, .inl (G.2.1 1, 1800, .inl rg)), (ad 4, .inl (G.2.1 1, 9, .inl kf_29)), (ad 7, .inl (G.2.1 1, 9, .inl ff_30)), (ad 5, .inl (G.2.1 2, 72, .inr (.inl sf_31))), (ad 6, .inl (G.2.1 1, 1152, .inl bf_32)), (ad 8, .inl (G.2.1 2, 9, .inr (.inl tf_33))), (ad 24, .inl (G.2.1 1, 64, .inl nf_34)), (ad 25, .inl (G.2.1 2, 80, .inr (.inl df_35))), (ad 2, .inl (G.2.1 2, 80, .inr (.inl cf))), (o, .inr (4, mF ad sz1 (nI (ds k)) (nI 0) (nI ((R 1).length)))), (ad 15, .inl (G.2.1 1, 64, .inl dg_36)), (ad 16, .inl (G.2.1 1, 16320, .inl uf_40))] H := hP
  have hD : va_D A [(ad 3, .inl (G.2.1 2, 16, .inr (.inl gf))), (ad 14, .inl (G.2.1 1, 128, .inl ky_13)), (ad 26, .inl (G.2.1 1, 600, .inl hf_4)), (ad 19, .inl (G.2.1 1, 3, .inl rz)), (ad 18, .inl (G.2.1 1, 1800, .inl rg)), (ad 4, .inl (G.2.1 1, 9, .inl kf_29)), (ad 7, .inl (G.2.1 1, 9, .inl ff_30)), (ad 5, .inl (G.2.1 2, 72, .inr (.inl sf_31))), (ad 6, .inl (G.2.1 1, 1152, .inl bf_32)), (ad 8, .inl (G.2.1 2, 9, .inr (.inl tf_33))), (ad 24, .inl (G.2.1 1, 64, .inl nf_34)), (ad 25, .inl (G.2.1 2, 80, .inr (.inl df_35))), (ad 2, .inl (G.2.1 2, 80, .inr (.inl cf))), (o, .inr (4, mF ad sz1 (nI (ds k)) (nI 0) (nI ((R 1).length)))), (ad 15, .inl (G.2.1 1, 64, .inl dg_36)), (ad 16, .inl (G.2.1 1, 16320, .inl uf_40))] := hD
  refine lv_aload_n hx hb dX4_draw_60 rfl (lv_at hl 0 rfl) ?_
  refine va_get (D := G.1) (ci := 4) (v := .int (nI (ds k))) (C := RX4) (T := TX4) (N := 29) hx hb htu iwX4 hown hK.1 hP 13 rfl rfl 17 (by decide) (htu _ uF_X4_168) (fun _ h9 => h9) rfl dX4_draw_61 ?_
  exact gret_i hx hb hr hlk dX4_draw_64 hS (kf_29, ff_30, sf_31, bf_32, tf_33, nf_34, df_35, ky_13, dg_36, hf_4, uf_40) (hP.sub [13, 5, 6, 7, 8, 9, 10, 11, 12, 0, 1, 14, 2, 3, 4, 15] rfl) (hD.sub [13, 5, 6, 7, 8, 9, 10, 11, 12, 0, 1, 14, 2, 3, 4, 15] (by decide) rfl) (show (nI (ds k) = nI (ds k)) ∧ (OutR uf_40 (ds k) (codeQ k (keyQ k (R 1)) (R 0))) ∧ (MsO [4, 5, 6, 7, 8] (kf, ff, sf, bf, tf) (kf_29, ff_30, sf_31, bf_32, tf_33)) from ⟨rfl, outCode hw5 hw4.1, (((hw1.2.2.trans (L := [4, 5, 6, 7, 8]) hw2.2 (by decide) (by decide)).trans (L := [4, 5, 6, 7, 8]) hw3.2 (by decide) (by decide)).trans (L := [4, 5, 6, 7, 8]) hw4.2 (by decide) (by decide))⟩)
set_option maxHeartbeats 4000000 in
set_option maxRecDepth 100000 in
theorem c_X4_drawT1 (l : Launch) (G : GW) (sz : Nat) (o : Nat) (ad : Nat → Nat) (sz1 : Int32) (osz : Int32) (th : Int32) (hsz : Int32) (x : Int32) (hx1 : nkI x = 1) : Met l yX4_draw (Cond.code yX4_draw cX4_draw 2 (some FieldType.int) :: UW) ({ frames := 1, cells := 0, slots := 0, locals := 20 } : Room) (va_Pc [.ref o, .int x] (gPre G [(o, .inr (4, mF ad sz1 osz th hsz))] sz)) (va_Qi (fun (r : Int32) (_ : Unit) => r = 0) (fun u => gPost G (va_A [(o, .inr (4, mF ad sz1 osz th hsz))] sz) ((fun (_ : Unit) => ([(o, .inr (4, mF ad sz1 osz (nI 1) hsz))] : va_W)) u)) (va_A [(o, .inr (4, mF ad sz1 osz th hsz))] sz)) 0 0 (va_A [(o, .inr (4, mF ad sz1 osz th hsz))] sz) := by
  refine gM_of (Qf := fun A => va_Qi (fun (r : Int32) (_ : Unit) => r = 0) (fun u => gPost G A ((fun (_ : Unit) => ([(o, .inr (4, mF ad sz1 osz (nI 1) hsz))] : va_W)) u)) A) (by decide) (Nat.le_of_ble_eq_true rfl) ?_
  intro p e s m below meth c A ls hx hb hml hr hown htu hlk hnm hA hP hD hS hK hZ hl
  have hown : s.vm.findClass RX4 = some m.cls := hown
  have hl : lv_has ls 2 [(0, .ref o), (1, .int x)] := hl
  refine lv_aload_n hx hb dX4_draw_0 rfl (lv_at hl 0 rfl) ?_
  refine lv_iload_n hx hb dX4_draw_1 rfl (lv_at hl 1 rfl) ?_
  refine g_calli (g_runS (As := [.int x]) (rest := [.ref o]) ⟨hx, hb, hml, hown, htu⟩ (c_X4_noKind l G _ x ) uM_X4_177 ok_X4_noKind uA_X4_noKind rfl rfl ⟨Nat.le_of_ble_eq_true rfl, Nat.le_of_ble_eq_true rfl⟩ hK hP hD hS hA hZ [] rfl rfl rfl hl.1 rfl (Nat.le_of_ble_eq_true rfl) dX4_draw_2 ⟨Nat.le_of_ble_eq_true rfl, Nat.le_of_ble_eq_true rfl⟩) hP hD hS hA [] rfl (fun r_1 u H locs hw_2 hP hD hS => ?_)
  have hw_2 : r_1 = nkI x := hw_2
  subst hw_2
  have hP : va_P G.1 vwCl [(o, .inr (4, mF ad sz1 osz th hsz))] H := hP
  have hD : va_D A [(o, .inr (4, mF ad sz1 osz th hsz))] := hD
  refine g_toi (y := nI 1) (hx1) ?_
  refine lv_if_eq (tgt := 12) hx hb dX4_draw_5 (by decide) (fun c_5 => absurd c_5 (by decide)) (fun _ => ?_)
  refine lv_iconst (v := nI 1) hx hb dX4_draw_8 (by decide) ?_
  refine lv_goto (tgt := 13) hx hb dX4_draw_9 (by decide) ?_
  refine va_put (D := G.1) (ci := 4) (v := .int (nI 1)) (ty := .int) (C := RX4) (T := TX4) (N := 29) hx hb htu iwX4 tyX4 tyX4_ok nmX4 hown hK.1 hP hD hS 0 rfl rfl 20 (by decide) (htu _ uF_X4_95) (fun _ h9 => h9) rfl (by decide +kernel) rfl rfl (Nat.le_of_ble_eq_true rfl) dX4_draw_13 (fun H locs hP hD hS => ?_)
  have hP : va_P G.1 vwCl [(o, .inr (4, mF ad sz1 osz (nI 1) hsz))] H := hP
  have hD : va_D A [(o, .inr (4, mF ad sz1 osz (nI 1) hsz))] := hD
  refine lv_aload_n hx hb dX4_draw_16 rfl (lv_at hl 0 rfl) ?_
  refine va_get (D := G.1) (ci := 4) (v := .int (nI 1)) (C := RX4) (T := TX4) (N := 29) hx hb htu iwX4 hown hK.1 hP 0 rfl rfl 20 (by decide) (htu _ uF_X4_95) (fun _ h9 => h9) rfl dX4_draw_17 ?_
  refine lv_if_le (tgt := 25) hx hb dX4_draw_20 (by decide) (fun c_20 => absurd c_20 (by decide)) (fun _ => ?_)
  refine lv_iconst (v := nI 0) hx hb dX4_draw_23 (by decide) ?_
  exact gret_i hx hb hr hlk dX4_draw_24 hS () (hP.sub [0] rfl) (hD.sub [0] (by decide) rfl) (rfl)
set_option maxHeartbeats 4000000 in
set_option maxRecDepth 100000 in
theorem c_X4_out (l : Launch) (G : GW) (sz : Nat) (o : Nat) (ad : Nat → Nat) (sz1 : Int32) (th : Int32) (hsz : Int32) (z : Nat) (i : Int32) (uf : Nat → Int32) (q : List Nat) (hT : OutR uf z q) : Met l yX4_out (Cond.code yX4_out cX4_out 2 (some FieldType.int) :: UW) ({ frames := 0, cells := 0, slots := 0, locals := 0 } : Room) (va_Pc [.ref o, .int i] (gPre G [(o, .inr (4, mF ad sz1 (nI z) th hsz)), (ad 16, .inl (G.2.1 1, 16320, .inl uf))] sz)) (va_Qi (fun (r : Int32) (_ : Unit) => r = rowAt q i) (fun u => gPost G (va_A [(o, .inr (4, mF ad sz1 (nI z) th hsz)), (ad 16, .inl (G.2.1 1, 16320, .inl uf))] sz) ((fun (_ : Unit) => ([(o, .inr (4, mF ad sz1 (nI z) (nI 0) hsz)), (ad 16, .inl (G.2.1 1, 16320, .inl uf))] : va_W)) u)) (va_A [(o, .inr (4, mF ad sz1 (nI z) th hsz)), (ad 16, .inl (G.2.1 1, 16320, .inl uf))] sz)) 0 0 (va_A [(o, .inr (4, mF ad sz1 (nI z) th hsz)), (ad 16, .inl (G.2.1 1, 16320, .inl uf))] sz) := by
  refine gM_of (Qf := fun A => va_Qi (fun (r : Int32) (_ : Unit) => r = rowAt q i) (fun u => gPost G A ((fun (_ : Unit) => ([(o, .inr (4, mF ad sz1 (nI z) (nI 0) hsz)), (ad 16, .inl (G.2.1 1, 16320, .inl uf))] : va_W)) u)) A) (by decide) (Nat.le_of_ble_eq_true rfl) ?_
  intro p e s m below meth c A ls hx hb hml hr hown htu hlk hnm hA hP hD hS hK hZ hl
  have hown : s.vm.findClass RX4 = some m.cls := hown
  have hl : lv_has ls 2 [(0, .ref o), (1, .int i)] := hl
  refine lv_aload_n hx hb dX4_out_0 rfl (lv_at hl 0 rfl) ?_
  refine lv_iconst (v := nI 0) hx hb dX4_out_1 (by decide) ?_
  refine va_put (D := G.1) (ci := 4) (v := .int (nI 0)) (ty := .int) (C := RX4) (T := TX4) (N := 29) hx hb htu iwX4 tyX4 tyX4_ok nmX4 hown hK.1 hP hD hS 0 rfl rfl 20 (by decide) (htu _ uF_X4_95) (fun _ h9 => h9) rfl (by decide +kernel) rfl rfl (Nat.le_of_ble_eq_true rfl) dX4_out_2 (fun H locs hP hD hS => ?_)
  have hP : va_P G.1 vwCl [(o, .inr (4, mF ad sz1 (nI z) (nI 0) hsz)), (ad 16, .inl (G.2.1 1, 16320, .inl uf))] H := hP
  have hD : va_D A [(o, .inr (4, mF ad sz1 (nI z) (nI 0) hsz)), (ad 16, .inl (G.2.1 1, 16320, .inl uf))] := hD
  refine lv_iload_n hx hb dX4_out_5 rfl (lv_at hl 1 rfl) ?_
  refine lv_if_lt (tgt := 17) hx hb dX4_out_6 (by decide) (fun c_6 => ?_) (fun c_6 => ?_)
  · skip
    refine lv_iconst (v := (-1)) hx hb dX4_out_17 (by decide) ?_
    refine lv_goto (tgt := 27) hx hb dX4_out_18 (by decide) ?_
    exact gret_i hx hb hr hlk dX4_out_27 hS () (hP.sub [0, 1] rfl) (hD.sub [0, 1] (by decide) rfl) (by unfold rowAt; first | rw [if_pos c_6] | rw [if_neg c_6, if_pos (hT.1 ▸ Int32.not_lt.mp c_14)])
  · skip
    refine lv_iload_n hx hb dX4_out_9 rfl (lv_at hl 1 rfl) ?_
    refine lv_aload_n hx hb dX4_out_10 rfl (lv_at hl 0 rfl) ?_
    refine va_get (D := G.1) (ci := 4) (v := .int (nI z)) (C := RX4) (T := TX4) (N := 29) hx hb htu iwX4 hown hK.1 hP 0 rfl rfl 17 (by decide) (htu _ uF_X4_168) (fun _ h9 => h9) rfl dX4_out_11 ?_
    refine lv_icmp_lt (tgt := 21) hx hb dX4_out_14 (by decide) (fun c_14 => ?_) (fun c_14 => ?_)
    · skip
      obtain ⟨j, hj, ej⟩ := row_ix c_6 (Int32.not_le.mpr c_14) (by have := hT.2.1; omega)
      refine lv_aload_n hx hb dX4_out_21 rfl (lv_at hl 0 rfl) ?_
      refine va_get (D := G.1) (ci := 4) (v := .ref (ad 16)) (C := RX4) (T := TX4) (N := 29) hx hb htu iwX4 hown hK.1 hP 0 rfl rfl 16 (by decide) (htu _ uF_X4_57) (fun _ h9 => h9) rfl dX4_out_22 ?_
      refine lv_iload_n hx hb dX4_out_25 rfl (lv_at hl 1 rfl) ?_
      refine g_toi (y := nI j) (ej) ?_
      refine g_iald hx hb hK.1 hP 1 1 rfl rfl ⟨by have := hT.2.1; omega, by decide⟩ dX4_out_26 ?_
      exact gret_i hx hb hr hlk dX4_out_27 hS () (hP.sub [0, 1] rfl) (hD.sub [0, 1] (by decide) rfl) (by rw [ej, rowAt_in (by have := hT.1; omega) (by have := hT.1; have := hT.2.1; omega)]; exact hT.2.2.2 j (by have := hT.1; omega))
    · skip
      refine lv_iconst (v := (-1)) hx hb dX4_out_17 (by decide) ?_
      refine lv_goto (tgt := 27) hx hb dX4_out_18 (by decide) ?_
      exact gret_i hx hb hr hlk dX4_out_27 hS () (hP.sub [0, 1] rfl) (hD.sub [0, 1] (by decide) rfl) (by unfold rowAt; first | rw [if_pos c_6] | rw [if_neg c_6, if_pos (hT.1 ▸ Int32.not_lt.mp c_14)])
set_option maxHeartbeats 4000000 in
set_option maxRecDepth 100000 in
theorem c_X4_constant (l : Launch) (G : GW) (sz : Nat) (o : Nat) (ad : Nat → Nat) (sz1 : Int32) (osz : Int32) (th : Int32) (hsz : Int32) (i : Int32) (cf : Nat → Int64) (hc : ∀ j, j < 80 → cf j = kT j) : Met l yX4_constant (Cond.code yX4_constant cX4_constant 2 (some FieldType.long) :: UW) ({ frames := 0, cells := 0, slots := 0, locals := 0 } : Room) (va_Pc [.ref o, .int i] (gPre G [(o, .inr (4, mF ad sz1 osz th hsz)), (ad 2, .inl (G.2.1 2, 80, .inr (.inl cf)))] sz)) (va_Ql (fun (r : Int64) (_ : Unit) => r = constQ i) (fun u => gPost G (va_A [(o, .inr (4, mF ad sz1 osz th hsz)), (ad 2, .inl (G.2.1 2, 80, .inr (.inl cf)))] sz) ((fun (_ : Unit) => ([(o, .inr (4, mF ad sz1 osz (nI 0) hsz)), (ad 2, .inl (G.2.1 2, 80, .inr (.inl cf)))] : va_W)) u)) (va_A [(o, .inr (4, mF ad sz1 osz th hsz)), (ad 2, .inl (G.2.1 2, 80, .inr (.inl cf)))] sz)) 0 0 (va_A [(o, .inr (4, mF ad sz1 osz th hsz)), (ad 2, .inl (G.2.1 2, 80, .inr (.inl cf)))] sz) := by
  refine gM_of (Qf := fun A => va_Ql (fun (r : Int64) (_ : Unit) => r = constQ i) (fun u => gPost G A ((fun (_ : Unit) => ([(o, .inr (4, mF ad sz1 osz (nI 0) hsz)), (ad 2, .inl (G.2.1 2, 80, .inr (.inl cf)))] : va_W)) u)) A) (by decide) (Nat.le_of_ble_eq_true rfl) ?_
  intro p e s m below meth c A ls hx hb hml hr hown htu hlk hnm hA hP hD hS hK hZ hl
  have hown : s.vm.findClass RX4 = some m.cls := hown
  have hl : lv_has ls 2 [(0, .ref o), (1, .int i)] := hl
  refine lv_aload_n hx hb dX4_constant_0 rfl (lv_at hl 0 rfl) ?_
  refine lv_iconst (v := nI 0) hx hb dX4_constant_1 (by decide) ?_
  refine va_put (D := G.1) (ci := 4) (v := .int (nI 0)) (ty := .int) (C := RX4) (T := TX4) (N := 29) hx hb htu iwX4 tyX4 tyX4_ok nmX4 hown hK.1 hP hD hS 0 rfl rfl 20 (by decide) (htu _ uF_X4_95) (fun _ h9 => h9) rfl (by decide +kernel) rfl rfl (Nat.le_of_ble_eq_true rfl) dX4_constant_2 (fun H locs hP hD hS => ?_)
  have hP : va_P G.1 vwCl [(o, .inr (4, mF ad sz1 osz (nI 0) hsz)), (ad 2, .inl (G.2.1 2, 80, .inr (.inl cf)))] H := hP
  have hD : va_D A [(o, .inr (4, mF ad sz1 osz (nI 0) hsz)), (ad 2, .inl (G.2.1 2, 80, .inr (.inl cf)))] := hD
  refine lv_iload_n hx hb dX4_constant_5 rfl (lv_at hl 1 rfl) ?_
  refine lv_if_lt (tgt := 15) hx hb dX4_constant_6 (by decide) (fun c_6 => ?_) (fun c_6 => ?_)
  · skip
    refine lv_lconst (v := 0) hx hb dX4_constant_15 (by decide) ?_
    refine lv_goto (tgt := 25) hx hb dX4_constant_16 (by decide) ?_
    exact gret_l hx hb hr hlk dX4_constant_25 hS () (hP.sub [0, 1] rfl) (hD.sub [0, 1] (by decide) rfl) (by unfold constQ; first | rw [if_pos c_6] | rw [if_neg c_6, if_neg (show ¬ i < (80 : Int32) from c_12)])
  · skip
    refine lv_iload_n hx hb dX4_constant_9 rfl (lv_at hl 1 rfl) ?_
    refine lv_bipush (v := nI 80) hx hb dX4_constant_10 (by decide) ?_
    refine lv_icmp_lt (tgt := 19) hx hb dX4_constant_12 (by decide) (fun c_12 => ?_) (fun c_12 => ?_)
    · skip
      obtain ⟨j, hj, ej⟩ := row_ix (z := 80) c_6 (Int32.not_le.mpr c_12) (by decide)
      refine lv_aload_n hx hb dX4_constant_19 rfl (lv_at hl 0 rfl) ?_
      refine va_get (D := G.1) (ci := 4) (v := .ref (ad 2)) (C := RX4) (T := TX4) (N := 29) hx hb htu iwX4 hown hK.1 hP 0 rfl rfl 2 (by decide) (htu _ uF_X4_13) (fun _ h9 => h9) rfl dX4_constant_20 ?_
      refine lv_iload_n hx hb dX4_constant_23 rfl (lv_at hl 1 rfl) ?_
      refine g_toi (y := nI j) (ej) ?_
      refine g_lald hx hb hK.1 hP 1 2 rfl rfl ⟨hj, by decide⟩ dX4_constant_24 ?_
      exact gret_l hx hb hr hlk dX4_constant_25 hS () (hP.sub [0, 1] rfl) (hD.sub [0, 1] (by decide) rfl) (by rw [ej, constQ_in hj]; exact hc j hj)
    · skip
      refine lv_lconst (v := 0) hx hb dX4_constant_15 (by decide) ?_
      refine lv_goto (tgt := 25) hx hb dX4_constant_16 (by decide) ?_
      exact gret_l hx hb hr hlk dX4_constant_25 hS () (hP.sub [0, 1] rfl) (hD.sub [0, 1] (by decide) rfl) (by unfold constQ; first | rw [if_pos c_6] | rw [if_neg c_6, if_neg (show ¬ i < (80 : Int32) from c_12)])
