/-! the roots -/
set_option maxHeartbeats 4000000 in
set_option maxRecDepth 100000 in
theorem c_X4_isPrime (l : Launch) (G : GW) (sz : Nat) (pn : Nat) (hp : pn < 441) : Met l yX4_isPrime (Cond.code yX4_isPrime cX4_isPrime 3 (some FieldType.boolean) :: UW) ({ frames := 0, cells := 0, slots := 0, locals := 0 } : Room) (va_Pc [.int (nI pn)] (gPre G [] sz)) (va_Qi (fun (r : Int32) (_ : Unit) => r = bI (isPd pn 22)) (fun u => gPost G (va_A [] sz) ((fun (_ : Unit) => ([] : va_W)) u)) (va_A [] sz)) 0 0 (va_A [] sz) := by
  refine gM_of (Qf := fun A => va_Qi (fun (r : Int32) (_ : Unit) => r = bI (isPd pn 22)) (fun u => gPost G A ((fun (_ : Unit) => ([] : va_W)) u)) A) (by decide) (Nat.le_of_ble_eq_true rfl) ?_
  intro p e s m below meth c A ls hx hb hml hr hown htu hlk hnm hA hP hD hS hK hZ hl
  have hown : s.vm.findClass RX4 = some m.cls := hown
  have hl : lv_has ls 3 [(0, .int (nI pn))] := hl
  refine lv_iconst (v := nI 1) hx hb dX4_isPrime_0 (by decide) ?_
  refine g_toi (y := bI true) (rfl) ?_
  refine lv_istore_n (lv' := [(1, .int (bI true)), (0, .int (nI pn))]) hx hb dX4_isPrime_1 rfl hl (by decide) rfl (fun ls hl => ?_)
  refine lv_iconst (v := nI 2) hx hb dX4_isPrime_2 (by decide) ?_
  refine lv_istore_n (lv' := [(2, .int (nI 2)), (1, .int (bI true)), (0, .int (nI pn))]) hx hb dX4_isPrime_3 rfl hl (by decide) rfl (fun ls hl => ?_)
  refine g_loop (σ := Nat × Bool) (G := G) (fun xq9 : Nat × Bool => []) (fun xq9 : Nat × Bool => [(0, .int (nI pn)), (1, .int (bI xq9.2)), (2, .int (nI xq9.1))]) (fun xq9 : Nat × Bool => 2 ≤ xq9.1 ∧ xq9.1 ≤ 22 ∧ xq9.2 = isPd pn xq9.1) (fun xq9 : Nat × Bool => 22 - xq9.1) ?_ (2, true) (show 2 ≤ 2 ∧ 2 ≤ 22 ∧ true = isPd pn 2 from ⟨Nat.le_refl _, by decide, rfl⟩) (hP.sub [] rfl) (hD.sub [] (by decide) rfl) hS (lv_sub hl [2, 1, 0] rfl)
  clear hP hD hS hl
  intro x hxI_4 ih_4 H locs ls hP hD hS hl
  obtain ⟨d, b⟩ := x
  have hI : 2 ≤ d ∧ d ≤ 22 ∧ b = isPd pn d := hxI_4
  have hP : va_P G.1 vwCl [] H := hP
  have hD : va_D A [] := hD
  have hl : lv_has ls 3 [(0, .int (nI pn)), (1, .int (bI b)), (2, .int (nI d))] := hl
  refine lv_iload_n hx hb dX4_isPrime_4 rfl (lv_at hl 2 rfl) ?_
  refine lv_iload_n hx hb dX4_isPrime_5 rfl (lv_at hl 2 rfl) ?_
  refine lv_imul hx hb dX4_isPrime_6 ?_
  refine g_toi (y := nI (d * d)) (pk_mul d d) ?_
  refine lv_iload_n hx hb dX4_isPrime_7 rfl (lv_at hl 0 rfl) ?_
  refine lv_icmp_gt (tgt := 31) hx hb dX4_isPrime_8 (by decide) (fun c_8 => ?_) (fun c_8 => ?_)
  · skip
    have hd22 : d * d ≤ 484 := Nat.mul_le_mul hI.2.1 hI.2.1
    have hg : pn < d * d := Nat.lt_of_not_le (fun h => absurd c_8 (nI_nlt h (by omega)))
    refine lv_iload_n hx hb dX4_isPrime_31 rfl (lv_at hl 1 rfl) ?_
    exact gret_z hx hb hr hlk dX4_isPrime_32 hS (by cases b; exact Or.inl rfl; exact Or.inr rfl) () (hP.sub [] rfl) (hD.sub [] (by decide) rfl) (by rw [hI.2.2, isPd_end hg hI.2.1])
  · skip
    have hd22 : d * d ≤ 484 := Nat.mul_le_mul hI.2.1 hI.2.1
    have hg : d * d ≤ pn := Nat.le_of_not_lt (fun h => c_8 (nI_lt h (by omega)))
    have hd21 : d < 22 := Nat.lt_of_not_le (fun h => absurd (Nat.mul_le_mul h h) (by omega))
    refine lv_iload_n hx hb dX4_isPrime_11 rfl (lv_at hl 1 rfl) ?_
    refine lv_iload_n hx hb dX4_isPrime_12 rfl (lv_at hl 0 rfl) ?_
    refine lv_iload_n hx hb dX4_isPrime_13 rfl (lv_at hl 2 rfl) ?_
    refine lv_irem hx hb dX4_isPrime_14 (nI_ne0 (by omega) (by omega)) ?_
    refine g_toi (y := nI (pn % d)) (pk_rem (by omega) (by omega) (by omega)) ?_
    refine lv_if_eq (tgt := 22) hx hb dX4_isPrime_15 (by decide) (fun c_15 => ?_) (fun c_15 => ?_)
    · skip
      have hz : pn % d = 0 := (nI_eq (b := 0) (by have := Nat.mod_lt pn (show 0 < d by omega); omega) (by decide)).mp c_15
      refine lv_iconst (v := nI 0) hx hb dX4_isPrime_22 (by decide) ?_
      refine g_toi (y := bI false) (rfl) ?_
      refine lv_iand hx hb dX4_isPrime_23 ?_
      refine g_toi (y := bI (b && false)) (bI_and _ _) ?_
      refine lv_istore_n (lv' := [(1, .int (bI (b && false))), (0, .int (nI pn)), (2, .int (nI d))]) hx hb dX4_isPrime_24 rfl hl (by decide) rfl (fun ls hl => ?_)
      refine lv_iinc (v := nI (d + 1)) (lv' := [(2, .int (nI (d + 1))), (1, .int (bI (b && false))), (0, .int (nI pn))]) hx hb dX4_isPrime_25 hl (k := 2) rfl (nI_1 d) (by decide) rfl (fun ls hl => ?_)
      refine lv_goto (tgt := 4) hx hb dX4_isPrime_28 (by decide) ?_
      exact ih_4 (d + 1, b && false) (show 2 ≤ (d + 1) ∧ (d + 1) ≤ 22 ∧ (b && false) = isPd pn (d + 1) from ⟨by omega, by omega, isPd_s hI.2.2 hI.1 hg (by rw [decide_eq_false (fun h => h hz)])⟩) (by show 22 - (d + 1) < 22 - d; omega) _ _ _ (hP.sub [] rfl) (hD.sub [] (by decide) rfl) hS (lv_sub hl [2, 1, 0] rfl)
    · skip
      have hz : pn % d ≠ 0 := fun h => c_15 (by rw [h]; rfl)
      refine lv_iconst (v := nI 1) hx hb dX4_isPrime_18 (by decide) ?_
      refine g_toi (y := bI true) (rfl) ?_
      refine lv_goto (tgt := 23) hx hb dX4_isPrime_19 (by decide) ?_
      refine lv_iand hx hb dX4_isPrime_23 ?_
      refine g_toi (y := bI (b && true)) (bI_and _ _) ?_
      refine lv_istore_n (lv' := [(1, .int (bI (b && true))), (0, .int (nI pn)), (2, .int (nI d))]) hx hb dX4_isPrime_24 rfl hl (by decide) rfl (fun ls hl => ?_)
      refine lv_iinc (v := nI (d + 1)) (lv' := [(2, .int (nI (d + 1))), (1, .int (bI (b && true))), (0, .int (nI pn))]) hx hb dX4_isPrime_25 hl (k := 2) rfl (nI_1 d) (by decide) rfl (fun ls hl => ?_)
      refine lv_goto (tgt := 4) hx hb dX4_isPrime_28 (by decide) ?_
      exact ih_4 (d + 1, b && true) (show 2 ≤ (d + 1) ∧ (d + 1) ≤ 22 ∧ (b && true) = isPd pn (d + 1) from ⟨by omega, by omega, isPd_s hI.2.2 hI.1 hg (by rw [decide_eq_true hz])⟩) (by show 22 - (d + 1) < 22 - d; omega) _ _ _ (hP.sub [] rfl) (hD.sub [] (by decide) rfl) hS (lv_sub hl [2, 1, 0] rfl)
set_option maxHeartbeats 4000000 in
set_option maxRecDepth 100000 in
theorem c_X4_clearFigures (l : Launch) (G : GW) (sz : Nat) (o : Nat) (ad : Nat → Nat) (sz1 : Int32) (osz : Int32) (th : Int32) (hsz : Int32) (qf : Nat → Int64) (wf : Nat → Int64)  : Met l yX4_clearFigures (Cond.code yX4_clearFigures cX4_clearFigures 2 (none : Option FieldType) :: UW) ({ frames := 0, cells := 0, slots := 0, locals := 0 } : Room) (va_Pc [.ref o] (gPre G [(o, .inr (4, mF ad sz1 osz th hsz)), (ad 22, .inl (G.2.1 2, 12, .inr (.inl qf))), (ad 23, .inl (G.2.1 2, 18, .inr (.inl wf)))] sz)) (va_Qv (fun (uq9 : (Nat → Int64) × (Nat → Int64)) => (∀ j, j < 12 → uq9.1 j = 0) ∧ (∀ j, j < 18 → uq9.2 j = 0)) (fun u => gPost G (va_A [(o, .inr (4, mF ad sz1 osz th hsz)), (ad 22, .inl (G.2.1 2, 12, .inr (.inl qf))), (ad 23, .inl (G.2.1 2, 18, .inr (.inl wf)))] sz) ((fun (uq9 : (Nat → Int64) × (Nat → Int64)) => ([(o, .inr (4, mF ad sz1 osz th hsz)), (ad 22, .inl (G.2.1 2, 12, .inr (.inl uq9.1))), (ad 23, .inl (G.2.1 2, 18, .inr (.inl uq9.2)))] : va_W)) u)) (va_A [(o, .inr (4, mF ad sz1 osz th hsz)), (ad 22, .inl (G.2.1 2, 12, .inr (.inl qf))), (ad 23, .inl (G.2.1 2, 18, .inr (.inl wf)))] sz)) 0 0 (va_A [(o, .inr (4, mF ad sz1 osz th hsz)), (ad 22, .inl (G.2.1 2, 12, .inr (.inl qf))), (ad 23, .inl (G.2.1 2, 18, .inr (.inl wf)))] sz) := by
  refine gM_of (Qf := fun A => va_Qv (fun (uq9 : (Nat → Int64) × (Nat → Int64)) => (∀ j, j < 12 → uq9.1 j = 0) ∧ (∀ j, j < 18 → uq9.2 j = 0)) (fun u => gPost G A ((fun (uq9 : (Nat → Int64) × (Nat → Int64)) => ([(o, .inr (4, mF ad sz1 osz th hsz)), (ad 22, .inl (G.2.1 2, 12, .inr (.inl uq9.1))), (ad 23, .inl (G.2.1 2, 18, .inr (.inl uq9.2)))] : va_W)) u)) A) (by decide) (Nat.le_of_ble_eq_true rfl) ?_
  intro p e s m below meth c A ls hx hb hml hr hown htu hlk hnm hA hP hD hS hK hZ hl
  have hown : s.vm.findClass RX4 = some m.cls := hown
  have hl : lv_has ls 2 [(0, .ref o)] := hl
  refine lv_iconst (v := nI 0) hx hb dX4_clearFigures_0 (by decide) ?_
  refine lv_istore_n (lv' := [(1, .int (nI 0)), (0, .ref o)]) hx hb dX4_clearFigures_1 rfl hl (by decide) rfl (fun ls hl => ?_)
  refine g_loop (σ := Nat × (Nat → Int64) × (Nat → Int64)) (G := G) (fun xq9 : Nat × (Nat → Int64) × (Nat → Int64) => [(o, .inr (4, mF ad sz1 osz th hsz)), (ad 22, .inl (G.2.1 2, 12, .inr (.inl xq9.2.1))), (ad 23, .inl (G.2.1 2, 18, .inr (.inl xq9.2.2)))]) (fun xq9 : Nat × (Nat → Int64) × (Nat → Int64) => [(0, .ref o), (1, .int (nI xq9.1))]) (fun xq9 : Nat × (Nat → Int64) × (Nat → Int64) => xq9.1 ≤ 18 ∧ (∀ j, j < xq9.1 → xq9.2.2 j = 0) ∧ ∀ j, j < xq9.1 → j < 12 → xq9.2.1 j = 0) (fun xq9 : Nat × (Nat → Int64) × (Nat → Int64) => 18 - xq9.1) ?_ (0, qf, wf) (show 0 ≤ 18 ∧ (∀ j, j < 0 → wf j = 0) ∧ ∀ j, j < 0 → j < 12 → qf j = 0 from ⟨Nat.zero_le _, fun _ h => absurd h (Nat.not_lt_zero _), fun _ h => absurd h (Nat.not_lt_zero _)⟩) (hP.sub [0, 1, 2] rfl) (hD.sub [0, 1, 2] (by decide) rfl) hS (lv_sub hl [1, 0] rfl)
  clear hP hD hS hl
  intro x hxI_2 ih_2 H locs ls hP hD hS hl
  obtain ⟨k, q, v9⟩ := x
  have hI : k ≤ 18 ∧ (∀ j, j < k → v9 j = 0) ∧ ∀ j, j < k → j < 12 → q j = 0 := hxI_2
  have hP : va_P G.1 vwCl [(o, .inr (4, mF ad sz1 osz th hsz)), (ad 22, .inl (G.2.1 2, 12, .inr (.inl q))), (ad 23, .inl (G.2.1 2, 18, .inr (.inl v9)))] H := hP
  have hD : va_D A [(o, .inr (4, mF ad sz1 osz th hsz)), (ad 22, .inl (G.2.1 2, 12, .inr (.inl q))), (ad 23, .inl (G.2.1 2, 18, .inr (.inl v9)))] := hD
  have hl : lv_has ls 2 [(0, .ref o), (1, .int (nI k))] := hl
  refine lv_iload_n hx hb dX4_clearFigures_2 rfl (lv_at hl 1 rfl) ?_
  refine lv_bipush (v := nI 18) hx hb dX4_clearFigures_3 (by decide) ?_
  refine lv_icmp_ge (tgt := 38) hx hb dX4_clearFigures_5 (by decide) (fun c_5 => ?_) (fun c_5 => ?_)
  · skip
    have hg : 18 ≤ k := ge_t (n := 18) c_5 (by decide)
    exact gret_v hx hb hr hlk dX4_clearFigures_38 hS (q, v9) (hP.sub [0, 1, 2] rfl) (hD.sub [0, 1, 2] (by decide) rfl) (show (∀ j, j < 12 → q j = 0) ∧ (∀ j, j < 18 → v9 j = 0) from ⟨fun j hj => hI.2.2 j (by omega) hj, fun j hj => hI.2.1 j (by omega)⟩)
  · skip
    have hg : k < 18 := ge_f (n := 18) c_5 (by omega)
    refine lv_aload_n hx hb dX4_clearFigures_8 rfl (lv_at hl 0 rfl) ?_
    refine va_get (D := G.1) (ci := 4) (v := .ref (ad 23)) (C := RX4) (T := TX4) (N := 29) hx hb htu iwX4 hown hK.1 hP 0 rfl rfl 23 (by decide) (htu _ uF_X4_72) (fun _ h9 => h9) rfl dX4_clearFigures_9 ?_
    refine lv_iload_n hx hb dX4_clearFigures_12 rfl (lv_at hl 1 rfl) ?_
    refine lv_lconst (v := 0) hx hb dX4_clearFigures_13 (by decide) ?_
    refine g_last hx hb hK.1 hP hD hS 2 2 rfl rfl ⟨by omega, by decide⟩ dX4_clearFigures_14 (fun H locs hP hD hS => ?_)
    obtain ⟨g_1, eg_1⟩ : ∃ gq9 : Nat → Int64, gq9 = vp_updL v9 k 0 := ⟨_, rfl⟩
    rw [← eg_1] at hP hD
    have hP : va_P G.1 vwCl [(o, .inr (4, mF ad sz1 osz th hsz)), (ad 22, .inl (G.2.1 2, 12, .inr (.inl q))), (ad 23, .inl (G.2.1 2, 18, .inr (.inl g_1)))] H := hP
    have hD : va_D A [(o, .inr (4, mF ad sz1 osz th hsz)), (ad 22, .inl (G.2.1 2, 12, .inr (.inl q))), (ad 23, .inl (G.2.1 2, 18, .inr (.inl g_1)))] := hD
    refine lv_aload_n hx hb dX4_clearFigures_15 rfl (lv_at hl 0 rfl) ?_
    refine va_get (D := G.1) (ci := 4) (v := .ref (ad 22)) (C := RX4) (T := TX4) (N := 29) hx hb htu iwX4 hown hK.1 hP 0 rfl rfl 22 (by decide) (htu _ uF_X4_69) (fun _ h9 => h9) rfl dX4_clearFigures_16 ?_
    refine lv_iload_n hx hb dX4_clearFigures_19 rfl (lv_at hl 1 rfl) ?_
    refine lv_bipush (v := nI 12) hx hb dX4_clearFigures_20 (by decide) ?_
    refine lv_icmp_ge (tgt := 29) hx hb dX4_clearFigures_22 (by decide) (fun c_22 => ?_) (fun c_22 => ?_)
    · skip
      have hq : 12 ≤ k := ge_t (n := 12) c_22 (by decide)
      refine lv_iconst (v := nI 0) hx hb dX4_clearFigures_29 (by decide) ?_
      refine lv_lconst (v := 0) hx hb dX4_clearFigures_30 (by decide) ?_
      refine g_last hx hb hK.1 hP hD hS 1 2 rfl rfl ⟨by omega, by decide⟩ dX4_clearFigures_31 (fun H locs hP hD hS => ?_)
      obtain ⟨g_2, eg_2⟩ : ∃ gq9 : Nat → Int64, gq9 = vp_updL q 0 0 := ⟨_, rfl⟩
      rw [← eg_2] at hP hD
      have hP : va_P G.1 vwCl [(o, .inr (4, mF ad sz1 osz th hsz)), (ad 22, .inl (G.2.1 2, 12, .inr (.inl g_2))), (ad 23, .inl (G.2.1 2, 18, .inr (.inl g_1)))] H := hP
      have hD : va_D A [(o, .inr (4, mF ad sz1 osz th hsz)), (ad 22, .inl (G.2.1 2, 12, .inr (.inl g_2))), (ad 23, .inl (G.2.1 2, 18, .inr (.inl g_1)))] := hD
      refine lv_iinc (v := nI (k + 1)) (lv' := [(1, .int (nI (k + 1))), (0, .ref o)]) hx hb dX4_clearFigures_32 hl (k := 1) rfl (nI_1 k) (by decide) rfl (fun ls hl => ?_)
      refine lv_goto (tgt := 2) hx hb dX4_clearFigures_35 (by decide) ?_
      exact ih_2 (k + 1, g_2, g_1) (show (k + 1) ≤ 18 ∧ (∀ j, j < (k + 1) → g_1 j = 0) ∧ ∀ j, j < (k + 1) → j < 12 → g_2 j = 0 from ⟨hg, fun j hj => clW hI.2.1 eg_1 j hj, fun j hj h12 => clZ hq hI.2.2 eg_2 j hj h12⟩) (by show 18 - (k + 1) < 18 - k; omega) _ _ _ (hP.sub [0, 1, 2] rfl) (hD.sub [0, 1, 2] (by decide) rfl) hS (lv_sub hl [1, 0] rfl)
    · skip
      have hq : k < 12 := ge_f (n := 12) c_22 (by omega)
      refine lv_iload_n hx hb dX4_clearFigures_25 rfl (lv_at hl 1 rfl) ?_
      refine lv_goto (tgt := 30) hx hb dX4_clearFigures_26 (by decide) ?_
      refine lv_lconst (v := 0) hx hb dX4_clearFigures_30 (by decide) ?_
      refine g_last hx hb hK.1 hP hD hS 1 2 rfl rfl ⟨by omega, by decide⟩ dX4_clearFigures_31 (fun H locs hP hD hS => ?_)
      obtain ⟨g_3, eg_3⟩ : ∃ gq9 : Nat → Int64, gq9 = vp_updL q k 0 := ⟨_, rfl⟩
      rw [← eg_3] at hP hD
      have hP : va_P G.1 vwCl [(o, .inr (4, mF ad sz1 osz th hsz)), (ad 22, .inl (G.2.1 2, 12, .inr (.inl g_3))), (ad 23, .inl (G.2.1 2, 18, .inr (.inl g_1)))] H := hP
      have hD : va_D A [(o, .inr (4, mF ad sz1 osz th hsz)), (ad 22, .inl (G.2.1 2, 12, .inr (.inl g_3))), (ad 23, .inl (G.2.1 2, 18, .inr (.inl g_1)))] := hD
      refine lv_iinc (v := nI (k + 1)) (lv' := [(1, .int (nI (k + 1))), (0, .ref o)]) hx hb dX4_clearFigures_32 hl (k := 1) rfl (nI_1 k) (by decide) rfl (fun ls hl => ?_)
      refine lv_goto (tgt := 2) hx hb dX4_clearFigures_35 (by decide) ?_
      exact ih_2 (k + 1, g_3, g_1) (show (k + 1) ≤ 18 ∧ (∀ j, j < (k + 1) → g_1 j = 0) ∧ ∀ j, j < (k + 1) → j < 12 → g_3 j = 0 from ⟨hg, fun j hj => clW hI.2.1 eg_1 j hj, fun j hj h12 => clQ hI.2.2 eg_3 j hj h12⟩) (by show 18 - (k + 1) < 18 - k; omega) _ _ _ (hP.sub [0, 1, 2] rfl) (hD.sub [0, 1, 2] (by decide) rfl) hS (lv_sub hl [1, 0] rfl)
set_option maxHeartbeats 4000000 in
set_option maxRecDepth 100000 in
theorem c_X4_isJust (l : Launch) (G : GW) (sz : Nat) (o : Nat) (ad : Nat → Nat) (sz1 : Int32) (osz : Int32) (th : Int32) (hsz : Int32) (pn : Nat) (qf : Nat → Int64) (q : Nat → Nat) (hp : pn < 65536) (hq : LR qf q 12) (hq2 : ∀ j, j < 12 → q j ≤ 2199023255552) : Met l yX4_isJust (Cond.code yX4_isJust cX4_isJust 6 (some FieldType.boolean) :: UW) ({ frames := 0, cells := 0, slots := 0, locals := 0 } : Room) (va_Pc [.ref o, .int (nI pn), .int (nI 8), .int (nI 2)] (gPre G [(o, .inr (4, mF ad sz1 osz th hsz)), (ad 22, .inl (G.2.1 2, 12, .inr (.inl qf)))] sz)) (va_Qi (fun (r : Int32) (_ : Unit) => r = bI (jst q pn 12)) (fun u => gPost G (va_A [(o, .inr (4, mF ad sz1 osz th hsz)), (ad 22, .inl (G.2.1 2, 12, .inr (.inl qf)))] sz) ((fun (_ : Unit) => ([(o, .inr (4, mF ad sz1 osz th hsz)), (ad 22, .inl (G.2.1 2, 12, .inr (.inl qf)))] : va_W)) u)) (va_A [(o, .inr (4, mF ad sz1 osz th hsz)), (ad 22, .inl (G.2.1 2, 12, .inr (.inl qf)))] sz)) 0 0 (va_A [(o, .inr (4, mF ad sz1 osz th hsz)), (ad 22, .inl (G.2.1 2, 12, .inr (.inl qf)))] sz) := by
  refine gM_of (Qf := fun A => va_Qi (fun (r : Int32) (_ : Unit) => r = bI (jst q pn 12)) (fun u => gPost G A ((fun (_ : Unit) => ([(o, .inr (4, mF ad sz1 osz th hsz)), (ad 22, .inl (G.2.1 2, 12, .inr (.inl qf)))] : va_W)) u)) A) (by decide) (Nat.le_of_ble_eq_true rfl) ?_
  intro p e s m below meth c A ls hx hb hml hr hown htu hlk hnm hA hP hD hS hK hZ hl
  have hown : s.vm.findClass RX4 = some m.cls := hown
  have hl : lv_has ls 6 [(0, .ref o), (1, .int (nI pn)), (2, .int (nI 8)), (3, .int (nI 2))] := hl
  refine lv_iload_n hx hb dX4_isJust_0 rfl (lv_at hl 3 rfl) ?_
  refine lv_iconst (v := nI 2) hx hb dX4_isJust_1 (by decide) ?_
  refine lv_icmp_ne (tgt := 21) hx hb dX4_isJust_2 (by decide) (fun c_2 => absurd (rfl) c_2) (fun _ => ?_)
  refine lv_aload_n hx hb dX4_isJust_5 rfl (lv_at hl 0 rfl) ?_
  refine va_get (D := G.1) (ci := 4) (v := .ref (ad 22)) (C := RX4) (T := TX4) (N := 29) hx hb htu iwX4 hown hK.1 hP 0 rfl rfl 22 (by decide) (htu _ uF_X4_69) (fun _ h9 => h9) rfl dX4_isJust_6 ?_
  refine lv_iload_n hx hb dX4_isJust_9 rfl (lv_at hl 2 rfl) ?_
  refine g_lald hx hb hK.1 hP 1 2 rfl rfl ⟨by decide, by decide⟩ dX4_isJust_10 ?_
  refine g_tol (y := lN (q 8)) (hq 8 (by decide)) ?_
  refine lv_iload_n hx hb dX4_isJust_11 rfl (lv_at hl 1 rfl) ?_
  refine lv_i2l (v := Int32.toInt64 (nI pn)) hx hb dX4_isJust_12 rfl ?_
  refine g_tol (y := lN pn) (nI_l (by omega)) ?_
  refine W.lcmp hx hb dX4_isJust_13 ?_
  refine lv_if_ne (tgt := 21) hx hb dX4_isJust_14 (by decide) (fun c_14 => ?_) (fun c_14 => ?_)
  · skip
    have h8 : decide (q 8 = pn) = false := decide_eq_false (fun h => c_14 ((cmpE (by have := hq2 8 (by decide); omega) (by omega)).mpr h))
    refine lv_iconst (v := nI 0) hx hb dX4_isJust_21 (by decide) ?_
    refine g_toi (y := bI false) (rfl) ?_
    refine lv_istore (lv' := [(4, .int (bI false)), (0, .ref o), (1, .int (nI pn)), (2, .int (nI 8)), (3, .int (nI 2))]) hx hb dX4_isJust_22 hl (by decide) rfl (fun ls hl => ?_)
    refine lv_iconst (v := nI 0) hx hb dX4_isJust_24 (by decide) ?_
    refine lv_istore (lv' := [(5, .int (nI 0)), (4, .int (bI false)), (0, .ref o), (1, .int (nI pn)), (2, .int (nI 8)), (3, .int (nI 2))]) hx hb dX4_isJust_25 hl (by decide) rfl (fun ls hl => ?_)
    refine g_loop (σ := Nat × Bool) (G := G) (fun xq9 : Nat × Bool => [(o, .inr (4, mF ad sz1 osz th hsz)), (ad 22, .inl (G.2.1 2, 12, .inr (.inl qf)))]) (fun xq9 : Nat × Bool => [(0, .ref o), (1, .int (nI pn)), (2, .int (nI 8)), (3, .int (nI 2)), (4, .int (bI xq9.2)), (5, .int (nI xq9.1))]) (fun xq9 : Nat × Bool => xq9.1 ≤ 12 ∧ xq9.2 = jst q pn xq9.1) (fun xq9 : Nat × Bool => 12 - xq9.1) ?_ (0, false) (show 0 ≤ 12 ∧ false = jst q pn 0 from ⟨Nat.zero_le _, by unfold jst; rw [h8]; rfl⟩) (hP.sub [0, 1] rfl) (hD.sub [0, 1] (by decide) rfl) hS (lv_sub hl [2, 3, 4, 5, 1, 0] rfl)
    clear hP hD hS hl
    intro x hxI_27 ih_27 H locs ls hP hD hS hl
    obtain ⟨k, b⟩ := x
    have hI : k ≤ 12 ∧ b = jst q pn k := hxI_27
    have hP : va_P G.1 vwCl [(o, .inr (4, mF ad sz1 osz th hsz)), (ad 22, .inl (G.2.1 2, 12, .inr (.inl qf)))] H := hP
    have hD : va_D A [(o, .inr (4, mF ad sz1 osz th hsz)), (ad 22, .inl (G.2.1 2, 12, .inr (.inl qf)))] := hD
    have hl : lv_has ls 6 [(0, .ref o), (1, .int (nI pn)), (2, .int (nI 8)), (3, .int (nI 2)), (4, .int (bI b)), (5, .int (nI k))] := hl
    refine lv_iload hx hb dX4_isJust_27 (lv_at hl 5 rfl) ?_
    refine lv_bipush (v := nI 12) hx hb dX4_isJust_29 (by decide) ?_
    refine lv_icmp_ge (tgt := 68) hx hb dX4_isJust_31 (by decide) (fun c_31 => ?_) (fun c_31 => ?_)
    · skip
      have hg : 12 ≤ k := ge_t (n := 12) c_31 (by decide)
      refine lv_iload hx hb dX4_isJust_68 (lv_at hl 4 rfl) ?_
      exact gret_z hx hb hr hlk dX4_isJust_70 hS (by cases b; exact Or.inl rfl; exact Or.inr rfl) () (hP.sub [0, 1] rfl) (hD.sub [0, 1] (by decide) rfl) (by rw [hI.2, show k = 12 by omega])
    · skip
      have hg : k < 12 := ge_f (n := 12) c_31 (by omega)
      refine lv_iload hx hb dX4_isJust_34 (lv_at hl 4 rfl) ?_
      refine lv_iload hx hb dX4_isJust_36 (lv_at hl 5 rfl) ?_
      refine lv_iload_n hx hb dX4_isJust_38 rfl (lv_at hl 2 rfl) ?_
      refine lv_icmp_eq (tgt := 54) hx hb dX4_isJust_39 (by decide) (fun c_39 => ?_) (fun c_39 => ?_)
      · skip
        have hz : (decide (k = 8) || decide (q k = 0)) = true := by rw [decide_eq_true ((nI_eq (by omega) (by decide)).mp c_39)]; rfl
        refine lv_iconst (v := nI 1) hx hb dX4_isJust_54 (by decide) ?_
        refine g_toi (y := bI true) (rfl) ?_
        refine lv_goto (tgt := 59) hx hb dX4_isJust_55 (by decide) ?_
        refine lv_iand hx hb dX4_isJust_59 ?_
        refine g_toi (y := bI (b && true)) (bI_and _ _) ?_
        refine lv_istore (lv' := [(4, .int (bI (b && true))), (0, .ref o), (1, .int (nI pn)), (2, .int (nI 8)), (3, .int (nI 2)), (5, .int (nI k))]) hx hb dX4_isJust_60 hl (by decide) rfl (fun ls hl => ?_)
        refine lv_iinc (v := nI (k + 1)) (lv' := [(5, .int (nI (k + 1))), (4, .int (bI (b && true))), (0, .ref o), (1, .int (nI pn)), (2, .int (nI 8)), (3, .int (nI 2))]) hx hb dX4_isJust_62 hl (k := 5) rfl (nI_1 k) (by decide) rfl (fun ls hl => ?_)
        refine lv_goto (tgt := 27) hx hb dX4_isJust_65 (by decide) ?_
        exact ih_27 (k + 1, b && true) (show (k + 1) ≤ 12 ∧ (b && true) = jst q pn (k + 1) from ⟨hg, jst_s hI.2 hz.symm⟩) (by show 12 - (k + 1) < 12 - k; omega) _ _ _ (hP.sub [0, 1] rfl) (hD.sub [0, 1] (by decide) rfl) hS (lv_sub hl [2, 3, 4, 5, 1, 0] rfl)
      · skip
        have h9 : k ≠ 8 := fun h => c_39 (by rw [h])
        refine lv_aload_n hx hb dX4_isJust_42 rfl (lv_at hl 0 rfl) ?_
        refine va_get (D := G.1) (ci := 4) (v := .ref (ad 22)) (C := RX4) (T := TX4) (N := 29) hx hb htu iwX4 hown hK.1 hP 0 rfl rfl 22 (by decide) (htu _ uF_X4_69) (fun _ h9 => h9) rfl dX4_isJust_43 ?_
        refine lv_iload hx hb dX4_isJust_46 (lv_at hl 5 rfl) ?_
        refine g_lald hx hb hK.1 hP 1 2 rfl rfl ⟨by omega, by decide⟩ dX4_isJust_48 ?_
        refine g_tol (y := lN (q k)) (hq k hg) ?_
        refine lv_lconst (v := 0) hx hb dX4_isJust_49 (by decide) ?_
        refine W.lcmp hx hb dX4_isJust_50 ?_
        refine lv_if_ne (tgt := 58) hx hb dX4_isJust_51 (by decide) (fun c_51 => ?_) (fun c_51 => ?_)
        · skip
          have hz : (decide (k = 8) || decide (q k = 0)) = false := by rw [decide_eq_false h9, decide_eq_false (fun h => c_51 ((cmp0 (by have := hq2 k hg; omega)).mpr h))]; rfl
          refine lv_iconst (v := nI 0) hx hb dX4_isJust_58 (by decide) ?_
          refine g_toi (y := bI false) (rfl) ?_
          refine lv_iand hx hb dX4_isJust_59 ?_
          refine g_toi (y := bI (b && false)) (bI_and _ _) ?_
          refine lv_istore (lv' := [(4, .int (bI (b && false))), (0, .ref o), (1, .int (nI pn)), (2, .int (nI 8)), (3, .int (nI 2)), (5, .int (nI k))]) hx hb dX4_isJust_60 hl (by decide) rfl (fun ls hl => ?_)
          refine lv_iinc (v := nI (k + 1)) (lv' := [(5, .int (nI (k + 1))), (4, .int (bI (b && false))), (0, .ref o), (1, .int (nI pn)), (2, .int (nI 8)), (3, .int (nI 2))]) hx hb dX4_isJust_62 hl (k := 5) rfl (nI_1 k) (by decide) rfl (fun ls hl => ?_)
          refine lv_goto (tgt := 27) hx hb dX4_isJust_65 (by decide) ?_
          exact ih_27 (k + 1, b && false) (show (k + 1) ≤ 12 ∧ (b && false) = jst q pn (k + 1) from ⟨hg, jst_s hI.2 hz.symm⟩) (by show 12 - (k + 1) < 12 - k; omega) _ _ _ (hP.sub [0, 1] rfl) (hD.sub [0, 1] (by decide) rfl) hS (lv_sub hl [2, 3, 4, 5, 1, 0] rfl)
        · skip
          have hz : (decide (k = 8) || decide (q k = 0)) = true := by rw [decide_eq_true ((cmp0 (by have := hq2 k hg; omega)).mp c_51), Bool.or_true]
          refine lv_iconst (v := nI 1) hx hb dX4_isJust_54 (by decide) ?_
          refine g_toi (y := bI true) (rfl) ?_
          refine lv_goto (tgt := 59) hx hb dX4_isJust_55 (by decide) ?_
          refine lv_iand hx hb dX4_isJust_59 ?_
          refine g_toi (y := bI (b && true)) (bI_and _ _) ?_
          refine lv_istore (lv' := [(4, .int (bI (b && true))), (0, .ref o), (1, .int (nI pn)), (2, .int (nI 8)), (3, .int (nI 2)), (5, .int (nI k))]) hx hb dX4_isJust_60 hl (by decide) rfl (fun ls hl => ?_)
          refine lv_iinc (v := nI (k + 1)) (lv' := [(5, .int (nI (k + 1))), (4, .int (bI (b && true))), (0, .ref o), (1, .int (nI pn)), (2, .int (nI 8)), (3, .int (nI 2))]) hx hb dX4_isJust_62 hl (k := 5) rfl (nI_1 k) (by decide) rfl (fun ls hl => ?_)
          refine lv_goto (tgt := 27) hx hb dX4_isJust_65 (by decide) ?_
          exact ih_27 (k + 1, b && true) (show (k + 1) ≤ 12 ∧ (b && true) = jst q pn (k + 1) from ⟨hg, jst_s hI.2 hz.symm⟩) (by show 12 - (k + 1) < 12 - k; omega) _ _ _ (hP.sub [0, 1] rfl) (hD.sub [0, 1] (by decide) rfl) hS (lv_sub hl [2, 3, 4, 5, 1, 0] rfl)
  · skip
    have h8 : decide (q 8 = pn) = true := decide_eq_true ((cmpE (by have := hq2 8 (by decide); omega) (by omega)).mp c_14)
    refine lv_iconst (v := nI 1) hx hb dX4_isJust_17 (by decide) ?_
    refine g_toi (y := bI true) (rfl) ?_
    refine lv_goto (tgt := 22) hx hb dX4_isJust_18 (by decide) ?_
    refine lv_istore (lv' := [(4, .int (bI true)), (0, .ref o), (1, .int (nI pn)), (2, .int (nI 8)), (3, .int (nI 2))]) hx hb dX4_isJust_22 hl (by decide) rfl (fun ls hl => ?_)
    refine lv_iconst (v := nI 0) hx hb dX4_isJust_24 (by decide) ?_
    refine lv_istore (lv' := [(5, .int (nI 0)), (4, .int (bI true)), (0, .ref o), (1, .int (nI pn)), (2, .int (nI 8)), (3, .int (nI 2))]) hx hb dX4_isJust_25 hl (by decide) rfl (fun ls hl => ?_)
    refine g_loop (σ := Nat × Bool) (G := G) (fun xq9 : Nat × Bool => [(o, .inr (4, mF ad sz1 osz th hsz)), (ad 22, .inl (G.2.1 2, 12, .inr (.inl qf)))]) (fun xq9 : Nat × Bool => [(0, .ref o), (1, .int (nI pn)), (2, .int (nI 8)), (3, .int (nI 2)), (4, .int (bI xq9.2)), (5, .int (nI xq9.1))]) (fun xq9 : Nat × Bool => xq9.1 ≤ 12 ∧ xq9.2 = jst q pn xq9.1) (fun xq9 : Nat × Bool => 12 - xq9.1) ?_ (0, true) (show 0 ≤ 12 ∧ true = jst q pn 0 from ⟨Nat.zero_le _, by unfold jst; rw [h8]; rfl⟩) (hP.sub [0, 1] rfl) (hD.sub [0, 1] (by decide) rfl) hS (lv_sub hl [2, 3, 4, 5, 1, 0] rfl)
    clear hP hD hS hl
    intro x hxI_27 ih_27 H locs ls hP hD hS hl
    obtain ⟨k, b⟩ := x
    have hI : k ≤ 12 ∧ b = jst q pn k := hxI_27
    have hP : va_P G.1 vwCl [(o, .inr (4, mF ad sz1 osz th hsz)), (ad 22, .inl (G.2.1 2, 12, .inr (.inl qf)))] H := hP
    have hD : va_D A [(o, .inr (4, mF ad sz1 osz th hsz)), (ad 22, .inl (G.2.1 2, 12, .inr (.inl qf)))] := hD
    have hl : lv_has ls 6 [(0, .ref o), (1, .int (nI pn)), (2, .int (nI 8)), (3, .int (nI 2)), (4, .int (bI b)), (5, .int (nI k))] := hl
    refine lv_iload hx hb dX4_isJust_27 (lv_at hl 5 rfl) ?_
    refine lv_bipush (v := nI 12) hx hb dX4_isJust_29 (by decide) ?_
    refine lv_icmp_ge (tgt := 68) hx hb dX4_isJust_31 (by decide) (fun c_31 => ?_) (fun c_31 => ?_)
    · skip
      have hg : 12 ≤ k := ge_t (n := 12) c_31 (by decide)
      refine lv_iload hx hb dX4_isJust_68 (lv_at hl 4 rfl) ?_
      exact gret_z hx hb hr hlk dX4_isJust_70 hS (by cases b; exact Or.inl rfl; exact Or.inr rfl) () (hP.sub [0, 1] rfl) (hD.sub [0, 1] (by decide) rfl) (by rw [hI.2, show k = 12 by omega])
    · skip
      have hg : k < 12 := ge_f (n := 12) c_31 (by omega)
      refine lv_iload hx hb dX4_isJust_34 (lv_at hl 4 rfl) ?_
      refine lv_iload hx hb dX4_isJust_36 (lv_at hl 5 rfl) ?_
      refine lv_iload_n hx hb dX4_isJust_38 rfl (lv_at hl 2 rfl) ?_
      refine lv_icmp_eq (tgt := 54) hx hb dX4_isJust_39 (by decide) (fun c_39 => ?_) (fun c_39 => ?_)
      · skip
        have hz : (decide (k = 8) || decide (q k = 0)) = true := by rw [decide_eq_true ((nI_eq (by omega) (by decide)).mp c_39)]; rfl
        refine lv_iconst (v := nI 1) hx hb dX4_isJust_54 (by decide) ?_
        refine g_toi (y := bI true) (rfl) ?_
        refine lv_goto (tgt := 59) hx hb dX4_isJust_55 (by decide) ?_
        refine lv_iand hx hb dX4_isJust_59 ?_
        refine g_toi (y := bI (b && true)) (bI_and _ _) ?_
        refine lv_istore (lv' := [(4, .int (bI (b && true))), (0, .ref o), (1, .int (nI pn)), (2, .int (nI 8)), (3, .int (nI 2)), (5, .int (nI k))]) hx hb dX4_isJust_60 hl (by decide) rfl (fun ls hl => ?_)
        refine lv_iinc (v := nI (k + 1)) (lv' := [(5, .int (nI (k + 1))), (4, .int (bI (b && true))), (0, .ref o), (1, .int (nI pn)), (2, .int (nI 8)), (3, .int (nI 2))]) hx hb dX4_isJust_62 hl (k := 5) rfl (nI_1 k) (by decide) rfl (fun ls hl => ?_)
        refine lv_goto (tgt := 27) hx hb dX4_isJust_65 (by decide) ?_
        exact ih_27 (k + 1, b && true) (show (k + 1) ≤ 12 ∧ (b && true) = jst q pn (k + 1) from ⟨hg, jst_s hI.2 hz.symm⟩) (by show 12 - (k + 1) < 12 - k; omega) _ _ _ (hP.sub [0, 1] rfl) (hD.sub [0, 1] (by decide) rfl) hS (lv_sub hl [2, 3, 4, 5, 1, 0] rfl)
      · skip
        have h9 : k ≠ 8 := fun h => c_39 (by rw [h])
        refine lv_aload_n hx hb dX4_isJust_42 rfl (lv_at hl 0 rfl) ?_
        refine va_get (D := G.1) (ci := 4) (v := .ref (ad 22)) (C := RX4) (T := TX4) (N := 29) hx hb htu iwX4 hown hK.1 hP 0 rfl rfl 22 (by decide) (htu _ uF_X4_69) (fun _ h9 => h9) rfl dX4_isJust_43 ?_
        refine lv_iload hx hb dX4_isJust_46 (lv_at hl 5 rfl) ?_
        refine g_lald hx hb hK.1 hP 1 2 rfl rfl ⟨by omega, by decide⟩ dX4_isJust_48 ?_
        refine g_tol (y := lN (q k)) (hq k hg) ?_
        refine lv_lconst (v := 0) hx hb dX4_isJust_49 (by decide) ?_
        refine W.lcmp hx hb dX4_isJust_50 ?_
        refine lv_if_ne (tgt := 58) hx hb dX4_isJust_51 (by decide) (fun c_51 => ?_) (fun c_51 => ?_)
        · skip
          have hz : (decide (k = 8) || decide (q k = 0)) = false := by rw [decide_eq_false h9, decide_eq_false (fun h => c_51 ((cmp0 (by have := hq2 k hg; omega)).mpr h))]; rfl
          refine lv_iconst (v := nI 0) hx hb dX4_isJust_58 (by decide) ?_
          refine g_toi (y := bI false) (rfl) ?_
          refine lv_iand hx hb dX4_isJust_59 ?_
          refine g_toi (y := bI (b && false)) (bI_and _ _) ?_
          refine lv_istore (lv' := [(4, .int (bI (b && false))), (0, .ref o), (1, .int (nI pn)), (2, .int (nI 8)), (3, .int (nI 2)), (5, .int (nI k))]) hx hb dX4_isJust_60 hl (by decide) rfl (fun ls hl => ?_)
          refine lv_iinc (v := nI (k + 1)) (lv' := [(5, .int (nI (k + 1))), (4, .int (bI (b && false))), (0, .ref o), (1, .int (nI pn)), (2, .int (nI 8)), (3, .int (nI 2))]) hx hb dX4_isJust_62 hl (k := 5) rfl (nI_1 k) (by decide) rfl (fun ls hl => ?_)
          refine lv_goto (tgt := 27) hx hb dX4_isJust_65 (by decide) ?_
          exact ih_27 (k + 1, b && false) (show (k + 1) ≤ 12 ∧ (b && false) = jst q pn (k + 1) from ⟨hg, jst_s hI.2 hz.symm⟩) (by show 12 - (k + 1) < 12 - k; omega) _ _ _ (hP.sub [0, 1] rfl) (hD.sub [0, 1] (by decide) rfl) hS (lv_sub hl [2, 3, 4, 5, 1, 0] rfl)
        · skip
          have hz : (decide (k = 8) || decide (q k = 0)) = true := by rw [decide_eq_true ((cmp0 (by have := hq2 k hg; omega)).mp c_51), Bool.or_true]
          refine lv_iconst (v := nI 1) hx hb dX4_isJust_54 (by decide) ?_
          refine g_toi (y := bI true) (rfl) ?_
          refine lv_goto (tgt := 59) hx hb dX4_isJust_55 (by decide) ?_
          refine lv_iand hx hb dX4_isJust_59 ?_
          refine g_toi (y := bI (b && true)) (bI_and _ _) ?_
          refine lv_istore (lv' := [(4, .int (bI (b && true))), (0, .ref o), (1, .int (nI pn)), (2, .int (nI 8)), (3, .int (nI 2)), (5, .int (nI k))]) hx hb dX4_isJust_60 hl (by decide) rfl (fun ls hl => ?_)
          refine lv_iinc (v := nI (k + 1)) (lv' := [(5, .int (nI (k + 1))), (4, .int (bI (b && true))), (0, .ref o), (1, .int (nI pn)), (2, .int (nI 8)), (3, .int (nI 2))]) hx hb dX4_isJust_62 hl (k := 5) rfl (nI_1 k) (by decide) rfl (fun ls hl => ?_)
          refine lv_goto (tgt := 27) hx hb dX4_isJust_65 (by decide) ?_
          exact ih_27 (k + 1, b && true) (show (k + 1) ≤ 12 ∧ (b && true) = jst q pn (k + 1) from ⟨hg, jst_s hI.2 hz.symm⟩) (by show 12 - (k + 1) < 12 - k; omega) _ _ _ (hP.sub [0, 1] rfl) (hD.sub [0, 1] (by decide) rfl) hS (lv_sub hl [2, 3, 4, 5, 1, 0] rfl)
set_option maxHeartbeats 4000000 in
set_option maxRecDepth 100000 in
theorem c_X4_isAtMost2 (l : Launch) (G : GW) (sz : Nat) (o : Nat) (ad : Nat → Nat) (sz1 : Int32) (osz : Int32) (th : Int32) (hsz : Int32) (pn : Nat) (xf : Nat → Int64) (qf : Nat → Int64) (wf : Nat → Int64) (x : Nat → Nat) (hp : pn < 65536) (hxr : LR xf x 6) (hx5 : ∀ j, j < 5 → x j < 65536) : Met l yX4_isAtMost (Cond.code yX4_isAtMost cX4_isAtMost 5 (some FieldType.boolean) :: UW) ({ frames := 1, cells := 0, slots := 0, locals := 25 } : Room) (va_Pc [.ref o, .int (nI pn), .int (nI 2)] (gPre G [(o, .inr (4, mF ad sz1 osz th hsz)), (ad 21, .inl (G.2.1 2, 6, .inr (.inl xf))), (ad 22, .inl (G.2.1 2, 12, .inr (.inl qf))), (ad 23, .inl (G.2.1 2, 18, .inr (.inl wf)))] sz)) (va_Qi (fun (r : Int32) (uq9 : (Nat → Int64) × (Nat → Int64)) => r = bI (ok2 pn (dv x 5))) (fun u => gPost G (va_A [(o, .inr (4, mF ad sz1 osz th hsz)), (ad 21, .inl (G.2.1 2, 6, .inr (.inl xf))), (ad 22, .inl (G.2.1 2, 12, .inr (.inl qf))), (ad 23, .inl (G.2.1 2, 18, .inr (.inl wf)))] sz) ((fun (uq9 : (Nat → Int64) × (Nat → Int64)) => ([(o, .inr (4, mF ad sz1 osz th hsz)), (ad 21, .inl (G.2.1 2, 6, .inr (.inl xf))), (ad 22, .inl (G.2.1 2, 12, .inr (.inl uq9.1))), (ad 23, .inl (G.2.1 2, 18, .inr (.inl uq9.2)))] : va_W)) u)) (va_A [(o, .inr (4, mF ad sz1 osz th hsz)), (ad 21, .inl (G.2.1 2, 6, .inr (.inl xf))), (ad 22, .inl (G.2.1 2, 12, .inr (.inl qf))), (ad 23, .inl (G.2.1 2, 18, .inr (.inl wf)))] sz)) 0 0 (va_A [(o, .inr (4, mF ad sz1 osz th hsz)), (ad 21, .inl (G.2.1 2, 6, .inr (.inl xf))), (ad 22, .inl (G.2.1 2, 12, .inr (.inl qf))), (ad 23, .inl (G.2.1 2, 18, .inr (.inl wf)))] sz) := by
  refine gM_of (Qf := fun A => va_Qi (fun (r : Int32) (uq9 : (Nat → Int64) × (Nat → Int64)) => r = bI (ok2 pn (dv x 5))) (fun u => gPost G A ((fun (uq9 : (Nat → Int64) × (Nat → Int64)) => ([(o, .inr (4, mF ad sz1 osz th hsz)), (ad 21, .inl (G.2.1 2, 6, .inr (.inl xf))), (ad 22, .inl (G.2.1 2, 12, .inr (.inl uq9.1))), (ad 23, .inl (G.2.1 2, 18, .inr (.inl uq9.2)))] : va_W)) u)) A) (by decide) (Nat.le_of_ble_eq_true rfl) ?_
  intro p e s m below meth c A ls hx hb hml hr hown htu hlk hnm hA hP hD hS hK hZ hl
  have hown : s.vm.findClass RX4 = some m.cls := hown
  have hl : lv_has ls 5 [(0, .ref o), (1, .int (nI pn)), (2, .int (nI 2))] := hl
  refine lv_aload_n hx hb dX4_isAtMost_0 rfl (lv_at hl 0 rfl) ?_
  refine g_callv (g_runV (As := []) (rest := []) ⟨hx, hb, hml, hown, htu⟩ (c_X4_clearFigures l G _ o ad sz1 osz th hsz qf wf ) uM_X4_99 ok_X4_clearFigures in_X4_clearFigures rfl rfl ⟨Nat.le_of_ble_eq_true rfl, Nat.le_of_ble_eq_true rfl⟩ hK hP hD hS hA hZ [0, 2, 3] rfl rfl 0 rfl rfl rfl rfl hl.1 rfl (Nat.le_of_ble_eq_true rfl) dX4_isAtMost_1 ⟨Nat.le_of_ble_eq_true rfl, Nat.le_of_ble_eq_true rfl⟩) hP hD hS hA [0, 2, 3] rfl (fun u H locs hw0 hP hD hS => ?_)
  obtain ⟨qf_2, wf_3⟩ := u
  have hw0 : (∀ jq8, jq8 < 12 → qf_2 jq8 = 0) ∧ (∀ jq8, jq8 < 18 → wf_3 jq8 = 0) := hw0
  have hP : va_P G.1 vwCl [(ad 21, .inl (G.2.1 2, 6, .inr (.inl xf))), (o, .inr (4, mF ad sz1 osz th hsz)), (ad 22, .inl (G.2.1 2, 12, .inr (.inl qf_2))), (ad 23, .inl (G.2.1 2, 18, .inr (.inl wf_3)))] H := hP
  have hD : va_D A [(ad 21, .inl (G.2.1 2, 6, .inr (.inl xf))), (o, .inr (4, mF ad sz1 osz th hsz)), (ad 22, .inl (G.2.1 2, 12, .inr (.inl qf_2))), (ad 23, .inl (G.2.1 2, 18, .inr (.inl wf_3)))] := hD
  refine lv_iconst (v := nI 0) hx hb dX4_isAtMost_4 (by decide) ?_
  refine lv_istore_n (lv' := [(3, .int (nI 0)), (0, .ref o), (1, .int (nI pn)), (2, .int (nI 2))]) hx hb dX4_isAtMost_5 rfl hl (by decide) rfl (fun ls hl => ?_)
  refine g_loop (σ := Nat × (Nat → Int64) × (Nat → Nat)) (G := G) (fun xq9 : Nat × (Nat → Int64) × (Nat → Nat) => [(o, .inr (4, mF ad sz1 osz th hsz)), (ad 21, .inl (G.2.1 2, 6, .inr (.inl xf))), (ad 22, .inl (G.2.1 2, 12, .inr (.inl xq9.2.1))), (ad 23, .inl (G.2.1 2, 18, .inr (.inl wf_3)))]) (fun xq9 : Nat × (Nat → Int64) × (Nat → Nat) => [(0, .ref o), (1, .int (nI pn)), (2, .int (nI 2)), (3, .int (nI xq9.1))]) (fun xq9 : Nat × (Nat → Int64) × (Nat → Nat) => xq9.1 ≤ 5 ∧ MulI 12 5 xq9.2.1 xq9.2.2 x x xq9.1 0) (fun xq9 : Nat × (Nat → Int64) × (Nat → Nat) => 5 - xq9.1) ?_ (0, qf_2, fun _ => 0) (show 0 ≤ 5 ∧ MulI 12 5 qf_2 (fun _ => 0) x x 0 0 from ⟨Nat.zero_le _, MulI.start hw0.1⟩) (hP.sub [1, 0, 2, 3] rfl) (hD.sub [1, 0, 2, 3] (by decide) rfl) hS (lv_sub hl [1, 2, 3, 0] rfl)
  clear hP hD hS hl
  intro x hxI_6 ih_6 H locs ls hP hD hS hl
  obtain ⟨i, g, q⟩ := x
  have hI : i ≤ 5 ∧ MulI 12 5 g q x x i 0 := hxI_6
  have hP : va_P G.1 vwCl [(o, .inr (4, mF ad sz1 osz th hsz)), (ad 21, .inl (G.2.1 2, 6, .inr (.inl xf))), (ad 22, .inl (G.2.1 2, 12, .inr (.inl g))), (ad 23, .inl (G.2.1 2, 18, .inr (.inl wf_3)))] H := hP
  have hD : va_D A [(o, .inr (4, mF ad sz1 osz th hsz)), (ad 21, .inl (G.2.1 2, 6, .inr (.inl xf))), (ad 22, .inl (G.2.1 2, 12, .inr (.inl g))), (ad 23, .inl (G.2.1 2, 18, .inr (.inl wf_3)))] := hD
  have hl : lv_has ls 5 [(0, .ref o), (1, .int (nI pn)), (2, .int (nI 2)), (3, .int (nI i))] := hl
  refine lv_iload_n hx hb dX4_isAtMost_6 rfl (lv_at hl 3 rfl) ?_
  refine lv_iconst (v := nI 5) hx hb dX4_isAtMost_7 (by decide) ?_
  refine lv_icmp_ge (tgt := 58) hx hb dX4_isAtMost_8 (by decide) (fun c_8 => ?_) (fun c_8 => ?_)
  · skip
    have hg : 5 ≤ i := ge_t (n := 5) c_8 (by decide)
    refine lv_iconst (v := nI 0) hx hb dX4_isAtMost_58 (by decide) ?_
    refine lv_istore_n (lv' := [(3, .int (nI 0)), (0, .ref o), (1, .int (nI pn)), (2, .int (nI 2))]) hx hb dX4_isAtMost_59 rfl hl (by decide) rfl (fun ls hl => ?_)
    refine g_loop (σ := Nat × (Nat → Int64) × (Nat → Nat)) (G := G) (fun xq9 : Nat × (Nat → Int64) × (Nat → Nat) => [(o, .inr (4, mF ad sz1 osz th hsz)), (ad 21, .inl (G.2.1 2, 6, .inr (.inl xf))), (ad 22, .inl (G.2.1 2, 12, .inr (.inl xq9.2.1))), (ad 23, .inl (G.2.1 2, 18, .inr (.inl wf_3)))]) (fun xq9 : Nat × (Nat → Int64) × (Nat → Nat) => [(0, .ref o), (1, .int (nI pn)), (2, .int (nI 2)), (3, .int (nI xq9.1))]) (fun xq9 : Nat × (Nat → Int64) × (Nat → Nat) => xq9.1 ≤ 11 ∧ CarI 12 (dv x 5 * dv x 5) xq9.2.1 xq9.2.2 xq9.1) (fun xq9 : Nat × (Nat → Int64) × (Nat → Nat) => 11 - xq9.1) ?_ (0, g, q) (show 0 ≤ 11 ∧ CarI 12 (dv x 5 * dv x 5) g q 0 from ⟨Nat.zero_le _, CarI.start hI.2.1 (MulI.val5 hI.2 hg hI.1) (fun k hk => hI.2.le40 (by omega) k hk)⟩) (hP.sub [0, 1, 2, 3] rfl) (hD.sub [0, 1, 2, 3] (by decide) rfl) hS (lv_sub hl [1, 2, 3, 0] rfl)
    clear hP hD hS hl
    intro x hxI_60 ih_60 H locs ls hP hD hS hl
    obtain ⟨k, g, q⟩ := x
    have hC : k ≤ 11 ∧ CarI 12 (dv x 5 * dv x 5) g q k := hxI_60
    have hP : va_P G.1 vwCl [(o, .inr (4, mF ad sz1 osz th hsz)), (ad 21, .inl (G.2.1 2, 6, .inr (.inl xf))), (ad 22, .inl (G.2.1 2, 12, .inr (.inl g))), (ad 23, .inl (G.2.1 2, 18, .inr (.inl wf_3)))] H := hP
    have hD : va_D A [(o, .inr (4, mF ad sz1 osz th hsz)), (ad 21, .inl (G.2.1 2, 6, .inr (.inl xf))), (ad 22, .inl (G.2.1 2, 12, .inr (.inl g))), (ad 23, .inl (G.2.1 2, 18, .inr (.inl wf_3)))] := hD
    have hl : lv_has ls 5 [(0, .ref o), (1, .int (nI pn)), (2, .int (nI 2)), (3, .int (nI k))] := hl
    refine lv_iload_n hx hb dX4_isAtMost_60 rfl (lv_at hl 3 rfl) ?_
    refine lv_bipush (v := nI 11) hx hb dX4_isAtMost_61 (by decide) ?_
    refine lv_icmp_ge (tgt := 104) hx hb dX4_isAtMost_63 (by decide) (fun c_63 => ?_) (fun c_63 => ?_)
    · skip
      have hg : 11 ≤ k := ge_t (n := 11) c_63 (by decide)
      refine lv_iload_n hx hb dX4_isAtMost_104 rfl (lv_at hl 2 rfl) ?_
      refine lv_iconst (v := nI 2) hx hb dX4_isAtMost_105 (by decide) ?_
      refine lv_icmp_ne (tgt := 175) hx hb dX4_isAtMost_106 (by decide) (fun c_106 => absurd (rfl) c_106) (fun _ => ?_)
      refine lv_aload_n hx hb dX4_isAtMost_109 rfl (lv_at hl 0 rfl) ?_
      refine va_get (D := G.1) (ci := 4) (v := .ref (ad 22)) (C := RX4) (T := TX4) (N := 29) hx hb htu iwX4 hown hK.1 hP 0 rfl rfl 22 (by decide) (htu _ uF_X4_69) (fun _ h9 => h9) rfl dX4_isAtMost_110 ?_
      refine lv_bipush (v := nI 9) hx hb dX4_isAtMost_113 (by decide) ?_
      refine g_lald hx hb hK.1 hP 2 2 rfl rfl ⟨by omega, by decide⟩ dX4_isAtMost_115 ?_
      refine g_tol (y := lN (q 9)) (hC.2.1 _ (by decide)) ?_
      refine lv_lconst (v := 0) hx hb dX4_isAtMost_116 (by decide) ?_
      refine W.lcmp hx hb dX4_isAtMost_117 ?_
      refine lv_if_ne (tgt := 158) hx hb dX4_isAtMost_118 (by decide) (fun c_118 => ?_) (fun c_118 => ?_)
      · skip
        have hz : q 9 ≠ 0 := fun h => c_118 ((cmp0 (by have := hC.2.le (show 9 < 12 by decide); omega)).mpr h)
        refine lv_aload_n hx hb dX4_isAtMost_158 rfl (lv_at hl 0 rfl) ?_
        refine lv_iload_n hx hb dX4_isAtMost_159 rfl (lv_at hl 1 rfl) ?_
        refine lv_bipush (v := nI 8) hx hb dX4_isAtMost_160 (by decide) ?_
        refine lv_iconst (v := nI 2) hx hb dX4_isAtMost_162 (by decide) ?_
        refine g_calli (g_runV (As := [.int (nI pn), .int (nI 8), .int (nI 2)]) (rest := []) ⟨hx, hb, hml, hown, htu⟩ (c_X4_isJust l G _ o ad sz1 osz th hsz pn g q hp hC.2.1 (fun j hj => hC.2.le hj)) uM_X4_104 ok_X4_isJust in_X4_isJust rfl rfl ⟨Nat.le_of_ble_eq_true rfl, Nat.le_of_ble_eq_true rfl⟩ hK hP hD hS hA hZ [0, 2] rfl rfl 0 rfl rfl rfl rfl hl.1 rfl (Nat.le_of_ble_eq_true rfl) dX4_isAtMost_163 ⟨Nat.le_of_ble_eq_true rfl, Nat.le_of_ble_eq_true rfl⟩) hP hD hS hA [0, 2] rfl (fun r_4 u H locs hw_5 hP hD hS => ?_)
        have hw_5 : r_4 = bI (jst q pn 12) := hw_5
        subst hw_5
        have hP : va_P G.1 vwCl [(ad 21, .inl (G.2.1 2, 6, .inr (.inl xf))), (ad 23, .inl (G.2.1 2, 18, .inr (.inl wf_3))), (o, .inr (4, mF ad sz1 osz th hsz)), (ad 22, .inl (G.2.1 2, 12, .inr (.inl g)))] H := hP
        have hD : va_D A [(ad 21, .inl (G.2.1 2, 6, .inr (.inl xf))), (ad 23, .inl (G.2.1 2, 18, .inr (.inl wf_3))), (o, .inr (4, mF ad sz1 osz th hsz)), (ad 22, .inl (G.2.1 2, 12, .inr (.inl g)))] := hD
        refine lv_if_eq (tgt := 173) hx hb dX4_isAtMost_166 (by decide) (fun c_166 => ?_) (fun c_166 => ?_)
        · skip
          refine lv_iconst (v := nI 0) hx hb dX4_isAtMost_173 (by decide) ?_
          exact gret_z hx hb hr hlk dX4_isAtMost_174 hS (by first | exact Or.inl rfl | exact Or.inr rfl) (g, wf_3) (hP.sub [2, 0, 3, 1] rfl) (hD.sub [2, 0, 3, 1] (by decide) rfl) (show nI 0 = bI (ok2 pn (dv x 5)) from by first | exact am_lt hC.2 hg hp ⟨h9, h10, h11, h8⟩ | exact am_eq hC.2 hg hp c_166 | exact am_no hC.2 hg hp (fun h => by omega) c_166)
        · skip
          refine lv_iconst (v := nI 1) hx hb dX4_isAtMost_169 (by decide) ?_
          refine lv_goto (tgt := 174) hx hb dX4_isAtMost_170 (by decide) ?_
          exact gret_z hx hb hr hlk dX4_isAtMost_174 hS (by first | exact Or.inl rfl | exact Or.inr rfl) (g, wf_3) (hP.sub [2, 0, 3, 1] rfl) (hD.sub [2, 0, 3, 1] (by decide) rfl) (show nI 1 = bI (ok2 pn (dv x 5)) from by first | exact am_lt hC.2 hg hp ⟨h9, h10, h11, h8⟩ | exact am_eq hC.2 hg hp c_166 | exact am_no hC.2 hg hp (fun h => by omega) c_166)
      · skip
        have h9 : q 9 = 0 := (cmp0 (by have := hC.2.le (show 9 < 12 by decide); omega)).mp c_118
        refine lv_aload_n hx hb dX4_isAtMost_121 rfl (lv_at hl 0 rfl) ?_
        refine va_get (D := G.1) (ci := 4) (v := .ref (ad 22)) (C := RX4) (T := TX4) (N := 29) hx hb htu iwX4 hown hK.1 hP 0 rfl rfl 22 (by decide) (htu _ uF_X4_69) (fun _ h9 => h9) rfl dX4_isAtMost_122 ?_
        refine lv_bipush (v := nI 10) hx hb dX4_isAtMost_125 (by decide) ?_
        refine g_lald hx hb hK.1 hP 2 2 rfl rfl ⟨by omega, by decide⟩ dX4_isAtMost_127 ?_
        refine g_tol (y := lN (q 10)) (hC.2.1 _ (by decide)) ?_
        refine lv_lconst (v := 0) hx hb dX4_isAtMost_128 (by decide) ?_
        refine W.lcmp hx hb dX4_isAtMost_129 ?_
        refine lv_if_ne (tgt := 158) hx hb dX4_isAtMost_130 (by decide) (fun c_130 => ?_) (fun c_130 => ?_)
        · skip
          have hz : q 10 ≠ 0 := fun h => c_130 ((cmp0 (by have := hC.2.le (show 10 < 12 by decide); omega)).mpr h)
          refine lv_aload_n hx hb dX4_isAtMost_158 rfl (lv_at hl 0 rfl) ?_
          refine lv_iload_n hx hb dX4_isAtMost_159 rfl (lv_at hl 1 rfl) ?_
          refine lv_bipush (v := nI 8) hx hb dX4_isAtMost_160 (by decide) ?_
          refine lv_iconst (v := nI 2) hx hb dX4_isAtMost_162 (by decide) ?_
          refine g_calli (g_runV (As := [.int (nI pn), .int (nI 8), .int (nI 2)]) (rest := []) ⟨hx, hb, hml, hown, htu⟩ (c_X4_isJust l G _ o ad sz1 osz th hsz pn g q hp hC.2.1 (fun j hj => hC.2.le hj)) uM_X4_104 ok_X4_isJust in_X4_isJust rfl rfl ⟨Nat.le_of_ble_eq_true rfl, Nat.le_of_ble_eq_true rfl⟩ hK hP hD hS hA hZ [0, 2] rfl rfl 0 rfl rfl rfl rfl hl.1 rfl (Nat.le_of_ble_eq_true rfl) dX4_isAtMost_163 ⟨Nat.le_of_ble_eq_true rfl, Nat.le_of_ble_eq_true rfl⟩) hP hD hS hA [0, 2] rfl (fun r_6 u H locs hw_7 hP hD hS => ?_)
          have hw_7 : r_6 = bI (jst q pn 12) := hw_7
          subst hw_7
          have hP : va_P G.1 vwCl [(ad 21, .inl (G.2.1 2, 6, .inr (.inl xf))), (ad 23, .inl (G.2.1 2, 18, .inr (.inl wf_3))), (o, .inr (4, mF ad sz1 osz th hsz)), (ad 22, .inl (G.2.1 2, 12, .inr (.inl g)))] H := hP
          have hD : va_D A [(ad 21, .inl (G.2.1 2, 6, .inr (.inl xf))), (ad 23, .inl (G.2.1 2, 18, .inr (.inl wf_3))), (o, .inr (4, mF ad sz1 osz th hsz)), (ad 22, .inl (G.2.1 2, 12, .inr (.inl g)))] := hD
          refine lv_if_eq (tgt := 173) hx hb dX4_isAtMost_166 (by decide) (fun c_166 => ?_) (fun c_166 => ?_)
          · skip
            refine lv_iconst (v := nI 0) hx hb dX4_isAtMost_173 (by decide) ?_
            exact gret_z hx hb hr hlk dX4_isAtMost_174 hS (by first | exact Or.inl rfl | exact Or.inr rfl) (g, wf_3) (hP.sub [2, 0, 3, 1] rfl) (hD.sub [2, 0, 3, 1] (by decide) rfl) (show nI 0 = bI (ok2 pn (dv x 5)) from by first | exact am_lt hC.2 hg hp ⟨h9, h10, h11, h8⟩ | exact am_eq hC.2 hg hp c_166 | exact am_no hC.2 hg hp (fun h => by omega) c_166)
          · skip
            refine lv_iconst (v := nI 1) hx hb dX4_isAtMost_169 (by decide) ?_
            refine lv_goto (tgt := 174) hx hb dX4_isAtMost_170 (by decide) ?_
            exact gret_z hx hb hr hlk dX4_isAtMost_174 hS (by first | exact Or.inl rfl | exact Or.inr rfl) (g, wf_3) (hP.sub [2, 0, 3, 1] rfl) (hD.sub [2, 0, 3, 1] (by decide) rfl) (show nI 1 = bI (ok2 pn (dv x 5)) from by first | exact am_lt hC.2 hg hp ⟨h9, h10, h11, h8⟩ | exact am_eq hC.2 hg hp c_166 | exact am_no hC.2 hg hp (fun h => by omega) c_166)
        · skip
          have h10 : q 10 = 0 := (cmp0 (by have := hC.2.le (show 10 < 12 by decide); omega)).mp c_130
          refine lv_aload_n hx hb dX4_isAtMost_133 rfl (lv_at hl 0 rfl) ?_
          refine va_get (D := G.1) (ci := 4) (v := .ref (ad 22)) (C := RX4) (T := TX4) (N := 29) hx hb htu iwX4 hown hK.1 hP 0 rfl rfl 22 (by decide) (htu _ uF_X4_69) (fun _ h9 => h9) rfl dX4_isAtMost_134 ?_
          refine lv_bipush (v := nI 11) hx hb dX4_isAtMost_137 (by decide) ?_
          refine g_lald hx hb hK.1 hP 2 2 rfl rfl ⟨by omega, by decide⟩ dX4_isAtMost_139 ?_
          refine g_tol (y := lN (q 11)) (hC.2.1 _ (by decide)) ?_
          refine lv_lconst (v := 0) hx hb dX4_isAtMost_140 (by decide) ?_
          refine W.lcmp hx hb dX4_isAtMost_141 ?_
          refine lv_if_ne (tgt := 158) hx hb dX4_isAtMost_142 (by decide) (fun c_142 => ?_) (fun c_142 => ?_)
          · skip
            have hz : q 11 ≠ 0 := fun h => c_142 ((cmp0 (by have := hC.2.le (show 11 < 12 by decide); omega)).mpr h)
            refine lv_aload_n hx hb dX4_isAtMost_158 rfl (lv_at hl 0 rfl) ?_
            refine lv_iload_n hx hb dX4_isAtMost_159 rfl (lv_at hl 1 rfl) ?_
            refine lv_bipush (v := nI 8) hx hb dX4_isAtMost_160 (by decide) ?_
            refine lv_iconst (v := nI 2) hx hb dX4_isAtMost_162 (by decide) ?_
            refine g_calli (g_runV (As := [.int (nI pn), .int (nI 8), .int (nI 2)]) (rest := []) ⟨hx, hb, hml, hown, htu⟩ (c_X4_isJust l G _ o ad sz1 osz th hsz pn g q hp hC.2.1 (fun j hj => hC.2.le hj)) uM_X4_104 ok_X4_isJust in_X4_isJust rfl rfl ⟨Nat.le_of_ble_eq_true rfl, Nat.le_of_ble_eq_true rfl⟩ hK hP hD hS hA hZ [0, 2] rfl rfl 0 rfl rfl rfl rfl hl.1 rfl (Nat.le_of_ble_eq_true rfl) dX4_isAtMost_163 ⟨Nat.le_of_ble_eq_true rfl, Nat.le_of_ble_eq_true rfl⟩) hP hD hS hA [0, 2] rfl (fun r_8 u H locs hw_9 hP hD hS => ?_)
            have hw_9 : r_8 = bI (jst q pn 12) := hw_9
            subst hw_9
            have hP : va_P G.1 vwCl [(ad 21, .inl (G.2.1 2, 6, .inr (.inl xf))), (ad 23, .inl (G.2.1 2, 18, .inr (.inl wf_3))), (o, .inr (4, mF ad sz1 osz th hsz)), (ad 22, .inl (G.2.1 2, 12, .inr (.inl g)))] H := hP
            have hD : va_D A [(ad 21, .inl (G.2.1 2, 6, .inr (.inl xf))), (ad 23, .inl (G.2.1 2, 18, .inr (.inl wf_3))), (o, .inr (4, mF ad sz1 osz th hsz)), (ad 22, .inl (G.2.1 2, 12, .inr (.inl g)))] := hD
            refine lv_if_eq (tgt := 173) hx hb dX4_isAtMost_166 (by decide) (fun c_166 => ?_) (fun c_166 => ?_)
            · skip
              refine lv_iconst (v := nI 0) hx hb dX4_isAtMost_173 (by decide) ?_
              exact gret_z hx hb hr hlk dX4_isAtMost_174 hS (by first | exact Or.inl rfl | exact Or.inr rfl) (g, wf_3) (hP.sub [2, 0, 3, 1] rfl) (hD.sub [2, 0, 3, 1] (by decide) rfl) (show nI 0 = bI (ok2 pn (dv x 5)) from by first | exact am_lt hC.2 hg hp ⟨h9, h10, h11, h8⟩ | exact am_eq hC.2 hg hp c_166 | exact am_no hC.2 hg hp (fun h => by omega) c_166)
            · skip
              refine lv_iconst (v := nI 1) hx hb dX4_isAtMost_169 (by decide) ?_
              refine lv_goto (tgt := 174) hx hb dX4_isAtMost_170 (by decide) ?_
              exact gret_z hx hb hr hlk dX4_isAtMost_174 hS (by first | exact Or.inl rfl | exact Or.inr rfl) (g, wf_3) (hP.sub [2, 0, 3, 1] rfl) (hD.sub [2, 0, 3, 1] (by decide) rfl) (show nI 1 = bI (ok2 pn (dv x 5)) from by first | exact am_lt hC.2 hg hp ⟨h9, h10, h11, h8⟩ | exact am_eq hC.2 hg hp c_166 | exact am_no hC.2 hg hp (fun h => by omega) c_166)
          · skip
            have h11 : q 11 = 0 := (cmp0 (by have := hC.2.le (show 11 < 12 by decide); omega)).mp c_142
            refine lv_aload_n hx hb dX4_isAtMost_145 rfl (lv_at hl 0 rfl) ?_
            refine va_get (D := G.1) (ci := 4) (v := .ref (ad 22)) (C := RX4) (T := TX4) (N := 29) hx hb htu iwX4 hown hK.1 hP 0 rfl rfl 22 (by decide) (htu _ uF_X4_69) (fun _ h9 => h9) rfl dX4_isAtMost_146 ?_
            refine lv_bipush (v := nI 8) hx hb dX4_isAtMost_149 (by decide) ?_
            refine g_lald hx hb hK.1 hP 2 2 rfl rfl ⟨by omega, by decide⟩ dX4_isAtMost_151 ?_
            refine g_tol (y := lN (q 8)) (hC.2.1 _ (by decide)) ?_
            refine lv_iload_n hx hb dX4_isAtMost_152 rfl (lv_at hl 1 rfl) ?_
            refine lv_i2l (v := Int32.toInt64 (nI pn)) hx hb dX4_isAtMost_153 rfl ?_
            refine g_tol (y := lN pn) (nI_l (by omega)) ?_
            refine W.lcmp hx hb dX4_isAtMost_154 ?_
            refine lv_if_lt (tgt := 169) hx hb dX4_isAtMost_155 (by decide) (fun c_155 => ?_) (fun c_155 => ?_)
            · skip
              have h8 : q 8 < pn := (cmpL (by have := hC.2.le (show 8 < 12 by decide); omega) (by omega)).mp c_155
              refine lv_iconst (v := nI 1) hx hb dX4_isAtMost_169 (by decide) ?_
              refine lv_goto (tgt := 174) hx hb dX4_isAtMost_170 (by decide) ?_
              exact gret_z hx hb hr hlk dX4_isAtMost_174 hS (by first | exact Or.inl rfl | exact Or.inr rfl) (g, wf_3) (hP.sub [0, 1, 2, 3] rfl) (hD.sub [0, 1, 2, 3] (by decide) rfl) (show nI 1 = bI (ok2 pn (dv x 5)) from by first | exact am_lt hC.2 hg hp ⟨h9, h10, h11, h8⟩ | exact am_eq hC.2 hg hp c_166 | exact am_no hC.2 hg hp (fun h => by omega) c_166)
            · skip
              have hz : ¬ q 8 < pn := fun h => c_155 ((cmpL (by have := hC.2.le (show 8 < 12 by decide); omega) (by omega)).mpr h)
              refine lv_aload_n hx hb dX4_isAtMost_158 rfl (lv_at hl 0 rfl) ?_
              refine lv_iload_n hx hb dX4_isAtMost_159 rfl (lv_at hl 1 rfl) ?_
              refine lv_bipush (v := nI 8) hx hb dX4_isAtMost_160 (by decide) ?_
              refine lv_iconst (v := nI 2) hx hb dX4_isAtMost_162 (by decide) ?_
              refine g_calli (g_runV (As := [.int (nI pn), .int (nI 8), .int (nI 2)]) (rest := []) ⟨hx, hb, hml, hown, htu⟩ (c_X4_isJust l G _ o ad sz1 osz th hsz pn g q hp hC.2.1 (fun j hj => hC.2.le hj)) uM_X4_104 ok_X4_isJust in_X4_isJust rfl rfl ⟨Nat.le_of_ble_eq_true rfl, Nat.le_of_ble_eq_true rfl⟩ hK hP hD hS hA hZ [0, 2] rfl rfl 0 rfl rfl rfl rfl hl.1 rfl (Nat.le_of_ble_eq_true rfl) dX4_isAtMost_163 ⟨Nat.le_of_ble_eq_true rfl, Nat.le_of_ble_eq_true rfl⟩) hP hD hS hA [0, 2] rfl (fun r_10 u H locs hw_11 hP hD hS => ?_)
              have hw_11 : r_10 = bI (jst q pn 12) := hw_11
              subst hw_11
              have hP : va_P G.1 vwCl [(ad 21, .inl (G.2.1 2, 6, .inr (.inl xf))), (ad 23, .inl (G.2.1 2, 18, .inr (.inl wf_3))), (o, .inr (4, mF ad sz1 osz th hsz)), (ad 22, .inl (G.2.1 2, 12, .inr (.inl g)))] H := hP
              have hD : va_D A [(ad 21, .inl (G.2.1 2, 6, .inr (.inl xf))), (ad 23, .inl (G.2.1 2, 18, .inr (.inl wf_3))), (o, .inr (4, mF ad sz1 osz th hsz)), (ad 22, .inl (G.2.1 2, 12, .inr (.inl g)))] := hD
              refine lv_if_eq (tgt := 173) hx hb dX4_isAtMost_166 (by decide) (fun c_166 => ?_) (fun c_166 => ?_)
              · skip
                refine lv_iconst (v := nI 0) hx hb dX4_isAtMost_173 (by decide) ?_
                exact gret_z hx hb hr hlk dX4_isAtMost_174 hS (by first | exact Or.inl rfl | exact Or.inr rfl) (g, wf_3) (hP.sub [2, 0, 3, 1] rfl) (hD.sub [2, 0, 3, 1] (by decide) rfl) (show nI 0 = bI (ok2 pn (dv x 5)) from by first | exact am_lt hC.2 hg hp ⟨h9, h10, h11, h8⟩ | exact am_eq hC.2 hg hp c_166 | exact am_no hC.2 hg hp (fun h => by omega) c_166)
              · skip
                refine lv_iconst (v := nI 1) hx hb dX4_isAtMost_169 (by decide) ?_
                refine lv_goto (tgt := 174) hx hb dX4_isAtMost_170 (by decide) ?_
                exact gret_z hx hb hr hlk dX4_isAtMost_174 hS (by first | exact Or.inl rfl | exact Or.inr rfl) (g, wf_3) (hP.sub [2, 0, 3, 1] rfl) (hD.sub [2, 0, 3, 1] (by decide) rfl) (show nI 1 = bI (ok2 pn (dv x 5)) from by first | exact am_lt hC.2 hg hp ⟨h9, h10, h11, h8⟩ | exact am_eq hC.2 hg hp c_166 | exact am_no hC.2 hg hp (fun h => by omega) c_166)
    · skip
      have hg : k < 11 := ge_f (n := 11) c_63 (by omega)
      refine lv_aload_n hx hb dX4_isAtMost_66 rfl (lv_at hl 0 rfl) ?_
      refine va_get (D := G.1) (ci := 4) (v := .ref (ad 22)) (C := RX4) (T := TX4) (N := 29) hx hb htu iwX4 hown hK.1 hP 0 rfl rfl 22 (by decide) (htu _ uF_X4_69) (fun _ h9 => h9) rfl dX4_isAtMost_67 ?_
      refine lv_iload_n hx hb dX4_isAtMost_70 rfl (lv_at hl 3 rfl) ?_
      refine lv_iconst (v := nI 1) hx hb dX4_isAtMost_71 (by decide) ?_
      refine lv_iadd hx hb dX4_isAtMost_72 ?_
      refine g_toi (y := nI (k + 1)) (nI_add k 1) ?_
      refine lv_dup2_11 hx hb dX4_isAtMost_73 rfl rfl ?_
      refine g_lald hx hb hK.1 hP 2 2 rfl rfl ⟨by omega, by decide⟩ dX4_isAtMost_74 ?_
      refine g_tol (y := lN (q (k + 1))) (hC.2.1 _ (by omega)) ?_
      refine lv_aload_n hx hb dX4_isAtMost_75 rfl (lv_at hl 0 rfl) ?_
      refine va_get (D := G.1) (ci := 4) (v := .ref (ad 22)) (C := RX4) (T := TX4) (N := 29) hx hb htu iwX4 hown hK.1 hP 0 rfl rfl 22 (by decide) (htu _ uF_X4_69) (fun _ h9 => h9) rfl dX4_isAtMost_76 ?_
      refine lv_iload_n hx hb dX4_isAtMost_79 rfl (lv_at hl 3 rfl) ?_
      refine g_lald hx hb hK.1 hP 2 2 rfl rfl ⟨by omega, by decide⟩ dX4_isAtMost_80 ?_
      refine g_tol (y := lN (q k)) (hC.2.1 _ (by omega)) ?_
      refine lv_bipush (v := nI 16) hx hb dX4_isAtMost_81 (by decide) ?_
      refine lv_lshr (v := shrL (lN (q k)) (nI 16)) hx hb dX4_isAtMost_83 rfl ?_
      refine g_tol (y := lN (q k / 65536)) (lsh16 (by have := hC.2.le (show k < 12 by omega); omega)) ?_
      refine lv_ladd hx hb dX4_isAtMost_84 ?_
      refine g_tol (y := lN (q (k + 1) + q k / 65536)) (lN_add _ _) ?_
      refine g_last hx hb hK.1 hP hD hS 2 2 rfl rfl ⟨by omega, by decide⟩ dX4_isAtMost_85 (fun H locs hP hD hS => ?_)
      obtain ⟨g_12, eg_12⟩ : ∃ gq9 : Nat → Int64, gq9 = vp_updL g (k + 1) (lN (q (k + 1) + q k / 65536)) := ⟨_, rfl⟩
      rw [← eg_12] at hP hD
      have hP : va_P G.1 vwCl [(o, .inr (4, mF ad sz1 osz th hsz)), (ad 21, .inl (G.2.1 2, 6, .inr (.inl xf))), (ad 22, .inl (G.2.1 2, 12, .inr (.inl g_12))), (ad 23, .inl (G.2.1 2, 18, .inr (.inl wf_3)))] H := hP
      have hD : va_D A [(o, .inr (4, mF ad sz1 osz th hsz)), (ad 21, .inl (G.2.1 2, 6, .inr (.inl xf))), (ad 22, .inl (G.2.1 2, 12, .inr (.inl g_12))), (ad 23, .inl (G.2.1 2, 18, .inr (.inl wf_3)))] := hD
      refine lv_aload_n hx hb dX4_isAtMost_86 rfl (lv_at hl 0 rfl) ?_
      refine va_get (D := G.1) (ci := 4) (v := .ref (ad 22)) (C := RX4) (T := TX4) (N := 29) hx hb htu iwX4 hown hK.1 hP 0 rfl rfl 22 (by decide) (htu _ uF_X4_69) (fun _ h9 => h9) rfl dX4_isAtMost_87 ?_
      refine lv_iload_n hx hb dX4_isAtMost_90 rfl (lv_at hl 3 rfl) ?_
      refine lv_dup2_11 hx hb dX4_isAtMost_91 rfl rfl ?_
      refine g_lald hx hb hK.1 hP 2 2 rfl rfl ⟨by omega, by decide⟩ dX4_isAtMost_92 ?_
      refine g_tol (y := lN (q k)) (by rw [eg_12, pk_uLn (by omega)]; exact hC.2.1 _ (by omega)) ?_
      refine lv_ldc2 hx hb hown (htu _ uL_X4_102) dX4_isAtMost_93 ?_
      refine lv_land hx hb dX4_isAtMost_96 ?_
      refine g_tol (y := lN (q k % 65536)) (lan16 (by have := hC.2.le (show k < 12 by omega); omega)) ?_
      refine g_last hx hb hK.1 hP hD hS 2 2 rfl rfl ⟨by omega, by decide⟩ dX4_isAtMost_97 (fun H locs hP hD hS => ?_)
      obtain ⟨g_13, eg_13⟩ : ∃ gq9 : Nat → Int64, gq9 = vp_updL g_12 k (lN (q k % 65536)) := ⟨_, rfl⟩
      rw [← eg_13] at hP hD
      have hP : va_P G.1 vwCl [(o, .inr (4, mF ad sz1 osz th hsz)), (ad 21, .inl (G.2.1 2, 6, .inr (.inl xf))), (ad 22, .inl (G.2.1 2, 12, .inr (.inl g_13))), (ad 23, .inl (G.2.1 2, 18, .inr (.inl wf_3)))] H := hP
      have hD : va_D A [(o, .inr (4, mF ad sz1 osz th hsz)), (ad 21, .inl (G.2.1 2, 6, .inr (.inl xf))), (ad 22, .inl (G.2.1 2, 12, .inr (.inl g_13))), (ad 23, .inl (G.2.1 2, 18, .inr (.inl wf_3)))] := hD
      refine lv_iinc (v := nI (k + 1)) (lv' := [(3, .int (nI (k + 1))), (0, .ref o), (1, .int (nI pn)), (2, .int (nI 2))]) hx hb dX4_isAtMost_98 hl (k := 3) rfl (nI_1 k) (by decide) rfl (fun ls hl => ?_)
      refine lv_goto (tgt := 60) hx hb dX4_isAtMost_101 (by decide) ?_
      exact ih_60 (k + 1, g_13, nu (nu q (k + 1) (q (k + 1) + q k / 65536)) k (q k % 65536)) (show (k + 1) ≤ 11 ∧ CarI 12 (dv x 5 * dv x 5) g_13 (nu (nu q (k + 1) (q (k + 1) + q k / 65536)) k (q k % 65536)) (k + 1) from ⟨hg, hC.2.step (by omega) rfl rfl eg_12 eg_13⟩) (by show 11 - (k + 1) < 11 - k; omega) _ _ _ (hP.sub [0, 1, 2, 3] rfl) (hD.sub [0, 1, 2, 3] (by decide) rfl) hS (lv_sub hl [1, 2, 3, 0] rfl)
  · skip
    have hg : i < 5 := ge_f (n := 5) c_8 (by omega)
    refine lv_iconst (v := nI 0) hx hb dX4_isAtMost_11 (by decide) ?_
    refine lv_istore (lv' := [(4, .int (nI 0)), (0, .ref o), (1, .int (nI pn)), (2, .int (nI 2)), (3, .int (nI i))]) hx hb dX4_isAtMost_12 hl (by decide) rfl (fun ls hl => ?_)
    refine g_loop (σ := Nat × (Nat → Int64) × (Nat → Nat)) (G := G) (fun xq9 : Nat × (Nat → Int64) × (Nat → Nat) => [(o, .inr (4, mF ad sz1 osz th hsz)), (ad 21, .inl (G.2.1 2, 6, .inr (.inl xf))), (ad 22, .inl (G.2.1 2, 12, .inr (.inl xq9.2.1))), (ad 23, .inl (G.2.1 2, 18, .inr (.inl wf_3)))]) (fun xq9 : Nat × (Nat → Int64) × (Nat → Nat) => [(0, .ref o), (1, .int (nI pn)), (2, .int (nI 2)), (3, .int (nI i)), (4, .int (nI xq9.1))]) (fun xq9 : Nat × (Nat → Int64) × (Nat → Nat) => xq9.1 ≤ 5 ∧ MulI 12 5 xq9.2.1 xq9.2.2 x x i xq9.1) (fun xq9 : Nat × (Nat → Int64) × (Nat → Nat) => 5 - xq9.1) ?_ (0, g, q) (show 0 ≤ 5 ∧ MulI 12 5 g q x x i 0 from ⟨Nat.zero_le _, hI.2⟩) (hP.sub [0, 1, 2, 3] rfl) (hD.sub [0, 1, 2, 3] (by decide) rfl) hS (lv_sub hl [1, 2, 3, 4, 0] rfl)
    clear hP hD hS hl
    intro x hxI_14 ih_14 H locs ls hP hD hS hl
    obtain ⟨j, g, q⟩ := x
    have hJ : j ≤ 5 ∧ MulI 12 5 g q x x i j := hxI_14
    have hP : va_P G.1 vwCl [(o, .inr (4, mF ad sz1 osz th hsz)), (ad 21, .inl (G.2.1 2, 6, .inr (.inl xf))), (ad 22, .inl (G.2.1 2, 12, .inr (.inl g))), (ad 23, .inl (G.2.1 2, 18, .inr (.inl wf_3)))] H := hP
    have hD : va_D A [(o, .inr (4, mF ad sz1 osz th hsz)), (ad 21, .inl (G.2.1 2, 6, .inr (.inl xf))), (ad 22, .inl (G.2.1 2, 12, .inr (.inl g))), (ad 23, .inl (G.2.1 2, 18, .inr (.inl wf_3)))] := hD
    have hl : lv_has ls 5 [(0, .ref o), (1, .int (nI pn)), (2, .int (nI 2)), (3, .int (nI i)), (4, .int (nI j))] := hl
    refine lv_iload hx hb dX4_isAtMost_14 (lv_at hl 4 rfl) ?_
    refine lv_iconst (v := nI 5) hx hb dX4_isAtMost_16 (by decide) ?_
    refine lv_icmp_ge (tgt := 52) hx hb dX4_isAtMost_17 (by decide) (fun c_17 => ?_) (fun c_17 => ?_)
    · skip
      have hq : 5 ≤ j := ge_t (n := 5) c_17 (by decide)
      refine lv_iinc (v := nI (i + 1)) (lv' := [(3, .int (nI (i + 1))), (0, .ref o), (1, .int (nI pn)), (2, .int (nI 2)), (4, .int (nI j))]) hx hb dX4_isAtMost_52 hl (k := 3) rfl (nI_1 i) (by decide) rfl (fun ls hl => ?_)
      refine lv_goto (tgt := 6) hx hb dX4_isAtMost_55 (by decide) ?_
      exact ih_6 (i + 1, g, q) (show (i + 1) ≤ 5 ∧ MulI 12 5 g q x x (i + 1) 0 from ⟨hg, hJ.2.next hq hJ.1⟩) (by show 5 - (i + 1) < 5 - i; omega) _ _ _ (hP.sub [0, 1, 2, 3] rfl) (hD.sub [0, 1, 2, 3] (by decide) rfl) hS (lv_sub hl [1, 2, 3, 0] rfl)
    · skip
      have hq : j < 5 := ge_f (n := 5) c_17 (by omega)
      refine lv_aload_n hx hb dX4_isAtMost_20 rfl (lv_at hl 0 rfl) ?_
      refine va_get (D := G.1) (ci := 4) (v := .ref (ad 22)) (C := RX4) (T := TX4) (N := 29) hx hb htu iwX4 hown hK.1 hP 0 rfl rfl 22 (by decide) (htu _ uF_X4_69) (fun _ h9 => h9) rfl dX4_isAtMost_21 ?_
      refine lv_iload_n hx hb dX4_isAtMost_24 rfl (lv_at hl 3 rfl) ?_
      refine lv_iload hx hb dX4_isAtMost_25 (lv_at hl 4 rfl) ?_
      refine lv_iadd hx hb dX4_isAtMost_27 ?_
      refine g_toi (y := nI (i + j)) (nI_add i j) ?_
      refine lv_dup2_11 hx hb dX4_isAtMost_28 rfl rfl ?_
      refine g_lald hx hb hK.1 hP 2 2 rfl rfl ⟨by omega, by decide⟩ dX4_isAtMost_29 ?_
      refine g_tol (y := lN (q (i + j))) (hJ.2.1 _ (by omega)) ?_
      refine lv_aload_n hx hb dX4_isAtMost_30 rfl (lv_at hl 0 rfl) ?_
      refine va_get (D := G.1) (ci := 4) (v := .ref (ad 21)) (C := RX4) (T := TX4) (N := 29) hx hb htu iwX4 hown hK.1 hP 0 rfl rfl 21 (by decide) (htu _ uF_X4_66) (fun _ h9 => h9) rfl dX4_isAtMost_31 ?_
      refine lv_iload_n hx hb dX4_isAtMost_34 rfl (lv_at hl 3 rfl) ?_
      refine g_lald hx hb hK.1 hP 1 2 rfl rfl ⟨by omega, by decide⟩ dX4_isAtMost_35 ?_
      refine g_tol (y := lN (x i)) (hxr i (by omega)) ?_
      refine lv_aload_n hx hb dX4_isAtMost_36 rfl (lv_at hl 0 rfl) ?_
      refine va_get (D := G.1) (ci := 4) (v := .ref (ad 21)) (C := RX4) (T := TX4) (N := 29) hx hb htu iwX4 hown hK.1 hP 0 rfl rfl 21 (by decide) (htu _ uF_X4_66) (fun _ h9 => h9) rfl dX4_isAtMost_37 ?_
      refine lv_iload hx hb dX4_isAtMost_40 (lv_at hl 4 rfl) ?_
      refine g_lald hx hb hK.1 hP 1 2 rfl rfl ⟨by omega, by decide⟩ dX4_isAtMost_42 ?_
      refine g_tol (y := lN (x j)) (hxr j (by omega)) ?_
      refine lv_lmul hx hb dX4_isAtMost_43 ?_
      refine g_tol (y := lN (x i * x j)) (lN_mul _ _) ?_
      refine lv_ladd hx hb dX4_isAtMost_44 ?_
      refine g_tol (y := lN (q (i + j) + x i * x j)) (lN_add _ _) ?_
      refine g_last hx hb hK.1 hP hD hS 2 2 rfl rfl ⟨by omega, by decide⟩ dX4_isAtMost_45 (fun H locs hP hD hS => ?_)
      obtain ⟨g_14, eg_14⟩ : ∃ gq9 : Nat → Int64, gq9 = vp_updL g (i + j) (lN (q (i + j) + x i * x j)) := ⟨_, rfl⟩
      rw [← eg_14] at hP hD
      have hP : va_P G.1 vwCl [(o, .inr (4, mF ad sz1 osz th hsz)), (ad 21, .inl (G.2.1 2, 6, .inr (.inl xf))), (ad 22, .inl (G.2.1 2, 12, .inr (.inl g_14))), (ad 23, .inl (G.2.1 2, 18, .inr (.inl wf_3)))] H := hP
      have hD : va_D A [(o, .inr (4, mF ad sz1 osz th hsz)), (ad 21, .inl (G.2.1 2, 6, .inr (.inl xf))), (ad 22, .inl (G.2.1 2, 12, .inr (.inl g_14))), (ad 23, .inl (G.2.1 2, 18, .inr (.inl wf_3)))] := hD
      refine lv_iinc (v := nI (j + 1)) (lv' := [(4, .int (nI (j + 1))), (0, .ref o), (1, .int (nI pn)), (2, .int (nI 2)), (3, .int (nI i))]) hx hb dX4_isAtMost_46 hl (k := 4) rfl (nI_1 j) (by decide) rfl (fun ls hl => ?_)
      refine lv_goto (tgt := 14) hx hb dX4_isAtMost_49 (by decide) ?_
      exact ih_14 (j + 1, g_14, nu q (i + j) (q (i + j) + x i * x j)) (show (j + 1) ≤ 5 ∧ MulI 12 5 g_14 (nu q (i + j) (q (i + j) + x i * x j)) x x i (j + 1) from ⟨hq, hJ.2.step (by omega) (hx5 i hg) (hx5 j hq) rfl eg_14⟩) (by show 5 - (j + 1) < 5 - j; omega) _ _ _ (hP.sub [0, 1, 2, 3] rfl) (hD.sub [0, 1, 2, 3] (by decide) rfl) hS (lv_sub hl [1, 2, 3, 4, 0] rfl)
set_option maxHeartbeats 4000000 in
set_option maxRecDepth 100000 in
theorem c_X4_isAtMost3 (l : Launch) (G : GW) (sz : Nat) (o : Nat) (ad : Nat → Nat) (sz1 : Int32) (osz : Int32) (th : Int32) (hsz : Int32) (pn : Nat) (xf : Nat → Int64) (qf : Nat → Int64) (wf : Nat → Int64) (x : Nat → Nat) (hp : pn < 65536) (hxr : LR xf x 6) (hx5 : ∀ j, j < 5 → x j < 65536) : Met l yX4_isAtMost (Cond.code yX4_isAtMost cX4_isAtMost 5 (some FieldType.boolean) :: UW) ({ frames := 1, cells := 0, slots := 0, locals := 21 } : Room) (va_Pc [.ref o, .int (nI pn), .int (nI 3)] (gPre G [(o, .inr (4, mF ad sz1 osz th hsz)), (ad 21, .inl (G.2.1 2, 6, .inr (.inl xf))), (ad 22, .inl (G.2.1 2, 12, .inr (.inl qf))), (ad 23, .inl (G.2.1 2, 18, .inr (.inl wf)))] sz)) (va_Qi (fun (r : Int32) (uq9 : (Nat → Int64) × (Nat → Int64)) => r = bI (ok3 pn (dv x 5))) (fun u => gPost G (va_A [(o, .inr (4, mF ad sz1 osz th hsz)), (ad 21, .inl (G.2.1 2, 6, .inr (.inl xf))), (ad 22, .inl (G.2.1 2, 12, .inr (.inl qf))), (ad 23, .inl (G.2.1 2, 18, .inr (.inl wf)))] sz) ((fun (uq9 : (Nat → Int64) × (Nat → Int64)) => ([(o, .inr (4, mF ad sz1 osz th hsz)), (ad 21, .inl (G.2.1 2, 6, .inr (.inl xf))), (ad 22, .inl (G.2.1 2, 12, .inr (.inl uq9.1))), (ad 23, .inl (G.2.1 2, 18, .inr (.inl uq9.2)))] : va_W)) u)) (va_A [(o, .inr (4, mF ad sz1 osz th hsz)), (ad 21, .inl (G.2.1 2, 6, .inr (.inl xf))), (ad 22, .inl (G.2.1 2, 12, .inr (.inl qf))), (ad 23, .inl (G.2.1 2, 18, .inr (.inl wf)))] sz)) 0 0 (va_A [(o, .inr (4, mF ad sz1 osz th hsz)), (ad 21, .inl (G.2.1 2, 6, .inr (.inl xf))), (ad 22, .inl (G.2.1 2, 12, .inr (.inl qf))), (ad 23, .inl (G.2.1 2, 18, .inr (.inl wf)))] sz) := by
  refine gM_of (Qf := fun A => va_Qi (fun (r : Int32) (uq9 : (Nat → Int64) × (Nat → Int64)) => r = bI (ok3 pn (dv x 5))) (fun u => gPost G A ((fun (uq9 : (Nat → Int64) × (Nat → Int64)) => ([(o, .inr (4, mF ad sz1 osz th hsz)), (ad 21, .inl (G.2.1 2, 6, .inr (.inl xf))), (ad 22, .inl (G.2.1 2, 12, .inr (.inl uq9.1))), (ad 23, .inl (G.2.1 2, 18, .inr (.inl uq9.2)))] : va_W)) u)) A) (by decide) (Nat.le_of_ble_eq_true rfl) ?_
  intro p e s m below meth c A ls hx hb hml hr hown htu hlk hnm hA hP hD hS hK hZ hl
  have hown : s.vm.findClass RX4 = some m.cls := hown
  have hl : lv_has ls 5 [(0, .ref o), (1, .int (nI pn)), (2, .int (nI 3))] := hl
  refine lv_aload_n hx hb dX4_isAtMost_0 rfl (lv_at hl 0 rfl) ?_
  refine g_callv (g_runV (As := []) (rest := []) ⟨hx, hb, hml, hown, htu⟩ (c_X4_clearFigures l G _ o ad sz1 osz th hsz qf wf ) uM_X4_99 ok_X4_clearFigures in_X4_clearFigures rfl rfl ⟨Nat.le_of_ble_eq_true rfl, Nat.le_of_ble_eq_true rfl⟩ hK hP hD hS hA hZ [0, 2, 3] rfl rfl 0 rfl rfl rfl rfl hl.1 rfl (Nat.le_of_ble_eq_true rfl) dX4_isAtMost_1 ⟨Nat.le_of_ble_eq_true rfl, Nat.le_of_ble_eq_true rfl⟩) hP hD hS hA [0, 2, 3] rfl (fun u H locs hw0 hP hD hS => ?_)
  obtain ⟨qf_2, wf_3⟩ := u
  have hw0 : (∀ jq8, jq8 < 12 → qf_2 jq8 = 0) ∧ (∀ jq8, jq8 < 18 → wf_3 jq8 = 0) := hw0
  have hP : va_P G.1 vwCl [(ad 21, .inl (G.2.1 2, 6, .inr (.inl xf))), (o, .inr (4, mF ad sz1 osz th hsz)), (ad 22, .inl (G.2.1 2, 12, .inr (.inl qf_2))), (ad 23, .inl (G.2.1 2, 18, .inr (.inl wf_3)))] H := hP
  have hD : va_D A [(ad 21, .inl (G.2.1 2, 6, .inr (.inl xf))), (o, .inr (4, mF ad sz1 osz th hsz)), (ad 22, .inl (G.2.1 2, 12, .inr (.inl qf_2))), (ad 23, .inl (G.2.1 2, 18, .inr (.inl wf_3)))] := hD
  refine lv_iconst (v := nI 0) hx hb dX4_isAtMost_4 (by decide) ?_
  refine lv_istore_n (lv' := [(3, .int (nI 0)), (0, .ref o), (1, .int (nI pn)), (2, .int (nI 3))]) hx hb dX4_isAtMost_5 rfl hl (by decide) rfl (fun ls hl => ?_)
  refine g_loop (σ := Nat × (Nat → Int64) × (Nat → Nat)) (G := G) (fun xq9 : Nat × (Nat → Int64) × (Nat → Nat) => [(o, .inr (4, mF ad sz1 osz th hsz)), (ad 21, .inl (G.2.1 2, 6, .inr (.inl xf))), (ad 22, .inl (G.2.1 2, 12, .inr (.inl xq9.2.1))), (ad 23, .inl (G.2.1 2, 18, .inr (.inl wf_3)))]) (fun xq9 : Nat × (Nat → Int64) × (Nat → Nat) => [(0, .ref o), (1, .int (nI pn)), (2, .int (nI 3)), (3, .int (nI xq9.1))]) (fun xq9 : Nat × (Nat → Int64) × (Nat → Nat) => xq9.1 ≤ 5 ∧ MulI 12 5 xq9.2.1 xq9.2.2 x x xq9.1 0) (fun xq9 : Nat × (Nat → Int64) × (Nat → Nat) => 5 - xq9.1) ?_ (0, qf_2, fun _ => 0) (show 0 ≤ 5 ∧ MulI 12 5 qf_2 (fun _ => 0) x x 0 0 from ⟨Nat.zero_le _, MulI.start hw0.1⟩) (hP.sub [1, 0, 2, 3] rfl) (hD.sub [1, 0, 2, 3] (by decide) rfl) hS (lv_sub hl [1, 2, 3, 0] rfl)
  clear hP hD hS hl
  intro x hxI_6 ih_6 H locs ls hP hD hS hl
  obtain ⟨i, g, q⟩ := x
  have hI : i ≤ 5 ∧ MulI 12 5 g q x x i 0 := hxI_6
  have hP : va_P G.1 vwCl [(o, .inr (4, mF ad sz1 osz th hsz)), (ad 21, .inl (G.2.1 2, 6, .inr (.inl xf))), (ad 22, .inl (G.2.1 2, 12, .inr (.inl g))), (ad 23, .inl (G.2.1 2, 18, .inr (.inl wf_3)))] H := hP
  have hD : va_D A [(o, .inr (4, mF ad sz1 osz th hsz)), (ad 21, .inl (G.2.1 2, 6, .inr (.inl xf))), (ad 22, .inl (G.2.1 2, 12, .inr (.inl g))), (ad 23, .inl (G.2.1 2, 18, .inr (.inl wf_3)))] := hD
  have hl : lv_has ls 5 [(0, .ref o), (1, .int (nI pn)), (2, .int (nI 3)), (3, .int (nI i))] := hl
  refine lv_iload_n hx hb dX4_isAtMost_6 rfl (lv_at hl 3 rfl) ?_
  refine lv_iconst (v := nI 5) hx hb dX4_isAtMost_7 (by decide) ?_
  refine lv_icmp_ge (tgt := 58) hx hb dX4_isAtMost_8 (by decide) (fun c_8 => ?_) (fun c_8 => ?_)
  · skip
    have hg : 5 ≤ i := ge_t (n := 5) c_8 (by decide)
    refine lv_iconst (v := nI 0) hx hb dX4_isAtMost_58 (by decide) ?_
    refine lv_istore_n (lv' := [(3, .int (nI 0)), (0, .ref o), (1, .int (nI pn)), (2, .int (nI 3))]) hx hb dX4_isAtMost_59 rfl hl (by decide) rfl (fun ls hl => ?_)
    refine g_loop (σ := Nat × (Nat → Int64) × (Nat → Nat)) (G := G) (fun xq9 : Nat × (Nat → Int64) × (Nat → Nat) => [(o, .inr (4, mF ad sz1 osz th hsz)), (ad 21, .inl (G.2.1 2, 6, .inr (.inl xf))), (ad 22, .inl (G.2.1 2, 12, .inr (.inl xq9.2.1))), (ad 23, .inl (G.2.1 2, 18, .inr (.inl wf_3)))]) (fun xq9 : Nat × (Nat → Int64) × (Nat → Nat) => [(0, .ref o), (1, .int (nI pn)), (2, .int (nI 3)), (3, .int (nI xq9.1))]) (fun xq9 : Nat × (Nat → Int64) × (Nat → Nat) => xq9.1 ≤ 11 ∧ CarI 12 (dv x 5 * dv x 5) xq9.2.1 xq9.2.2 xq9.1) (fun xq9 : Nat × (Nat → Int64) × (Nat → Nat) => 11 - xq9.1) ?_ (0, g, q) (show 0 ≤ 11 ∧ CarI 12 (dv x 5 * dv x 5) g q 0 from ⟨Nat.zero_le _, CarI.start hI.2.1 (MulI.val5 hI.2 hg hI.1) (fun k hk => hI.2.le40 (by omega) k hk)⟩) (hP.sub [0, 1, 2, 3] rfl) (hD.sub [0, 1, 2, 3] (by decide) rfl) hS (lv_sub hl [1, 2, 3, 0] rfl)
    clear hP hD hS hl
    intro x hxI_60 ih_60 H locs ls hP hD hS hl
    obtain ⟨k, g, q⟩ := x
    have hC : k ≤ 11 ∧ CarI 12 (dv x 5 * dv x 5) g q k := hxI_60
    have hP : va_P G.1 vwCl [(o, .inr (4, mF ad sz1 osz th hsz)), (ad 21, .inl (G.2.1 2, 6, .inr (.inl xf))), (ad 22, .inl (G.2.1 2, 12, .inr (.inl g))), (ad 23, .inl (G.2.1 2, 18, .inr (.inl wf_3)))] H := hP
    have hD : va_D A [(o, .inr (4, mF ad sz1 osz th hsz)), (ad 21, .inl (G.2.1 2, 6, .inr (.inl xf))), (ad 22, .inl (G.2.1 2, 12, .inr (.inl g))), (ad 23, .inl (G.2.1 2, 18, .inr (.inl wf_3)))] := hD
    have hl : lv_has ls 5 [(0, .ref o), (1, .int (nI pn)), (2, .int (nI 3)), (3, .int (nI k))] := hl
    refine lv_iload_n hx hb dX4_isAtMost_60 rfl (lv_at hl 3 rfl) ?_
    refine lv_bipush (v := nI 11) hx hb dX4_isAtMost_61 (by decide) ?_
    refine lv_icmp_ge (tgt := 104) hx hb dX4_isAtMost_63 (by decide) (fun c_63 => ?_) (fun c_63 => ?_)
    · skip
      have hg : 11 ≤ k := ge_t (n := 11) c_63 (by decide)
      refine lv_iload_n hx hb dX4_isAtMost_104 rfl (lv_at hl 2 rfl) ?_
      refine lv_iconst (v := nI 2) hx hb dX4_isAtMost_105 (by decide) ?_
      refine lv_icmp_ne (tgt := 175) hx hb dX4_isAtMost_106 (by decide) (fun _ => ?_) (fun c_106 => absurd c_106 (by decide))
      have hX80 : dv x 5 < 2 ^ 80 := dv5 hx5
      refine lv_iconst (v := nI 0) hx hb dX4_isAtMost_175 (by decide) ?_
      refine lv_istore_n (lv' := [(3, .int (nI 0)), (0, .ref o), (1, .int (nI pn)), (2, .int (nI 3))]) hx hb dX4_isAtMost_176 rfl hl (by decide) rfl (fun ls hl => ?_)
      refine g_loop (σ := Nat × (Nat → Int64) × (Nat → Nat)) (G := G) (fun xq9 : Nat × (Nat → Int64) × (Nat → Nat) => [(o, .inr (4, mF ad sz1 osz th hsz)), (ad 21, .inl (G.2.1 2, 6, .inr (.inl xf))), (ad 22, .inl (G.2.1 2, 12, .inr (.inl g))), (ad 23, .inl (G.2.1 2, 18, .inr (.inl xq9.2.1)))]) (fun xq9 : Nat × (Nat → Int64) × (Nat → Nat) => [(0, .ref o), (1, .int (nI pn)), (2, .int (nI 3)), (3, .int (nI xq9.1))]) (fun xq9 : Nat × (Nat → Int64) × (Nat → Nat) => xq9.1 ≤ 12 ∧ MulI 18 5 xq9.2.1 xq9.2.2 q x xq9.1 0) (fun xq9 : Nat × (Nat → Int64) × (Nat → Nat) => 12 - xq9.1) ?_ (0, wf_3, fun _ => 0) (show 0 ≤ 12 ∧ MulI 18 5 wf_3 (fun _ => 0) q x 0 0 from ⟨Nat.zero_le _, MulI.start hw0.2⟩) (hP.sub [0, 1, 2, 3] rfl) (hD.sub [0, 1, 2, 3] (by decide) rfl) hS (lv_sub hl [1, 2, 3, 0] rfl)
      clear hP hD hS hl
      intro x hxI_177 ih_177 H locs ls hP hD hS hl
      obtain ⟨i, v, u9⟩ := x
      have hM : i ≤ 12 ∧ MulI 18 5 v u9 q x i 0 := hxI_177
      have hP : va_P G.1 vwCl [(o, .inr (4, mF ad sz1 osz th hsz)), (ad 21, .inl (G.2.1 2, 6, .inr (.inl xf))), (ad 22, .inl (G.2.1 2, 12, .inr (.inl g))), (ad 23, .inl (G.2.1 2, 18, .inr (.inl v)))] H := hP
      have hD : va_D A [(o, .inr (4, mF ad sz1 osz th hsz)), (ad 21, .inl (G.2.1 2, 6, .inr (.inl xf))), (ad 22, .inl (G.2.1 2, 12, .inr (.inl g))), (ad 23, .inl (G.2.1 2, 18, .inr (.inl v)))] := hD
      have hl : lv_has ls 5 [(0, .ref o), (1, .int (nI pn)), (2, .int (nI 3)), (3, .int (nI i))] := hl
      refine lv_iload_n hx hb dX4_isAtMost_177 rfl (lv_at hl 3 rfl) ?_
      refine lv_bipush (v := nI 12) hx hb dX4_isAtMost_178 (by decide) ?_
      refine lv_icmp_ge (tgt := 230) hx hb dX4_isAtMost_180 (by decide) (fun c_180 => ?_) (fun c_180 => ?_)
      · skip
        have hr9 : 12 ≤ i := ge_t (n := 12) c_180 (by decide)
        refine lv_iconst (v := nI 0) hx hb dX4_isAtMost_230 (by decide) ?_
        refine lv_istore_n (lv' := [(3, .int (nI 0)), (0, .ref o), (1, .int (nI pn)), (2, .int (nI 3))]) hx hb dX4_isAtMost_231 rfl hl (by decide) rfl (fun ls hl => ?_)
        refine g_loop (σ := Nat × (Nat → Int64) × (Nat → Nat)) (G := G) (fun xq9 : Nat × (Nat → Int64) × (Nat → Nat) => [(o, .inr (4, mF ad sz1 osz th hsz)), (ad 21, .inl (G.2.1 2, 6, .inr (.inl xf))), (ad 22, .inl (G.2.1 2, 12, .inr (.inl g))), (ad 23, .inl (G.2.1 2, 18, .inr (.inl xq9.2.1)))]) (fun xq9 : Nat × (Nat → Int64) × (Nat → Nat) => [(0, .ref o), (1, .int (nI pn)), (2, .int (nI 3)), (3, .int (nI xq9.1))]) (fun xq9 : Nat × (Nat → Int64) × (Nat → Nat) => xq9.1 ≤ 17 ∧ CarI 18 (dv x 5 * dv x 5 * dv x 5) xq9.2.1 xq9.2.2 xq9.1) (fun xq9 : Nat × (Nat → Int64) × (Nat → Nat) => 17 - xq9.1) ?_ (0, v, u9) (show 0 ≤ 17 ∧ CarI 18 (dv x 5 * dv x 5 * dv x 5) v u9 0 from ⟨Nat.zero_le _, CarI.start hM.2.1 (MulI.val12 hM.2 hC.2.2.1 hr9 hM.1) (fun k hk => hM.2.le40 (by omega) k hk)⟩) (hP.sub [0, 1, 2, 3] rfl) (hD.sub [0, 1, 2, 3] (by decide) rfl) hS (lv_sub hl [1, 2, 3, 0] rfl)
        clear hP hD hS hl
        intro x hxI_232 ih_232 H locs ls hP hD hS hl
        obtain ⟨n9, v, u9⟩ := x
        have hC3 : n9 ≤ 17 ∧ CarI 18 (dv x 5 * dv x 5 * dv x 5) v u9 n9 := hxI_232
        have hP : va_P G.1 vwCl [(o, .inr (4, mF ad sz1 osz th hsz)), (ad 21, .inl (G.2.1 2, 6, .inr (.inl xf))), (ad 22, .inl (G.2.1 2, 12, .inr (.inl g))), (ad 23, .inl (G.2.1 2, 18, .inr (.inl v)))] H := hP
        have hD : va_D A [(o, .inr (4, mF ad sz1 osz th hsz)), (ad 21, .inl (G.2.1 2, 6, .inr (.inl xf))), (ad 22, .inl (G.2.1 2, 12, .inr (.inl g))), (ad 23, .inl (G.2.1 2, 18, .inr (.inl v)))] := hD
        have hl : lv_has ls 5 [(0, .ref o), (1, .int (nI pn)), (2, .int (nI 3)), (3, .int (nI n9))] := hl
        refine lv_iload_n hx hb dX4_isAtMost_232 rfl (lv_at hl 3 rfl) ?_
        refine lv_bipush (v := nI 17) hx hb dX4_isAtMost_233 (by decide) ?_
        refine lv_icmp_ge (tgt := 276) hx hb dX4_isAtMost_235 (by decide) (fun c_235 => ?_) (fun c_235 => ?_)
        · skip
          have hf : 17 ≤ n9 := ge_t (n := 17) c_235 (by decide)
          refine lv_iconst (v := nI 1) hx hb dX4_isAtMost_276 (by decide) ?_
          refine g_toi (y := bI true) (rfl) ?_
          refine lv_istore_n (lv' := [(3, .int (bI true)), (0, .ref o), (1, .int (nI pn)), (2, .int (nI 3))]) hx hb dX4_isAtMost_277 rfl hl (by decide) rfl (fun ls hl => ?_)
          refine lv_bipush (v := nI 13) hx hb dX4_isAtMost_278 (by decide) ?_
          refine lv_istore (lv' := [(4, .int (nI 13)), (3, .int (bI true)), (0, .ref o), (1, .int (nI pn)), (2, .int (nI 3))]) hx hb dX4_isAtMost_280 hl (by decide) rfl (fun ls hl => ?_)
          refine g_loop (σ := Nat × Bool) (G := G) (fun xq9 : Nat × Bool => [(o, .inr (4, mF ad sz1 osz th hsz)), (ad 21, .inl (G.2.1 2, 6, .inr (.inl xf))), (ad 22, .inl (G.2.1 2, 12, .inr (.inl g))), (ad 23, .inl (G.2.1 2, 18, .inr (.inl v)))]) (fun xq9 : Nat × Bool => [(0, .ref o), (1, .int (nI pn)), (2, .int (nI 3)), (3, .int (bI xq9.2)), (4, .int (nI xq9.1))]) (fun xq9 : Nat × Bool => 13 ≤ xq9.1 ∧ xq9.1 ≤ 18 ∧ xq9.2 = none5 u9 xq9.1) (fun xq9 : Nat × Bool => 18 - xq9.1) ?_ (13, true) (show 13 ≤ 13 ∧ 13 ≤ 18 ∧ true = none5 u9 13 from ⟨Nat.le_refl _, by decide, by unfold none5; rfl⟩) (hP.sub [0, 1, 2, 3] rfl) (hD.sub [0, 1, 2, 3] (by decide) rfl) hS (lv_sub hl [2, 3, 4, 1, 0] rfl)
          clear hP hD hS hl
          intro x hxI_282 ih_282 H locs ls hP hD hS hl
          obtain ⟨k9, b⟩ := x
          have hN : 13 ≤ k9 ∧ k9 ≤ 18 ∧ b = none5 u9 k9 := hxI_282
          have hP : va_P G.1 vwCl [(o, .inr (4, mF ad sz1 osz th hsz)), (ad 21, .inl (G.2.1 2, 6, .inr (.inl xf))), (ad 22, .inl (G.2.1 2, 12, .inr (.inl g))), (ad 23, .inl (G.2.1 2, 18, .inr (.inl v)))] H := hP
          have hD : va_D A [(o, .inr (4, mF ad sz1 osz th hsz)), (ad 21, .inl (G.2.1 2, 6, .inr (.inl xf))), (ad 22, .inl (G.2.1 2, 12, .inr (.inl g))), (ad 23, .inl (G.2.1 2, 18, .inr (.inl v)))] := hD
          have hl : lv_has ls 5 [(0, .ref o), (1, .int (nI pn)), (2, .int (nI 3)), (3, .int (bI b)), (4, .int (nI k9))] := hl
          refine lv_iload hx hb dX4_isAtMost_282 (lv_at hl 4 rfl) ?_
          refine lv_bipush (v := nI 18) hx hb dX4_isAtMost_284 (by decide) ?_
          refine lv_icmp_ge (tgt := 315) hx hb dX4_isAtMost_286 (by decide) (fun c_286 => ?_) (fun c_286 => ?_)
          · skip
            have hh : 18 ≤ k9 := ge_t (n := 18) c_286 (by decide)
            refine lv_iload_n hx hb dX4_isAtMost_315 rfl (lv_at hl 3 rfl) ?_
            refine lv_if_eq (tgt := 336) hx hb dX4_isAtMost_316 (by decide) (fun c_316 => ?_) (fun c_316 => ?_)
            · skip
              have hN2 : b = none5 u9 18 := by rw [hN.2.2, show k9 = 18 by omega]
              refine lv_iconst (v := nI 0) hx hb dX4_isAtMost_336 (by decide) ?_
              exact gret_z hx hb hr hlk dX4_isAtMost_337 hS (by first | exact Or.inl rfl | exact Or.inr rfl) (g, v) (hP.sub [0, 1, 2, 3] rfl) (hD.sub [0, 1, 2, 3] (by decide) rfl) (show nI 0 = bI (ok3 pn (dv x 5)) from by first | exact am3_y hC3.2 hf hp (by rw [← hN2]; exact c_316) hz | exact am3_n hC3.2 hf hp (Or.inl (by rw [← hN2]; exact c_316)) | exact am3_n hC3.2 hf hp (Or.inr hz))
            · skip
              have hN2 : b = none5 u9 18 := by rw [hN.2.2, show k9 = 18 by omega]
              refine lv_aload_n hx hb dX4_isAtMost_319 rfl (lv_at hl 0 rfl) ?_
              refine va_get (D := G.1) (ci := 4) (v := .ref (ad 23)) (C := RX4) (T := TX4) (N := 29) hx hb htu iwX4 hown hK.1 hP 0 rfl rfl 23 (by decide) (htu _ uF_X4_72) (fun _ h9 => h9) rfl dX4_isAtMost_320 ?_
              refine lv_bipush (v := nI 12) hx hb dX4_isAtMost_323 (by decide) ?_
              refine g_lald hx hb hK.1 hP 3 2 rfl rfl ⟨by omega, by decide⟩ dX4_isAtMost_325 ?_
              refine g_tol (y := lN (u9 12)) (hC3.2.1 _ (by decide)) ?_
              refine lv_iload_n hx hb dX4_isAtMost_326 rfl (lv_at hl 1 rfl) ?_
              refine lv_i2l (v := Int32.toInt64 (nI pn)) hx hb dX4_isAtMost_327 rfl ?_
              refine g_tol (y := lN pn) (nI_l (by omega)) ?_
              refine W.lcmp hx hb dX4_isAtMost_328 ?_
              refine lv_if_ge (tgt := 336) hx hb dX4_isAtMost_329 (by decide) (fun c_329 => ?_) (fun c_329 => ?_)
              · skip
                have hz : ¬ u9 12 < pn := Nat.not_lt.mpr ((cmpGE (by have := hC3.2.le (show 12 < 18 by decide); omega) (by omega)).mp c_329)
                refine lv_iconst (v := nI 0) hx hb dX4_isAtMost_336 (by decide) ?_
                exact gret_z hx hb hr hlk dX4_isAtMost_337 hS (by first | exact Or.inl rfl | exact Or.inr rfl) (g, v) (hP.sub [0, 1, 2, 3] rfl) (hD.sub [0, 1, 2, 3] (by decide) rfl) (show nI 0 = bI (ok3 pn (dv x 5)) from by first | exact am3_y hC3.2 hf hp (by rw [← hN2]; exact c_316) hz | exact am3_n hC3.2 hf hp (Or.inl (by rw [← hN2]; exact c_316)) | exact am3_n hC3.2 hf hp (Or.inr hz))
              · skip
                have hz : u9 12 < pn := Nat.lt_of_not_le (fun h => c_329 ((cmpGE (by have := hC3.2.le (show 12 < 18 by decide); omega) (by omega)).mpr h))
                refine lv_iconst (v := nI 1) hx hb dX4_isAtMost_332 (by decide) ?_
                refine lv_goto (tgt := 337) hx hb dX4_isAtMost_333 (by decide) ?_
                exact gret_z hx hb hr hlk dX4_isAtMost_337 hS (by first | exact Or.inl rfl | exact Or.inr rfl) (g, v) (hP.sub [0, 1, 2, 3] rfl) (hD.sub [0, 1, 2, 3] (by decide) rfl) (show nI 1 = bI (ok3 pn (dv x 5)) from by first | exact am3_y hC3.2 hf hp (by rw [← hN2]; exact c_316) hz | exact am3_n hC3.2 hf hp (Or.inl (by rw [← hN2]; exact c_316)) | exact am3_n hC3.2 hf hp (Or.inr hz))
          · skip
            have hh : k9 < 18 := ge_f (n := 18) c_286 (by omega)
            refine lv_iload_n hx hb dX4_isAtMost_289 rfl (lv_at hl 3 rfl) ?_
            refine lv_aload_n hx hb dX4_isAtMost_290 rfl (lv_at hl 0 rfl) ?_
            refine va_get (D := G.1) (ci := 4) (v := .ref (ad 23)) (C := RX4) (T := TX4) (N := 29) hx hb htu iwX4 hown hK.1 hP 0 rfl rfl 23 (by decide) (htu _ uF_X4_72) (fun _ h9 => h9) rfl dX4_isAtMost_291 ?_
            refine lv_iload hx hb dX4_isAtMost_294 (lv_at hl 4 rfl) ?_
            refine g_lald hx hb hK.1 hP 3 2 rfl rfl ⟨by omega, by decide⟩ dX4_isAtMost_296 ?_
            refine g_tol (y := lN (u9 k9)) (hC3.2.1 k9 (by omega)) ?_
            refine lv_lconst (v := 0) hx hb dX4_isAtMost_297 (by decide) ?_
            refine W.lcmp hx hb dX4_isAtMost_298 ?_
            refine lv_if_ne (tgt := 306) hx hb dX4_isAtMost_299 (by decide) (fun c_299 => ?_) (fun c_299 => ?_)
            · skip
              have hz : decide (u9 k9 = 0) = false := decide_eq_false (fun h => c_299 ((cmp0 (by have := hC3.2.le (show k9 < 18 by omega); omega)).mpr h))
              refine lv_iconst (v := nI 0) hx hb dX4_isAtMost_306 (by decide) ?_
              refine g_toi (y := bI false) (rfl) ?_
              refine lv_iand hx hb dX4_isAtMost_307 ?_
              refine g_toi (y := bI (b && false)) (bI_and _ _) ?_
              refine lv_istore_n (lv' := [(3, .int (bI (b && false))), (0, .ref o), (1, .int (nI pn)), (2, .int (nI 3)), (4, .int (nI k9))]) hx hb dX4_isAtMost_308 rfl hl (by decide) rfl (fun ls hl => ?_)
              refine lv_iinc (v := nI (k9 + 1)) (lv' := [(4, .int (nI (k9 + 1))), (3, .int (bI (b && false))), (0, .ref o), (1, .int (nI pn)), (2, .int (nI 3))]) hx hb dX4_isAtMost_309 hl (k := 4) rfl (nI_1 k9) (by decide) rfl (fun ls hl => ?_)
              refine lv_goto (tgt := 282) hx hb dX4_isAtMost_312 (by decide) ?_
              exact ih_282 (k9 + 1, b && false) (show 13 ≤ (k9 + 1) ∧ (k9 + 1) ≤ 18 ∧ (b && false) = none5 u9 (k9 + 1) from ⟨by omega, by omega, none5_s hN.1 hN.2.2 hz.symm⟩) (by show 18 - (k9 + 1) < 18 - k9; omega) _ _ _ (hP.sub [0, 1, 2, 3] rfl) (hD.sub [0, 1, 2, 3] (by decide) rfl) hS (lv_sub hl [2, 3, 4, 1, 0] rfl)
            · skip
              have hz : decide (u9 k9 = 0) = true := decide_eq_true ((cmp0 (by have := hC3.2.le (show k9 < 18 by omega); omega)).mp c_299)
              refine lv_iconst (v := nI 1) hx hb dX4_isAtMost_302 (by decide) ?_
              refine g_toi (y := bI true) (rfl) ?_
              refine lv_goto (tgt := 307) hx hb dX4_isAtMost_303 (by decide) ?_
              refine lv_iand hx hb dX4_isAtMost_307 ?_
              refine g_toi (y := bI (b && true)) (bI_and _ _) ?_
              refine lv_istore_n (lv' := [(3, .int (bI (b && true))), (0, .ref o), (1, .int (nI pn)), (2, .int (nI 3)), (4, .int (nI k9))]) hx hb dX4_isAtMost_308 rfl hl (by decide) rfl (fun ls hl => ?_)
              refine lv_iinc (v := nI (k9 + 1)) (lv' := [(4, .int (nI (k9 + 1))), (3, .int (bI (b && true))), (0, .ref o), (1, .int (nI pn)), (2, .int (nI 3))]) hx hb dX4_isAtMost_309 hl (k := 4) rfl (nI_1 k9) (by decide) rfl (fun ls hl => ?_)
              refine lv_goto (tgt := 282) hx hb dX4_isAtMost_312 (by decide) ?_
              exact ih_282 (k9 + 1, b && true) (show 13 ≤ (k9 + 1) ∧ (k9 + 1) ≤ 18 ∧ (b && true) = none5 u9 (k9 + 1) from ⟨by omega, by omega, none5_s hN.1 hN.2.2 hz.symm⟩) (by show 18 - (k9 + 1) < 18 - k9; omega) _ _ _ (hP.sub [0, 1, 2, 3] rfl) (hD.sub [0, 1, 2, 3] (by decide) rfl) hS (lv_sub hl [2, 3, 4, 1, 0] rfl)
        · skip
          have hf : n9 < 17 := ge_f (n := 17) c_235 (by omega)
          refine lv_aload_n hx hb dX4_isAtMost_238 rfl (lv_at hl 0 rfl) ?_
          refine va_get (D := G.1) (ci := 4) (v := .ref (ad 23)) (C := RX4) (T := TX4) (N := 29) hx hb htu iwX4 hown hK.1 hP 0 rfl rfl 23 (by decide) (htu _ uF_X4_72) (fun _ h9 => h9) rfl dX4_isAtMost_239 ?_
          refine lv_iload_n hx hb dX4_isAtMost_242 rfl (lv_at hl 3 rfl) ?_
          refine lv_iconst (v := nI 1) hx hb dX4_isAtMost_243 (by decide) ?_
          refine lv_iadd hx hb dX4_isAtMost_244 ?_
          refine g_toi (y := nI (n9 + 1)) (nI_add n9 1) ?_
          refine lv_dup2_11 hx hb dX4_isAtMost_245 rfl rfl ?_
          refine g_lald hx hb hK.1 hP 3 2 rfl rfl ⟨by omega, by decide⟩ dX4_isAtMost_246 ?_
          refine g_tol (y := lN (u9 (n9 + 1))) (hC3.2.1 _ (by omega)) ?_
          refine lv_aload_n hx hb dX4_isAtMost_247 rfl (lv_at hl 0 rfl) ?_
          refine va_get (D := G.1) (ci := 4) (v := .ref (ad 23)) (C := RX4) (T := TX4) (N := 29) hx hb htu iwX4 hown hK.1 hP 0 rfl rfl 23 (by decide) (htu _ uF_X4_72) (fun _ h9 => h9) rfl dX4_isAtMost_248 ?_
          refine lv_iload_n hx hb dX4_isAtMost_251 rfl (lv_at hl 3 rfl) ?_
          refine g_lald hx hb hK.1 hP 3 2 rfl rfl ⟨by omega, by decide⟩ dX4_isAtMost_252 ?_
          refine g_tol (y := lN (u9 n9)) (hC3.2.1 _ (by omega)) ?_
          refine lv_bipush (v := nI 16) hx hb dX4_isAtMost_253 (by decide) ?_
          refine lv_lshr (v := shrL (lN (u9 n9)) (nI 16)) hx hb dX4_isAtMost_255 rfl ?_
          refine g_tol (y := lN (u9 n9 / 65536)) (lsh16 (by have := hC3.2.le (show n9 < 18 by omega); omega)) ?_
          refine lv_ladd hx hb dX4_isAtMost_256 ?_
          refine g_tol (y := lN (u9 (n9 + 1) + u9 n9 / 65536)) (lN_add _ _) ?_
          refine g_last hx hb hK.1 hP hD hS 3 2 rfl rfl ⟨by omega, by decide⟩ dX4_isAtMost_257 (fun H locs hP hD hS => ?_)
          obtain ⟨g_4, eg_4⟩ : ∃ gq9 : Nat → Int64, gq9 = vp_updL v (n9 + 1) (lN (u9 (n9 + 1) + u9 n9 / 65536)) := ⟨_, rfl⟩
          rw [← eg_4] at hP hD
          have hP : va_P G.1 vwCl [(o, .inr (4, mF ad sz1 osz th hsz)), (ad 21, .inl (G.2.1 2, 6, .inr (.inl xf))), (ad 22, .inl (G.2.1 2, 12, .inr (.inl g))), (ad 23, .inl (G.2.1 2, 18, .inr (.inl g_4)))] H := hP
          have hD : va_D A [(o, .inr (4, mF ad sz1 osz th hsz)), (ad 21, .inl (G.2.1 2, 6, .inr (.inl xf))), (ad 22, .inl (G.2.1 2, 12, .inr (.inl g))), (ad 23, .inl (G.2.1 2, 18, .inr (.inl g_4)))] := hD
          refine lv_aload_n hx hb dX4_isAtMost_258 rfl (lv_at hl 0 rfl) ?_
          refine va_get (D := G.1) (ci := 4) (v := .ref (ad 23)) (C := RX4) (T := TX4) (N := 29) hx hb htu iwX4 hown hK.1 hP 0 rfl rfl 23 (by decide) (htu _ uF_X4_72) (fun _ h9 => h9) rfl dX4_isAtMost_259 ?_
          refine lv_iload_n hx hb dX4_isAtMost_262 rfl (lv_at hl 3 rfl) ?_
          refine lv_dup2_11 hx hb dX4_isAtMost_263 rfl rfl ?_
          refine g_lald hx hb hK.1 hP 3 2 rfl rfl ⟨by omega, by decide⟩ dX4_isAtMost_264 ?_
          refine g_tol (y := lN (u9 n9)) (by rw [eg_4, pk_uLn (by omega)]; exact hC3.2.1 _ (by omega)) ?_
          refine lv_ldc2 hx hb hown (htu _ uL_X4_102) dX4_isAtMost_265 ?_
          refine lv_land hx hb dX4_isAtMost_268 ?_
          refine g_tol (y := lN (u9 n9 % 65536)) (lan16 (by have := hC3.2.le (show n9 < 18 by omega); omega)) ?_
          refine g_last hx hb hK.1 hP hD hS 3 2 rfl rfl ⟨by omega, by decide⟩ dX4_isAtMost_269 (fun H locs hP hD hS => ?_)
          obtain ⟨g_5, eg_5⟩ : ∃ gq9 : Nat → Int64, gq9 = vp_updL g_4 n9 (lN (u9 n9 % 65536)) := ⟨_, rfl⟩
          rw [← eg_5] at hP hD
          have hP : va_P G.1 vwCl [(o, .inr (4, mF ad sz1 osz th hsz)), (ad 21, .inl (G.2.1 2, 6, .inr (.inl xf))), (ad 22, .inl (G.2.1 2, 12, .inr (.inl g))), (ad 23, .inl (G.2.1 2, 18, .inr (.inl g_5)))] H := hP
          have hD : va_D A [(o, .inr (4, mF ad sz1 osz th hsz)), (ad 21, .inl (G.2.1 2, 6, .inr (.inl xf))), (ad 22, .inl (G.2.1 2, 12, .inr (.inl g))), (ad 23, .inl (G.2.1 2, 18, .inr (.inl g_5)))] := hD
          refine lv_iinc (v := nI (n9 + 1)) (lv' := [(3, .int (nI (n9 + 1))), (0, .ref o), (1, .int (nI pn)), (2, .int (nI 3))]) hx hb dX4_isAtMost_270 hl (k := 3) rfl (nI_1 n9) (by decide) rfl (fun ls hl => ?_)
          refine lv_goto (tgt := 232) hx hb dX4_isAtMost_273 (by decide) ?_
          exact ih_232 (n9 + 1, g_5, nu (nu u9 (n9 + 1) (u9 (n9 + 1) + u9 n9 / 65536)) n9 (u9 n9 % 65536)) (show (n9 + 1) ≤ 17 ∧ CarI 18 (dv x 5 * dv x 5 * dv x 5) g_5 (nu (nu u9 (n9 + 1) (u9 (n9 + 1) + u9 n9 / 65536)) n9 (u9 n9 % 65536)) (n9 + 1) from ⟨hf, hC3.2.step (by omega) rfl rfl eg_4 eg_5⟩) (by show 17 - (n9 + 1) < 17 - n9; omega) _ _ _ (hP.sub [0, 1, 2, 3] rfl) (hD.sub [0, 1, 2, 3] (by decide) rfl) hS (lv_sub hl [1, 2, 3, 0] rfl)
      · skip
        have hr9 : i < 12 := ge_f (n := 12) c_180 (by omega)
        refine lv_iconst (v := nI 0) hx hb dX4_isAtMost_183 (by decide) ?_
        refine lv_istore (lv' := [(4, .int (nI 0)), (0, .ref o), (1, .int (nI pn)), (2, .int (nI 3)), (3, .int (nI i))]) hx hb dX4_isAtMost_184 hl (by decide) rfl (fun ls hl => ?_)
        refine g_loop (σ := Nat × (Nat → Int64) × (Nat → Nat)) (G := G) (fun xq9 : Nat × (Nat → Int64) × (Nat → Nat) => [(o, .inr (4, mF ad sz1 osz th hsz)), (ad 21, .inl (G.2.1 2, 6, .inr (.inl xf))), (ad 22, .inl (G.2.1 2, 12, .inr (.inl g))), (ad 23, .inl (G.2.1 2, 18, .inr (.inl xq9.2.1)))]) (fun xq9 : Nat × (Nat → Int64) × (Nat → Nat) => [(0, .ref o), (1, .int (nI pn)), (2, .int (nI 3)), (3, .int (nI i)), (4, .int (nI xq9.1))]) (fun xq9 : Nat × (Nat → Int64) × (Nat → Nat) => xq9.1 ≤ 5 ∧ MulI 18 5 xq9.2.1 xq9.2.2 q x i xq9.1) (fun xq9 : Nat × (Nat → Int64) × (Nat → Nat) => 5 - xq9.1) ?_ (0, v, u9) (show 0 ≤ 5 ∧ MulI 18 5 v u9 q x i 0 from ⟨Nat.zero_le _, hM.2⟩) (hP.sub [0, 1, 2, 3] rfl) (hD.sub [0, 1, 2, 3] (by decide) rfl) hS (lv_sub hl [1, 2, 3, 4, 0] rfl)
        clear hP hD hS hl
        intro x hxI_186 ih_186 H locs ls hP hD hS hl
        obtain ⟨j, v, u9⟩ := x
        have hJ : j ≤ 5 ∧ MulI 18 5 v u9 q x i j := hxI_186
        have hP : va_P G.1 vwCl [(o, .inr (4, mF ad sz1 osz th hsz)), (ad 21, .inl (G.2.1 2, 6, .inr (.inl xf))), (ad 22, .inl (G.2.1 2, 12, .inr (.inl g))), (ad 23, .inl (G.2.1 2, 18, .inr (.inl v)))] H := hP
        have hD : va_D A [(o, .inr (4, mF ad sz1 osz th hsz)), (ad 21, .inl (G.2.1 2, 6, .inr (.inl xf))), (ad 22, .inl (G.2.1 2, 12, .inr (.inl g))), (ad 23, .inl (G.2.1 2, 18, .inr (.inl v)))] := hD
        have hl : lv_has ls 5 [(0, .ref o), (1, .int (nI pn)), (2, .int (nI 3)), (3, .int (nI i)), (4, .int (nI j))] := hl
        refine lv_iload hx hb dX4_isAtMost_186 (lv_at hl 4 rfl) ?_
        refine lv_iconst (v := nI 5) hx hb dX4_isAtMost_188 (by decide) ?_
        refine lv_icmp_ge (tgt := 224) hx hb dX4_isAtMost_189 (by decide) (fun c_189 => ?_) (fun c_189 => ?_)
        · skip
          have hq : 5 ≤ j := ge_t (n := 5) c_189 (by decide)
          refine lv_iinc (v := nI (i + 1)) (lv' := [(3, .int (nI (i + 1))), (0, .ref o), (1, .int (nI pn)), (2, .int (nI 3)), (4, .int (nI j))]) hx hb dX4_isAtMost_224 hl (k := 3) rfl (nI_1 i) (by decide) rfl (fun ls hl => ?_)
          refine lv_goto (tgt := 177) hx hb dX4_isAtMost_227 (by decide) ?_
          exact ih_177 (i + 1, v, u9) (show (i + 1) ≤ 12 ∧ MulI 18 5 v u9 q x (i + 1) 0 from ⟨hr9, hJ.2.next hq hJ.1⟩) (by show 12 - (i + 1) < 12 - i; omega) _ _ _ (hP.sub [0, 1, 2, 3] rfl) (hD.sub [0, 1, 2, 3] (by decide) rfl) hS (lv_sub hl [1, 2, 3, 0] rfl)
        · skip
          have hq : j < 5 := ge_f (n := 5) c_189 (by omega)
          refine lv_aload_n hx hb dX4_isAtMost_192 rfl (lv_at hl 0 rfl) ?_
          refine va_get (D := G.1) (ci := 4) (v := .ref (ad 23)) (C := RX4) (T := TX4) (N := 29) hx hb htu iwX4 hown hK.1 hP 0 rfl rfl 23 (by decide) (htu _ uF_X4_72) (fun _ h9 => h9) rfl dX4_isAtMost_193 ?_
          refine lv_iload_n hx hb dX4_isAtMost_196 rfl (lv_at hl 3 rfl) ?_
          refine lv_iload hx hb dX4_isAtMost_197 (lv_at hl 4 rfl) ?_
          refine lv_iadd hx hb dX4_isAtMost_199 ?_
          refine g_toi (y := nI (i + j)) (nI_add i j) ?_
          refine lv_dup2_11 hx hb dX4_isAtMost_200 rfl rfl ?_
          refine g_lald hx hb hK.1 hP 3 2 rfl rfl ⟨by omega, by decide⟩ dX4_isAtMost_201 ?_
          refine g_tol (y := lN (u9 (i + j))) (hJ.2.1 _ (by omega)) ?_
          refine lv_aload_n hx hb dX4_isAtMost_202 rfl (lv_at hl 0 rfl) ?_
          refine va_get (D := G.1) (ci := 4) (v := .ref (ad 22)) (C := RX4) (T := TX4) (N := 29) hx hb htu iwX4 hown hK.1 hP 0 rfl rfl 22 (by decide) (htu _ uF_X4_69) (fun _ h9 => h9) rfl dX4_isAtMost_203 ?_
          refine lv_iload_n hx hb dX4_isAtMost_206 rfl (lv_at hl 3 rfl) ?_
          refine g_lald hx hb hK.1 hP 2 2 rfl rfl ⟨by omega, by decide⟩ dX4_isAtMost_207 ?_
          refine g_tol (y := lN (q i)) (hC.2.1 i (by omega)) ?_
          refine lv_aload_n hx hb dX4_isAtMost_208 rfl (lv_at hl 0 rfl) ?_
          refine va_get (D := G.1) (ci := 4) (v := .ref (ad 21)) (C := RX4) (T := TX4) (N := 29) hx hb htu iwX4 hown hK.1 hP 0 rfl rfl 21 (by decide) (htu _ uF_X4_66) (fun _ h9 => h9) rfl dX4_isAtMost_209 ?_
          refine lv_iload hx hb dX4_isAtMost_212 (lv_at hl 4 rfl) ?_
          refine g_lald hx hb hK.1 hP 1 2 rfl rfl ⟨by omega, by decide⟩ dX4_isAtMost_214 ?_
          refine g_tol (y := lN (x j)) (hxr j (by omega)) ?_
          refine lv_lmul hx hb dX4_isAtMost_215 ?_
          refine g_tol (y := lN (q i * x j)) (lN_mul _ _) ?_
          refine lv_ladd hx hb dX4_isAtMost_216 ?_
          refine g_tol (y := lN (u9 (i + j) + q i * x j)) (lN_add _ _) ?_
          refine g_last hx hb hK.1 hP hD hS 3 2 rfl rfl ⟨by omega, by decide⟩ dX4_isAtMost_217 (fun H locs hP hD hS => ?_)
          obtain ⟨g_6, eg_6⟩ : ∃ gq9 : Nat → Int64, gq9 = vp_updL v (i + j) (lN (u9 (i + j) + q i * x j)) := ⟨_, rfl⟩
          rw [← eg_6] at hP hD
          have hP : va_P G.1 vwCl [(o, .inr (4, mF ad sz1 osz th hsz)), (ad 21, .inl (G.2.1 2, 6, .inr (.inl xf))), (ad 22, .inl (G.2.1 2, 12, .inr (.inl g))), (ad 23, .inl (G.2.1 2, 18, .inr (.inl g_6)))] H := hP
          have hD : va_D A [(o, .inr (4, mF ad sz1 osz th hsz)), (ad 21, .inl (G.2.1 2, 6, .inr (.inl xf))), (ad 22, .inl (G.2.1 2, 12, .inr (.inl g))), (ad 23, .inl (G.2.1 2, 18, .inr (.inl g_6)))] := hD
          refine lv_iinc (v := nI (j + 1)) (lv' := [(4, .int (nI (j + 1))), (0, .ref o), (1, .int (nI pn)), (2, .int (nI 3)), (3, .int (nI i))]) hx hb dX4_isAtMost_218 hl (k := 4) rfl (nI_1 j) (by decide) rfl (fun ls hl => ?_)
          refine lv_goto (tgt := 186) hx hb dX4_isAtMost_221 (by decide) ?_
          exact ih_186 (j + 1, g_6, nu u9 (i + j) (u9 (i + j) + q i * x j)) (show (j + 1) ≤ 5 ∧ MulI 18 5 g_6 (nu u9 (i + j) (u9 (i + j) + q i * x j)) q x i (j + 1) from ⟨hq, hJ.2.step (by omega) (hC.2.fig11 hg hX80 i hr9) (hx5 j hq) rfl eg_6⟩) (by show 5 - (j + 1) < 5 - j; omega) _ _ _ (hP.sub [0, 1, 2, 3] rfl) (hD.sub [0, 1, 2, 3] (by decide) rfl) hS (lv_sub hl [1, 2, 3, 4, 0] rfl)
    · skip
      have hg : k < 11 := ge_f (n := 11) c_63 (by omega)
      refine lv_aload_n hx hb dX4_isAtMost_66 rfl (lv_at hl 0 rfl) ?_
      refine va_get (D := G.1) (ci := 4) (v := .ref (ad 22)) (C := RX4) (T := TX4) (N := 29) hx hb htu iwX4 hown hK.1 hP 0 rfl rfl 22 (by decide) (htu _ uF_X4_69) (fun _ h9 => h9) rfl dX4_isAtMost_67 ?_
      refine lv_iload_n hx hb dX4_isAtMost_70 rfl (lv_at hl 3 rfl) ?_
      refine lv_iconst (v := nI 1) hx hb dX4_isAtMost_71 (by decide) ?_
      refine lv_iadd hx hb dX4_isAtMost_72 ?_
      refine g_toi (y := nI (k + 1)) (nI_add k 1) ?_
      refine lv_dup2_11 hx hb dX4_isAtMost_73 rfl rfl ?_
      refine g_lald hx hb hK.1 hP 2 2 rfl rfl ⟨by omega, by decide⟩ dX4_isAtMost_74 ?_
      refine g_tol (y := lN (q (k + 1))) (hC.2.1 _ (by omega)) ?_
      refine lv_aload_n hx hb dX4_isAtMost_75 rfl (lv_at hl 0 rfl) ?_
      refine va_get (D := G.1) (ci := 4) (v := .ref (ad 22)) (C := RX4) (T := TX4) (N := 29) hx hb htu iwX4 hown hK.1 hP 0 rfl rfl 22 (by decide) (htu _ uF_X4_69) (fun _ h9 => h9) rfl dX4_isAtMost_76 ?_
      refine lv_iload_n hx hb dX4_isAtMost_79 rfl (lv_at hl 3 rfl) ?_
      refine g_lald hx hb hK.1 hP 2 2 rfl rfl ⟨by omega, by decide⟩ dX4_isAtMost_80 ?_
      refine g_tol (y := lN (q k)) (hC.2.1 _ (by omega)) ?_
      refine lv_bipush (v := nI 16) hx hb dX4_isAtMost_81 (by decide) ?_
      refine lv_lshr (v := shrL (lN (q k)) (nI 16)) hx hb dX4_isAtMost_83 rfl ?_
      refine g_tol (y := lN (q k / 65536)) (lsh16 (by have := hC.2.le (show k < 12 by omega); omega)) ?_
      refine lv_ladd hx hb dX4_isAtMost_84 ?_
      refine g_tol (y := lN (q (k + 1) + q k / 65536)) (lN_add _ _) ?_
      refine g_last hx hb hK.1 hP hD hS 2 2 rfl rfl ⟨by omega, by decide⟩ dX4_isAtMost_85 (fun H locs hP hD hS => ?_)
      obtain ⟨g_7, eg_7⟩ : ∃ gq9 : Nat → Int64, gq9 = vp_updL g (k + 1) (lN (q (k + 1) + q k / 65536)) := ⟨_, rfl⟩
      rw [← eg_7] at hP hD
      have hP : va_P G.1 vwCl [(o, .inr (4, mF ad sz1 osz th hsz)), (ad 21, .inl (G.2.1 2, 6, .inr (.inl xf))), (ad 22, .inl (G.2.1 2, 12, .inr (.inl g_7))), (ad 23, .inl (G.2.1 2, 18, .inr (.inl wf_3)))] H := hP
      have hD : va_D A [(o, .inr (4, mF ad sz1 osz th hsz)), (ad 21, .inl (G.2.1 2, 6, .inr (.inl xf))), (ad 22, .inl (G.2.1 2, 12, .inr (.inl g_7))), (ad 23, .inl (G.2.1 2, 18, .inr (.inl wf_3)))] := hD
      refine lv_aload_n hx hb dX4_isAtMost_86 rfl (lv_at hl 0 rfl) ?_
      refine va_get (D := G.1) (ci := 4) (v := .ref (ad 22)) (C := RX4) (T := TX4) (N := 29) hx hb htu iwX4 hown hK.1 hP 0 rfl rfl 22 (by decide) (htu _ uF_X4_69) (fun _ h9 => h9) rfl dX4_isAtMost_87 ?_
      refine lv_iload_n hx hb dX4_isAtMost_90 rfl (lv_at hl 3 rfl) ?_
      refine lv_dup2_11 hx hb dX4_isAtMost_91 rfl rfl ?_
      refine g_lald hx hb hK.1 hP 2 2 rfl rfl ⟨by omega, by decide⟩ dX4_isAtMost_92 ?_
      refine g_tol (y := lN (q k)) (by rw [eg_7, pk_uLn (by omega)]; exact hC.2.1 _ (by omega)) ?_
      refine lv_ldc2 hx hb hown (htu _ uL_X4_102) dX4_isAtMost_93 ?_
      refine lv_land hx hb dX4_isAtMost_96 ?_
      refine g_tol (y := lN (q k % 65536)) (lan16 (by have := hC.2.le (show k < 12 by omega); omega)) ?_
      refine g_last hx hb hK.1 hP hD hS 2 2 rfl rfl ⟨by omega, by decide⟩ dX4_isAtMost_97 (fun H locs hP hD hS => ?_)
      obtain ⟨g_8, eg_8⟩ : ∃ gq9 : Nat → Int64, gq9 = vp_updL g_7 k (lN (q k % 65536)) := ⟨_, rfl⟩
      rw [← eg_8] at hP hD
      have hP : va_P G.1 vwCl [(o, .inr (4, mF ad sz1 osz th hsz)), (ad 21, .inl (G.2.1 2, 6, .inr (.inl xf))), (ad 22, .inl (G.2.1 2, 12, .inr (.inl g_8))), (ad 23, .inl (G.2.1 2, 18, .inr (.inl wf_3)))] H := hP
      have hD : va_D A [(o, .inr (4, mF ad sz1 osz th hsz)), (ad 21, .inl (G.2.1 2, 6, .inr (.inl xf))), (ad 22, .inl (G.2.1 2, 12, .inr (.inl g_8))), (ad 23, .inl (G.2.1 2, 18, .inr (.inl wf_3)))] := hD
      refine lv_iinc (v := nI (k + 1)) (lv' := [(3, .int (nI (k + 1))), (0, .ref o), (1, .int (nI pn)), (2, .int (nI 3))]) hx hb dX4_isAtMost_98 hl (k := 3) rfl (nI_1 k) (by decide) rfl (fun ls hl => ?_)
      refine lv_goto (tgt := 60) hx hb dX4_isAtMost_101 (by decide) ?_
      exact ih_60 (k + 1, g_8, nu (nu q (k + 1) (q (k + 1) + q k / 65536)) k (q k % 65536)) (show (k + 1) ≤ 11 ∧ CarI 12 (dv x 5 * dv x 5) g_8 (nu (nu q (k + 1) (q (k + 1) + q k / 65536)) k (q k % 65536)) (k + 1) from ⟨hg, hC.2.step (by omega) rfl rfl eg_7 eg_8⟩) (by show 11 - (k + 1) < 11 - k; omega) _ _ _ (hP.sub [0, 1, 2, 3] rfl) (hD.sub [0, 1, 2, 3] (by decide) rfl) hS (lv_sub hl [1, 2, 3, 0] rfl)
  · skip
    have hg : i < 5 := ge_f (n := 5) c_8 (by omega)
    refine lv_iconst (v := nI 0) hx hb dX4_isAtMost_11 (by decide) ?_
    refine lv_istore (lv' := [(4, .int (nI 0)), (0, .ref o), (1, .int (nI pn)), (2, .int (nI 3)), (3, .int (nI i))]) hx hb dX4_isAtMost_12 hl (by decide) rfl (fun ls hl => ?_)
    refine g_loop (σ := Nat × (Nat → Int64) × (Nat → Nat)) (G := G) (fun xq9 : Nat × (Nat → Int64) × (Nat → Nat) => [(o, .inr (4, mF ad sz1 osz th hsz)), (ad 21, .inl (G.2.1 2, 6, .inr (.inl xf))), (ad 22, .inl (G.2.1 2, 12, .inr (.inl xq9.2.1))), (ad 23, .inl (G.2.1 2, 18, .inr (.inl wf_3)))]) (fun xq9 : Nat × (Nat → Int64) × (Nat → Nat) => [(0, .ref o), (1, .int (nI pn)), (2, .int (nI 3)), (3, .int (nI i)), (4, .int (nI xq9.1))]) (fun xq9 : Nat × (Nat → Int64) × (Nat → Nat) => xq9.1 ≤ 5 ∧ MulI 12 5 xq9.2.1 xq9.2.2 x x i xq9.1) (fun xq9 : Nat × (Nat → Int64) × (Nat → Nat) => 5 - xq9.1) ?_ (0, g, q) (show 0 ≤ 5 ∧ MulI 12 5 g q x x i 0 from ⟨Nat.zero_le _, hI.2⟩) (hP.sub [0, 1, 2, 3] rfl) (hD.sub [0, 1, 2, 3] (by decide) rfl) hS (lv_sub hl [1, 2, 3, 4, 0] rfl)
    clear hP hD hS hl
    intro x hxI_14 ih_14 H locs ls hP hD hS hl
    obtain ⟨j, g, q⟩ := x
    have hJ : j ≤ 5 ∧ MulI 12 5 g q x x i j := hxI_14
    have hP : va_P G.1 vwCl [(o, .inr (4, mF ad sz1 osz th hsz)), (ad 21, .inl (G.2.1 2, 6, .inr (.inl xf))), (ad 22, .inl (G.2.1 2, 12, .inr (.inl g))), (ad 23, .inl (G.2.1 2, 18, .inr (.inl wf_3)))] H := hP
    have hD : va_D A [(o, .inr (4, mF ad sz1 osz th hsz)), (ad 21, .inl (G.2.1 2, 6, .inr (.inl xf))), (ad 22, .inl (G.2.1 2, 12, .inr (.inl g))), (ad 23, .inl (G.2.1 2, 18, .inr (.inl wf_3)))] := hD
    have hl : lv_has ls 5 [(0, .ref o), (1, .int (nI pn)), (2, .int (nI 3)), (3, .int (nI i)), (4, .int (nI j))] := hl
    refine lv_iload hx hb dX4_isAtMost_14 (lv_at hl 4 rfl) ?_
    refine lv_iconst (v := nI 5) hx hb dX4_isAtMost_16 (by decide) ?_
    refine lv_icmp_ge (tgt := 52) hx hb dX4_isAtMost_17 (by decide) (fun c_17 => ?_) (fun c_17 => ?_)
    · skip
      have hq : 5 ≤ j := ge_t (n := 5) c_17 (by decide)
      refine lv_iinc (v := nI (i + 1)) (lv' := [(3, .int (nI (i + 1))), (0, .ref o), (1, .int (nI pn)), (2, .int (nI 3)), (4, .int (nI j))]) hx hb dX4_isAtMost_52 hl (k := 3) rfl (nI_1 i) (by decide) rfl (fun ls hl => ?_)
      refine lv_goto (tgt := 6) hx hb dX4_isAtMost_55 (by decide) ?_
      exact ih_6 (i + 1, g, q) (show (i + 1) ≤ 5 ∧ MulI 12 5 g q x x (i + 1) 0 from ⟨hg, hJ.2.next hq hJ.1⟩) (by show 5 - (i + 1) < 5 - i; omega) _ _ _ (hP.sub [0, 1, 2, 3] rfl) (hD.sub [0, 1, 2, 3] (by decide) rfl) hS (lv_sub hl [1, 2, 3, 0] rfl)
    · skip
      have hq : j < 5 := ge_f (n := 5) c_17 (by omega)
      refine lv_aload_n hx hb dX4_isAtMost_20 rfl (lv_at hl 0 rfl) ?_
      refine va_get (D := G.1) (ci := 4) (v := .ref (ad 22)) (C := RX4) (T := TX4) (N := 29) hx hb htu iwX4 hown hK.1 hP 0 rfl rfl 22 (by decide) (htu _ uF_X4_69) (fun _ h9 => h9) rfl dX4_isAtMost_21 ?_
      refine lv_iload_n hx hb dX4_isAtMost_24 rfl (lv_at hl 3 rfl) ?_
      refine lv_iload hx hb dX4_isAtMost_25 (lv_at hl 4 rfl) ?_
      refine lv_iadd hx hb dX4_isAtMost_27 ?_
      refine g_toi (y := nI (i + j)) (nI_add i j) ?_
      refine lv_dup2_11 hx hb dX4_isAtMost_28 rfl rfl ?_
      refine g_lald hx hb hK.1 hP 2 2 rfl rfl ⟨by omega, by decide⟩ dX4_isAtMost_29 ?_
      refine g_tol (y := lN (q (i + j))) (hJ.2.1 _ (by omega)) ?_
      refine lv_aload_n hx hb dX4_isAtMost_30 rfl (lv_at hl 0 rfl) ?_
      refine va_get (D := G.1) (ci := 4) (v := .ref (ad 21)) (C := RX4) (T := TX4) (N := 29) hx hb htu iwX4 hown hK.1 hP 0 rfl rfl 21 (by decide) (htu _ uF_X4_66) (fun _ h9 => h9) rfl dX4_isAtMost_31 ?_
      refine lv_iload_n hx hb dX4_isAtMost_34 rfl (lv_at hl 3 rfl) ?_
      refine g_lald hx hb hK.1 hP 1 2 rfl rfl ⟨by omega, by decide⟩ dX4_isAtMost_35 ?_
      refine g_tol (y := lN (x i)) (hxr i (by omega)) ?_
      refine lv_aload_n hx hb dX4_isAtMost_36 rfl (lv_at hl 0 rfl) ?_
      refine va_get (D := G.1) (ci := 4) (v := .ref (ad 21)) (C := RX4) (T := TX4) (N := 29) hx hb htu iwX4 hown hK.1 hP 0 rfl rfl 21 (by decide) (htu _ uF_X4_66) (fun _ h9 => h9) rfl dX4_isAtMost_37 ?_
      refine lv_iload hx hb dX4_isAtMost_40 (lv_at hl 4 rfl) ?_
      refine g_lald hx hb hK.1 hP 1 2 rfl rfl ⟨by omega, by decide⟩ dX4_isAtMost_42 ?_
      refine g_tol (y := lN (x j)) (hxr j (by omega)) ?_
      refine lv_lmul hx hb dX4_isAtMost_43 ?_
      refine g_tol (y := lN (x i * x j)) (lN_mul _ _) ?_
      refine lv_ladd hx hb dX4_isAtMost_44 ?_
      refine g_tol (y := lN (q (i + j) + x i * x j)) (lN_add _ _) ?_
      refine g_last hx hb hK.1 hP hD hS 2 2 rfl rfl ⟨by omega, by decide⟩ dX4_isAtMost_45 (fun H locs hP hD hS => ?_)
      obtain ⟨g_9, eg_9⟩ : ∃ gq9 : Nat → Int64, gq9 = vp_updL g (i + j) (lN (q (i + j) + x i * x j)) := ⟨_, rfl⟩
      rw [← eg_9] at hP hD
      have hP : va_P G.1 vwCl [(o, .inr (4, mF ad sz1 osz th hsz)), (ad 21, .inl (G.2.1 2, 6, .inr (.inl xf))), (ad 22, .inl (G.2.1 2, 12, .inr (.inl g_9))), (ad 23, .inl (G.2.1 2, 18, .inr (.inl wf_3)))] H := hP
      have hD : va_D A [(o, .inr (4, mF ad sz1 osz th hsz)), (ad 21, .inl (G.2.1 2, 6, .inr (.inl xf))), (ad 22, .inl (G.2.1 2, 12, .inr (.inl g_9))), (ad 23, .inl (G.2.1 2, 18, .inr (.inl wf_3)))] := hD
      refine lv_iinc (v := nI (j + 1)) (lv' := [(4, .int (nI (j + 1))), (0, .ref o), (1, .int (nI pn)), (2, .int (nI 3)), (3, .int (nI i))]) hx hb dX4_isAtMost_46 hl (k := 4) rfl (nI_1 j) (by decide) rfl (fun ls hl => ?_)
      refine lv_goto (tgt := 14) hx hb dX4_isAtMost_49 (by decide) ?_
      exact ih_14 (j + 1, g_9, nu q (i + j) (q (i + j) + x i * x j)) (show (j + 1) ≤ 5 ∧ MulI 12 5 g_9 (nu q (i + j) (q (i + j) + x i * x j)) x x i (j + 1) from ⟨hq, hJ.2.step (by omega) (hx5 i hg) (hx5 j hq) rfl eg_9⟩) (by show 5 - (j + 1) < 5 - j; omega) _ _ _ (hP.sub [0, 1, 2, 3] rfl) (hD.sub [0, 1, 2, 3] (by decide) rfl) hS (lv_sub hl [1, 2, 3, 4, 0] rfl)
set_option maxHeartbeats 4000000 in
set_option maxRecDepth 100000 in
theorem c_X4_root2 (l : Launch) (G : GW) (sz : Nat) (o : Nat) (ad : Nat → Nat) (sz1 : Int32) (osz : Int32) (th : Int32) (hsz : Int32) (pn : Nat) (xf : Nat → Int64) (qf : Nat → Int64) (wf : Nat → Int64) (hp : pn < 64) : Met l yX4_root (Cond.code yX4_root cX4_root 6 (some FieldType.long) :: UW) ({ frames := 2, cells := 0, slots := 0, locals := 49 } : Room) (va_Pc [.ref o, .int (nI pn), .int (nI 2)] (gPre G [(o, .inr (4, mF ad sz1 osz th hsz)), (ad 21, .inl (G.2.1 2, 6, .inr (.inl xf))), (ad 22, .inl (G.2.1 2, 12, .inr (.inl qf))), (ad 23, .inl (G.2.1 2, 18, .inr (.inl wf)))] sz)) (va_Ql (fun (r : Int64) (uq9 : (Nat → Int64) × (Nat → Int64) × (Nat → Int64)) => r = lN (gr (ok2 pn) 64 (wh2 pn * 2 ^ 64))) (fun u => gPost G (va_A [(o, .inr (4, mF ad sz1 osz th hsz)), (ad 21, .inl (G.2.1 2, 6, .inr (.inl xf))), (ad 22, .inl (G.2.1 2, 12, .inr (.inl qf))), (ad 23, .inl (G.2.1 2, 18, .inr (.inl wf)))] sz) ((fun (uq9 : (Nat → Int64) × (Nat → Int64) × (Nat → Int64)) => ([(o, .inr (4, mF ad sz1 osz th hsz)), (ad 21, .inl (G.2.1 2, 6, .inr (.inl uq9.1))), (ad 22, .inl (G.2.1 2, 12, .inr (.inl uq9.2.1))), (ad 23, .inl (G.2.1 2, 18, .inr (.inl uq9.2.2)))] : va_W)) u)) (va_A [(o, .inr (4, mF ad sz1 osz th hsz)), (ad 21, .inl (G.2.1 2, 6, .inr (.inl xf))), (ad 22, .inl (G.2.1 2, 12, .inr (.inl qf))), (ad 23, .inl (G.2.1 2, 18, .inr (.inl wf)))] sz)) 0 0 (va_A [(o, .inr (4, mF ad sz1 osz th hsz)), (ad 21, .inl (G.2.1 2, 6, .inr (.inl xf))), (ad 22, .inl (G.2.1 2, 12, .inr (.inl qf))), (ad 23, .inl (G.2.1 2, 18, .inr (.inl wf)))] sz) := by
  refine gM_of (Qf := fun A => va_Ql (fun (r : Int64) (uq9 : (Nat → Int64) × (Nat → Int64) × (Nat → Int64)) => r = lN (gr (ok2 pn) 64 (wh2 pn * 2 ^ 64))) (fun u => gPost G A ((fun (uq9 : (Nat → Int64) × (Nat → Int64) × (Nat → Int64)) => ([(o, .inr (4, mF ad sz1 osz th hsz)), (ad 21, .inl (G.2.1 2, 6, .inr (.inl uq9.1))), (ad 22, .inl (G.2.1 2, 12, .inr (.inl uq9.2.1))), (ad 23, .inl (G.2.1 2, 18, .inr (.inl uq9.2.2)))] : va_W)) u)) A) (by decide) (Nat.le_of_ble_eq_true rfl) ?_
  intro p e s m below meth c A ls hx hb hml hr hown htu hlk hnm hA hP hD hS hK hZ hl
  have hown : s.vm.findClass RX4 = some m.cls := hown
  have hl : lv_has ls 6 [(0, .ref o), (1, .int (nI pn)), (2, .int (nI 2))] := hl
  refine lv_iconst (v := nI 0) hx hb dX4_root_0 (by decide) ?_
  refine lv_istore_n (lv' := [(3, .int (nI 0)), (0, .ref o), (1, .int (nI pn)), (2, .int (nI 2))]) hx hb dX4_root_1 rfl hl (by decide) rfl (fun ls hl => ?_)
  refine g_loop (σ := Nat × (Nat → Int64)) (G := G) (fun xq9 : Nat × (Nat → Int64) => [(o, .inr (4, mF ad sz1 osz th hsz)), (ad 21, .inl (G.2.1 2, 6, .inr (.inl xq9.2))), (ad 22, .inl (G.2.1 2, 12, .inr (.inl qf))), (ad 23, .inl (G.2.1 2, 18, .inr (.inl wf)))]) (fun xq9 : Nat × (Nat → Int64) => [(0, .ref o), (1, .int (nI pn)), (2, .int (nI 2)), (3, .int (nI xq9.1))]) (fun xq9 : Nat × (Nat → Int64) => xq9.1 ≤ 6 ∧ ∀ j, j < xq9.1 → xq9.2 j = 0) (fun xq9 : Nat × (Nat → Int64) => 6 - xq9.1) ?_ (0, xf) (show 0 ≤ 6 ∧ ∀ j, j < 0 → xf j = 0 from ⟨Nat.zero_le _, fun _ h => absurd h (Nat.not_lt_zero _)⟩) (hP.sub [0, 1, 2, 3] rfl) (hD.sub [0, 1, 2, 3] (by decide) rfl) hS (lv_sub hl [1, 2, 3, 0] rfl)
  clear hP hD hS hl
  intro x hxI_2 ih_2 H locs ls hP hD hS hl
  obtain ⟨k, g⟩ := x
  have hI : k ≤ 6 ∧ ∀ j, j < k → g j = 0 := hxI_2
  have hP : va_P G.1 vwCl [(o, .inr (4, mF ad sz1 osz th hsz)), (ad 21, .inl (G.2.1 2, 6, .inr (.inl g))), (ad 22, .inl (G.2.1 2, 12, .inr (.inl qf))), (ad 23, .inl (G.2.1 2, 18, .inr (.inl wf)))] H := hP
  have hD : va_D A [(o, .inr (4, mF ad sz1 osz th hsz)), (ad 21, .inl (G.2.1 2, 6, .inr (.inl g))), (ad 22, .inl (G.2.1 2, 12, .inr (.inl qf))), (ad 23, .inl (G.2.1 2, 18, .inr (.inl wf)))] := hD
  have hl : lv_has ls 6 [(0, .ref o), (1, .int (nI pn)), (2, .int (nI 2)), (3, .int (nI k))] := hl
  refine lv_iload_n hx hb dX4_root_2 rfl (lv_at hl 3 rfl) ?_
  refine lv_bipush (v := nI 6) hx hb dX4_root_3 (by decide) ?_
  refine lv_icmp_ge (tgt := 21) hx hb dX4_root_5 (by decide) (fun c_5 => ?_) (fun c_5 => ?_)
  · skip
    have hg : 6 ≤ k := ge_t (n := 6) c_5 (by decide)
    refine lv_lconst (v := 0) hx hb dX4_root_21 (by decide) ?_
    refine g_tol (y := lN 0) (rfl) ?_
    refine lv_lstore_n (lv' := [(3, .long (lN 0)), (0, .ref o), (1, .int (nI pn)), (2, .int (nI 2))]) hx hb dX4_root_22 rfl hl (by decide) rfl (fun ls hl => ?_)
    refine g_loop (σ := Nat) (G := G) (fun xq9 : Nat => [(o, .inr (4, mF ad sz1 osz th hsz)), (ad 21, .inl (G.2.1 2, 6, .inr (.inl g))), (ad 22, .inl (G.2.1 2, 12, .inr (.inl qf))), (ad 23, .inl (G.2.1 2, 18, .inr (.inl wf)))]) (fun xq9 : Nat => [(0, .ref o), (1, .int (nI pn)), (2, .int (nI 2)), (3, .long (lN xq9))]) (fun xq9 : Nat => xq9 ≤ wh2 pn ∧ xq9 ≤ 8) (fun xq9 : Nat => 9 - xq9) ?_ 0 (show 0 ≤ wh2 pn ∧ 0 ≤ 8 from ⟨Nat.zero_le _, by decide⟩) (hP.sub [0, 1, 2, 3] rfl) (hD.sub [0, 1, 2, 3] (by decide) rfl) hS (lv_sub hl [1, 2, 3, 0] rfl)
    clear hP hD hS hl
    intro x hxI_23 ih_23 H locs ls hP hD hS hl
    obtain ⟨w9, rfl⟩ : ∃ z, z = x := ⟨_, rfl⟩
    have hW : w9 ≤ wh2 pn ∧ w9 ≤ 8 := hxI_23
    have hP : va_P G.1 vwCl [(o, .inr (4, mF ad sz1 osz th hsz)), (ad 21, .inl (G.2.1 2, 6, .inr (.inl g))), (ad 22, .inl (G.2.1 2, 12, .inr (.inl qf))), (ad 23, .inl (G.2.1 2, 18, .inr (.inl wf)))] H := hP
    have hD : va_D A [(o, .inr (4, mF ad sz1 osz th hsz)), (ad 21, .inl (G.2.1 2, 6, .inr (.inl g))), (ad 22, .inl (G.2.1 2, 12, .inr (.inl qf))), (ad 23, .inl (G.2.1 2, 18, .inr (.inl wf)))] := hD
    have hl : lv_has ls 6 [(0, .ref o), (1, .int (nI pn)), (2, .int (nI 2)), (3, .long (lN w9))] := hl
    refine lv_iload_n hx hb dX4_root_23 rfl (lv_at hl 2 rfl) ?_
    refine lv_iconst (v := nI 2) hx hb dX4_root_24 (by decide) ?_
    refine lv_icmp_ne (tgt := 44) hx hb dX4_root_25 (by decide) (fun c_25 => absurd (rfl) c_25) (fun _ => ?_)
    refine lv_lload_n hx hb dX4_root_28 rfl (lv_at hl 3 rfl) ?_
    refine lv_lconst (v := 1) hx hb dX4_root_29 (by decide) ?_
    refine lv_ladd hx hb dX4_root_30 ?_
    refine g_tol (y := lN (w9 + 1)) (lN_1 w9) ?_
    refine lv_lload_n hx hb dX4_root_31 rfl (lv_at hl 3 rfl) ?_
    refine lv_lconst (v := 1) hx hb dX4_root_32 (by decide) ?_
    refine lv_ladd hx hb dX4_root_33 ?_
    refine g_tol (y := lN (w9 + 1)) (lN_1 w9) ?_
    refine lv_lmul hx hb dX4_root_34 ?_
    refine g_tol (y := lN ((w9 + 1) * (w9 + 1))) (lN_mul _ _) ?_
    refine lv_iload_n hx hb dX4_root_35 rfl (lv_at hl 1 rfl) ?_
    refine lv_i2l (v := Int32.toInt64 (nI pn)) hx hb dX4_root_36 rfl ?_
    refine g_tol (y := lN pn) (nI_l (by omega)) ?_
    refine W.lcmp hx hb dX4_root_37 ?_
    refine lv_if_gt (tgt := 68) hx hb dX4_root_38 (by decide) (fun c_38 => ?_) (fun c_38 => ?_)
    · skip
      have hg2 : ¬ (w9 + 1) * (w9 + 1) ≤ pn := Nat.not_le.mpr ((cmpG (by have : (w9 + 1) * (w9 + 1) ≤ 9 * 9 := Nat.mul_le_mul (by omega) (by omega); omega) (by omega)).mp c_38)
      refine lv_aload_n hx hb dX4_root_68 rfl (lv_at hl 0 rfl) ?_
      refine va_get (D := G.1) (ci := 4) (v := .ref (ad 21)) (C := RX4) (T := TX4) (N := 29) hx hb htu iwX4 hown hK.1 hP 0 rfl rfl 21 (by decide) (htu _ uF_X4_66) (fun _ h9 => h9) rfl dX4_root_69 ?_
      refine lv_iconst (v := nI 4) hx hb dX4_root_72 (by decide) ?_
      refine lv_lload_n hx hb dX4_root_73 rfl (lv_at hl 3 rfl) ?_
      refine g_last hx hb hK.1 hP hD hS 1 2 rfl rfl ⟨by omega, by decide⟩ dX4_root_74 (fun H locs hP hD hS => ?_)
      obtain ⟨g_1, eg_1⟩ : ∃ gq9 : Nat → Int64, gq9 = vp_updL g 4 (lN w9) := ⟨_, rfl⟩
      rw [← eg_1] at hP hD
      have hP : va_P G.1 vwCl [(o, .inr (4, mF ad sz1 osz th hsz)), (ad 21, .inl (G.2.1 2, 6, .inr (.inl g_1))), (ad 22, .inl (G.2.1 2, 12, .inr (.inl qf))), (ad 23, .inl (G.2.1 2, 18, .inr (.inl wf)))] H := hP
      have hD : va_D A [(o, .inr (4, mF ad sz1 osz th hsz)), (ad 21, .inl (G.2.1 2, 6, .inr (.inl g_1))), (ad 22, .inl (G.2.1 2, 12, .inr (.inl qf))), (ad 23, .inl (G.2.1 2, 18, .inr (.inl wf)))] := hD
      refine lv_bipush (v := nI 63) hx hb dX4_root_75 (by decide) ?_
      refine g_toi (y := nI 64 + (-1)) (by decide) ?_
      refine lv_istore (lv' := [(5, .int (nI 64 + (-1))), (0, .ref o), (1, .int (nI pn)), (2, .int (nI 2)), (3, .long (lN w9))]) hx hb dX4_root_77 hl (by decide) rfl (fun ls hl => ?_)
      refine g_loop (σ := Nat × (Nat → Int64) × (Nat → Nat) × (Nat → Int64) × (Nat → Int64)) (G := G) (fun xq9 : Nat × (Nat → Int64) × (Nat → Nat) × (Nat → Int64) × (Nat → Int64) => [(o, .inr (4, mF ad sz1 osz th hsz)), (ad 21, .inl (G.2.1 2, 6, .inr (.inl xq9.2.1))), (ad 22, .inl (G.2.1 2, 12, .inr (.inl xq9.2.2.2.1))), (ad 23, .inl (G.2.1 2, 18, .inr (.inl xq9.2.2.2.2)))]) (fun xq9 : Nat × (Nat → Int64) × (Nat → Nat) × (Nat → Int64) × (Nat → Int64) => [(0, .ref o), (1, .int (nI pn)), (2, .int (nI 2)), (5, .int (nI xq9.1 + (-1)))]) (fun xq9 : Nat × (Nat → Int64) × (Nat → Nat) × (Nat → Int64) × (Nat → Int64) => RtI (ok2 pn) (wh2 pn * 2 ^ 64) xq9.1 xq9.2.2.1 xq9.2.1) (fun xq9 : Nat × (Nat → Int64) × (Nat → Nat) × (Nat → Int64) × (Nat → Int64) => xq9.1) ?_ (64, g_1, nu (fun _ => 0) 4 w9, qf, wf) (show RtI (ok2 pn) (wh2 pn * 2 ^ 64) 64 (nu (fun _ => 0) 4 w9) g_1 from RtI.start2 (Nat.le_antisymm hW.1 (Nat.le_of_not_lt (fun h => hg2 ((wh2_go hp hW.1).mpr h)))) (fun j hj => hI.2 j (Nat.lt_of_lt_of_le hj hg)) (Nat.lt_of_le_of_lt hW.2 (by decide)) eg_1) (hP.sub [0, 1, 2, 3] rfl) (hD.sub [0, 1, 2, 3] (by decide) rfl) hS (lv_sub hl [1, 2, 3, 0] rfl)
      clear hP hD hS hl
      intro x hxI_79 ih_79 H locs ls hP hD hS hl
      obtain ⟨bb, g, x, q, v9⟩ := x
      have hR9 : RtI (ok2 pn) (wh2 pn * 2 ^ 64) bb x g := hxI_79
      have hP : va_P G.1 vwCl [(o, .inr (4, mF ad sz1 osz th hsz)), (ad 21, .inl (G.2.1 2, 6, .inr (.inl g))), (ad 22, .inl (G.2.1 2, 12, .inr (.inl q))), (ad 23, .inl (G.2.1 2, 18, .inr (.inl v9)))] H := hP
      have hD : va_D A [(o, .inr (4, mF ad sz1 osz th hsz)), (ad 21, .inl (G.2.1 2, 6, .inr (.inl g))), (ad 22, .inl (G.2.1 2, 12, .inr (.inl q))), (ad 23, .inl (G.2.1 2, 18, .inr (.inl v9)))] := hD
      have hl : lv_has ls 6 [(0, .ref o), (1, .int (nI pn)), (2, .int (nI 2)), (5, .int (nI bb + (-1)))] := hl
      refine lv_iload hx hb dX4_root_79 (lv_at hl 3 rfl) ?_
      refine lv_if_lt (tgt := 139) hx hb dX4_root_81 (by decide) (fun c_81 => ?_) (fun c_81 => ?_)
      · skip
        have hb0 : bb = 0 := Nat.eq_zero_of_not_pos (fun h => absurd c_81 (by rw [sb_m1 h]; exact nI_pos (by have := hR9.1; omega)))
        refine lv_aload_n hx hb dX4_root_139 rfl (lv_at hl 0 rfl) ?_
        refine va_get (D := G.1) (ci := 4) (v := .ref (ad 21)) (C := RX4) (T := TX4) (N := 29) hx hb htu iwX4 hown hK.1 hP 0 rfl rfl 21 (by decide) (htu _ uF_X4_66) (fun _ h9 => h9) rfl dX4_root_140 ?_
        refine lv_iconst (v := nI 3) hx hb dX4_root_143 (by decide) ?_
        refine g_lald hx hb hK.1 hP 1 2 rfl rfl ⟨by omega, by decide⟩ dX4_root_144 ?_
        refine g_tol (y := lN (x 3)) (hR9.2.1 _ (by decide)) ?_
        refine lv_bipush (v := nI 48) hx hb dX4_root_145 (by decide) ?_
        refine lv_lshl (v := shlL (lN (x 3)) (nI 48)) hx hb dX4_root_147 rfl ?_
        refine g_tol (y := lN (x 3 * 2 ^ 48)) (wb_shl _ (by decide)) ?_
        refine lv_aload_n hx hb dX4_root_148 rfl (lv_at hl 0 rfl) ?_
        refine va_get (D := G.1) (ci := 4) (v := .ref (ad 21)) (C := RX4) (T := TX4) (N := 29) hx hb htu iwX4 hown hK.1 hP 0 rfl rfl 21 (by decide) (htu _ uF_X4_66) (fun _ h9 => h9) rfl dX4_root_149 ?_
        refine lv_iconst (v := nI 2) hx hb dX4_root_152 (by decide) ?_
        refine g_lald hx hb hK.1 hP 1 2 rfl rfl ⟨by omega, by decide⟩ dX4_root_153 ?_
        refine g_tol (y := lN (x 2)) (hR9.2.1 _ (by decide)) ?_
        refine lv_bipush (v := nI 32) hx hb dX4_root_154 (by decide) ?_
        refine lv_lshl (v := shlL (lN (x 2)) (nI 32)) hx hb dX4_root_156 rfl ?_
        refine g_tol (y := lN (x 2 * 2 ^ 32)) (wb_shl _ (by decide)) ?_
        refine lv_lor hx hb dX4_root_157 ?_
        refine lv_aload_n hx hb dX4_root_158 rfl (lv_at hl 0 rfl) ?_
        refine va_get (D := G.1) (ci := 4) (v := .ref (ad 21)) (C := RX4) (T := TX4) (N := 29) hx hb htu iwX4 hown hK.1 hP 0 rfl rfl 21 (by decide) (htu _ uF_X4_66) (fun _ h9 => h9) rfl dX4_root_159 ?_
        refine lv_iconst (v := nI 1) hx hb dX4_root_162 (by decide) ?_
        refine g_lald hx hb hK.1 hP 1 2 rfl rfl ⟨by omega, by decide⟩ dX4_root_163 ?_
        refine g_tol (y := lN (x 1)) (hR9.2.1 _ (by decide)) ?_
        refine lv_bipush (v := nI 16) hx hb dX4_root_164 (by decide) ?_
        refine lv_lshl (v := shlL (lN (x 1)) (nI 16)) hx hb dX4_root_166 rfl ?_
        refine g_tol (y := lN (x 1 * 2 ^ 16)) (wb_shl _ (by decide)) ?_
        refine lv_lor hx hb dX4_root_167 ?_
        refine lv_aload_n hx hb dX4_root_168 rfl (lv_at hl 0 rfl) ?_
        refine va_get (D := G.1) (ci := 4) (v := .ref (ad 21)) (C := RX4) (T := TX4) (N := 29) hx hb htu iwX4 hown hK.1 hP 0 rfl rfl 21 (by decide) (htu _ uF_X4_66) (fun _ h9 => h9) rfl dX4_root_169 ?_
        refine lv_iconst (v := nI 0) hx hb dX4_root_172 (by decide) ?_
        refine g_lald hx hb hK.1 hP 1 2 rfl rfl ⟨by omega, by decide⟩ dX4_root_173 ?_
        refine g_tol (y := lN (x 0)) (hR9.2.1 _ (by decide)) ?_
        refine lv_lor hx hb dX4_root_174 ?_
        exact gret_l hx hb hr hlk dX4_root_175 hS (g, q, v9) (hP.sub [0, 1, 2, 3] rfl) (hD.sub [0, 1, 2, 3] (by decide) rfl) (show (((lN (x 3 * 2 ^ 48)) ||| (lN (x 2 * 2 ^ 32))) ||| (lN (x 1 * 2 ^ 16))) ||| (lN (x 0)) = lN (gr (ok2 pn) 64 (wh2 pn * 2 ^ 64)) from by subst hb0; exact hR9.done)
      · skip
        have hb1 : 0 < bb := Nat.pos_of_ne_zero (fun h => c_81 (by rw [h]; decide))
        obtain ⟨d, rfl⟩ : ∃ d, bb = d + 1 := ⟨bb - 1, by omega⟩
        have hd64 : d < 64 := hR9.1
        refine lv_aload_n hx hb dX4_root_84 rfl (lv_at hl 0 rfl) ?_
        refine va_get (D := G.1) (ci := 4) (v := .ref (ad 21)) (C := RX4) (T := TX4) (N := 29) hx hb htu iwX4 hown hK.1 hP 0 rfl rfl 21 (by decide) (htu _ uF_X4_66) (fun _ h9 => h9) rfl dX4_root_85 ?_
        refine lv_iload hx hb dX4_root_88 (lv_at hl 3 rfl) ?_
        refine g_toi (y := nI d) (pk_m1 d) ?_
        refine lv_bipush (v := nI 16) hx hb dX4_root_90 (by decide) ?_
        refine lv_idiv hx hb dX4_root_92 (by decide) ?_
        refine g_toi (y := nI (d / 16)) (pk_div (by omega) (by decide) (by decide)) ?_
        refine lv_dup2_11 hx hb dX4_root_93 rfl rfl ?_
        refine g_lald hx hb hK.1 hP 1 2 rfl rfl ⟨by omega, by decide⟩ dX4_root_94 ?_
        refine g_tol (y := lN (x (d / 16))) (hR9.2.1 _ (by omega)) ?_
        refine lv_lconst (v := 1) hx hb dX4_root_95 (by decide) ?_
        refine lv_iload hx hb dX4_root_96 (lv_at hl 3 rfl) ?_
        refine g_toi (y := nI d) (pk_m1 d) ?_
        refine lv_bipush (v := nI 16) hx hb dX4_root_98 (by decide) ?_
        refine lv_irem hx hb dX4_root_100 (by decide) ?_
        refine g_toi (y := nI (d % 16)) (pk_rem (by omega) (by decide) (by decide)) ?_
        refine lv_lshl (v := shlL 1 (nI (d % 16))) hx hb dX4_root_101 rfl ?_
        refine g_tol (y := lN (2 ^ (d % 16))) (lsh1 d) ?_
        refine lv_ladd hx hb dX4_root_102 ?_
        refine g_tol (y := lN (x (d / 16) + 2 ^ (d % 16))) (lN_add _ _) ?_
        refine g_last hx hb hK.1 hP hD hS 1 2 rfl rfl ⟨by omega, by decide⟩ dX4_root_103 (fun H locs hP hD hS => ?_)
        obtain ⟨g_2, eg_2⟩ : ∃ gq9 : Nat → Int64, gq9 = vp_updL g (d / 16) (lN (x (d / 16) + 2 ^ (d % 16))) := ⟨_, rfl⟩
        rw [← eg_2] at hP hD
        have hP : va_P G.1 vwCl [(o, .inr (4, mF ad sz1 osz th hsz)), (ad 21, .inl (G.2.1 2, 6, .inr (.inl g_2))), (ad 22, .inl (G.2.1 2, 12, .inr (.inl q))), (ad 23, .inl (G.2.1 2, 18, .inr (.inl v9)))] H := hP
        have hD : va_D A [(o, .inr (4, mF ad sz1 osz th hsz)), (ad 21, .inl (G.2.1 2, 6, .inr (.inl g_2))), (ad 22, .inl (G.2.1 2, 12, .inr (.inl q))), (ad 23, .inl (G.2.1 2, 18, .inr (.inl v9)))] := hD
        refine lv_aload_n hx hb dX4_root_104 rfl (lv_at hl 0 rfl) ?_
        refine lv_iload_n hx hb dX4_root_105 rfl (lv_at hl 1 rfl) ?_
        refine lv_iload_n hx hb dX4_root_106 rfl (lv_at hl 2 rfl) ?_
        refine g_calli (g_runV (As := [.int (nI pn), .int (nI 2)]) (rest := []) ⟨hx, hb, hml, hown, htu⟩ (c_X4_isAtMost2 l G _ o ad sz1 osz th hsz pn g_2 q v9 (nu x (d / 16) (x (d / 16) + 2 ^ (d % 16))) (by omega) (hR9.2.1.up eg_2) hR9.fig) uM_X4_108 ok_X4_isAtMost in_X4_isAtMost rfl rfl ⟨Nat.le_of_ble_eq_true rfl, Nat.le_of_ble_eq_true rfl⟩ hK hP hD hS hA hZ [0, 1, 2, 3] rfl rfl 0 rfl rfl rfl rfl hl.1 rfl (Nat.le_of_ble_eq_true rfl) dX4_root_107 ⟨Nat.le_of_ble_eq_true rfl, Nat.le_of_ble_eq_true rfl⟩) hP hD hS hA [0, 1, 2, 3] rfl (fun r_3 u H locs hw_4 hP hD hS => ?_)
        obtain ⟨qf_5, wf_6⟩ := u
        have hw_4 : r_3 = bI (ok2 pn (dv (nu x (d / 16) (x (d / 16) + 2 ^ (d % 16))) 5)) := hw_4
        subst hw_4
        have hP : va_P G.1 vwCl [(o, .inr (4, mF ad sz1 osz th hsz)), (ad 21, .inl (G.2.1 2, 6, .inr (.inl g_2))), (ad 22, .inl (G.2.1 2, 12, .inr (.inl qf_5))), (ad 23, .inl (G.2.1 2, 18, .inr (.inl wf_6)))] H := hP
        have hD : va_D A [(o, .inr (4, mF ad sz1 osz th hsz)), (ad 21, .inl (G.2.1 2, 6, .inr (.inl g_2))), (ad 22, .inl (G.2.1 2, 12, .inr (.inl qf_5))), (ad 23, .inl (G.2.1 2, 18, .inr (.inl wf_6)))] := hD
        refine lv_if_ne (tgt := 133) hx hb dX4_root_110 (by decide) (fun c_110 => ?_) (fun c_110 => ?_)
        · skip
          refine lv_iinc (v := nI d + (-1)) (lv' := [(5, .int (nI d + (-1))), (0, .ref o), (1, .int (nI pn)), (2, .int (nI 2))]) hx hb dX4_root_133 hl (k := 3) rfl (by rw [pk_m1]; rfl) (by decide) rfl (fun ls hl => ?_)
          refine lv_goto (tgt := 79) hx hb dX4_root_136 (by decide) ?_
          exact ih_79 (d, g_2, nu x (d / 16) (x (d / 16) + 2 ^ (d % 16)), qf_5, wf_6) (show RtI (ok2 pn) (wh2 pn * 2 ^ 64) d (nu x (d / 16) (x (d / 16) + 2 ^ (d % 16))) g_2 from hR9.yes eg_2 (bI_t c_110)) (by show d < d + 1; omega) _ _ _ (hP.sub [0, 1, 2, 3] rfl) (hD.sub [0, 1, 2, 3] (by decide) rfl) hS (lv_sub hl [1, 2, 3, 0] rfl)
        · skip
          refine lv_aload_n hx hb dX4_root_113 rfl (lv_at hl 0 rfl) ?_
          refine va_get (D := G.1) (ci := 4) (v := .ref (ad 21)) (C := RX4) (T := TX4) (N := 29) hx hb htu iwX4 hown hK.1 hP 0 rfl rfl 21 (by decide) (htu _ uF_X4_66) (fun _ h9 => h9) rfl dX4_root_114 ?_
          refine lv_iload hx hb dX4_root_117 (lv_at hl 3 rfl) ?_
          refine g_toi (y := nI d) (pk_m1 d) ?_
          refine lv_bipush (v := nI 16) hx hb dX4_root_119 (by decide) ?_
          refine lv_idiv hx hb dX4_root_121 (by decide) ?_
          refine g_toi (y := nI (d / 16)) (pk_div (by omega) (by decide) (by decide)) ?_
          refine lv_dup2_11 hx hb dX4_root_122 rfl rfl ?_
          refine g_lald hx hb hK.1 hP 1 2 rfl rfl ⟨by omega, by decide⟩ dX4_root_123 ?_
          refine g_tol (y := lN (x (d / 16) + 2 ^ (d % 16))) (by rw [eg_2, pk_uLs]) ?_
          refine lv_lconst (v := 1) hx hb dX4_root_124 (by decide) ?_
          refine lv_iload hx hb dX4_root_125 (lv_at hl 3 rfl) ?_
          refine g_toi (y := nI d) (pk_m1 d) ?_
          refine lv_bipush (v := nI 16) hx hb dX4_root_127 (by decide) ?_
          refine lv_irem hx hb dX4_root_129 (by decide) ?_
          refine g_toi (y := nI (d % 16)) (pk_rem (by omega) (by decide) (by decide)) ?_
          refine lv_lshl (v := shlL 1 (nI (d % 16))) hx hb dX4_root_130 rfl ?_
          refine g_tol (y := lN (2 ^ (d % 16))) (lsh1 d) ?_
          refine lv_lsub hx hb dX4_root_131 ?_
          refine g_tol (y := lN (x (d / 16))) (by rw [lN_sub (by omega)]; congr 1; omega) ?_
          refine g_last hx hb hK.1 hP hD hS 1 2 rfl rfl ⟨by omega, by decide⟩ dX4_root_132 (fun H locs hP hD hS => ?_)
          obtain ⟨g_7, eg_7⟩ : ∃ gq9 : Nat → Int64, gq9 = vp_updL g_2 (d / 16) (lN (x (d / 16))) := ⟨_, rfl⟩
          rw [← eg_7] at hP hD
          have hP : va_P G.1 vwCl [(o, .inr (4, mF ad sz1 osz th hsz)), (ad 21, .inl (G.2.1 2, 6, .inr (.inl g_7))), (ad 22, .inl (G.2.1 2, 12, .inr (.inl qf_5))), (ad 23, .inl (G.2.1 2, 18, .inr (.inl wf_6)))] H := hP
          have hD : va_D A [(o, .inr (4, mF ad sz1 osz th hsz)), (ad 21, .inl (G.2.1 2, 6, .inr (.inl g_7))), (ad 22, .inl (G.2.1 2, 12, .inr (.inl qf_5))), (ad 23, .inl (G.2.1 2, 18, .inr (.inl wf_6)))] := hD
          refine lv_iinc (v := nI d + (-1)) (lv' := [(5, .int (nI d + (-1))), (0, .ref o), (1, .int (nI pn)), (2, .int (nI 2))]) hx hb dX4_root_133 hl (k := 3) rfl (by rw [pk_m1]; rfl) (by decide) rfl (fun ls hl => ?_)
          refine lv_goto (tgt := 79) hx hb dX4_root_136 (by decide) ?_
          exact ih_79 (d, g_7, x, qf_5, wf_6) (show RtI (ok2 pn) (wh2 pn * 2 ^ 64) d x g_7 from hR9.no eg_2 eg_7 (bI_f c_110)) (by show d < d + 1; omega) _ _ _ (hP.sub [0, 1, 2, 3] rfl) (hD.sub [0, 1, 2, 3] (by decide) rfl) hS (lv_sub hl [1, 2, 3, 0] rfl)
    · skip
      have hg2 : (w9 + 1) * (w9 + 1) ≤ pn := Nat.le_of_not_lt (fun h => c_38 ((cmpG (by have : (w9 + 1) * (w9 + 1) ≤ 9 * 9 := Nat.mul_le_mul (by omega) (by omega); omega) (by omega)).mpr h))
      refine lv_goto (tgt := 61) hx hb dX4_root_41 (by decide) ?_
      refine lv_lload_n hx hb dX4_root_61 rfl (lv_at hl 3 rfl) ?_
      refine lv_lconst (v := 1) hx hb dX4_root_62 (by decide) ?_
      refine lv_ladd hx hb dX4_root_63 ?_
      refine g_tol (y := lN (w9 + 1)) (lN_1 w9) ?_
      refine lv_lstore_n (lv' := [(3, .long (lN (w9 + 1))), (0, .ref o), (1, .int (nI pn)), (2, .int (nI 2))]) hx hb dX4_root_64 rfl hl (by decide) rfl (fun ls hl => ?_)
      refine lv_goto (tgt := 23) hx hb dX4_root_65 (by decide) ?_
      exact ih_23 (w9 + 1) (show (w9 + 1) ≤ wh2 pn ∧ (w9 + 1) ≤ 8 from ⟨(wh2_go hp hW.1).mp hg2, by have := (wh2_go hp hW.1).mp hg2; have := wh2_le pn; omega⟩) (by show 9 - (w9 + 1) < 9 - w9; omega) _ _ _ (hP.sub [0, 1, 2, 3] rfl) (hD.sub [0, 1, 2, 3] (by decide) rfl) hS (lv_sub hl [1, 2, 3, 0] rfl)
  · skip
    have hg : k < 6 := ge_f (n := 6) c_5 (by omega)
    refine lv_aload_n hx hb dX4_root_8 rfl (lv_at hl 0 rfl) ?_
    refine va_get (D := G.1) (ci := 4) (v := .ref (ad 21)) (C := RX4) (T := TX4) (N := 29) hx hb htu iwX4 hown hK.1 hP 0 rfl rfl 21 (by decide) (htu _ uF_X4_66) (fun _ h9 => h9) rfl dX4_root_9 ?_
    refine lv_iload_n hx hb dX4_root_12 rfl (lv_at hl 3 rfl) ?_
    refine lv_lconst (v := 0) hx hb dX4_root_13 (by decide) ?_
    refine g_last hx hb hK.1 hP hD hS 1 2 rfl rfl ⟨by omega, by decide⟩ dX4_root_14 (fun H locs hP hD hS => ?_)
    obtain ⟨g_8, eg_8⟩ : ∃ gq9 : Nat → Int64, gq9 = vp_updL g k 0 := ⟨_, rfl⟩
    rw [← eg_8] at hP hD
    have hP : va_P G.1 vwCl [(o, .inr (4, mF ad sz1 osz th hsz)), (ad 21, .inl (G.2.1 2, 6, .inr (.inl g_8))), (ad 22, .inl (G.2.1 2, 12, .inr (.inl qf))), (ad 23, .inl (G.2.1 2, 18, .inr (.inl wf)))] H := hP
    have hD : va_D A [(o, .inr (4, mF ad sz1 osz th hsz)), (ad 21, .inl (G.2.1 2, 6, .inr (.inl g_8))), (ad 22, .inl (G.2.1 2, 12, .inr (.inl qf))), (ad 23, .inl (G.2.1 2, 18, .inr (.inl wf)))] := hD
    refine lv_iinc (v := nI (k + 1)) (lv' := [(3, .int (nI (k + 1))), (0, .ref o), (1, .int (nI pn)), (2, .int (nI 2))]) hx hb dX4_root_15 hl (k := 3) rfl (nI_1 k) (by decide) rfl (fun ls hl => ?_)
    refine lv_goto (tgt := 2) hx hb dX4_root_18 (by decide) ?_
    exact ih_2 (k + 1, g_8) (show (k + 1) ≤ 6 ∧ ∀ j, j < (k + 1) → g_8 j = 0 from ⟨hg, fun j hj => clW hI.2 eg_8 j hj⟩) (by show 6 - (k + 1) < 6 - k; omega) _ _ _ (hP.sub [0, 1, 2, 3] rfl) (hD.sub [0, 1, 2, 3] (by decide) rfl) hS (lv_sub hl [1, 2, 3, 0] rfl)
set_option maxHeartbeats 4000000 in
set_option maxRecDepth 100000 in
theorem c_X4_root3 (l : Launch) (G : GW) (sz : Nat) (o : Nat) (ad : Nat → Nat) (sz1 : Int32) (osz : Int32) (th : Int32) (hsz : Int32) (pn : Nat) (xf : Nat → Int64) (qf : Nat → Int64) (wf : Nat → Int64) (hp : pn < 512) : Met l yX4_root (Cond.code yX4_root cX4_root 6 (some FieldType.long) :: UW) ({ frames := 2, cells := 0, slots := 0, locals := 45 } : Room) (va_Pc [.ref o, .int (nI pn), .int (nI 3)] (gPre G [(o, .inr (4, mF ad sz1 osz th hsz)), (ad 21, .inl (G.2.1 2, 6, .inr (.inl xf))), (ad 22, .inl (G.2.1 2, 12, .inr (.inl qf))), (ad 23, .inl (G.2.1 2, 18, .inr (.inl wf)))] sz)) (va_Ql (fun (r : Int64) (uq9 : (Nat → Int64) × (Nat → Int64) × (Nat → Int64)) => r = lN (gr (ok3 pn) 64 (wh3 pn * 2 ^ 64))) (fun u => gPost G (va_A [(o, .inr (4, mF ad sz1 osz th hsz)), (ad 21, .inl (G.2.1 2, 6, .inr (.inl xf))), (ad 22, .inl (G.2.1 2, 12, .inr (.inl qf))), (ad 23, .inl (G.2.1 2, 18, .inr (.inl wf)))] sz) ((fun (uq9 : (Nat → Int64) × (Nat → Int64) × (Nat → Int64)) => ([(o, .inr (4, mF ad sz1 osz th hsz)), (ad 21, .inl (G.2.1 2, 6, .inr (.inl uq9.1))), (ad 22, .inl (G.2.1 2, 12, .inr (.inl uq9.2.1))), (ad 23, .inl (G.2.1 2, 18, .inr (.inl uq9.2.2)))] : va_W)) u)) (va_A [(o, .inr (4, mF ad sz1 osz th hsz)), (ad 21, .inl (G.2.1 2, 6, .inr (.inl xf))), (ad 22, .inl (G.2.1 2, 12, .inr (.inl qf))), (ad 23, .inl (G.2.1 2, 18, .inr (.inl wf)))] sz)) 0 0 (va_A [(o, .inr (4, mF ad sz1 osz th hsz)), (ad 21, .inl (G.2.1 2, 6, .inr (.inl xf))), (ad 22, .inl (G.2.1 2, 12, .inr (.inl qf))), (ad 23, .inl (G.2.1 2, 18, .inr (.inl wf)))] sz) := by
  refine gM_of (Qf := fun A => va_Ql (fun (r : Int64) (uq9 : (Nat → Int64) × (Nat → Int64) × (Nat → Int64)) => r = lN (gr (ok3 pn) 64 (wh3 pn * 2 ^ 64))) (fun u => gPost G A ((fun (uq9 : (Nat → Int64) × (Nat → Int64) × (Nat → Int64)) => ([(o, .inr (4, mF ad sz1 osz th hsz)), (ad 21, .inl (G.2.1 2, 6, .inr (.inl uq9.1))), (ad 22, .inl (G.2.1 2, 12, .inr (.inl uq9.2.1))), (ad 23, .inl (G.2.1 2, 18, .inr (.inl uq9.2.2)))] : va_W)) u)) A) (by decide) (Nat.le_of_ble_eq_true rfl) ?_
  intro p e s m below meth c A ls hx hb hml hr hown htu hlk hnm hA hP hD hS hK hZ hl
  have hown : s.vm.findClass RX4 = some m.cls := hown
  have hl : lv_has ls 6 [(0, .ref o), (1, .int (nI pn)), (2, .int (nI 3))] := hl
  refine lv_iconst (v := nI 0) hx hb dX4_root_0 (by decide) ?_
  refine lv_istore_n (lv' := [(3, .int (nI 0)), (0, .ref o), (1, .int (nI pn)), (2, .int (nI 3))]) hx hb dX4_root_1 rfl hl (by decide) rfl (fun ls hl => ?_)
  refine g_loop (σ := Nat × (Nat → Int64)) (G := G) (fun xq9 : Nat × (Nat → Int64) => [(o, .inr (4, mF ad sz1 osz th hsz)), (ad 21, .inl (G.2.1 2, 6, .inr (.inl xq9.2))), (ad 22, .inl (G.2.1 2, 12, .inr (.inl qf))), (ad 23, .inl (G.2.1 2, 18, .inr (.inl wf)))]) (fun xq9 : Nat × (Nat → Int64) => [(0, .ref o), (1, .int (nI pn)), (2, .int (nI 3)), (3, .int (nI xq9.1))]) (fun xq9 : Nat × (Nat → Int64) => xq9.1 ≤ 6 ∧ ∀ j, j < xq9.1 → xq9.2 j = 0) (fun xq9 : Nat × (Nat → Int64) => 6 - xq9.1) ?_ (0, xf) (show 0 ≤ 6 ∧ ∀ j, j < 0 → xf j = 0 from ⟨Nat.zero_le _, fun _ h => absurd h (Nat.not_lt_zero _)⟩) (hP.sub [0, 1, 2, 3] rfl) (hD.sub [0, 1, 2, 3] (by decide) rfl) hS (lv_sub hl [1, 2, 3, 0] rfl)
  clear hP hD hS hl
  intro x hxI_2 ih_2 H locs ls hP hD hS hl
  obtain ⟨k, g⟩ := x
  have hI : k ≤ 6 ∧ ∀ j, j < k → g j = 0 := hxI_2
  have hP : va_P G.1 vwCl [(o, .inr (4, mF ad sz1 osz th hsz)), (ad 21, .inl (G.2.1 2, 6, .inr (.inl g))), (ad 22, .inl (G.2.1 2, 12, .inr (.inl qf))), (ad 23, .inl (G.2.1 2, 18, .inr (.inl wf)))] H := hP
  have hD : va_D A [(o, .inr (4, mF ad sz1 osz th hsz)), (ad 21, .inl (G.2.1 2, 6, .inr (.inl g))), (ad 22, .inl (G.2.1 2, 12, .inr (.inl qf))), (ad 23, .inl (G.2.1 2, 18, .inr (.inl wf)))] := hD
  have hl : lv_has ls 6 [(0, .ref o), (1, .int (nI pn)), (2, .int (nI 3)), (3, .int (nI k))] := hl
  refine lv_iload_n hx hb dX4_root_2 rfl (lv_at hl 3 rfl) ?_
  refine lv_bipush (v := nI 6) hx hb dX4_root_3 (by decide) ?_
  refine lv_icmp_ge (tgt := 21) hx hb dX4_root_5 (by decide) (fun c_5 => ?_) (fun c_5 => ?_)
  · skip
    have hg : 6 ≤ k := ge_t (n := 6) c_5 (by decide)
    refine lv_lconst (v := 0) hx hb dX4_root_21 (by decide) ?_
    refine g_tol (y := lN 0) (rfl) ?_
    refine lv_lstore_n (lv' := [(3, .long (lN 0)), (0, .ref o), (1, .int (nI pn)), (2, .int (nI 3))]) hx hb dX4_root_22 rfl hl (by decide) rfl (fun ls hl => ?_)
    refine g_loop (σ := Nat) (G := G) (fun xq9 : Nat => [(o, .inr (4, mF ad sz1 osz th hsz)), (ad 21, .inl (G.2.1 2, 6, .inr (.inl g))), (ad 22, .inl (G.2.1 2, 12, .inr (.inl qf))), (ad 23, .inl (G.2.1 2, 18, .inr (.inl wf)))]) (fun xq9 : Nat => [(0, .ref o), (1, .int (nI pn)), (2, .int (nI 3)), (3, .long (lN xq9))]) (fun xq9 : Nat => xq9 ≤ wh3 pn ∧ xq9 ≤ 8) (fun xq9 : Nat => 9 - xq9) ?_ 0 (show 0 ≤ wh3 pn ∧ 0 ≤ 8 from ⟨Nat.zero_le _, by decide⟩) (hP.sub [0, 1, 2, 3] rfl) (hD.sub [0, 1, 2, 3] (by decide) rfl) hS (lv_sub hl [1, 2, 3, 0] rfl)
    clear hP hD hS hl
    intro x hxI_23 ih_23 H locs ls hP hD hS hl
    obtain ⟨w9, rfl⟩ : ∃ z, z = x := ⟨_, rfl⟩
    have hW : w9 ≤ wh3 pn ∧ w9 ≤ 8 := hxI_23
    have hP : va_P G.1 vwCl [(o, .inr (4, mF ad sz1 osz th hsz)), (ad 21, .inl (G.2.1 2, 6, .inr (.inl g))), (ad 22, .inl (G.2.1 2, 12, .inr (.inl qf))), (ad 23, .inl (G.2.1 2, 18, .inr (.inl wf)))] H := hP
    have hD : va_D A [(o, .inr (4, mF ad sz1 osz th hsz)), (ad 21, .inl (G.2.1 2, 6, .inr (.inl g))), (ad 22, .inl (G.2.1 2, 12, .inr (.inl qf))), (ad 23, .inl (G.2.1 2, 18, .inr (.inl wf)))] := hD
    have hl : lv_has ls 6 [(0, .ref o), (1, .int (nI pn)), (2, .int (nI 3)), (3, .long (lN w9))] := hl
    refine lv_iload_n hx hb dX4_root_23 rfl (lv_at hl 2 rfl) ?_
    refine lv_iconst (v := nI 2) hx hb dX4_root_24 (by decide) ?_
    refine lv_icmp_ne (tgt := 44) hx hb dX4_root_25 (by decide) (fun _ => ?_) (fun c_25 => absurd c_25 (by decide))
    refine lv_lload_n hx hb dX4_root_44 rfl (lv_at hl 3 rfl) ?_
    refine lv_lconst (v := 1) hx hb dX4_root_45 (by decide) ?_
    refine lv_ladd hx hb dX4_root_46 ?_
    refine g_tol (y := lN (w9 + 1)) (lN_1 w9) ?_
    refine lv_lload_n hx hb dX4_root_47 rfl (lv_at hl 3 rfl) ?_
    refine lv_lconst (v := 1) hx hb dX4_root_48 (by decide) ?_
    refine lv_ladd hx hb dX4_root_49 ?_
    refine g_tol (y := lN (w9 + 1)) (lN_1 w9) ?_
    refine lv_lmul hx hb dX4_root_50 ?_
    refine g_tol (y := lN ((w9 + 1) * (w9 + 1))) (lN_mul _ _) ?_
    refine lv_lload_n hx hb dX4_root_51 rfl (lv_at hl 3 rfl) ?_
    refine lv_lconst (v := 1) hx hb dX4_root_52 (by decide) ?_
    refine lv_ladd hx hb dX4_root_53 ?_
    refine g_tol (y := lN (w9 + 1)) (lN_1 w9) ?_
    refine lv_lmul hx hb dX4_root_54 ?_
    refine g_tol (y := lN ((w9 + 1) * (w9 + 1) * (w9 + 1))) (lN_mul _ _) ?_
    refine lv_iload_n hx hb dX4_root_55 rfl (lv_at hl 1 rfl) ?_
    refine lv_i2l (v := Int32.toInt64 (nI pn)) hx hb dX4_root_56 rfl ?_
    refine g_tol (y := lN pn) (nI_l (by omega)) ?_
    refine W.lcmp hx hb dX4_root_57 ?_
    refine lv_if_gt (tgt := 68) hx hb dX4_root_58 (by decide) (fun c_58 => ?_) (fun c_58 => ?_)
    · skip
      have hg2 : ¬ (w9 + 1) * (w9 + 1) * (w9 + 1) ≤ pn := Nat.not_le.mpr ((cmpG (by have : (w9 + 1) * (w9 + 1) * (w9 + 1) ≤ 9 * 9 * 9 := Nat.mul_le_mul (Nat.mul_le_mul (by omega) (by omega)) (by omega); omega) (by omega)).mp c_58)
      refine lv_aload_n hx hb dX4_root_68 rfl (lv_at hl 0 rfl) ?_
      refine va_get (D := G.1) (ci := 4) (v := .ref (ad 21)) (C := RX4) (T := TX4) (N := 29) hx hb htu iwX4 hown hK.1 hP 0 rfl rfl 21 (by decide) (htu _ uF_X4_66) (fun _ h9 => h9) rfl dX4_root_69 ?_
      refine lv_iconst (v := nI 4) hx hb dX4_root_72 (by decide) ?_
      refine lv_lload_n hx hb dX4_root_73 rfl (lv_at hl 3 rfl) ?_
      refine g_last hx hb hK.1 hP hD hS 1 2 rfl rfl ⟨by omega, by decide⟩ dX4_root_74 (fun H locs hP hD hS => ?_)
      obtain ⟨g_1, eg_1⟩ : ∃ gq9 : Nat → Int64, gq9 = vp_updL g 4 (lN w9) := ⟨_, rfl⟩
      rw [← eg_1] at hP hD
      have hP : va_P G.1 vwCl [(o, .inr (4, mF ad sz1 osz th hsz)), (ad 21, .inl (G.2.1 2, 6, .inr (.inl g_1))), (ad 22, .inl (G.2.1 2, 12, .inr (.inl qf))), (ad 23, .inl (G.2.1 2, 18, .inr (.inl wf)))] H := hP
      have hD : va_D A [(o, .inr (4, mF ad sz1 osz th hsz)), (ad 21, .inl (G.2.1 2, 6, .inr (.inl g_1))), (ad 22, .inl (G.2.1 2, 12, .inr (.inl qf))), (ad 23, .inl (G.2.1 2, 18, .inr (.inl wf)))] := hD
      refine lv_bipush (v := nI 63) hx hb dX4_root_75 (by decide) ?_
      refine g_toi (y := nI 64 + (-1)) (by decide) ?_
      refine lv_istore (lv' := [(5, .int (nI 64 + (-1))), (0, .ref o), (1, .int (nI pn)), (2, .int (nI 3)), (3, .long (lN w9))]) hx hb dX4_root_77 hl (by decide) rfl (fun ls hl => ?_)
      refine g_loop (σ := Nat × (Nat → Int64) × (Nat → Nat) × (Nat → Int64) × (Nat → Int64)) (G := G) (fun xq9 : Nat × (Nat → Int64) × (Nat → Nat) × (Nat → Int64) × (Nat → Int64) => [(o, .inr (4, mF ad sz1 osz th hsz)), (ad 21, .inl (G.2.1 2, 6, .inr (.inl xq9.2.1))), (ad 22, .inl (G.2.1 2, 12, .inr (.inl xq9.2.2.2.1))), (ad 23, .inl (G.2.1 2, 18, .inr (.inl xq9.2.2.2.2)))]) (fun xq9 : Nat × (Nat → Int64) × (Nat → Nat) × (Nat → Int64) × (Nat → Int64) => [(0, .ref o), (1, .int (nI pn)), (2, .int (nI 3)), (5, .int (nI xq9.1 + (-1)))]) (fun xq9 : Nat × (Nat → Int64) × (Nat → Nat) × (Nat → Int64) × (Nat → Int64) => RtI (ok3 pn) (wh3 pn * 2 ^ 64) xq9.1 xq9.2.2.1 xq9.2.1) (fun xq9 : Nat × (Nat → Int64) × (Nat → Nat) × (Nat → Int64) × (Nat → Int64) => xq9.1) ?_ (64, g_1, nu (fun _ => 0) 4 w9, qf, wf) (show RtI (ok3 pn) (wh3 pn * 2 ^ 64) 64 (nu (fun _ => 0) 4 w9) g_1 from RtI.start2 (Nat.le_antisymm hW.1 (Nat.le_of_not_lt (fun h => hg2 ((wh3_go hp hW.1).mpr h)))) (fun j hj => hI.2 j (Nat.lt_of_lt_of_le hj hg)) (Nat.lt_of_le_of_lt hW.2 (by decide)) eg_1) (hP.sub [0, 1, 2, 3] rfl) (hD.sub [0, 1, 2, 3] (by decide) rfl) hS (lv_sub hl [1, 2, 3, 0] rfl)
      clear hP hD hS hl
      intro x hxI_79 ih_79 H locs ls hP hD hS hl
      obtain ⟨bb, g, x, q, v9⟩ := x
      have hR9 : RtI (ok3 pn) (wh3 pn * 2 ^ 64) bb x g := hxI_79
      have hP : va_P G.1 vwCl [(o, .inr (4, mF ad sz1 osz th hsz)), (ad 21, .inl (G.2.1 2, 6, .inr (.inl g))), (ad 22, .inl (G.2.1 2, 12, .inr (.inl q))), (ad 23, .inl (G.2.1 2, 18, .inr (.inl v9)))] H := hP
      have hD : va_D A [(o, .inr (4, mF ad sz1 osz th hsz)), (ad 21, .inl (G.2.1 2, 6, .inr (.inl g))), (ad 22, .inl (G.2.1 2, 12, .inr (.inl q))), (ad 23, .inl (G.2.1 2, 18, .inr (.inl v9)))] := hD
      have hl : lv_has ls 6 [(0, .ref o), (1, .int (nI pn)), (2, .int (nI 3)), (5, .int (nI bb + (-1)))] := hl
      refine lv_iload hx hb dX4_root_79 (lv_at hl 3 rfl) ?_
      refine lv_if_lt (tgt := 139) hx hb dX4_root_81 (by decide) (fun c_81 => ?_) (fun c_81 => ?_)
      · skip
        have hb0 : bb = 0 := Nat.eq_zero_of_not_pos (fun h => absurd c_81 (by rw [sb_m1 h]; exact nI_pos (by have := hR9.1; omega)))
        refine lv_aload_n hx hb dX4_root_139 rfl (lv_at hl 0 rfl) ?_
        refine va_get (D := G.1) (ci := 4) (v := .ref (ad 21)) (C := RX4) (T := TX4) (N := 29) hx hb htu iwX4 hown hK.1 hP 0 rfl rfl 21 (by decide) (htu _ uF_X4_66) (fun _ h9 => h9) rfl dX4_root_140 ?_
        refine lv_iconst (v := nI 3) hx hb dX4_root_143 (by decide) ?_
        refine g_lald hx hb hK.1 hP 1 2 rfl rfl ⟨by omega, by decide⟩ dX4_root_144 ?_
        refine g_tol (y := lN (x 3)) (hR9.2.1 _ (by decide)) ?_
        refine lv_bipush (v := nI 48) hx hb dX4_root_145 (by decide) ?_
        refine lv_lshl (v := shlL (lN (x 3)) (nI 48)) hx hb dX4_root_147 rfl ?_
        refine g_tol (y := lN (x 3 * 2 ^ 48)) (wb_shl _ (by decide)) ?_
        refine lv_aload_n hx hb dX4_root_148 rfl (lv_at hl 0 rfl) ?_
        refine va_get (D := G.1) (ci := 4) (v := .ref (ad 21)) (C := RX4) (T := TX4) (N := 29) hx hb htu iwX4 hown hK.1 hP 0 rfl rfl 21 (by decide) (htu _ uF_X4_66) (fun _ h9 => h9) rfl dX4_root_149 ?_
        refine lv_iconst (v := nI 2) hx hb dX4_root_152 (by decide) ?_
        refine g_lald hx hb hK.1 hP 1 2 rfl rfl ⟨by omega, by decide⟩ dX4_root_153 ?_
        refine g_tol (y := lN (x 2)) (hR9.2.1 _ (by decide)) ?_
        refine lv_bipush (v := nI 32) hx hb dX4_root_154 (by decide) ?_
        refine lv_lshl (v := shlL (lN (x 2)) (nI 32)) hx hb dX4_root_156 rfl ?_
        refine g_tol (y := lN (x 2 * 2 ^ 32)) (wb_shl _ (by decide)) ?_
        refine lv_lor hx hb dX4_root_157 ?_
        refine lv_aload_n hx hb dX4_root_158 rfl (lv_at hl 0 rfl) ?_
        refine va_get (D := G.1) (ci := 4) (v := .ref (ad 21)) (C := RX4) (T := TX4) (N := 29) hx hb htu iwX4 hown hK.1 hP 0 rfl rfl 21 (by decide) (htu _ uF_X4_66) (fun _ h9 => h9) rfl dX4_root_159 ?_
        refine lv_iconst (v := nI 1) hx hb dX4_root_162 (by decide) ?_
        refine g_lald hx hb hK.1 hP 1 2 rfl rfl ⟨by omega, by decide⟩ dX4_root_163 ?_
        refine g_tol (y := lN (x 1)) (hR9.2.1 _ (by decide)) ?_
        refine lv_bipush (v := nI 16) hx hb dX4_root_164 (by decide) ?_
        refine lv_lshl (v := shlL (lN (x 1)) (nI 16)) hx hb dX4_root_166 rfl ?_
        refine g_tol (y := lN (x 1 * 2 ^ 16)) (wb_shl _ (by decide)) ?_
        refine lv_lor hx hb dX4_root_167 ?_
        refine lv_aload_n hx hb dX4_root_168 rfl (lv_at hl 0 rfl) ?_
        refine va_get (D := G.1) (ci := 4) (v := .ref (ad 21)) (C := RX4) (T := TX4) (N := 29) hx hb htu iwX4 hown hK.1 hP 0 rfl rfl 21 (by decide) (htu _ uF_X4_66) (fun _ h9 => h9) rfl dX4_root_169 ?_
        refine lv_iconst (v := nI 0) hx hb dX4_root_172 (by decide) ?_
        refine g_lald hx hb hK.1 hP 1 2 rfl rfl ⟨by omega, by decide⟩ dX4_root_173 ?_
        refine g_tol (y := lN (x 0)) (hR9.2.1 _ (by decide)) ?_
        refine lv_lor hx hb dX4_root_174 ?_
        exact gret_l hx hb hr hlk dX4_root_175 hS (g, q, v9) (hP.sub [0, 1, 2, 3] rfl) (hD.sub [0, 1, 2, 3] (by decide) rfl) (show (((lN (x 3 * 2 ^ 48)) ||| (lN (x 2 * 2 ^ 32))) ||| (lN (x 1 * 2 ^ 16))) ||| (lN (x 0)) = lN (gr (ok3 pn) 64 (wh3 pn * 2 ^ 64)) from by subst hb0; exact hR9.done)
      · skip
        have hb1 : 0 < bb := Nat.pos_of_ne_zero (fun h => c_81 (by rw [h]; decide))
        obtain ⟨d, rfl⟩ : ∃ d, bb = d + 1 := ⟨bb - 1, by omega⟩
        have hd64 : d < 64 := hR9.1
        refine lv_aload_n hx hb dX4_root_84 rfl (lv_at hl 0 rfl) ?_
        refine va_get (D := G.1) (ci := 4) (v := .ref (ad 21)) (C := RX4) (T := TX4) (N := 29) hx hb htu iwX4 hown hK.1 hP 0 rfl rfl 21 (by decide) (htu _ uF_X4_66) (fun _ h9 => h9) rfl dX4_root_85 ?_
        refine lv_iload hx hb dX4_root_88 (lv_at hl 3 rfl) ?_
        refine g_toi (y := nI d) (pk_m1 d) ?_
        refine lv_bipush (v := nI 16) hx hb dX4_root_90 (by decide) ?_
        refine lv_idiv hx hb dX4_root_92 (by decide) ?_
        refine g_toi (y := nI (d / 16)) (pk_div (by omega) (by decide) (by decide)) ?_
        refine lv_dup2_11 hx hb dX4_root_93 rfl rfl ?_
        refine g_lald hx hb hK.1 hP 1 2 rfl rfl ⟨by omega, by decide⟩ dX4_root_94 ?_
        refine g_tol (y := lN (x (d / 16))) (hR9.2.1 _ (by omega)) ?_
        refine lv_lconst (v := 1) hx hb dX4_root_95 (by decide) ?_
        refine lv_iload hx hb dX4_root_96 (lv_at hl 3 rfl) ?_
        refine g_toi (y := nI d) (pk_m1 d) ?_
        refine lv_bipush (v := nI 16) hx hb dX4_root_98 (by decide) ?_
        refine lv_irem hx hb dX4_root_100 (by decide) ?_
        refine g_toi (y := nI (d % 16)) (pk_rem (by omega) (by decide) (by decide)) ?_
        refine lv_lshl (v := shlL 1 (nI (d % 16))) hx hb dX4_root_101 rfl ?_
        refine g_tol (y := lN (2 ^ (d % 16))) (lsh1 d) ?_
        refine lv_ladd hx hb dX4_root_102 ?_
        refine g_tol (y := lN (x (d / 16) + 2 ^ (d % 16))) (lN_add _ _) ?_
        refine g_last hx hb hK.1 hP hD hS 1 2 rfl rfl ⟨by omega, by decide⟩ dX4_root_103 (fun H locs hP hD hS => ?_)
        obtain ⟨g_2, eg_2⟩ : ∃ gq9 : Nat → Int64, gq9 = vp_updL g (d / 16) (lN (x (d / 16) + 2 ^ (d % 16))) := ⟨_, rfl⟩
        rw [← eg_2] at hP hD
        have hP : va_P G.1 vwCl [(o, .inr (4, mF ad sz1 osz th hsz)), (ad 21, .inl (G.2.1 2, 6, .inr (.inl g_2))), (ad 22, .inl (G.2.1 2, 12, .inr (.inl q))), (ad 23, .inl (G.2.1 2, 18, .inr (.inl v9)))] H := hP
        have hD : va_D A [(o, .inr (4, mF ad sz1 osz th hsz)), (ad 21, .inl (G.2.1 2, 6, .inr (.inl g_2))), (ad 22, .inl (G.2.1 2, 12, .inr (.inl q))), (ad 23, .inl (G.2.1 2, 18, .inr (.inl v9)))] := hD
        refine lv_aload_n hx hb dX4_root_104 rfl (lv_at hl 0 rfl) ?_
        refine lv_iload_n hx hb dX4_root_105 rfl (lv_at hl 1 rfl) ?_
        refine lv_iload_n hx hb dX4_root_106 rfl (lv_at hl 2 rfl) ?_
        refine g_calli (g_runV (As := [.int (nI pn), .int (nI 3)]) (rest := []) ⟨hx, hb, hml, hown, htu⟩ (c_X4_isAtMost3 l G _ o ad sz1 osz th hsz pn g_2 q v9 (nu x (d / 16) (x (d / 16) + 2 ^ (d % 16))) (by omega) (hR9.2.1.up eg_2) hR9.fig) uM_X4_108 ok_X4_isAtMost in_X4_isAtMost rfl rfl ⟨Nat.le_of_ble_eq_true rfl, Nat.le_of_ble_eq_true rfl⟩ hK hP hD hS hA hZ [0, 1, 2, 3] rfl rfl 0 rfl rfl rfl rfl hl.1 rfl (Nat.le_of_ble_eq_true rfl) dX4_root_107 ⟨Nat.le_of_ble_eq_true rfl, Nat.le_of_ble_eq_true rfl⟩) hP hD hS hA [0, 1, 2, 3] rfl (fun r_3 u H locs hw_4 hP hD hS => ?_)
        obtain ⟨qf_5, wf_6⟩ := u
        have hw_4 : r_3 = bI (ok3 pn (dv (nu x (d / 16) (x (d / 16) + 2 ^ (d % 16))) 5)) := hw_4
        subst hw_4
        have hP : va_P G.1 vwCl [(o, .inr (4, mF ad sz1 osz th hsz)), (ad 21, .inl (G.2.1 2, 6, .inr (.inl g_2))), (ad 22, .inl (G.2.1 2, 12, .inr (.inl qf_5))), (ad 23, .inl (G.2.1 2, 18, .inr (.inl wf_6)))] H := hP
        have hD : va_D A [(o, .inr (4, mF ad sz1 osz th hsz)), (ad 21, .inl (G.2.1 2, 6, .inr (.inl g_2))), (ad 22, .inl (G.2.1 2, 12, .inr (.inl qf_5))), (ad 23, .inl (G.2.1 2, 18, .inr (.inl wf_6)))] := hD
        refine lv_if_ne (tgt := 133) hx hb dX4_root_110 (by decide) (fun c_110 => ?_) (fun c_110 => ?_)
        · skip
          refine lv_iinc (v := nI d + (-1)) (lv' := [(5, .int (nI d + (-1))), (0, .ref o), (1, .int (nI pn)), (2, .int (nI 3))]) hx hb dX4_root_133 hl (k := 3) rfl (by rw [pk_m1]; rfl) (by decide) rfl (fun ls hl => ?_)
          refine lv_goto (tgt := 79) hx hb dX4_root_136 (by decide) ?_
          exact ih_79 (d, g_2, nu x (d / 16) (x (d / 16) + 2 ^ (d % 16)), qf_5, wf_6) (show RtI (ok3 pn) (wh3 pn * 2 ^ 64) d (nu x (d / 16) (x (d / 16) + 2 ^ (d % 16))) g_2 from hR9.yes eg_2 (bI_t c_110)) (by show d < d + 1; omega) _ _ _ (hP.sub [0, 1, 2, 3] rfl) (hD.sub [0, 1, 2, 3] (by decide) rfl) hS (lv_sub hl [1, 2, 3, 0] rfl)
        · skip
          refine lv_aload_n hx hb dX4_root_113 rfl (lv_at hl 0 rfl) ?_
          refine va_get (D := G.1) (ci := 4) (v := .ref (ad 21)) (C := RX4) (T := TX4) (N := 29) hx hb htu iwX4 hown hK.1 hP 0 rfl rfl 21 (by decide) (htu _ uF_X4_66) (fun _ h9 => h9) rfl dX4_root_114 ?_
          refine lv_iload hx hb dX4_root_117 (lv_at hl 3 rfl) ?_
          refine g_toi (y := nI d) (pk_m1 d) ?_
          refine lv_bipush (v := nI 16) hx hb dX4_root_119 (by decide) ?_
          refine lv_idiv hx hb dX4_root_121 (by decide) ?_
          refine g_toi (y := nI (d / 16)) (pk_div (by omega) (by decide) (by decide)) ?_
          refine lv_dup2_11 hx hb dX4_root_122 rfl rfl ?_
          refine g_lald hx hb hK.1 hP 1 2 rfl rfl ⟨by omega, by decide⟩ dX4_root_123 ?_
          refine g_tol (y := lN (x (d / 16) + 2 ^ (d % 16))) (by rw [eg_2, pk_uLs]) ?_
          refine lv_lconst (v := 1) hx hb dX4_root_124 (by decide) ?_
          refine lv_iload hx hb dX4_root_125 (lv_at hl 3 rfl) ?_
          refine g_toi (y := nI d) (pk_m1 d) ?_
          refine lv_bipush (v := nI 16) hx hb dX4_root_127 (by decide) ?_
          refine lv_irem hx hb dX4_root_129 (by decide) ?_
          refine g_toi (y := nI (d % 16)) (pk_rem (by omega) (by decide) (by decide)) ?_
          refine lv_lshl (v := shlL 1 (nI (d % 16))) hx hb dX4_root_130 rfl ?_
          refine g_tol (y := lN (2 ^ (d % 16))) (lsh1 d) ?_
          refine lv_lsub hx hb dX4_root_131 ?_
          refine g_tol (y := lN (x (d / 16))) (by rw [lN_sub (by omega)]; congr 1; omega) ?_
          refine g_last hx hb hK.1 hP hD hS 1 2 rfl rfl ⟨by omega, by decide⟩ dX4_root_132 (fun H locs hP hD hS => ?_)
          obtain ⟨g_7, eg_7⟩ : ∃ gq9 : Nat → Int64, gq9 = vp_updL g_2 (d / 16) (lN (x (d / 16))) := ⟨_, rfl⟩
          rw [← eg_7] at hP hD
          have hP : va_P G.1 vwCl [(o, .inr (4, mF ad sz1 osz th hsz)), (ad 21, .inl (G.2.1 2, 6, .inr (.inl g_7))), (ad 22, .inl (G.2.1 2, 12, .inr (.inl qf_5))), (ad 23, .inl (G.2.1 2, 18, .inr (.inl wf_6)))] H := hP
          have hD : va_D A [(o, .inr (4, mF ad sz1 osz th hsz)), (ad 21, .inl (G.2.1 2, 6, .inr (.inl g_7))), (ad 22, .inl (G.2.1 2, 12, .inr (.inl qf_5))), (ad 23, .inl (G.2.1 2, 18, .inr (.inl wf_6)))] := hD
          refine lv_iinc (v := nI d + (-1)) (lv' := [(5, .int (nI d + (-1))), (0, .ref o), (1, .int (nI pn)), (2, .int (nI 3))]) hx hb dX4_root_133 hl (k := 3) rfl (by rw [pk_m1]; rfl) (by decide) rfl (fun ls hl => ?_)
          refine lv_goto (tgt := 79) hx hb dX4_root_136 (by decide) ?_
          exact ih_79 (d, g_7, x, qf_5, wf_6) (show RtI (ok3 pn) (wh3 pn * 2 ^ 64) d x g_7 from hR9.no eg_2 eg_7 (bI_f c_110)) (by show d < d + 1; omega) _ _ _ (hP.sub [0, 1, 2, 3] rfl) (hD.sub [0, 1, 2, 3] (by decide) rfl) hS (lv_sub hl [1, 2, 3, 0] rfl)
    · skip
      have hg2 : (w9 + 1) * (w9 + 1) * (w9 + 1) ≤ pn := Nat.le_of_not_lt (fun h => c_58 ((cmpG (by have : (w9 + 1) * (w9 + 1) * (w9 + 1) ≤ 9 * 9 * 9 := Nat.mul_le_mul (Nat.mul_le_mul (by omega) (by omega)) (by omega); omega) (by omega)).mpr h))
      refine lv_lload_n hx hb dX4_root_61 rfl (lv_at hl 3 rfl) ?_
      refine lv_lconst (v := 1) hx hb dX4_root_62 (by decide) ?_
      refine lv_ladd hx hb dX4_root_63 ?_
      refine g_tol (y := lN (w9 + 1)) (lN_1 w9) ?_
      refine lv_lstore_n (lv' := [(3, .long (lN (w9 + 1))), (0, .ref o), (1, .int (nI pn)), (2, .int (nI 3))]) hx hb dX4_root_64 rfl hl (by decide) rfl (fun ls hl => ?_)
      refine lv_goto (tgt := 23) hx hb dX4_root_65 (by decide) ?_
      exact ih_23 (w9 + 1) (show (w9 + 1) ≤ wh3 pn ∧ (w9 + 1) ≤ 8 from ⟨(wh3_go hp hW.1).mp hg2, by have := (wh3_go hp hW.1).mp hg2; have := wh3_le pn; omega⟩) (by show 9 - (w9 + 1) < 9 - w9; omega) _ _ _ (hP.sub [0, 1, 2, 3] rfl) (hD.sub [0, 1, 2, 3] (by decide) rfl) hS (lv_sub hl [1, 2, 3, 0] rfl)
  · skip
    have hg : k < 6 := ge_f (n := 6) c_5 (by omega)
    refine lv_aload_n hx hb dX4_root_8 rfl (lv_at hl 0 rfl) ?_
    refine va_get (D := G.1) (ci := 4) (v := .ref (ad 21)) (C := RX4) (T := TX4) (N := 29) hx hb htu iwX4 hown hK.1 hP 0 rfl rfl 21 (by decide) (htu _ uF_X4_66) (fun _ h9 => h9) rfl dX4_root_9 ?_
    refine lv_iload_n hx hb dX4_root_12 rfl (lv_at hl 3 rfl) ?_
    refine lv_lconst (v := 0) hx hb dX4_root_13 (by decide) ?_
    refine g_last hx hb hK.1 hP hD hS 1 2 rfl rfl ⟨by omega, by decide⟩ dX4_root_14 (fun H locs hP hD hS => ?_)
    obtain ⟨g_8, eg_8⟩ : ∃ gq9 : Nat → Int64, gq9 = vp_updL g k 0 := ⟨_, rfl⟩
    rw [← eg_8] at hP hD
    have hP : va_P G.1 vwCl [(o, .inr (4, mF ad sz1 osz th hsz)), (ad 21, .inl (G.2.1 2, 6, .inr (.inl g_8))), (ad 22, .inl (G.2.1 2, 12, .inr (.inl qf))), (ad 23, .inl (G.2.1 2, 18, .inr (.inl wf)))] H := hP
    have hD : va_D A [(o, .inr (4, mF ad sz1 osz th hsz)), (ad 21, .inl (G.2.1 2, 6, .inr (.inl g_8))), (ad 22, .inl (G.2.1 2, 12, .inr (.inl qf))), (ad 23, .inl (G.2.1 2, 18, .inr (.inl wf)))] := hD
    refine lv_iinc (v := nI (k + 1)) (lv' := [(3, .int (nI (k + 1))), (0, .ref o), (1, .int (nI pn)), (2, .int (nI 3))]) hx hb dX4_root_15 hl (k := 3) rfl (nI_1 k) (by decide) rfl (fun ls hl => ?_)
    refine lv_goto (tgt := 2) hx hb dX4_root_18 (by decide) ?_
    exact ih_2 (k + 1, g_8) (show (k + 1) ≤ 6 ∧ ∀ j, j < (k + 1) → g_8 j = 0 from ⟨hg, fun j hj => clW hI.2 eg_8 j hj⟩) (by show 6 - (k + 1) < 6 - k; omega) _ _ _ (hP.sub [0, 1, 2, 3] rfl) (hD.sub [0, 1, 2, 3] (by decide) rfl) hS (lv_sub hl [1, 2, 3, 0] rfl)
