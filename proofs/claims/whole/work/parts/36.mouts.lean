/-! outs, isOut of the reference -/
theorem i64_add (i : Int32) {j : Nat} (hj : j < 8) : (Int32.toInt64 i + Int32.toInt64 (nI j)).toInt = i.toInt + j := by
  rw [nI_l (by omega)]
  have h1 : (Int32.toInt64 i).toInt = i.toInt := Int32.toInt_toInt64 i
  have h2 : (lN j).toInt = (j : Int) := lN_toInt (by omega)
  rw [Int64.toInt_add, h1, h2]
  have a := Int32.le_toInt i
  have b := Int32.toInt_lt i
  rw [Int.bmod_eq_of_le (by omega) (by omega)]
theorem outs_in {uf : Nat → Int32} {z j : Nat} {q : List Nat} {i : Int32} (hT : OutR uf z q) (hj : j < 8) (c1 : ¬ lg_cmp (Int32.toInt64 i + Int32.toInt64 (nI j)) 0 < 0) (c2 : ¬ 0 ≤ lg_cmp (Int32.toInt64 i + Int32.toInt64 (nI j)) (lN z)) : ∃ j2 : Nat, j2 < z ∧ Int64.toInt32 (Int32.toInt64 i + Int32.toInt64 (nI j)) = nI j2 ∧ i + nI j = nI j2 := by
  rw [lg_cmp_lt] at c1
  rw [lg_cmp_ge] at c2
  have hz := hT.2.1
  have h0 : 0 ≤ i.toInt + j := by
    have := Int64.not_lt.mp c1
    rw [Int64.le_iff_toInt_le, i64_add i hj] at this
    simpa using this
  have h1 : i.toInt + j < z := by
    have := Int64.not_le.mp c2
    rw [Int64.lt_iff_toInt_lt, i64_add i hj, lN_toInt (by omega)] at this
    exact this
  obtain ⟨m, hm⟩ : ∃ m : Nat, i.toInt + j = m := ⟨(i.toInt + j).toNat, by omega⟩
  have hs : i + nI j = nI m := by
    apply Int32.toInt_inj.mp
    rw [Int32.toInt_add, nI_toInt (by omega), nI_toInt (by omega), Int.bmod_eq_of_le (by omega) (by omega)]
    exact hm
  refine ⟨m, by omega, ?_, hs⟩
  apply Int32.toInt_inj.mp
  rw [Int64.toInt_toInt32, i64_add i hj, nI_toInt (by omega), hm]
  exact Int.bmod_eq_of_le (by omega) (by omega)
theorem outs_i {uf : Nat → Int32} {z j m : Nat} {q : List Nat} {i : Int32} (hT : OutR uf z q) (e : i + nI j = nI m) (hm : m < z) : shlL (outsQ q i j) 8 ||| Int32.toInt64 (uf m) = outsQ q i (j + 1) := by
  have hz := hT.2.1
  have hq := hT.1
  rw [outsQ, e, rowAtZ_nI (by omega) (by omega) hT.2.2.1, hT.2.2.2 m (by omega)]
theorem outs_o {uf : Nat → Int32} {z j : Nat} {q : List Nat} {i : Int32} (hT : OutR uf z q) (hj : j < 8) (c : lg_cmp (Int32.toInt64 i + Int32.toInt64 (nI j)) 0 < 0 ∨ 0 ≤ lg_cmp (Int32.toInt64 i + Int32.toInt64 (nI j)) (lN z)) : shlL (outsQ q i j) 8 ||| Int32.toInt64 (nI 0) = outsQ q i (j + 1) := by
  have hz := hT.2.1
  have hq := hT.1
  rw [outsQ]
  have h0 : rowAtZ q (i + nI j) = nI 0 := by
    rw [lg_cmp_lt, lg_cmp_ge] at c
    have a := Int32.le_toInt i
    have b := Int32.toInt_lt i
    have hs : (i + nI j).toInt = (i.toInt + j).bmod (2 ^ 32) := by rw [Int32.toInt_add, nI_toInt (by omega)]
    have key : (i + nI j) < 0 ∨ nI q.length ≤ i + nI j := by
      rcases c with c | c
      · left
        rw [Int64.lt_iff_toInt_lt, i64_add i hj] at c
        have c' : i.toInt + j < 0 := by simpa using c
        rw [Int32.lt_iff_toInt_lt, hs, Int.bmod_eq_of_le (by omega) (by omega)]
        simpa using c'
      · rw [Int64.le_iff_toInt_le, i64_add i hj, lN_toInt (by omega)] at c
        rcases Int.lt_or_le (i.toInt + j) (2 ^ 31) with d | d
        · right
          rw [Int32.le_iff_toInt_le, hs, nI_toInt (by omega), Int.bmod_eq_of_le (by omega) (by omega)]
          omega
        · left
          rw [Int32.lt_iff_toInt_lt, hs]
          have e2 : (i.toInt + j).bmod (2 ^ 32) = i.toInt + j - 2 ^ 32 := by
            rw [Int.bmod_def]
            split <;> omega
          rw [e2]
          show _ < (0 : Int)
          omega
    unfold rowAtZ rowAt
    rcases key with d | d
    · rw [if_pos d]; rfl
    · by_cases g : i + nI j < 0
      · rw [if_pos g]; rfl
      · rw [if_neg g, if_pos d]; rfl
  rw [h0]
theorem isz {i z y : Nat} {sm : Int32} {tp uf : Nat → Int32} (hI : i ≤ z ∧ (sm = nI 0 ∨ sm = nI 1) ∧ (sm = nI 1 → z = y ∧ ∀ x, x < i → tp x = uf x) ∧ (sm = nI 0 → ¬ (z = y ∧ ∀ x, x < z → tp x = uf x))) (_ : i < z) (c : ¬ sm = 0) : z = y := (hI.2.2.1 (hI.2.1.elim (fun h => absurd h c) id)).1
theorem isU {i z y : Nat} {sm s2 : Int32} {tp uf : Nat → Int32} (hI : i ≤ z ∧ (sm = nI 0 ∨ sm = nI 1) ∧ (sm = nI 1 → z = y ∧ ∀ x, x < i → tp x = uf x) ∧ (sm = nI 0 → ¬ (z = y ∧ ∀ x, x < z → tp x = uf x))) (hi : i < z) (c : ¬ sm = 0) (h : (s2 = nI 0 ∧ ¬ tp i = uf i) ∨ (s2 = nI 1 ∧ tp i = uf i)) : i + 1 ≤ z ∧ (s2 = nI 0 ∨ s2 = nI 1) ∧ (s2 = nI 1 → z = y ∧ ∀ x, x < i + 1 → tp x = uf x) ∧ (s2 = nI 0 → ¬ (z = y ∧ ∀ x, x < z → tp x = uf x)) := by
  have h1 := hI.2.2.1 (hI.2.1.elim (fun h => absurd h c) id)
  rcases h with ⟨rfl, h⟩ | ⟨rfl, h⟩
  · exact ⟨hi, Or.inl rfl, fun e => absurd e (by decide), fun _ g => h (g.2 i hi)⟩
  · refine ⟨hi, Or.inr rfl, fun _ => ⟨h1.1, fun x hx => ?_⟩, fun e => absurd e (by decide)⟩
    rcases Nat.lt_or_ge x i with d | d
    · exact h1.2 x d
    · rw [show x = i by omega]; exact h
theorem isE {i z y : Nat} {sm : Int32} {tp uf : Nat → Int32} {q q2 : List Nat} (hT : TapeR tp z q) (hO : OutR uf y q2) (hI : i ≤ z ∧ (sm = nI 0 ∨ sm = nI 1) ∧ (sm = nI 1 → z = y ∧ ∀ x, x < i → tp x = uf x) ∧ (sm = nI 0 → ¬ (z = y ∧ ∀ x, x < z → tp x = uf x))) (h : z ≤ i ∨ sm = 0) : sm = if q2 = q then 1 else 0 := by
  have e : q2 = q ↔ (z = y ∧ ∀ x, x < z → tp x = uf x) := by
    constructor
    · rintro rfl
      exact ⟨hT.1.trans hO.1.symm, fun x hx => (hT.2.2.2 x (hT.1 ▸ hx)).trans (hO.2.2.2 x (hT.1 ▸ hx)).symm⟩
    · rintro ⟨h1, h2⟩
      have a := hT.1
      have b := hO.1
      apply List.ext_getElem
      · omega
      · intro x x1 x2
        have g := h2 x (by omega)
        rw [hT.2.2.2 x x2, hO.2.2.2 x x1] at g
        have g2 := (nI_eq (Nat.lt_trans (getD_lt hT.2.2.1 x) (by decide)) (Nat.lt_trans (getD_lt hO.2.2.1 x) (by decide))).mp g
        rw [List.getD_eq_getElem?_getD, List.getD_eq_getElem?_getD, List.getElem?_eq_getElem x1, List.getElem?_eq_getElem x2] at g2
        exact g2.symm
  rcases hI.2.1 with r | r
  · rw [if_neg (fun g => hI.2.2.2 r (e.mp g)), r]; rfl
  · have hz : z ≤ i := h.elim id (fun g => absurd (r.symm.trans g) (by decide))
    rw [if_pos (e.mpr ⟨(hI.2.2.1 r).1, fun x hx => (hI.2.2.1 r).2 x (by omega)⟩), r]; rfl
set_option maxHeartbeats 4000000 in
set_option maxRecDepth 100000 in
theorem c_X4_outs (l : Launch) (G : GW) (sz : Nat) (o : Nat) (ad : Nat → Nat) (sz1 : Int32) (th : Int32) (hsz : Int32) (z : Nat) (i : Int32) (uf : Nat → Int32) (q : List Nat) (hT : OutR uf z q) : Met l yX4_outs (Cond.code yX4_outs cX4_outs 7 (some FieldType.long) :: UW) ({ frames := 0, cells := 0, slots := 0, locals := 0 } : Room) (va_Pc [.ref o, .int i] (gPre G [(o, .inr (4, mF ad sz1 (nI z) th hsz)), (ad 16, .inl (G.2.1 1, 16320, .inl uf))] sz)) (va_Ql (fun (r : Int64) (_ : Unit) => r = outsQ q i 8) (fun u => gPost G (va_A [(o, .inr (4, mF ad sz1 (nI z) th hsz)), (ad 16, .inl (G.2.1 1, 16320, .inl uf))] sz) ((fun (_ : Unit) => ([(o, .inr (4, mF ad sz1 (nI z) (nI 0) hsz)), (ad 16, .inl (G.2.1 1, 16320, .inl uf))] : va_W)) u)) (va_A [(o, .inr (4, mF ad sz1 (nI z) th hsz)), (ad 16, .inl (G.2.1 1, 16320, .inl uf))] sz)) 0 0 (va_A [(o, .inr (4, mF ad sz1 (nI z) th hsz)), (ad 16, .inl (G.2.1 1, 16320, .inl uf))] sz) := by
  refine gM_of (Qf := fun A => va_Ql (fun (r : Int64) (_ : Unit) => r = outsQ q i 8) (fun u => gPost G A ((fun (_ : Unit) => ([(o, .inr (4, mF ad sz1 (nI z) (nI 0) hsz)), (ad 16, .inl (G.2.1 1, 16320, .inl uf))] : va_W)) u)) A) (by decide) (Nat.le_of_ble_eq_true rfl) ?_
  intro p e s m below meth c A ls hx hb hml hr hown htu hlk hnm hA hP hD hS hK hZ hl
  have hown : s.vm.findClass RX4 = some m.cls := hown
  have hl : lv_has ls 7 [(0, .ref o), (1, .int i)] := hl
  refine lv_aload_n hx hb dX4_outs_0 rfl (lv_at hl 0 rfl) ?_
  refine lv_iconst (v := nI 0) hx hb dX4_outs_1 (by decide) ?_
  refine va_put (D := G.1) (ci := 4) (v := .int (nI 0)) (ty := .int) (C := RX4) (T := TX4) (N := 29) hx hb htu iwX4 tyX4 tyX4_ok nmX4 hown hK.1 hP hD hS 0 rfl rfl 20 (by decide) (htu _ uF_X4_95) (fun _ h9 => h9) rfl (by decide +kernel) rfl rfl (Nat.le_of_ble_eq_true rfl) dX4_outs_2 (fun H locs hP hD hS => ?_)
  have hP : va_P G.1 vwCl [(o, .inr (4, mF ad sz1 (nI z) (nI 0) hsz)), (ad 16, .inl (G.2.1 1, 16320, .inl uf))] H := hP
  have hD : va_D A [(o, .inr (4, mF ad sz1 (nI z) (nI 0) hsz)), (ad 16, .inl (G.2.1 1, 16320, .inl uf))] := hD
  refine lv_lconst (v := 0) hx hb dX4_outs_5 (by decide) ?_
  refine lv_lstore_n (lv' := [(2, .long 0), (0, .ref o), (1, .int i)]) hx hb dX4_outs_6 rfl hl (by decide) rfl (fun ls hl => ?_)
  refine lv_iconst (v := nI 0) hx hb dX4_outs_7 (by decide) ?_
  refine lv_istore (lv' := [(4, .int (nI 0)), (2, .long 0), (0, .ref o), (1, .int i)]) hx hb dX4_outs_8 hl (by decide) rfl (fun ls hl => ?_)
  refine g_loop (σ := Nat × Int64) (G := G) (fun xq9 : Nat × Int64 => [(o, .inr (4, mF ad sz1 (nI z) (nI 0) hsz)), (ad 16, .inl (G.2.1 1, 16320, .inl uf))]) (fun xq9 : Nat × Int64 => [(0, .ref o), (1, .int i), (2, .long xq9.2), (4, .int (nI xq9.1))]) (fun xq9 : Nat × Int64 => xq9.1 ≤ 8 ∧ xq9.2 = outsQ q i xq9.1) (fun xq9 : Nat × Int64 => 8 - xq9.1) ?_ (0, 0) (show 0 ≤ 8 ∧ 0 = outsQ q i 0 from ⟨Nat.zero_le _, rfl⟩) (hP.sub [0, 1] rfl) (hD.sub [0, 1] (by decide) rfl) hS (lv_sub hl [2, 3, 1, 0] rfl)
  clear hP hD hS hl
  intro x hxI_10 ih_10 H locs ls hP hD hS hl
  obtain ⟨j, acc⟩ := x
  have hI : j ≤ 8 ∧ acc = outsQ q i j := hxI_10
  have hP : va_P G.1 vwCl [(o, .inr (4, mF ad sz1 (nI z) (nI 0) hsz)), (ad 16, .inl (G.2.1 1, 16320, .inl uf))] H := hP
  have hD : va_D A [(o, .inr (4, mF ad sz1 (nI z) (nI 0) hsz)), (ad 16, .inl (G.2.1 1, 16320, .inl uf))] := hD
  have hl : lv_has ls 7 [(0, .ref o), (1, .int i), (2, .long acc), (4, .int (nI j))] := hl
  refine lv_iload hx hb dX4_outs_10 (lv_at hl 3 rfl) ?_
  refine lv_bipush (v := nI 8) hx hb dX4_outs_12 (by decide) ?_
  refine lv_icmp_ge (tgt := 68) hx hb dX4_outs_14 (by decide) (fun c_14 => ?_) (fun c_14 => ?_)
  · skip
    have hg : 8 ≤ j := ge_t (n := 8) c_14 (by decide)
    refine lv_lload_n hx hb dX4_outs_68 rfl (lv_at hl 2 rfl) ?_
    exact gret_l hx hb hr hlk dX4_outs_69 hS () (hP.sub [0, 1] rfl) (hD.sub [0, 1] (by decide) rfl) (by rw [hI.2, show j = 8 by have := hI.1; omega])
  · skip
    have hg : j < 8 := ge_f (n := 8) c_14 (by omega)
    refine lv_iload_n hx hb dX4_outs_17 rfl (lv_at hl 1 rfl) ?_
    refine lv_i2l (v := Int32.toInt64 i) hx hb dX4_outs_18 rfl ?_
    refine lv_iload hx hb dX4_outs_19 (lv_at hl 3 rfl) ?_
    refine lv_i2l (v := Int32.toInt64 (nI j)) hx hb dX4_outs_21 rfl ?_
    refine lv_ladd hx hb dX4_outs_22 ?_
    refine lv_lstore (lv' := [(5, .long ((Int32.toInt64 i) + (Int32.toInt64 (nI j)))), (0, .ref o), (1, .int i), (2, .long acc), (4, .int (nI j))]) hx hb dX4_outs_23 hl (by decide) rfl (fun ls hl => ?_)
    refine lv_lload_n hx hb dX4_outs_25 rfl (lv_at hl 3 rfl) ?_
    refine lv_bipush (v := nI 8) hx hb dX4_outs_26 (by decide) ?_
    refine g_toi (y := 8) (rfl) ?_
    refine lv_lshl (v := shlL acc 8) hx hb dX4_outs_28 rfl ?_
    refine lv_lload hx hb dX4_outs_29 (lv_at hl 0 rfl) ?_
    refine lv_lconst (v := 0) hx hb dX4_outs_31 (by decide) ?_
    refine W.lcmp hx hb dX4_outs_32 ?_
    refine lv_if_lt (tgt := 58) hx hb dX4_outs_33 (by decide) (fun c_33 => ?_) (fun c_33 => ?_)
    · skip
      refine lv_iconst (v := nI 0) hx hb dX4_outs_58 (by decide) ?_
      refine lv_i2l (v := Int32.toInt64 (nI 0)) hx hb dX4_outs_59 rfl ?_
      refine lv_lor hx hb dX4_outs_60 ?_
      refine lv_topl (fun v_1 ev_1 => ?_)
      refine lv_lstore_n (lv' := [(2, .long v_1), (5, .long ((Int32.toInt64 i) + (Int32.toInt64 (nI j)))), (0, .ref o), (1, .int i), (4, .int (nI j))]) hx hb dX4_outs_61 rfl hl (by decide) rfl (fun ls hl => ?_)
      refine lv_iinc (v := nI (j + 1)) (lv' := [(4, .int (nI (j + 1))), (2, .long v_1), (5, .long ((Int32.toInt64 i) + (Int32.toInt64 (nI j)))), (0, .ref o), (1, .int i)]) hx hb dX4_outs_62 hl (k := 4) rfl (nI_1 j) (by decide) rfl (fun ls hl => ?_)
      refine lv_goto (tgt := 10) hx hb dX4_outs_65 (by decide) ?_
      exact ih_10 (j + 1, v_1) (show (j + 1) ≤ 8 ∧ v_1 = outsQ q i (j + 1) from ⟨hg, by rw [ev_1, hI.2]; exact outs_o hT hg (by first | exact Or.inl c_33 | exact Or.inr c_44)⟩) (by show 8 - (j + 1) < 8 - j; omega) _ _ _ (hP.sub [0, 1] rfl) (hD.sub [0, 1] (by decide) rfl) hS (lv_sub hl [3, 4, 1, 0] rfl)
    · skip
      refine lv_lload hx hb dX4_outs_36 (lv_at hl 0 rfl) ?_
      refine lv_aload_n hx hb dX4_outs_38 rfl (lv_at hl 1 rfl) ?_
      refine va_get (D := G.1) (ci := 4) (v := .int (nI z)) (C := RX4) (T := TX4) (N := 29) hx hb htu iwX4 hown hK.1 hP 0 rfl rfl 17 (by decide) (htu _ uF_X4_168) (fun _ h9 => h9) rfl dX4_outs_39 ?_
      refine lv_i2l (v := Int32.toInt64 (nI z)) hx hb dX4_outs_42 rfl ?_
      refine g_tol (y := lN z) (nI_l (by have := hT.2.1; omega)) ?_
      refine W.lcmp hx hb dX4_outs_43 ?_
      refine lv_if_ge (tgt := 58) hx hb dX4_outs_44 (by decide) (fun c_44 => ?_) (fun c_44 => ?_)
      · skip
        refine lv_iconst (v := nI 0) hx hb dX4_outs_58 (by decide) ?_
        refine lv_i2l (v := Int32.toInt64 (nI 0)) hx hb dX4_outs_59 rfl ?_
        refine lv_lor hx hb dX4_outs_60 ?_
        refine lv_topl (fun v_2 ev_2 => ?_)
        refine lv_lstore_n (lv' := [(2, .long v_2), (5, .long ((Int32.toInt64 i) + (Int32.toInt64 (nI j)))), (0, .ref o), (1, .int i), (4, .int (nI j))]) hx hb dX4_outs_61 rfl hl (by decide) rfl (fun ls hl => ?_)
        refine lv_iinc (v := nI (j + 1)) (lv' := [(4, .int (nI (j + 1))), (2, .long v_2), (5, .long ((Int32.toInt64 i) + (Int32.toInt64 (nI j)))), (0, .ref o), (1, .int i)]) hx hb dX4_outs_62 hl (k := 4) rfl (nI_1 j) (by decide) rfl (fun ls hl => ?_)
        refine lv_goto (tgt := 10) hx hb dX4_outs_65 (by decide) ?_
        exact ih_10 (j + 1, v_2) (show (j + 1) ≤ 8 ∧ v_2 = outsQ q i (j + 1) from ⟨hg, by rw [ev_2, hI.2]; exact outs_o hT hg (by first | exact Or.inl c_33 | exact Or.inr c_44)⟩) (by show 8 - (j + 1) < 8 - j; omega) _ _ _ (hP.sub [0, 1] rfl) (hD.sub [0, 1] (by decide) rfl) hS (lv_sub hl [3, 4, 1, 0] rfl)
      · skip
        obtain ⟨j2, hj2, ej2, er2⟩ := outs_in hT hg c_33 c_44
        refine lv_aload_n hx hb dX4_outs_47 rfl (lv_at hl 1 rfl) ?_
        refine va_get (D := G.1) (ci := 4) (v := .ref (ad 16)) (C := RX4) (T := TX4) (N := 29) hx hb htu iwX4 hown hK.1 hP 0 rfl rfl 16 (by decide) (htu _ uF_X4_57) (fun _ h9 => h9) rfl dX4_outs_48 ?_
        refine lv_lload hx hb dX4_outs_51 (lv_at hl 0 rfl) ?_
        refine lv_l2i (v := Int64.toInt32 ((Int32.toInt64 i) + (Int32.toInt64 (nI j)))) hx hb dX4_outs_53 rfl ?_
        refine g_toi (y := nI j2) (ej2) ?_
        refine g_iald hx hb hK.1 hP 1 1 rfl rfl ⟨by have := hT.2.1; omega, by decide⟩ dX4_outs_54 ?_
        refine lv_goto (tgt := 59) hx hb dX4_outs_55 (by decide) ?_
        refine lv_i2l (v := Int32.toInt64 (uf j2)) hx hb dX4_outs_59 rfl ?_
        refine lv_lor hx hb dX4_outs_60 ?_
        refine lv_topl (fun v_3 ev_3 => ?_)
        refine lv_lstore_n (lv' := [(2, .long v_3), (5, .long ((Int32.toInt64 i) + (Int32.toInt64 (nI j)))), (0, .ref o), (1, .int i), (4, .int (nI j))]) hx hb dX4_outs_61 rfl hl (by decide) rfl (fun ls hl => ?_)
        refine lv_iinc (v := nI (j + 1)) (lv' := [(4, .int (nI (j + 1))), (2, .long v_3), (5, .long ((Int32.toInt64 i) + (Int32.toInt64 (nI j)))), (0, .ref o), (1, .int i)]) hx hb dX4_outs_62 hl (k := 4) rfl (nI_1 j) (by decide) rfl (fun ls hl => ?_)
        refine lv_goto (tgt := 10) hx hb dX4_outs_65 (by decide) ?_
        exact ih_10 (j + 1, v_3) (show (j + 1) ≤ 8 ∧ v_3 = outsQ q i (j + 1) from ⟨hg, by rw [ev_3, hI.2]; exact outs_i hT er2 hj2⟩) (by show 8 - (j + 1) < 8 - j; omega) _ _ _ (hP.sub [0, 1] rfl) (hD.sub [0, 1] (by decide) rfl) hS (lv_sub hl [3, 4, 1, 0] rfl)
set_option maxHeartbeats 4000000 in
set_option maxRecDepth 100000 in
theorem c_X4_isOut (l : Launch) (G : GW) (sz : Nat) (o : Nat) (ad : Nat → Nat) (th : Int32) (hsz : Int32) (z : Nat) (y : Nat) (tp : Nat → Int32) (uf : Nat → Int32) (q : List Nat) (q2 : List Nat) (hT : TapeR tp z q) (hO : OutR uf y q2) : Met l yX4_isOut (Cond.code yX4_isOut cX4_isOut 3 (some FieldType.boolean) :: UW) ({ frames := 0, cells := 0, slots := 0, locals := 0 } : Room) (va_Pc [.ref o] (gPre G [(o, .inr (4, mF ad (nI z) (nI y) th hsz)), (ad 0, .inl (G.2.1 1, 600, .inl tp)), (ad 16, .inl (G.2.1 1, 16320, .inl uf))] sz)) (va_Qi (fun (r : Int32) (_ : Unit) => r = if q2 = q then 1 else 0) (fun u => gPost G (va_A [(o, .inr (4, mF ad (nI z) (nI y) th hsz)), (ad 0, .inl (G.2.1 1, 600, .inl tp)), (ad 16, .inl (G.2.1 1, 16320, .inl uf))] sz) ((fun (_ : Unit) => ([(o, .inr (4, mF ad (nI 0) (nI y) (nI 0) hsz)), (ad 0, .inl (G.2.1 1, 600, .inl tp)), (ad 16, .inl (G.2.1 1, 16320, .inl uf))] : va_W)) u)) (va_A [(o, .inr (4, mF ad (nI z) (nI y) th hsz)), (ad 0, .inl (G.2.1 1, 600, .inl tp)), (ad 16, .inl (G.2.1 1, 16320, .inl uf))] sz)) 0 0 (va_A [(o, .inr (4, mF ad (nI z) (nI y) th hsz)), (ad 0, .inl (G.2.1 1, 600, .inl tp)), (ad 16, .inl (G.2.1 1, 16320, .inl uf))] sz) := by
  refine gM_of (Qf := fun A => va_Qi (fun (r : Int32) (_ : Unit) => r = if q2 = q then 1 else 0) (fun u => gPost G A ((fun (_ : Unit) => ([(o, .inr (4, mF ad (nI 0) (nI y) (nI 0) hsz)), (ad 0, .inl (G.2.1 1, 600, .inl tp)), (ad 16, .inl (G.2.1 1, 16320, .inl uf))] : va_W)) u)) A) (by decide) (Nat.le_of_ble_eq_true rfl) ?_
  intro p e s m below meth c A ls hx hb hml hr hown htu hlk hnm hA hP hD hS hK hZ hl
  have hown : s.vm.findClass RX4 = some m.cls := hown
  have hl : lv_has ls 3 [(0, .ref o)] := hl
  refine lv_aload_n hx hb dX4_isOut_0 rfl (lv_at hl 0 rfl) ?_
  refine lv_iconst (v := nI 0) hx hb dX4_isOut_1 (by decide) ?_
  refine va_put (D := G.1) (ci := 4) (v := .int (nI 0)) (ty := .int) (C := RX4) (T := TX4) (N := 29) hx hb htu iwX4 tyX4 tyX4_ok nmX4 hown hK.1 hP hD hS 0 rfl rfl 20 (by decide) (htu _ uF_X4_95) (fun _ h9 => h9) rfl (by decide +kernel) rfl rfl (Nat.le_of_ble_eq_true rfl) dX4_isOut_2 (fun H locs hP hD hS => ?_)
  have hP : va_P G.1 vwCl [(o, .inr (4, mF ad (nI z) (nI y) (nI 0) hsz)), (ad 0, .inl (G.2.1 1, 600, .inl tp)), (ad 16, .inl (G.2.1 1, 16320, .inl uf))] H := hP
  have hD : va_D A [(o, .inr (4, mF ad (nI z) (nI y) (nI 0) hsz)), (ad 0, .inl (G.2.1 1, 600, .inl tp)), (ad 16, .inl (G.2.1 1, 16320, .inl uf))] := hD
  refine lv_aload_n hx hb dX4_isOut_5 rfl (lv_at hl 0 rfl) ?_
  refine va_get (D := G.1) (ci := 4) (v := .int (nI z)) (C := RX4) (T := TX4) (N := 29) hx hb htu iwX4 hown hK.1 hP 0 rfl rfl 1 (by decide) (htu _ uF_X4_171) (fun _ h9 => h9) rfl dX4_isOut_6 ?_
  refine lv_aload_n hx hb dX4_isOut_9 rfl (lv_at hl 0 rfl) ?_
  refine va_get (D := G.1) (ci := 4) (v := .int (nI y)) (C := RX4) (T := TX4) (N := 29) hx hb htu iwX4 hown hK.1 hP 0 rfl rfl 17 (by decide) (htu _ uF_X4_168) (fun _ h9 => h9) rfl dX4_isOut_10 ?_
  refine lv_icmp_ne (tgt := 20) hx hb dX4_isOut_13 (by decide) (fun c_13 => ?_) (fun c_13 => ?_)
  · skip
    have hz : ¬ z = y := fun h => c_13 (by rw [h])
    refine lv_iconst (v := nI 0) hx hb dX4_isOut_20 (by decide) ?_
    refine lv_istore_n (lv' := [(1, .int (nI 0)), (0, .ref o)]) hx hb dX4_isOut_21 rfl hl (by decide) rfl (fun ls hl => ?_)
    refine lv_iconst (v := nI 0) hx hb dX4_isOut_22 (by decide) ?_
    refine lv_istore_n (lv' := [(2, .int (nI 0)), (1, .int (nI 0)), (0, .ref o)]) hx hb dX4_isOut_23 rfl hl (by decide) rfl (fun ls hl => ?_)
    refine g_loop (σ := Nat × Int32) (G := G) (fun xq9 : Nat × Int32 => [(o, .inr (4, mF ad (nI z) (nI y) (nI 0) hsz)), (ad 0, .inl (G.2.1 1, 600, .inl tp)), (ad 16, .inl (G.2.1 1, 16320, .inl uf))]) (fun xq9 : Nat × Int32 => [(0, .ref o), (1, .int xq9.2), (2, .int (nI xq9.1))]) (fun xq9 : Nat × Int32 => xq9.1 ≤ z ∧ (xq9.2 = nI 0 ∨ xq9.2 = nI 1) ∧ (xq9.2 = nI 1 → z = y ∧ ∀ x, x < xq9.1 → tp x = uf x) ∧ (xq9.2 = nI 0 → ¬ (z = y ∧ ∀ x, x < z → tp x = uf x))) (fun xq9 : Nat × Int32 => z - xq9.1) ?_ (0, nI 0) (show 0 ≤ z ∧ ((nI 0) = nI 0 ∨ (nI 0) = nI 1) ∧ ((nI 0) = nI 1 → z = y ∧ ∀ x, x < 0 → tp x = uf x) ∧ ((nI 0) = nI 0 → ¬ (z = y ∧ ∀ x, x < z → tp x = uf x)) from ⟨Nat.zero_le _, Or.inl rfl, fun h => absurd h (by decide), fun _ h => hz h.1⟩) (hP.sub [0, 1, 2] rfl) (hD.sub [0, 1, 2] (by decide) rfl) hS (lv_sub hl [2, 1, 0] rfl)
    clear hP hD hS hl
    intro x hxI_24 ih_24 H locs ls hP hD hS hl
    obtain ⟨i, sm⟩ := x
    have hI : i ≤ z ∧ (sm = nI 0 ∨ sm = nI 1) ∧ (sm = nI 1 → z = y ∧ ∀ x, x < i → tp x = uf x) ∧ (sm = nI 0 → ¬ (z = y ∧ ∀ x, x < z → tp x = uf x)) := hxI_24
    have hP : va_P G.1 vwCl [(o, .inr (4, mF ad (nI z) (nI y) (nI 0) hsz)), (ad 0, .inl (G.2.1 1, 600, .inl tp)), (ad 16, .inl (G.2.1 1, 16320, .inl uf))] H := hP
    have hD : va_D A [(o, .inr (4, mF ad (nI z) (nI y) (nI 0) hsz)), (ad 0, .inl (G.2.1 1, 600, .inl tp)), (ad 16, .inl (G.2.1 1, 16320, .inl uf))] := hD
    have hl : lv_has ls 3 [(0, .ref o), (1, .int sm), (2, .int (nI i))] := hl
    refine lv_iload_n hx hb dX4_isOut_24 rfl (lv_at hl 2 rfl) ?_
    refine lv_aload_n hx hb dX4_isOut_25 rfl (lv_at hl 0 rfl) ?_
    refine va_get (D := G.1) (ci := 4) (v := .int (nI z)) (C := RX4) (T := TX4) (N := 29) hx hb htu iwX4 hown hK.1 hP 0 rfl rfl 1 (by decide) (htu _ uF_X4_171) (fun _ h9 => h9) rfl dX4_isOut_26 ?_
    refine lv_icmp_ge (tgt := 63) hx hb dX4_isOut_29 (by decide) (fun c_29 => ?_) (fun c_29 => ?_)
    · skip
      have hi : z ≤ i := ge_t (n := z) c_29 (by have := hT.2.1; omega)
      refine lv_aload_n hx hb dX4_isOut_63 rfl (lv_at hl 0 rfl) ?_
      refine lv_iconst (v := nI 0) hx hb dX4_isOut_64 (by decide) ?_
      refine va_put (D := G.1) (ci := 4) (v := .int (nI 0)) (ty := .int) (C := RX4) (T := TX4) (N := 29) hx hb htu iwX4 tyX4 tyX4_ok nmX4 hown hK.1 hP hD hS 0 rfl rfl 1 (by decide) (htu _ uF_X4_171) (fun _ h9 => h9) rfl (by decide +kernel) rfl rfl (Nat.le_of_ble_eq_true rfl) dX4_isOut_65 (fun H locs hP hD hS => ?_)
      have hP : va_P G.1 vwCl [(o, .inr (4, mF ad (nI 0) (nI y) (nI 0) hsz)), (ad 0, .inl (G.2.1 1, 600, .inl tp)), (ad 16, .inl (G.2.1 1, 16320, .inl uf))] H := hP
      have hD : va_D A [(o, .inr (4, mF ad (nI 0) (nI y) (nI 0) hsz)), (ad 0, .inl (G.2.1 1, 600, .inl tp)), (ad 16, .inl (G.2.1 1, 16320, .inl uf))] := hD
      refine lv_iload_n hx hb dX4_isOut_68 rfl (lv_at hl 1 rfl) ?_
      exact gret_z hx hb hr hlk dX4_isOut_69 hS hI.2.1 () (hP.sub [0, 1, 2] rfl) (hD.sub [0, 1, 2] (by decide) rfl) (isE hT hO hI (by first | exact Or.inl hi | exact Or.inr c_33))
    · skip
      have hi : i < z := ge_f (n := z) c_29 (by have := hI.1; have := hT.2.1; omega)
      refine lv_iload_n hx hb dX4_isOut_32 rfl (lv_at hl 1 rfl) ?_
      refine lv_if_eq (tgt := 63) hx hb dX4_isOut_33 (by decide) (fun c_33 => ?_) (fun c_33 => ?_)
      · skip
        refine lv_aload_n hx hb dX4_isOut_63 rfl (lv_at hl 0 rfl) ?_
        refine lv_iconst (v := nI 0) hx hb dX4_isOut_64 (by decide) ?_
        refine va_put (D := G.1) (ci := 4) (v := .int (nI 0)) (ty := .int) (C := RX4) (T := TX4) (N := 29) hx hb htu iwX4 tyX4 tyX4_ok nmX4 hown hK.1 hP hD hS 0 rfl rfl 1 (by decide) (htu _ uF_X4_171) (fun _ h9 => h9) rfl (by decide +kernel) rfl rfl (Nat.le_of_ble_eq_true rfl) dX4_isOut_65 (fun H locs hP hD hS => ?_)
        have hP : va_P G.1 vwCl [(o, .inr (4, mF ad (nI 0) (nI y) (nI 0) hsz)), (ad 0, .inl (G.2.1 1, 600, .inl tp)), (ad 16, .inl (G.2.1 1, 16320, .inl uf))] H := hP
        have hD : va_D A [(o, .inr (4, mF ad (nI 0) (nI y) (nI 0) hsz)), (ad 0, .inl (G.2.1 1, 600, .inl tp)), (ad 16, .inl (G.2.1 1, 16320, .inl uf))] := hD
        refine lv_iload_n hx hb dX4_isOut_68 rfl (lv_at hl 1 rfl) ?_
        exact gret_z hx hb hr hlk dX4_isOut_69 hS hI.2.1 () (hP.sub [0, 1, 2] rfl) (hD.sub [0, 1, 2] (by decide) rfl) (isE hT hO hI (by first | exact Or.inl hi | exact Or.inr c_33))
      · skip
        refine lv_aload_n hx hb dX4_isOut_36 rfl (lv_at hl 0 rfl) ?_
        refine va_get (D := G.1) (ci := 4) (v := .ref (ad 0)) (C := RX4) (T := TX4) (N := 29) hx hb htu iwX4 hown hK.1 hP 0 rfl rfl 0 (by decide) (htu _ uF_X4_7) (fun _ h9 => h9) rfl dX4_isOut_37 ?_
        refine lv_iload_n hx hb dX4_isOut_40 rfl (lv_at hl 2 rfl) ?_
        refine g_iald hx hb hK.1 hP 1 1 rfl rfl ⟨by have := hT.2.1; omega, by decide⟩ dX4_isOut_41 ?_
        refine lv_aload_n hx hb dX4_isOut_42 rfl (lv_at hl 0 rfl) ?_
        refine va_get (D := G.1) (ci := 4) (v := .ref (ad 16)) (C := RX4) (T := TX4) (N := 29) hx hb htu iwX4 hown hK.1 hP 0 rfl rfl 16 (by decide) (htu _ uF_X4_57) (fun _ h9 => h9) rfl dX4_isOut_43 ?_
        refine lv_iload_n hx hb dX4_isOut_46 rfl (lv_at hl 2 rfl) ?_
        refine g_iald hx hb hK.1 hP 2 1 rfl rfl ⟨by have := hO.2.1; have := hT.2.1; have := isz hI hi c_33; omega, by decide⟩ dX4_isOut_47 ?_
        refine lv_icmp_ne (tgt := 55) hx hb dX4_isOut_48 (by decide) (fun c_48 => ?_) (fun c_48 => ?_)
        · skip
          refine lv_iconst (v := nI 0) hx hb dX4_isOut_55 (by decide) ?_
          refine lv_istore_n (lv' := [(1, .int (nI 0)), (0, .ref o), (2, .int (nI i))]) hx hb dX4_isOut_56 rfl hl (by decide) rfl (fun ls hl => ?_)
          refine lv_iinc (v := nI (i + 1)) (lv' := [(2, .int (nI (i + 1))), (1, .int (nI 0)), (0, .ref o)]) hx hb dX4_isOut_57 hl (k := 2) rfl (nI_1 i) (by decide) rfl (fun ls hl => ?_)
          refine lv_goto (tgt := 24) hx hb dX4_isOut_60 (by decide) ?_
          exact ih_24 (i + 1, nI 0) (show (i + 1) ≤ z ∧ ((nI 0) = nI 0 ∨ (nI 0) = nI 1) ∧ ((nI 0) = nI 1 → z = y ∧ ∀ x, x < (i + 1) → tp x = uf x) ∧ ((nI 0) = nI 0 → ¬ (z = y ∧ ∀ x, x < z → tp x = uf x)) from isU hI hi c_33 (Or.inl ⟨rfl, c_48⟩)) (by show z - (i + 1) < z - i; omega) _ _ _ (hP.sub [0, 1, 2] rfl) (hD.sub [0, 1, 2] (by decide) rfl) hS (lv_sub hl [2, 1, 0] rfl)
        · skip
          refine lv_iconst (v := nI 1) hx hb dX4_isOut_51 (by decide) ?_
          refine lv_goto (tgt := 56) hx hb dX4_isOut_52 (by decide) ?_
          refine lv_istore_n (lv' := [(1, .int (nI 1)), (0, .ref o), (2, .int (nI i))]) hx hb dX4_isOut_56 rfl hl (by decide) rfl (fun ls hl => ?_)
          refine lv_iinc (v := nI (i + 1)) (lv' := [(2, .int (nI (i + 1))), (1, .int (nI 1)), (0, .ref o)]) hx hb dX4_isOut_57 hl (k := 2) rfl (nI_1 i) (by decide) rfl (fun ls hl => ?_)
          refine lv_goto (tgt := 24) hx hb dX4_isOut_60 (by decide) ?_
          exact ih_24 (i + 1, nI 1) (show (i + 1) ≤ z ∧ ((nI 1) = nI 0 ∨ (nI 1) = nI 1) ∧ ((nI 1) = nI 1 → z = y ∧ ∀ x, x < (i + 1) → tp x = uf x) ∧ ((nI 1) = nI 0 → ¬ (z = y ∧ ∀ x, x < z → tp x = uf x)) from isU hI hi c_33 (Or.inr ⟨rfl, c_48⟩)) (by show z - (i + 1) < z - i; omega) _ _ _ (hP.sub [0, 1, 2] rfl) (hD.sub [0, 1, 2] (by decide) rfl) hS (lv_sub hl [2, 1, 0] rfl)
  · skip
    have hz : z = y := (nI_eq (by have := hT.2.1; omega) (by have := hO.2.1; omega)).mp c_13
    refine lv_iconst (v := nI 1) hx hb dX4_isOut_16 (by decide) ?_
    refine lv_goto (tgt := 21) hx hb dX4_isOut_17 (by decide) ?_
    refine lv_istore_n (lv' := [(1, .int (nI 1)), (0, .ref o)]) hx hb dX4_isOut_21 rfl hl (by decide) rfl (fun ls hl => ?_)
    refine lv_iconst (v := nI 0) hx hb dX4_isOut_22 (by decide) ?_
    refine lv_istore_n (lv' := [(2, .int (nI 0)), (1, .int (nI 1)), (0, .ref o)]) hx hb dX4_isOut_23 rfl hl (by decide) rfl (fun ls hl => ?_)
    refine g_loop (σ := Nat × Int32) (G := G) (fun xq9 : Nat × Int32 => [(o, .inr (4, mF ad (nI z) (nI y) (nI 0) hsz)), (ad 0, .inl (G.2.1 1, 600, .inl tp)), (ad 16, .inl (G.2.1 1, 16320, .inl uf))]) (fun xq9 : Nat × Int32 => [(0, .ref o), (1, .int xq9.2), (2, .int (nI xq9.1))]) (fun xq9 : Nat × Int32 => xq9.1 ≤ z ∧ (xq9.2 = nI 0 ∨ xq9.2 = nI 1) ∧ (xq9.2 = nI 1 → z = y ∧ ∀ x, x < xq9.1 → tp x = uf x) ∧ (xq9.2 = nI 0 → ¬ (z = y ∧ ∀ x, x < z → tp x = uf x))) (fun xq9 : Nat × Int32 => z - xq9.1) ?_ (0, nI 1) (show 0 ≤ z ∧ ((nI 1) = nI 0 ∨ (nI 1) = nI 1) ∧ ((nI 1) = nI 1 → z = y ∧ ∀ x, x < 0 → tp x = uf x) ∧ ((nI 1) = nI 0 → ¬ (z = y ∧ ∀ x, x < z → tp x = uf x)) from ⟨Nat.zero_le _, Or.inr rfl, fun _ => ⟨hz, fun _ h => absurd h (Nat.not_lt_zero _)⟩, fun h => absurd h (by decide)⟩) (hP.sub [0, 1, 2] rfl) (hD.sub [0, 1, 2] (by decide) rfl) hS (lv_sub hl [2, 1, 0] rfl)
    clear hP hD hS hl
    intro x hxI_24 ih_24 H locs ls hP hD hS hl
    obtain ⟨i, sm⟩ := x
    have hI : i ≤ z ∧ (sm = nI 0 ∨ sm = nI 1) ∧ (sm = nI 1 → z = y ∧ ∀ x, x < i → tp x = uf x) ∧ (sm = nI 0 → ¬ (z = y ∧ ∀ x, x < z → tp x = uf x)) := hxI_24
    have hP : va_P G.1 vwCl [(o, .inr (4, mF ad (nI z) (nI y) (nI 0) hsz)), (ad 0, .inl (G.2.1 1, 600, .inl tp)), (ad 16, .inl (G.2.1 1, 16320, .inl uf))] H := hP
    have hD : va_D A [(o, .inr (4, mF ad (nI z) (nI y) (nI 0) hsz)), (ad 0, .inl (G.2.1 1, 600, .inl tp)), (ad 16, .inl (G.2.1 1, 16320, .inl uf))] := hD
    have hl : lv_has ls 3 [(0, .ref o), (1, .int sm), (2, .int (nI i))] := hl
    refine lv_iload_n hx hb dX4_isOut_24 rfl (lv_at hl 2 rfl) ?_
    refine lv_aload_n hx hb dX4_isOut_25 rfl (lv_at hl 0 rfl) ?_
    refine va_get (D := G.1) (ci := 4) (v := .int (nI z)) (C := RX4) (T := TX4) (N := 29) hx hb htu iwX4 hown hK.1 hP 0 rfl rfl 1 (by decide) (htu _ uF_X4_171) (fun _ h9 => h9) rfl dX4_isOut_26 ?_
    refine lv_icmp_ge (tgt := 63) hx hb dX4_isOut_29 (by decide) (fun c_29 => ?_) (fun c_29 => ?_)
    · skip
      have hi : z ≤ i := ge_t (n := z) c_29 (by have := hT.2.1; omega)
      refine lv_aload_n hx hb dX4_isOut_63 rfl (lv_at hl 0 rfl) ?_
      refine lv_iconst (v := nI 0) hx hb dX4_isOut_64 (by decide) ?_
      refine va_put (D := G.1) (ci := 4) (v := .int (nI 0)) (ty := .int) (C := RX4) (T := TX4) (N := 29) hx hb htu iwX4 tyX4 tyX4_ok nmX4 hown hK.1 hP hD hS 0 rfl rfl 1 (by decide) (htu _ uF_X4_171) (fun _ h9 => h9) rfl (by decide +kernel) rfl rfl (Nat.le_of_ble_eq_true rfl) dX4_isOut_65 (fun H locs hP hD hS => ?_)
      have hP : va_P G.1 vwCl [(o, .inr (4, mF ad (nI 0) (nI y) (nI 0) hsz)), (ad 0, .inl (G.2.1 1, 600, .inl tp)), (ad 16, .inl (G.2.1 1, 16320, .inl uf))] H := hP
      have hD : va_D A [(o, .inr (4, mF ad (nI 0) (nI y) (nI 0) hsz)), (ad 0, .inl (G.2.1 1, 600, .inl tp)), (ad 16, .inl (G.2.1 1, 16320, .inl uf))] := hD
      refine lv_iload_n hx hb dX4_isOut_68 rfl (lv_at hl 1 rfl) ?_
      exact gret_z hx hb hr hlk dX4_isOut_69 hS hI.2.1 () (hP.sub [0, 1, 2] rfl) (hD.sub [0, 1, 2] (by decide) rfl) (isE hT hO hI (by first | exact Or.inl hi | exact Or.inr c_33))
    · skip
      have hi : i < z := ge_f (n := z) c_29 (by have := hI.1; have := hT.2.1; omega)
      refine lv_iload_n hx hb dX4_isOut_32 rfl (lv_at hl 1 rfl) ?_
      refine lv_if_eq (tgt := 63) hx hb dX4_isOut_33 (by decide) (fun c_33 => ?_) (fun c_33 => ?_)
      · skip
        refine lv_aload_n hx hb dX4_isOut_63 rfl (lv_at hl 0 rfl) ?_
        refine lv_iconst (v := nI 0) hx hb dX4_isOut_64 (by decide) ?_
        refine va_put (D := G.1) (ci := 4) (v := .int (nI 0)) (ty := .int) (C := RX4) (T := TX4) (N := 29) hx hb htu iwX4 tyX4 tyX4_ok nmX4 hown hK.1 hP hD hS 0 rfl rfl 1 (by decide) (htu _ uF_X4_171) (fun _ h9 => h9) rfl (by decide +kernel) rfl rfl (Nat.le_of_ble_eq_true rfl) dX4_isOut_65 (fun H locs hP hD hS => ?_)
        have hP : va_P G.1 vwCl [(o, .inr (4, mF ad (nI 0) (nI y) (nI 0) hsz)), (ad 0, .inl (G.2.1 1, 600, .inl tp)), (ad 16, .inl (G.2.1 1, 16320, .inl uf))] H := hP
        have hD : va_D A [(o, .inr (4, mF ad (nI 0) (nI y) (nI 0) hsz)), (ad 0, .inl (G.2.1 1, 600, .inl tp)), (ad 16, .inl (G.2.1 1, 16320, .inl uf))] := hD
        refine lv_iload_n hx hb dX4_isOut_68 rfl (lv_at hl 1 rfl) ?_
        exact gret_z hx hb hr hlk dX4_isOut_69 hS hI.2.1 () (hP.sub [0, 1, 2] rfl) (hD.sub [0, 1, 2] (by decide) rfl) (isE hT hO hI (by first | exact Or.inl hi | exact Or.inr c_33))
      · skip
        refine lv_aload_n hx hb dX4_isOut_36 rfl (lv_at hl 0 rfl) ?_
        refine va_get (D := G.1) (ci := 4) (v := .ref (ad 0)) (C := RX4) (T := TX4) (N := 29) hx hb htu iwX4 hown hK.1 hP 0 rfl rfl 0 (by decide) (htu _ uF_X4_7) (fun _ h9 => h9) rfl dX4_isOut_37 ?_
        refine lv_iload_n hx hb dX4_isOut_40 rfl (lv_at hl 2 rfl) ?_
        refine g_iald hx hb hK.1 hP 1 1 rfl rfl ⟨by have := hT.2.1; omega, by decide⟩ dX4_isOut_41 ?_
        refine lv_aload_n hx hb dX4_isOut_42 rfl (lv_at hl 0 rfl) ?_
        refine va_get (D := G.1) (ci := 4) (v := .ref (ad 16)) (C := RX4) (T := TX4) (N := 29) hx hb htu iwX4 hown hK.1 hP 0 rfl rfl 16 (by decide) (htu _ uF_X4_57) (fun _ h9 => h9) rfl dX4_isOut_43 ?_
        refine lv_iload_n hx hb dX4_isOut_46 rfl (lv_at hl 2 rfl) ?_
        refine g_iald hx hb hK.1 hP 2 1 rfl rfl ⟨by have := hO.2.1; have := hT.2.1; have := isz hI hi c_33; omega, by decide⟩ dX4_isOut_47 ?_
        refine lv_icmp_ne (tgt := 55) hx hb dX4_isOut_48 (by decide) (fun c_48 => ?_) (fun c_48 => ?_)
        · skip
          refine lv_iconst (v := nI 0) hx hb dX4_isOut_55 (by decide) ?_
          refine lv_istore_n (lv' := [(1, .int (nI 0)), (0, .ref o), (2, .int (nI i))]) hx hb dX4_isOut_56 rfl hl (by decide) rfl (fun ls hl => ?_)
          refine lv_iinc (v := nI (i + 1)) (lv' := [(2, .int (nI (i + 1))), (1, .int (nI 0)), (0, .ref o)]) hx hb dX4_isOut_57 hl (k := 2) rfl (nI_1 i) (by decide) rfl (fun ls hl => ?_)
          refine lv_goto (tgt := 24) hx hb dX4_isOut_60 (by decide) ?_
          exact ih_24 (i + 1, nI 0) (show (i + 1) ≤ z ∧ ((nI 0) = nI 0 ∨ (nI 0) = nI 1) ∧ ((nI 0) = nI 1 → z = y ∧ ∀ x, x < (i + 1) → tp x = uf x) ∧ ((nI 0) = nI 0 → ¬ (z = y ∧ ∀ x, x < z → tp x = uf x)) from isU hI hi c_33 (Or.inl ⟨rfl, c_48⟩)) (by show z - (i + 1) < z - i; omega) _ _ _ (hP.sub [0, 1, 2] rfl) (hD.sub [0, 1, 2] (by decide) rfl) hS (lv_sub hl [2, 1, 0] rfl)
        · skip
          refine lv_iconst (v := nI 1) hx hb dX4_isOut_51 (by decide) ?_
          refine lv_goto (tgt := 56) hx hb dX4_isOut_52 (by decide) ?_
          refine lv_istore_n (lv' := [(1, .int (nI 1)), (0, .ref o), (2, .int (nI i))]) hx hb dX4_isOut_56 rfl hl (by decide) rfl (fun ls hl => ?_)
          refine lv_iinc (v := nI (i + 1)) (lv' := [(2, .int (nI (i + 1))), (1, .int (nI 1)), (0, .ref o)]) hx hb dX4_isOut_57 hl (k := 2) rfl (nI_1 i) (by decide) rfl (fun ls hl => ?_)
          refine lv_goto (tgt := 24) hx hb dX4_isOut_60 (by decide) ?_
          exact ih_24 (i + 1, nI 1) (show (i + 1) ≤ z ∧ ((nI 1) = nI 0 ∨ (nI 1) = nI 1) ∧ ((nI 1) = nI 1 → z = y ∧ ∀ x, x < (i + 1) → tp x = uf x) ∧ ((nI 1) = nI 0 → ¬ (z = y ∧ ∀ x, x < z → tp x = uf x)) from isU hI hi c_33 (Or.inr ⟨rfl, c_48⟩)) (by show z - (i + 1) < z - i; omega) _ _ _ (hP.sub [0, 1, 2] rfl) (hD.sub [0, 1, 2] (by decide) rfl) hS (lv_sub hl [2, 1, 0] rfl)
