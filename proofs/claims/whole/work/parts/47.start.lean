/-! the start -/
abbrev fT : Cond := Jvm.Cond.and given_1 narrow_1
theorem ft_at {b : Nat} {s : State} (hgv : fT.before #[Value.ref b] s = true) {i : Nat} {w : Cond} (h : (flatC fT)[i]? = some w) : w.before #[Value.ref b] s = true := flat_of_before _ hgv w (List.mem_of_getElem? h)
theorem st_arr {s : State} {args : Array Value} {ty : FieldType} (h : (Cond.arrayClass ty).before args s = true) : ∃ cA : ClassId, ArrOfT s cA ty ∧ s.vm.findClass ("[" ++ ty.toString) = some cA := by
  obtain ⟨cA, kA, comp, h1, h2, h3⟩ := Cond.arrayClass_spec h
  exact ⟨cA, fun n z => ⟨fun k h => (by cases h), kA, h2, comp, h3⟩, h1⟩
theorem st_obj {s : State} {C : String} (h : va_AO C s) : ∃ cA : ClassId, ArrOfT s cA (.object C) ∧ va_RA s cA (.object C) := by
  obtain ⟨comp, cA, kA, h1, h2, h3, h4, h5⟩ := Cond.arrayOver_spec h
  exact ⟨cA, fun n z => ⟨fun k h => (by cases h), kA, h3, comp, h4⟩, kA, comp, h3, h4, h1, h5⟩
theorem st_str {b : Nat} {s : State} {k : Nat} {tx : String} (h1 : (Cond.stringRef "DigestStack" k tx).before #[Value.ref b] s = true) (h2 : (Cond.exactly (.string "DigestStack" k) "java/lang/String").before #[Value.ref b] s = true) : ∃ a : Nat, vk_R "DigestStack" k tx a s := by
  obtain ⟨a, -, -, -, h3, -⟩ := Cond.exactly_spec h2
  exact ⟨a, vk_R.of h1 h3⟩
set_option maxRecDepth 100000 in
theorem f_0 : ∀ j, j < 80 → (flatC fT)[7 + j]? = some (.eq (.elem (.static "DigestStack" "THIRD_ROOTS" "[J") (.int (Int32.ofNat j))) (.long (kT j))) := by decide +kernel
set_option maxRecDepth 100000 in
theorem f_1 : ∀ j, j < 8 → (flatC fT)[103 + j]? = some (.eq (.elem (.static "DigestStack" "FIRST_SQUARE_ROOTS" "[J") (.int (Int32.ofNat j))) (.long (sqA j))) := by decide +kernel
set_option maxRecDepth 100000 in
theorem f_2 : ∀ j, j < 8 → (flatC fT)[92 + j]? = some (.eq (.elem (.static "DigestStack" "NEXT_SQUARE_ROOTS" "[J") (.int (Int32.ofNat j))) (.long (sqB j))) := by decide +kernel
set_option maxRecDepth 100000 in
theorem f_3 : ∀ j, j < 4 → (flatC fT)[114 + j]? = some (.eq (.elem (.static "DigestStack" "DIGEST_SIZES" "[I") (.int (Int32.ofNat j))) (.int (dsz j))) := by decide +kernel
theorem gN_of : ∀ w ∈ gN, ∀ (A : Array Value) (s : State), w.before A s = true → va_Nw w s := List.forall_mem_cons.mpr ⟨fun A s h => va_Nw.of rfl h, List.forall_mem_cons.mpr ⟨fun A s h => va_Nw.of rfl h, List.forall_mem_cons.mpr ⟨fun A s h => va_Nw.of rfl h, List.forall_mem_cons.mpr ⟨fun A s h => va_AO.of h, List.forall_mem_cons.mpr ⟨fun A s h => va_AO.of h, List.forall_mem_cons.mpr ⟨fun A s h => va_Nw.of rfl h, List.forall_mem_cons.mpr ⟨fun A s h => va_Nw.of rfl h, List.forall_mem_cons.mpr ⟨fun A s h => va_Nw.of rfl h, List.forall_mem_cons.mpr ⟨fun A s h => va_Nw.of rfl h, List.forall_mem_cons.mpr ⟨fun A s h => va_Nw.of rfl h, List.forall_mem_cons.mpr ⟨fun A s h => va_Nw.of rfl h, List.forall_mem_cons.mpr ⟨fun A s h => va_Nw.of rfl h, List.forall_mem_cons.mpr ⟨fun A s h => va_Nw.of rfl h, List.forall_mem_cons.mpr ⟨fun A s h => va_Nw.of rfl h, List.forall_mem_cons.mpr ⟨fun A s h => va_Nw.of rfl h, List.forall_mem_cons.mpr ⟨fun A s h => va_Nw.of rfl h, List.forall_mem_cons.mpr ⟨fun A s h => va_Nw.of rfl h, List.forall_mem_cons.mpr ⟨fun A s h => va_Nw.of rfl h, fun _ h => absurd h List.not_mem_nil⟩⟩⟩⟩⟩⟩⟩⟩⟩⟩⟩⟩⟩⟩⟩⟩⟩⟩
set_option maxHeartbeats 4000000 in
set_option maxRecDepth 100000 in
theorem st_G {b : Nat} {s : State} (hts : ∀ w ∈ lw_tbl, w.before #[Value.ref b] s = true) (hgv : fT.before #[Value.ref b] s = true) : ∃ G : GW, gK G s ∧ gZ G (fun q : Nat => s.heap.size ≤ q) s s.heap := by
  have htu : ∀ w ∈ UW, w.before #[Value.ref b] s = true := fun w h => hts w (UW_tbl h)
  have hAn : ∀ a : Nat, a < s.heap.size → ¬ (fun q : Nat => s.heap.size ≤ q) a := fun a h => Nat.not_le.mpr h
  have hgn : ∀ w ∈ gN, va_Nw w s := fun w h => gN_of w h _ _ (hts w (gN_tbl w h))
  obtain ⟨c0, i0, k0⟩ := u_known (C := RX0) (T := TX0) (N := 7) (n := 7) htu iwX0 (htu _ uT_X0)
  obtain ⟨c1, i1, k1⟩ := u_known (C := RX1) (T := TX1) (N := 2) (n := 2) htu iwX1 (htu _ uT_X1)
  obtain ⟨c2, i2, k2⟩ := u_known (C := RX2) (T := TX2) (N := 8) (n := 8) htu iwX2 (htu _ uT_X2)
  obtain ⟨c3, i3, k3⟩ := u_known (C := RX3) (T := TX3) (N := 7) (n := 7) htu iwX3 (htu _ uT_X3)
  obtain ⟨c4, i4, k4⟩ := u_known (C := RX4) (T := TX4) (N := 29) (n := 29) htu iwX4 (htu _ uT_X4)
  obtain ⟨cB, hB, hB2⟩ := st_arr (htu _ uY_byte)
  obtain ⟨cI, hI, hI2⟩ := st_arr (htu _ uY_int)
  obtain ⟨cJ, hJ, hJ2⟩ := st_arr (htu _ uY_long)
  obtain ⟨cZ, hZ, hZ2⟩ := st_arr (htu _ uY_boolean)
  obtain ⟨cR, hR, hR2⟩ := st_obj (hgn _ nO_X1)
  obtain ⟨cS, hS, hS2⟩ := st_obj (hgn _ nO_X2)
  obtain ⟨t0, e0, T0⟩ := va_Tof (tm := .static "DigestStack" "THIRD_ROOTS" "[J") (ty := .long) (N := 80) (f := fun j => .long (kT j)) (A := fun q : Nat => s.heap.size ≤ q) (by decide) (ft_at hgv (i := 5) (by decide +kernel)) (va_eqt (z := Int32.ofNat 80) (ft_at hgv (i := 6) (by decide +kernel))) (fun j hj => va_eqtl (ft_at hgv (f_0 j hj))) hAn
  have Z0 := va_Zof (A := fun q : Nat => s.heap.size ≤ q) (hts (.laysStatic "DigestStack" "THIRD_ROOTS" "[J") (in_t1 (List.mem_of_getElem? (i := 169) rfl))) (htu _ uN_X3) e0 hAn
  obtain ⟨t1, e1, T1⟩ := va_Tof (tm := .static "DigestStack" "FIRST_SQUARE_ROOTS" "[J") (ty := .long) (N := 8) (f := fun j => .long (sqA j)) (A := fun q : Nat => s.heap.size ≤ q) (by decide) (ft_at hgv (i := 101) (by decide +kernel)) (va_eqt (z := Int32.ofNat 8) (ft_at hgv (i := 102) (by decide +kernel))) (fun j hj => va_eqtl (ft_at hgv (f_1 j hj))) hAn
  have Z1 := va_Zof (A := fun q : Nat => s.heap.size ≤ q) (hts (.laysStatic "DigestStack" "FIRST_SQUARE_ROOTS" "[J") (in_t2 (List.mem_of_getElem? (i := 57) rfl))) (htu _ uN_X3) e1 hAn
  obtain ⟨t2, e2, T2⟩ := va_Tof (tm := .static "DigestStack" "NEXT_SQUARE_ROOTS" "[J") (ty := .long) (N := 8) (f := fun j => .long (sqB j)) (A := fun q : Nat => s.heap.size ≤ q) (by decide) (ft_at hgv (i := 90) (by decide +kernel)) (va_eqt (z := Int32.ofNat 8) (ft_at hgv (i := 91) (by decide +kernel))) (fun j hj => va_eqtl (ft_at hgv (f_2 j hj))) hAn
  have Z2 := va_Zof (A := fun q : Nat => s.heap.size ≤ q) (hts (.laysStatic "DigestStack" "NEXT_SQUARE_ROOTS" "[J") (in_t2 (List.mem_of_getElem? (i := 54) rfl))) (htu _ uN_X3) e2 hAn
  obtain ⟨t3, e3, T3⟩ := va_Tof (tm := .static "DigestStack" "DIGEST_SIZES" "[I") (ty := .int) (N := 4) (f := fun j => .int (dsz j)) (A := fun q : Nat => s.heap.size ≤ q) (by decide) (ft_at hgv (i := 112) (by decide +kernel)) (va_eqt (z := Int32.ofNat 4) (ft_at hgv (i := 113) (by decide +kernel))) (fun j hj => va_eqt (ft_at hgv (f_3 j hj))) hAn
  have Z3 := va_Zof (A := fun q : Nat => s.heap.size ≤ q) (hts (.laysStatic "DigestStack" "DIGEST_SIZES" "[I") (in_t2 (List.mem_of_getElem? (i := 125) rfl))) (htu _ uN_X3) e3 hAn
  obtain ⟨a44, s44⟩ := st_str (hts (.stringRef "DigestStack" 44 "n is not 1 .. 8") (in_t1 (List.mem_of_getElem? (i := 219) rfl))) (ft_at hgv (i := 139) (by decide +kernel))
  obtain ⟨a53, s53⟩ := st_str (hts (.stringRef "DigestStack" 53 "the tape has no room") (in_t2 (List.mem_of_getElem? (i := 5) rfl))) (ft_at hgv (i := 158) (by decide +kernel))
  obtain ⟨a162, s162⟩ := st_str (hts (.stringRef "DigestStack" 162 "no such stream") (in_t2 (List.mem_of_getElem? (i := 31) rfl))) (ft_at hgv (i := 183) (by decide +kernel))
  obtain ⟨a168, s168⟩ := st_str (hts (.stringRef "DigestStack" 168 "no such kind") (in_t2 (List.mem_of_getElem? (i := 41) rfl))) (ft_at hgv (i := 203) (by decide +kernel))
  obtain ⟨a164, s164⟩ := st_str (hts (.stringRef "DigestStack" 164 "the stream has not begun, or is at its end") (in_t2 (List.mem_of_getElem? (i := 184) rfl))) (ft_at hgv (i := 222) (by decide +kernel))
  obtain ⟨a86, s86⟩ := st_str (hts (.stringRef "DigestStack" 86 "n is not 0 .. 20000") (in_t2 (List.mem_of_getElem? (i := 202) rfl))) (ft_at hgv (i := 272) (by decide +kernel))
  obtain ⟨a99, s99⟩ := st_str (hts (.stringRef "DigestStack" 99 "the stream has not begun") (in_t2 (List.mem_of_getElem? (i := 225) rfl))) (ft_at hgv (i := 300) (by decide +kernel))
  obtain ⟨a119, s119⟩ := st_str (hts (.stringRef "DigestStack" 119 "no such question") (in_t3 (List.mem_of_getElem? (i := 9) rfl))) (ft_at hgv (i := 334) (by decide +kernel))
  obtain ⟨a166, s166⟩ := st_str (hts (.stringRef "DigestStack" 166 "no such register") (in_t3 (List.mem_of_getElem? (i := 21) rfl))) (ft_at hgv (i := 361) (by decide +kernel))
  obtain ⟨a128, s128⟩ := st_str (hts (.stringRef "DigestStack" 128 "n is not 0 .. 16320") (in_t3 (List.mem_of_getElem? (i := 44) rfl))) (ft_at hgv (i := 389) (by decide +kernel))
  obtain ⟨a140, s140⟩ := st_str (hts (.stringRef "DigestStack" 140 "turns are not 1 .. 500") (in_t3 (List.mem_of_getElem? (i := 59) rfl))) (ft_at hgv (i := 421) (by decide +kernel))
  obtain ⟨a142, s142⟩ := st_str (hts (.stringRef "DigestStack" 142 "n is not 0 .. 400") (in_t3 (List.mem_of_getElem? (i := 60) rfl))) (ft_at hgv (i := 457) (by decide +kernel))
  have zU := vx_Zqof (A := fun q : Nat => s.heap.size ≤ q) (C := "java/lang/Throwable") (n := "UNASSIGNED_STACK") (d := "[Ljava/lang/StackTraceElement;") (hts _ (in_t1 (List.mem_of_getElem? (i := 205) rfl))) (hts _ (in_t1 (List.mem_of_getElem? (i := 6) rfl))) (ft_at hgv (i := 87) (by decide +kernel)) hAn
  have zV := vx_Zqof (A := fun q : Nat => s.heap.size ≤ q) (C := "java/lang/Throwable") (n := "SUPPRESSED_SENTINEL") (d := "Ljava/util/List;") (hts _ (in_t1 (List.mem_of_getElem? (i := 207) rfl))) (hts _ (in_t1 (List.mem_of_getElem? (i := 6) rfl))) (ft_at hgv (i := 88) (by decide +kernel)) hAn
  refine ⟨((va_up (va_up (va_up (va_up (fun _ => c0) 1 c1) 2 c2) 3 c3) 4 c4, va_up (va_up (va_up (va_up (fun _ => i0) 1 i1) 2 i2) 3 i3) 4 i4), va_up (va_up (va_up (va_up (va_up (fun _ => cB) 1 cI) 2 cJ) 3 cZ) 4 cR) 5 cS, (va_up (va_up (va_up (va_up (va_up (va_up (va_up (va_up (va_up (va_up (va_up (va_up (va_up (va_up (va_up (va_up (fun _ => 0) 0 t0) 1 t1) 2 t2) 3 t3) 144 a44) 153 a53) 262 a162) 268 a168) 264 a164) 186 a86) 199 a99) 219 a119) 266 a166) 228 a128) 240 a140) 242 a142)), ⟨⟨?_, ?_⟩, hgn, List.forall_mem_cons.mpr ⟨s44, List.forall_mem_cons.mpr ⟨s53, List.forall_mem_cons.mpr ⟨s162, List.forall_mem_cons.mpr ⟨s168, List.forall_mem_cons.mpr ⟨s164, List.forall_mem_cons.mpr ⟨s86, List.forall_mem_cons.mpr ⟨s99, List.forall_mem_cons.mpr ⟨s119, List.forall_mem_cons.mpr ⟨s166, List.forall_mem_cons.mpr ⟨s128, List.forall_mem_cons.mpr ⟨s140, List.forall_mem_cons.mpr ⟨s142, fun _ h => absurd h List.not_mem_nil⟩⟩⟩⟩⟩⟩⟩⟩⟩⟩⟩⟩, List.forall_mem_cons.mpr ⟨va_Nw.of rfl (hts _ (in_t1 (List.mem_of_getElem? (i := 180) rfl))), List.forall_mem_cons.mpr ⟨va_Nw.of rfl (hts _ (in_t2 (List.mem_of_getElem? (i := 24) rfl))), List.forall_mem_cons.mpr ⟨va_Nw.of rfl (hts _ (in_t2 (List.mem_of_getElem? (i := 177) rfl))), List.forall_mem_cons.mpr ⟨va_Nw.of rfl (hts _ (in_t1 (List.mem_of_getElem? (i := 182) rfl))), List.forall_mem_cons.mpr ⟨va_Nw.of rfl (hts _ (in_t1 (List.mem_of_getElem? (i := 184) rfl))), List.forall_mem_cons.mpr ⟨va_Nw.of rfl (hts _ (in_t1 (List.mem_of_getElem? (i := 186) rfl))), fun _ h => absurd h List.not_mem_nil⟩⟩⟩⟩⟩⟩, va_Nc.of (ft_at hgv (i := 130) (by decide +kernel)), va_Nc.of (ft_at hgv (i := 131) (by decide +kernel)), va_Nc.of (ft_at hgv (i := 137) (by decide +kernel))⟩, ⟨Z0, T0⟩, ⟨Z1, T1⟩, ⟨Z2, T2⟩, ⟨Z3, T3⟩, zU, zV⟩
  · intro k q hq
    match k, hq with
    | 0, hq => cases hq; exact k0
    | 1, hq => cases hq; exact k1
    | 2, hq => cases hq; exact k2
    | 3, hq => cases hq; exact k3
    | 4, hq => cases hq; exact k4
    | k + 5, hq => simp [vwCl] at hq
  · intro k q hq
    match k, hq with
    | 0, hq => cases hq; exact ⟨hB, hB2⟩
    | 1, hq => cases hq; exact ⟨hI, hI2⟩
    | 2, hq => cases hq; exact ⟨hJ, hJ2⟩
    | 3, hq => cases hq; exact ⟨hZ, hZ2⟩
    | 4, hq => cases hq; exact ⟨hR, hR2⟩
    | 5, hq => cases hq; exact ⟨hS, hS2⟩
    | k + 6, hq => simp at hq
def A0w : AS := (([], [], fun _ => [], fun _ => (false, 0, false, false, 0, (fun _ => 0, []), [])) : AS)
abbrev u0w : XU := ((fun _ => 0, fun _ _ => 0, fun _ _ => 0, (va_up (va_up (va_up (va_up (va_up (fun _ => 0) 0 (-1)) 5 (-1)) 10 (-1)) 15 (-1)) 20 (-1)), fun _ => 0) : XU)
theorem XR0 : XR u0w A0w := by
  have h : SX (fun _ => 0) (-1) 0 0 0 0 0 0 (fun _ => 0) (fun _ => 0) (false, 0, false, false, 0, (fun _ => 0, []), []) := ⟨sb_fit0, fun _ => ⟨rfl, rfl, rfl, rfl⟩, (fun h => nomatch h)⟩
  exact ⟨RowR.nil (by decide), RowR.nil (by decide), ⟨RowR.nil (by decide), RowR.nil (by decide), RowR.nil (by decide)⟩, ⟨h, h, h, h⟩, sb_fit0⟩
abbrev v0w (cf gf xf qf wf : Nat → Int64) : MST := (0, 0, 0, 0, fun _ _ => 0, va_up (va_up (va_up (va_up (va_up (fun _ _ => 0) 2 cf) 3 gf) 21 xf) 22 qf) 23 wf)
theorem MR0 {cf gf xf qf wf : Nat → Int64} (h1 : ∀ j, j < 80 → cf j = kT j) (h2 : ∀ j, j < 8 → gf j = sqA j ∧ gf (8 + j) = sqB j) : MR (v0w cf gf xf qf wf) A0w := by
  refine ⟨TapeR0, ⟨rfl, Nat.zero_le _, fun _ h => absurd h List.not_mem_nil, fun _ h => absurd h (Nat.not_lt_zero _)⟩, fun r hr => ⟨rfl, Nat.zero_le _, fun _ h => absurd h List.not_mem_nil, fun _ h => absurd h (Nat.not_lt_zero _)⟩, fun k hk => ⟨rfl, (fun h => nomatch h)⟩, h1, h2⟩
