/-! the reference is the document's machine -/
theorem TapeR0 {f : Nat → Int32} : TapeR f 0 [] := ⟨rfl, Nat.zero_le _, fun _ h => absurd h List.not_mem_nil, fun _ h => absurd h (Nat.not_lt_zero _)⟩
theorem feed_of {x : Int32} {z : Nat} (h : ¬ (x < 1 ∨ 8 < x ∨ 600 < nI z + x)) : ∃ n, (1 ≤ n ∧ n ≤ 8) ∧ x = nI n ∧ cl x = n := by
  have h1 : ¬ x < 1 := fun c => h (Or.inl c)
  have h8 : ¬ 8 < x := fun c => h (Or.inr (Or.inl c))
  have h0 : ¬ x < 0 := fun c => h1 (Int32.lt_trans c (by decide))
  obtain ⟨j, hj, rfl, e⟩ := rg_of (x := x) (y := 8) (n := 8) (by decide) (fun c => c.elim h0 h8)
  refine ⟨j, ⟨?_, hj⟩, rfl, e⟩
  exact Nat.pos_of_ne_zero (fun c => h1 (by rw [c]; decide))
theorem feed_room {z q n : Nat} (h6 : z ≤ 600) (hz : z = q) (h : ¬ (nI n < 1 ∨ 8 < nI n ∨ 600 < nI q + nI n)) (hn : n ≤ 8) : q + n ≤ 600 := by
  have h1 : ¬ 600 < nI q + nI n := fun c => h (Or.inr (Or.inr c))
  rw [nI_add] at h1
  exact Nat.le_of_not_lt (fun c => h1 (nI_lt (a := 600) c (by omega)))
theorem io_ret {p : Prop} [Decidable p] : (if p then (1 : Int32) else 0).toInt64 = if p then (1 : Int64) else 0 := by
  by_cases c : p
  · rw [if_pos c, if_pos c]; rfl
  · rw [if_neg c, if_neg c]; rfl
theorem str_of {t n : Int32} (h : ¬ (t < 1 ∨ 500 < t ∨ n < 0 ∨ 400 < n)) : ∃ j, (1 ≤ j ∧ j ≤ 500) ∧ t = nI j ∧ cl t = j := by
  have h1 : ¬ t < 1 := fun c => h (Or.inl c)
  have h8 : ¬ 500 < t := fun c => h (Or.inr (Or.inl c))
  have h0 : ¬ t < 0 := fun c => h1 (Int32.lt_trans c (by decide))
  obtain ⟨j, hj, rfl, e⟩ := rg_of (x := t) (y := 500) (n := 500) (by decide) (fun c => c.elim h0 h8)
  exact ⟨j, ⟨Nat.pos_of_ne_zero (fun c => h1 (by rw [c]; decide)), hj⟩, rfl, e⟩
set_option maxRecDepth 100000 in
theorem m_feed (l : Launch) (G : GW) (sz o : Nat) (ad : Nat → Nat) (u : MST) (A : AS) (x : Int32) (v : Int64) (E : AO) (hR : MR u A) (hE : feedA A x v = E) : Met l yX4_feed (Cond.code yX4_feed cX4_feed 5 (some FieldType.int) :: UW) ({ frames := 0, cells := 0, slots := 0, locals := 0 } : Room) (va_Pc [.ref o, .int x, .long v] (gPre G (mW G o ad u) sz)) (va_Qi (fun r v => mOK (Int32.toInt64 r) E v) (fun v => gPost G (va_A (mW G o ad u) sz) (mW G o ad v)) (va_A (mW G o ad u) sz)) 0 0 (va_A (mW G o ad u) sz) := by
  obtain ⟨zt, zo, th, hs, F, L⟩ := u
  have hT : TapeR (F 0) zt A.1 := hR.1
  have hO : OutR (F 16) zo A.2.1 := hR.2.1
  have hG : RegR (F 18) (F 19) A.2.2.1 := hR.2.2.1
  have hS9 : StmR (F 4, F 7, L 5, F 6, L 8) (F 9) (F 10) (F 11) (L 12) (F 13) A.2.2.2 := hR.2.2.2.1
  have hc : ∀ j, j < 80 → L 2 j = kT j := hR.2.2.2.2.1
  have hgf : ∀ j, j < 8 → L 3 j = sqA j ∧ L 3 (8 + j) = sqB j := hR.2.2.2.2.2
  unfold feedA at hE
  have hz : zt = A.1.length := hT.1
  by_cases h1 : x < 1 ∨ 8 < x ∨ 600 < nI A.1.length + x
  · rw [if_pos h1] at hE
    subst hE
    refine gFr_i (c_X4_feedT l G sz o ad (nI zo) th hs zt x v (by rw [hz]; exact h1)) ⟨Nat.le_of_ble_eq_true rfl, Nat.le_of_ble_eq_true rfl, Nat.le_refl _, Nat.le_refl _⟩ [0] [1, 2, 3, 4, 5, 6, 7, 8, 9, 10, 11, 12, 13, 14, 15, 16, 17, 18, 19, 20, 21, 22, 23, 24, 25] [0] 26 rfl (by decide) (by decide) (by decide) (by decide) (by decide) (fun r9 u9 h9 => ?_)
    have er := h9
    subst er
    exact ⟨(zt, zo, nI 1, hs, F, L), ⟨hR, rfl, fun h => absurd h (Nat.succ_ne_zero _)⟩, (by repeat (first | refine List.forall_mem_cons.mpr ⟨⟨_, rfl, rfl⟩, ?_⟩ | exact fun _ h => absurd h List.not_mem_nil)), rfl, rfl⟩
  · rw [if_neg h1] at hE
    obtain ⟨n, h2, rfl, h3⟩ := feed_of h1
    rw [h3] at hE
    have h4 : zt + n ≤ 600 := by
      rw [hz]
      exact feed_room hT.2.1 hz h1 h2.2
    subst hE
    refine gFr_i (c_X4_feed l G sz o ad (nI zo) th hs zt n v (F 0) A.1 hT h2 h4) ⟨Nat.le_of_ble_eq_true rfl, Nat.le_of_ble_eq_true rfl, Nat.le_refl _, Nat.le_refl _⟩ [0, 1] [2, 3, 4, 5, 6, 7, 8, 9, 10, 11, 12, 13, 14, 15, 16, 17, 18, 19, 20, 21, 22, 23, 24, 25] [0, 1] 26 rfl (by decide) (by decide) (by decide) (by decide) (by decide) (fun r9 u9 h9 => ?_)
    obtain ⟨tp1, rfl⟩ : ∃ z, z = u9 := ⟨_, rfl⟩
    obtain ⟨er, hf⟩ := h9
    subst er
    have hf : TapeR tp1 (zt + n) (A.1 ++ octs n v) := hf
    exact ⟨((zt + n), zo, nI 0, hs, (va_up F 0 tp1), L), ⟨⟨hf, hO, hG, hS9, hc, hgf⟩, rfl, fun _ => (nI_l (by omega)).trans (by rw [hz])⟩, (by repeat (first | refine List.forall_mem_cons.mpr ⟨⟨_, rfl, rfl⟩, ?_⟩ | exact fun _ h => absurd h List.not_mem_nil)), rfl, rfl⟩
set_option maxRecDepth 100000 in
theorem m_begin (l : Launch) (G : GW) (sz o : Nat) (ad : Nat → Nat) (u : MST) (A : AS) (x : Int32) (y : Int32) (E : AO) (hR : MR u A) (hE : beginA A x y = E) : Met l yX4_begin (Cond.code yX4_begin cX4_begin 3 (none : Option FieldType) :: UW) ({ frames := 1, cells := 0, slots := 0, locals := 25 } : Room) (va_Pc [.ref o, .int x, .int y] (gPre G (mW G o ad u) sz)) (va_Qv (fun v => mOK 0 E v) (fun v => gPost G (va_A (mW G o ad u) sz) (mW G o ad v)) (va_A (mW G o ad u) sz)) 0 0 (va_A (mW G o ad u) sz) := by
  obtain ⟨zt, zo, th, hs, F, L⟩ := u
  have hT : TapeR (F 0) zt A.1 := hR.1
  have hO : OutR (F 16) zo A.2.1 := hR.2.1
  have hG : RegR (F 18) (F 19) A.2.2.1 := hR.2.2.1
  have hS9 : StmR (F 4, F 7, L 5, F 6, L 8) (F 9) (F 10) (F 11) (L 12) (F 13) A.2.2.2 := hR.2.2.2.1
  have hc : ∀ j, j < 80 → L 2 j = kT j := hR.2.2.2.2.1
  have hgf : ∀ j, j < 8 → L 3 j = sqA j ∧ L 3 (8 + j) = sqB j := hR.2.2.2.2.2
  unfold beginA at hE
  by_cases h1 : nsI x = 1
  · rw [if_pos h1] at hE
    subst hE
    refine gFr_v (c_X4_beginT1 l G sz o ad (nI zt) (nI zo) th hs x y h1) ⟨Nat.le_of_ble_eq_true rfl, Nat.le_of_ble_eq_true rfl, Nat.le_refl _, Nat.le_refl _⟩ [0] [1, 2, 3, 4, 5, 6, 7, 8, 9, 10, 11, 12, 13, 14, 15, 16, 17, 18, 19, 20, 21, 22, 23, 24, 25] [0] 26 rfl (by decide) (by decide) (by decide) (by decide) (by decide) (fun u9 h9 => ?_)
    exact ⟨(zt, zo, nI 1, hs, F, L), ⟨hR, rfl, fun h => absurd h (Nat.succ_ne_zero _)⟩, (by repeat (first | refine List.forall_mem_cons.mpr ⟨⟨_, rfl, rfl⟩, ?_⟩ | exact fun _ h => absurd h List.not_mem_nil)), rfl, rfl⟩
  · rw [if_neg h1] at hE
    by_cases h2 : nkI y = 1
    · rw [if_pos h2] at hE
      subst hE
      refine gFr_v (c_X4_beginT2 l G sz o ad (nI zt) (nI zo) th hs x y (ns0 h1) h2) ⟨Nat.le_of_ble_eq_true rfl, Nat.le_of_ble_eq_true rfl, Nat.le_refl _, Nat.le_refl _⟩ [0] [1, 2, 3, 4, 5, 6, 7, 8, 9, 10, 11, 12, 13, 14, 15, 16, 17, 18, 19, 20, 21, 22, 23, 24, 25] [0] 26 rfl (by decide) (by decide) (by decide) (by decide) (by decide) (fun u9 h9 => ?_)
      exact ⟨(zt, zo, nI 2, hs, F, L), ⟨hR, rfl, fun h => absurd h (Nat.succ_ne_zero _)⟩, (by repeat (first | refine List.forall_mem_cons.mpr ⟨⟨_, rfl, rfl⟩, ?_⟩ | exact fun _ h => absurd h List.not_mem_nil)), rfl, rfl⟩
    · rw [if_neg h2] at hE
      obtain ⟨s, hs4, rfl, h3⟩ := ns_of h1
      obtain ⟨k, hk4, rfl, h4⟩ := nk_of h2
      rw [h3, h4] at hE
      subst hE
      refine gFr_v (c_X4_begin l G sz o ad (nI zt) (nI zo) th hs s k (F 4) (F 7) (L 5) (F 6) (L 8) (F 24) (L 25) (L 2) (F 9) (F 10) (F 11) (L 12) (F 13) (L 3) A.2.2.2 hs4 hk4 hgf hS9) ⟨Nat.le_of_ble_eq_true rfl, Nat.le_of_ble_eq_true rfl, Nat.le_refl _, Nat.le_refl _⟩ [0, 4, 7, 5, 6, 8, 22, 23, 2, 9, 10, 11, 12, 13, 3] [1, 14, 15, 16, 17, 18, 19, 20, 21, 24, 25] [0, 4, 7, 5, 6, 8, 22, 23, 2, 9, 10, 11, 12, 13, 3] 26 rfl (by decide) (by decide) (by decide) (by decide) (by decide) (fun u9 h9 => ?_)
      obtain ⟨kf1, ff1, sf1, tf1, gb1, gc1, ge1, mf1⟩ := u9
      have hf := h9
      have hf : StmR (kf1, ff1, sf1, (F 6), tf1) gb1 gc1 ge1 mf1 (F 13) (va_up A.2.2.2 s (true, k, false, false, 0, hs0 k, [])) := hf
      exact ⟨(zt, zo, nI 0, hs, (va_up (va_up (va_up (va_up (va_up F 4 kf1) 7 ff1) 9 gb1) 10 gc1) 11 ge1), (va_up (va_up (va_up L 5 sf1) 8 tf1) 12 mf1)), ⟨⟨hT, hO, hG, hf, hc, hgf⟩, rfl, fun _ => rfl⟩, (by repeat (first | refine List.forall_mem_cons.mpr ⟨⟨_, rfl, rfl⟩, ?_⟩ | exact fun _ h => absurd h List.not_mem_nil)), rfl, rfl⟩
set_option maxRecDepth 100000 in
theorem m_code (l : Launch) (G : GW) (sz o : Nat) (ad : Nat → Nat) (u : MST) (A : AS) (x : Int32) (y : Int32) (E : AO) (hR : MR u A) (hE : codeA A x y = E) : Met l yX4_code (Cond.code yX4_code cX4_code 4 (some FieldType.int) :: UW) ({ frames := 5, cells := 0, slots := 0, locals := 137 } : Room) (va_Pc [.ref o, .int x, .int y] (gPre G (mW G o ad u) sz)) (va_Qi (fun r v => mOK (Int32.toInt64 r) E v) (fun v => gPost G (va_A (mW G o ad u) sz) (mW G o ad v)) (va_A (mW G o ad u) sz)) 0 0 (va_A (mW G o ad u) sz) := by
  obtain ⟨zt, zo, th, hs, F, L⟩ := u
  have hT : TapeR (F 0) zt A.1 := hR.1
  have hO : OutR (F 16) zo A.2.1 := hR.2.1
  have hG : RegR (F 18) (F 19) A.2.2.1 := hR.2.2.1
  have hS9 : StmR (F 4, F 7, L 5, F 6, L 8) (F 9) (F 10) (F 11) (L 12) (F 13) A.2.2.2 := hR.2.2.2.1
  have hc : ∀ j, j < 80 → L 2 j = kT j := hR.2.2.2.2.1
  have hgf : ∀ j, j < 8 → L 3 j = sqA j ∧ L 3 (8 + j) = sqB j := hR.2.2.2.2.2
  unfold codeA at hE
  by_cases h1 : nsI x = 1
  · rw [if_pos h1] at hE
    subst hE
    refine gFr_i (c_X4_codeT1 l G sz o ad (nI zt) (nI zo) th hs x y h1) ⟨Nat.le_of_ble_eq_true rfl, Nat.le_of_ble_eq_true rfl, Nat.le_refl _, Nat.le_refl _⟩ [0] [1, 2, 3, 4, 5, 6, 7, 8, 9, 10, 11, 12, 13, 14, 15, 16, 17, 18, 19, 20, 21, 22, 23, 24, 25] [0] 26 rfl (by decide) (by decide) (by decide) (by decide) (by decide) (fun r9 u9 h9 => ?_)
    have er := h9
    subst er
    exact ⟨(zt, zo, nI 1, hs, F, L), ⟨hR, rfl, fun h => absurd h (Nat.succ_ne_zero _)⟩, (by repeat (first | refine List.forall_mem_cons.mpr ⟨⟨_, rfl, rfl⟩, ?_⟩ | exact fun _ h => absurd h List.not_mem_nil)), rfl, rfl⟩
  · rw [if_neg h1] at hE
    by_cases h2 : nkI y = 1
    · rw [if_pos h2] at hE
      subst hE
      refine gFr_i (c_X4_codeT2 l G sz o ad (nI zt) (nI zo) th hs x y (ns0 h1) h2) ⟨Nat.le_of_ble_eq_true rfl, Nat.le_of_ble_eq_true rfl, Nat.le_refl _, Nat.le_refl _⟩ [0] [1, 2, 3, 4, 5, 6, 7, 8, 9, 10, 11, 12, 13, 14, 15, 16, 17, 18, 19, 20, 21, 22, 23, 24, 25] [0] 26 rfl (by decide) (by decide) (by decide) (by decide) (by decide) (fun r9 u9 h9 => ?_)
      have er := h9
      subst er
      exact ⟨(zt, zo, nI 2, hs, F, L), ⟨hR, rfl, fun h => absurd h (Nat.succ_ne_zero _)⟩, (by repeat (first | refine List.forall_mem_cons.mpr ⟨⟨_, rfl, rfl⟩, ?_⟩ | exact fun _ h => absurd h List.not_mem_nil)), rfl, rfl⟩
    · rw [if_neg h2] at hE
      obtain ⟨s, hs4, rfl, h3⟩ := ns_of h1
      obtain ⟨k, hk4, rfl, h4⟩ := nk_of h2
      rw [h3, h4] at hE
      subst hE
      refine gFr_i (c_X4_code l G sz o ad (nI zo) th hs zt s k (F 4) (F 7) (L 5) (F 6) (L 8) (F 24) (L 25) (L 2) (F 9) (F 10) (F 11) (L 12) (F 13) (L 3) (F 14) (F 15) (F 26) (F 0) A.1 A.2.2.2 hs4 hk4 hc hgf hT hS9) ⟨Nat.le_of_ble_eq_true rfl, Nat.le_of_ble_eq_true rfl, Nat.le_refl _, Nat.le_refl _⟩ [0, 4, 7, 5, 6, 8, 22, 23, 2, 9, 10, 11, 12, 13, 3, 14, 15, 24, 1] [16, 17, 18, 19, 20, 21, 25] [0, 4, 7, 5, 6, 8, 22, 23, 2, 9, 10, 11, 12, 13, 3, 14, 15, 24, 1] 26 rfl (by decide) (by decide) (by decide) (by decide) (by decide) (fun r9 u9 h9 => ?_)
      obtain ⟨kf1, ff1, sf1, bf1, tf1, nf1, df1, gb1, gc1, ge1, mf1, ys1, ky1, dg1, hf1⟩ := u9
      obtain ⟨er, hf⟩ := h9
      subst er
      have hf : StmR (kf1, ff1, sf1, bf1, tf1) gb1 gc1 ge1 mf1 ys1 (va_up A.2.2.2 s (true, k, true, false, 0, kin k (keyQ k A.1) 54, keyQ k A.1)) := hf
      exact ⟨(0, zo, nI 0, nI zt, (va_up (va_up (va_up (va_up (va_up (va_up (va_up (va_up (va_up (va_up (va_up F 4 kf1) 7 ff1) 6 bf1) 24 nf1) 9 gb1) 10 gc1) 11 ge1) 13 ys1) 14 ky1) 15 dg1) 26 hf1), (va_up (va_up (va_up (va_up L 5 sf1) 8 tf1) 25 df1) 12 mf1)), ⟨⟨TapeR0, hO, hG, hf, hc, hgf⟩, rfl, fun _ => (nI_l (by have := hT.2.1; omega)).trans (by rw [hT.1])⟩, (by repeat (first | refine List.forall_mem_cons.mpr ⟨⟨_, rfl, rfl⟩, ?_⟩ | exact fun _ h => absurd h List.not_mem_nil)), rfl, rfl⟩
set_option maxRecDepth 100000 in
theorem m_update (l : Launch) (G : GW) (sz o : Nat) (ad : Nat → Nat) (u : MST) (A : AS) (x : Int32) (E : AO) (hR : MR u A) (hE : updateA A x = E) : Met l yX4_update (Cond.code yX4_update cX4_update 3 (some FieldType.long) :: UW) ({ frames := 3, cells := 0, slots := 0, locals := 87 } : Room) (va_Pc [.ref o, .int x] (gPre G (mW G o ad u) sz)) (va_Ql (fun r v => mOK r E v) (fun v => gPost G (va_A (mW G o ad u) sz) (mW G o ad v)) (va_A (mW G o ad u) sz)) 0 0 (va_A (mW G o ad u) sz) := by
  obtain ⟨zt, zo, th, hs, F, L⟩ := u
  have hT : TapeR (F 0) zt A.1 := hR.1
  have hO : OutR (F 16) zo A.2.1 := hR.2.1
  have hG : RegR (F 18) (F 19) A.2.2.1 := hR.2.2.1
  have hS9 : StmR (F 4, F 7, L 5, F 6, L 8) (F 9) (F 10) (F 11) (L 12) (F 13) A.2.2.2 := hR.2.2.2.1
  have hc : ∀ j, j < 80 → L 2 j = kT j := hR.2.2.2.2.1
  have hgf : ∀ j, j < 8 → L 3 j = sqA j ∧ L 3 (8 + j) = sqB j := hR.2.2.2.2.2
  unfold updateA at hE
  by_cases h1 : nsI x = 1
  · rw [if_pos h1] at hE
    subst hE
    refine gFr_l (c_X4_updateT1 l G sz o ad (nI zt) (nI zo) th hs x h1) ⟨Nat.le_of_ble_eq_true rfl, Nat.le_of_ble_eq_true rfl, Nat.le_refl _, Nat.le_refl _⟩ [0] [1, 2, 3, 4, 5, 6, 7, 8, 9, 10, 11, 12, 13, 14, 15, 16, 17, 18, 19, 20, 21, 22, 23, 24, 25] [0] 26 rfl (by decide) (by decide) (by decide) (by decide) (by decide) (fun r9 u9 h9 => ?_)
    have er := h9
    subst er
    exact ⟨(zt, zo, nI 1, hs, F, L), ⟨hR, rfl, fun h => absurd h (Nat.succ_ne_zero _)⟩, (by repeat (first | refine List.forall_mem_cons.mpr ⟨⟨_, rfl, rfl⟩, ?_⟩ | exact fun _ h => absurd h List.not_mem_nil)), rfl, rfl⟩
  · rw [if_neg h1] at hE
    obtain ⟨s, hs4, rfl, h3⟩ := ns_of h1
    rw [h3] at hE
    have hl9 := hS9 s hs4
    cases hsh : shut (A.2.2.2 s) with
    | true =>
      unfold upd1 at hE
      rw [if_pos hsh] at hE
      subst hE
      by_cases hb : (A.2.2.2 s).1 = true
      · have hed : (A.2.2.2 s).2.2.2.1 = true := by unfold shut at hsh; rw [hb] at hsh; exact hsh
        refine gFr_l (c_X4_updateT2b l G sz o ad (nI zt) (nI zo) th hs s (F 9) (F 11) hs4 (by rw [hl9.1, hb]; rfl) (by rw [(hl9.2 hb).2.1, hed]; rfl)) ⟨Nat.le_of_ble_eq_true rfl, Nat.le_of_ble_eq_true rfl, Nat.le_refl _, Nat.le_refl _⟩ [0, 9, 11] [1, 2, 3, 4, 5, 6, 7, 8, 10, 12, 13, 14, 15, 16, 17, 18, 19, 20, 21, 22, 23, 24, 25] [0, 9, 11] 26 rfl (by decide) (by decide) (by decide) (by decide) (by decide) (fun r9 u9 h9 => ?_)
        have er := h9
        subst er
        exact ⟨(zt, zo, nI 2, hs, F, L), ⟨hR, rfl, fun h => absurd h (Nat.succ_ne_zero _)⟩, (by repeat (first | refine List.forall_mem_cons.mpr ⟨⟨_, rfl, rfl⟩, ?_⟩ | exact fun _ h => absurd h List.not_mem_nil)), rfl, rfl⟩
      · have hb0 : (A.2.2.2 s).1 = false := Bool.eq_false_iff.mpr hb
        refine gFr_l (c_X4_updateT2 l G sz o ad (nI zt) (nI zo) th hs s (F 9) hs4 (by rw [hl9.1, hb0]; rfl)) ⟨Nat.le_of_ble_eq_true rfl, Nat.le_of_ble_eq_true rfl, Nat.le_refl _, Nat.le_refl _⟩ [0, 9] [1, 2, 3, 4, 5, 6, 7, 8, 10, 11, 12, 13, 14, 15, 16, 17, 18, 19, 20, 21, 22, 23, 24, 25] [0, 9] 26 rfl (by decide) (by decide) (by decide) (by decide) (by decide) (fun r9 u9 h9 => ?_)
        have er := h9
        subst er
        exact ⟨(zt, zo, nI 2, hs, F, L), ⟨hR, rfl, fun h => absurd h (Nat.succ_ne_zero _)⟩, (by repeat (first | refine List.forall_mem_cons.mpr ⟨⟨_, rfl, rfl⟩, ?_⟩ | exact fun _ h => absurd h List.not_mem_nil)), rfl, rfl⟩
    | false =>
      obtain ⟨k, cd, T, h, kq, hst⟩ := shut_no hsh
      rw [hst] at hE
      subst hE
      refine gFr_l (c_X4_update l G sz o ad (nI zo) th hs zt s k cd T h kq (F 4) (F 7) (L 5) (F 6) (L 8) (F 24) (L 25) (L 2) (F 9) (F 10) (F 11) (L 12) (F 13) (F 0) A.1 A.2.2.2 hs4 hc hS9 hst hT) ⟨Nat.le_of_ble_eq_true rfl, Nat.le_of_ble_eq_true rfl, Nat.le_refl _, Nat.le_refl _⟩ [0, 4, 7, 5, 6, 8, 22, 23, 2, 9, 10, 11, 12, 13, 1] [3, 14, 15, 16, 17, 18, 19, 20, 21, 24, 25] [0, 4, 7, 5, 6, 8, 22, 23, 2, 9, 10, 11, 12, 13, 1] 26 rfl (by decide) (by decide) (by decide) (by decide) (by decide) (fun r9 u9 h9 => ?_)
      obtain ⟨ff1, sf1, bf1, tf1, nf1, df1, mf1⟩ := u9
      obtain ⟨er, hf⟩ := h9
      subst er
      have hf : StmR ((F 4), ff1, sf1, bf1, tf1) (F 9) (F 10) (F 11) mf1 (F 13) (va_up A.2.2.2 s (true, k, cd, false, T + zt, plcs k h A.1, kq)) := hf
      exact ⟨(0, zo, nI 0, hs, (va_up (va_up (va_up F 7 ff1) 6 bf1) 24 nf1), (va_up (va_up (va_up (va_up L 5 sf1) 8 tf1) 25 df1) 12 mf1)), ⟨⟨TapeR0, hO, hG, by rw [hT.1] at hf; exact hf, hc, hgf⟩, rfl, fun _ => by rw [hT.1]; rfl⟩, (by repeat (first | refine List.forall_mem_cons.mpr ⟨⟨_, rfl, rfl⟩, ?_⟩ | exact fun _ h => absurd h List.not_mem_nil)), rfl, rfl⟩
set_option maxRecDepth 100000 in
theorem m_repeat (l : Launch) (G : GW) (sz o : Nat) (ad : Nat → Nat) (u : MST) (A : AS) (x : Int32) (w : Int32) (n : Int32) (E : AO) (hR : MR u A) (hE : repeatA A x w n = E) : Met l yX4_repeat (Cond.code yX4_repeat cX4_repeat 5 (some FieldType.long) :: UW) ({ frames := 3, cells := 0, slots := 0, locals := 87 } : Room) (va_Pc [.ref o, .int x, .int w, .int n] (gPre G (mW G o ad u) sz)) (va_Ql (fun r v => mOK r E v) (fun v => gPost G (va_A (mW G o ad u) sz) (mW G o ad v)) (va_A (mW G o ad u) sz)) 0 0 (va_A (mW G o ad u) sz) := by
  obtain ⟨zt, zo, th, hs, F, L⟩ := u
  have hT : TapeR (F 0) zt A.1 := hR.1
  have hO : OutR (F 16) zo A.2.1 := hR.2.1
  have hG : RegR (F 18) (F 19) A.2.2.1 := hR.2.2.1
  have hS9 : StmR (F 4, F 7, L 5, F 6, L 8) (F 9) (F 10) (F 11) (L 12) (F 13) A.2.2.2 := hR.2.2.2.1
  have hc : ∀ j, j < 80 → L 2 j = kT j := hR.2.2.2.2.1
  have hgf : ∀ j, j < 8 → L 3 j = sqA j ∧ L 3 (8 + j) = sqB j := hR.2.2.2.2.2
  unfold repeatA at hE
  by_cases h1 : nsI x = 1
  · rw [if_pos h1] at hE
    subst hE
    refine gFr_l (c_X4_repeatT1 l G sz o ad (nI zt) (nI zo) th hs x w n h1) ⟨Nat.le_of_ble_eq_true rfl, Nat.le_of_ble_eq_true rfl, Nat.le_refl _, Nat.le_refl _⟩ [0] [1, 2, 3, 4, 5, 6, 7, 8, 9, 10, 11, 12, 13, 14, 15, 16, 17, 18, 19, 20, 21, 22, 23, 24, 25] [0] 26 rfl (by decide) (by decide) (by decide) (by decide) (by decide) (fun r9 u9 h9 => ?_)
    have er := h9
    subst er
    exact ⟨(zt, zo, nI 1, hs, F, L), ⟨hR, rfl, fun h => absurd h (Nat.succ_ne_zero _)⟩, (by repeat (first | refine List.forall_mem_cons.mpr ⟨⟨_, rfl, rfl⟩, ?_⟩ | exact fun _ h => absurd h List.not_mem_nil)), rfl, rfl⟩
  · rw [if_neg h1] at hE
    obtain ⟨s, hs4, rfl, h3⟩ := ns_of h1
    rw [h3] at hE
    have hl9 := hS9 s hs4
    cases hsh : shut (A.2.2.2 s) with
    | true =>
      unfold rep1 at hE
      rw [if_pos hsh] at hE
      subst hE
      by_cases hb : (A.2.2.2 s).1 = true
      · have hed : (A.2.2.2 s).2.2.2.1 = true := by unfold shut at hsh; rw [hb] at hsh; exact hsh
        refine gFr_l (c_X4_repeatT2b l G sz o ad (nI zt) (nI zo) th hs s (F 9) (F 11) w n hs4 (by rw [hl9.1, hb]; rfl) (by rw [(hl9.2 hb).2.1, hed]; rfl)) ⟨Nat.le_of_ble_eq_true rfl, Nat.le_of_ble_eq_true rfl, Nat.le_refl _, Nat.le_refl _⟩ [0, 9, 11] [1, 2, 3, 4, 5, 6, 7, 8, 10, 12, 13, 14, 15, 16, 17, 18, 19, 20, 21, 22, 23, 24, 25] [0, 9, 11] 26 rfl (by decide) (by decide) (by decide) (by decide) (by decide) (fun r9 u9 h9 => ?_)
        have er := h9
        subst er
        exact ⟨(zt, zo, nI 2, hs, F, L), ⟨hR, rfl, fun h => absurd h (Nat.succ_ne_zero _)⟩, (by repeat (first | refine List.forall_mem_cons.mpr ⟨⟨_, rfl, rfl⟩, ?_⟩ | exact fun _ h => absurd h List.not_mem_nil)), rfl, rfl⟩
      · have hb0 : (A.2.2.2 s).1 = false := Bool.eq_false_iff.mpr hb
        refine gFr_l (c_X4_repeatT2 l G sz o ad (nI zt) (nI zo) th hs s (F 9) w n hs4 (by rw [hl9.1, hb0]; rfl)) ⟨Nat.le_of_ble_eq_true rfl, Nat.le_of_ble_eq_true rfl, Nat.le_refl _, Nat.le_refl _⟩ [0, 9] [1, 2, 3, 4, 5, 6, 7, 8, 10, 11, 12, 13, 14, 15, 16, 17, 18, 19, 20, 21, 22, 23, 24, 25] [0, 9] 26 rfl (by decide) (by decide) (by decide) (by decide) (by decide) (fun r9 u9 h9 => ?_)
        have er := h9
        subst er
        exact ⟨(zt, zo, nI 2, hs, F, L), ⟨hR, rfl, fun h => absurd h (Nat.succ_ne_zero _)⟩, (by repeat (first | refine List.forall_mem_cons.mpr ⟨⟨_, rfl, rfl⟩, ?_⟩ | exact fun _ h => absurd h List.not_mem_nil)), rfl, rfl⟩
    | false =>
      obtain ⟨k, cd, T, h, kq, hst⟩ := shut_no hsh
      rw [hst] at hE
      by_cases h5 : n < 0 ∨ 20000 < n
      · have hE2 : E = (3, 0, A) := by rw [← hE]; exact if_pos h5
        subst hE2
        refine gFr_l (c_X4_repeatT3 l G sz o ad (nI zt) (nI zo) th hs s (F 9) (F 11) w n hs4 (by rw [hl9.1, hst]; rfl) (by rw [(hl9.2 (by rw [hst])).2.1, hst]; rfl) h5) ⟨Nat.le_of_ble_eq_true rfl, Nat.le_of_ble_eq_true rfl, Nat.le_refl _, Nat.le_refl _⟩ [0, 9, 11] [1, 2, 3, 4, 5, 6, 7, 8, 10, 12, 13, 14, 15, 16, 17, 18, 19, 20, 21, 22, 23, 24, 25] [0, 9, 11] 26 rfl (by decide) (by decide) (by decide) (by decide) (by decide) (fun r9 u9 h9 => ?_)
        have er := h9
        subst er
        exact ⟨(zt, zo, nI 3, hs, F, L), ⟨hR, rfl, fun h => absurd h (Nat.succ_ne_zero _)⟩, (by repeat (first | refine List.forall_mem_cons.mpr ⟨⟨_, rfl, rfl⟩, ?_⟩ | exact fun _ h => absurd h List.not_mem_nil)), rfl, rfl⟩
      · obtain ⟨j, hj, rfl, h6⟩ := rg_of (y := 20000) (n := 20000) (by decide) h5
        have hE2 : E = (0, lN (T + j), setS A s (true, k, cd, false, T + j, plcs k h (List.replicate j (o8 w)), kq)) := by
          rw [← hE]
          show (if nI j < 0 ∨ 20000 < nI j then ((3, 0, A) : AO) else (0, lN (T + cl (nI j)), setS A s (true, k, cd, false, T + cl (nI j), plcs k h (List.replicate (cl (nI j)) (o8 w)), kq))) = _
          rw [if_neg h5, h6]
        subst hE2
        refine gFr_l (c_X4_repeat l G sz o ad (nI zt) (nI zo) th hs j w s k cd T h kq (F 4) (F 7) (L 5) (F 6) (L 8) (F 24) (L 25) (L 2) (F 9) (F 10) (F 11) (L 12) (F 13) A.2.2.2 hs4 hc hS9 hst hj) ⟨Nat.le_of_ble_eq_true rfl, Nat.le_of_ble_eq_true rfl, Nat.le_refl _, Nat.le_refl _⟩ [0, 4, 7, 5, 6, 8, 22, 23, 2, 9, 10, 11, 12, 13] [1, 3, 14, 15, 16, 17, 18, 19, 20, 21, 24, 25] [0, 4, 7, 5, 6, 8, 22, 23, 2, 9, 10, 11, 12, 13] 26 rfl (by decide) (by decide) (by decide) (by decide) (by decide) (fun r9 u9 h9 => ?_)
        obtain ⟨ff1, sf1, bf1, tf1, nf1, df1, mf1⟩ := u9
        obtain ⟨er, hf⟩ := h9
        subst er
        have hf : StmR ((F 4), ff1, sf1, bf1, tf1) (F 9) (F 10) (F 11) mf1 (F 13) (va_up A.2.2.2 s (true, k, cd, false, T + j, plcs k h (List.replicate j (o8 w)), kq)) := hf
        exact ⟨(zt, zo, nI 0, hs, (va_up (va_up (va_up F 7 ff1) 6 bf1) 24 nf1), (va_up (va_up (va_up (va_up L 5 sf1) 8 tf1) 25 df1) 12 mf1)), ⟨⟨hT, hO, hG, hf, hc, hgf⟩, rfl, fun _ => rfl⟩, (by repeat (first | refine List.forall_mem_cons.mpr ⟨⟨_, rfl, rfl⟩, ?_⟩ | exact fun _ h => absurd h List.not_mem_nil)), rfl, rfl⟩
set_option maxRecDepth 100000 in
theorem m_finish (l : Launch) (G : GW) (sz o : Nat) (ad : Nat → Nat) (u : MST) (A : AS) (x : Int32) (E : AO) (hR : MR u A) (hE : finishA A x = E) : Met l yX4_finish (Cond.code yX4_finish cX4_finish 3 (some FieldType.int) :: UW) ({ frames := 4, cells := 0, slots := 0, locals := 113 } : Room) (va_Pc [.ref o, .int x] (gPre G (mW G o ad u) sz)) (va_Qi (fun r v => mOK (Int32.toInt64 r) E v) (fun v => gPost G (va_A (mW G o ad u) sz) (mW G o ad v)) (va_A (mW G o ad u) sz)) 0 0 (va_A (mW G o ad u) sz) := by
  obtain ⟨zt, zo, th, hs, F, L⟩ := u
  have hT : TapeR (F 0) zt A.1 := hR.1
  have hO : OutR (F 16) zo A.2.1 := hR.2.1
  have hG : RegR (F 18) (F 19) A.2.2.1 := hR.2.2.1
  have hS9 : StmR (F 4, F 7, L 5, F 6, L 8) (F 9) (F 10) (F 11) (L 12) (F 13) A.2.2.2 := hR.2.2.2.1
  have hc : ∀ j, j < 80 → L 2 j = kT j := hR.2.2.2.2.1
  have hgf : ∀ j, j < 8 → L 3 j = sqA j ∧ L 3 (8 + j) = sqB j := hR.2.2.2.2.2
  unfold finishA at hE
  by_cases h1 : nsI x = 1
  · rw [if_pos h1] at hE
    subst hE
    refine gFr_i (c_X4_finishT1 l G sz o ad (nI zt) (nI zo) th hs x h1) ⟨Nat.le_of_ble_eq_true rfl, Nat.le_of_ble_eq_true rfl, Nat.le_refl _, Nat.le_refl _⟩ [0] [1, 2, 3, 4, 5, 6, 7, 8, 9, 10, 11, 12, 13, 14, 15, 16, 17, 18, 19, 20, 21, 22, 23, 24, 25] [0] 26 rfl (by decide) (by decide) (by decide) (by decide) (by decide) (fun r9 u9 h9 => ?_)
    have er := h9
    subst er
    exact ⟨(zt, zo, nI 1, hs, F, L), ⟨hR, rfl, fun h => absurd h (Nat.succ_ne_zero _)⟩, (by repeat (first | refine List.forall_mem_cons.mpr ⟨⟨_, rfl, rfl⟩, ?_⟩ | exact fun _ h => absurd h List.not_mem_nil)), rfl, rfl⟩
  · rw [if_neg h1] at hE
    obtain ⟨s, hs4, rfl, h3⟩ := ns_of h1
    rw [h3] at hE
    have hl9 := hS9 s hs4
    cases hsh : shut (A.2.2.2 s) with
    | true =>
      unfold fin1 at hE
      rw [if_pos hsh] at hE
      subst hE
      by_cases hb : (A.2.2.2 s).1 = true
      · have hed : (A.2.2.2 s).2.2.2.1 = true := by unfold shut at hsh; rw [hb] at hsh; exact hsh
        refine gFr_i (c_X4_finishT2b l G sz o ad (nI zt) (nI zo) th hs s (F 9) (F 11) hs4 (by rw [hl9.1, hb]; rfl) (by rw [(hl9.2 hb).2.1, hed]; rfl)) ⟨Nat.le_of_ble_eq_true rfl, Nat.le_of_ble_eq_true rfl, Nat.le_refl _, Nat.le_refl _⟩ [0, 9, 11] [1, 2, 3, 4, 5, 6, 7, 8, 10, 12, 13, 14, 15, 16, 17, 18, 19, 20, 21, 22, 23, 24, 25] [0, 9, 11] 26 rfl (by decide) (by decide) (by decide) (by decide) (by decide) (fun r9 u9 h9 => ?_)
        have er := h9
        subst er
        exact ⟨(zt, zo, nI 2, hs, F, L), ⟨hR, rfl, fun h => absurd h (Nat.succ_ne_zero _)⟩, (by repeat (first | refine List.forall_mem_cons.mpr ⟨⟨_, rfl, rfl⟩, ?_⟩ | exact fun _ h => absurd h List.not_mem_nil)), rfl, rfl⟩
      · have hb0 : (A.2.2.2 s).1 = false := Bool.eq_false_iff.mpr hb
        refine gFr_i (c_X4_finishT2 l G sz o ad (nI zt) (nI zo) th hs s (F 9) hs4 (by rw [hl9.1, hb0]; rfl)) ⟨Nat.le_of_ble_eq_true rfl, Nat.le_of_ble_eq_true rfl, Nat.le_refl _, Nat.le_refl _⟩ [0, 9] [1, 2, 3, 4, 5, 6, 7, 8, 10, 11, 12, 13, 14, 15, 16, 17, 18, 19, 20, 21, 22, 23, 24, 25] [0, 9] 26 rfl (by decide) (by decide) (by decide) (by decide) (by decide) (fun r9 u9 h9 => ?_)
        have er := h9
        subst er
        exact ⟨(zt, zo, nI 2, hs, F, L), ⟨hR, rfl, fun h => absurd h (Nat.succ_ne_zero _)⟩, (by repeat (first | refine List.forall_mem_cons.mpr ⟨⟨_, rfl, rfl⟩, ?_⟩ | exact fun _ h => absurd h List.not_mem_nil)), rfl, rfl⟩
    | false =>
      obtain ⟨k, cd, T, h, kq, hst⟩ := shut_no hsh
      rw [hst] at hE
      have hds : ds k < 2 ^ 31 := by have := ds_le k; omega
      cases cd with
      | false =>
        subst hE
        refine gFr_i (c_X4_finish l G sz o ad (nI zt) th hs (nI zo) s k T h kq (F 4) (F 7) (L 5) (F 6) (L 8) (F 24) (L 25) (L 2) (F 9) (F 10) (F 11) (L 12) (F 13) (L 3) (F 14) (F 15) (F 16) A.2.2.2 hs4 hc hgf hS9 hst) ⟨Nat.le_of_ble_eq_true rfl, Nat.le_of_ble_eq_true rfl, Nat.le_refl _, Nat.le_refl _⟩ [0, 4, 7, 5, 6, 8, 22, 23, 2, 9, 10, 11, 12, 13, 3, 14, 15, 16] [1, 17, 18, 19, 20, 21, 24, 25] [0, 4, 7, 5, 6, 8, 22, 23, 2, 9, 10, 11, 12, 13, 3, 14, 15, 16] 26 rfl (by decide) (by decide) (by decide) (by decide) (by decide) (fun r9 u9 h9 => ?_)
        obtain ⟨kf1, ff1, sf1, bf1, tf1, nf1, df1, ge1, ky1, dg1, uf1⟩ := u9
        obtain ⟨er, hf⟩ := h9
        subst er
        have hf : (OutR uf1 (ds k) (finQ (true, k, false, false, T, h, kq))) ∧ (StmR (kf1, ff1, sf1, bf1, tf1) (F 9) (F 10) ge1 (L 12) (F 13) (va_up A.2.2.2 s (true, k, false, true, T, h, kq))) := hf
        exact ⟨(zt, (ds k), nI 0, hs, (va_up (va_up (va_up (va_up (va_up (va_up (va_up (va_up F 4 kf1) 7 ff1) 6 bf1) 24 nf1) 11 ge1) 14 ky1) 15 dg1) 16 uf1), (va_up (va_up (va_up L 5 sf1) 8 tf1) 25 df1)), ⟨⟨hT, hf.1, hG, hf.2, hc, hgf⟩, rfl, fun _ => nI_l hds⟩, (by repeat (first | refine List.forall_mem_cons.mpr ⟨⟨_, rfl, rfl⟩, ?_⟩ | exact fun _ h => absurd h List.not_mem_nil)), rfl, rfl⟩
      | true =>
        subst hE
        refine gFr_i (c_X4_finishC l G sz o ad (nI zt) th hs (nI zo) s k T h kq (F 4) (F 7) (L 5) (F 6) (L 8) (F 24) (L 25) (L 2) (F 9) (F 10) (F 11) (L 12) (F 13) (L 3) (F 14) (F 15) (F 16) A.2.2.2 hs4 hc hgf hS9 hst) ⟨Nat.le_of_ble_eq_true rfl, Nat.le_of_ble_eq_true rfl, Nat.le_refl _, Nat.le_refl _⟩ [0, 4, 7, 5, 6, 8, 22, 23, 2, 9, 10, 11, 12, 13, 3, 14, 15, 16] [1, 17, 18, 19, 20, 21, 24, 25] [0, 4, 7, 5, 6, 8, 22, 23, 2, 9, 10, 11, 12, 13, 3, 14, 15, 16] 26 rfl (by decide) (by decide) (by decide) (by decide) (by decide) (fun r9 u9 h9 => ?_)
        obtain ⟨kf1, ff1, sf1, bf1, tf1, nf1, df1, ge1, ky1, dg1, uf1⟩ := u9
        obtain ⟨er, hf⟩ := h9
        subst er
        have hf : (OutR uf1 (ds k) (finQ (true, k, true, false, T, h, kq))) ∧ (StmR (kf1, ff1, sf1, bf1, tf1) (F 9) (F 10) ge1 (L 12) (F 13) (va_up A.2.2.2 s (true, k, true, true, T, h, kq))) := hf
        exact ⟨(zt, (ds k), nI 0, hs, (va_up (va_up (va_up (va_up (va_up (va_up (va_up (va_up F 4 kf1) 7 ff1) 6 bf1) 24 nf1) 11 ge1) 14 ky1) 15 dg1) 16 uf1), (va_up (va_up (va_up L 5 sf1) 8 tf1) 25 df1)), ⟨⟨hT, hf.1, hG, hf.2, hc, hgf⟩, rfl, fun _ => nI_l hds⟩, (by repeat (first | refine List.forall_mem_cons.mpr ⟨⟨_, rfl, rfl⟩, ?_⟩ | exact fun _ h => absurd h List.not_mem_nil)), rfl, rfl⟩
set_option maxRecDepth 100000 in
theorem m_copy (l : Launch) (G : GW) (sz o : Nat) (ad : Nat → Nat) (u : MST) (A : AS) (x : Int32) (y : Int32) (E : AO) (hR : MR u A) (hE : copyA A x y = E) : Met l yX4_copy (Cond.code yX4_copy cX4_copy 4 (none : Option FieldType) :: UW) ({ frames := 1, cells := 0, slots := 0, locals := 23 } : Room) (va_Pc [.ref o, .int x, .int y] (gPre G (mW G o ad u) sz)) (va_Qv (fun v => mOK 0 E v) (fun v => gPost G (va_A (mW G o ad u) sz) (mW G o ad v)) (va_A (mW G o ad u) sz)) 0 0 (va_A (mW G o ad u) sz) := by
  obtain ⟨zt, zo, th, hs, F, L⟩ := u
  have hT : TapeR (F 0) zt A.1 := hR.1
  have hO : OutR (F 16) zo A.2.1 := hR.2.1
  have hG : RegR (F 18) (F 19) A.2.2.1 := hR.2.2.1
  have hS9 : StmR (F 4, F 7, L 5, F 6, L 8) (F 9) (F 10) (F 11) (L 12) (F 13) A.2.2.2 := hR.2.2.2.1
  have hc : ∀ j, j < 80 → L 2 j = kT j := hR.2.2.2.2.1
  have hgf : ∀ j, j < 8 → L 3 j = sqA j ∧ L 3 (8 + j) = sqB j := hR.2.2.2.2.2
  unfold copyA at hE
  by_cases h1 : nsI x = 1
  · rw [if_pos h1] at hE
    subst hE
    refine gFr_v (c_X4_copyT1 l G sz o ad (nI zt) (nI zo) th hs x y h1) ⟨Nat.le_of_ble_eq_true rfl, Nat.le_of_ble_eq_true rfl, Nat.le_refl _, Nat.le_refl _⟩ [0] [1, 2, 3, 4, 5, 6, 7, 8, 9, 10, 11, 12, 13, 14, 15, 16, 17, 18, 19, 20, 21, 22, 23, 24, 25] [0] 26 rfl (by decide) (by decide) (by decide) (by decide) (by decide) (fun u9 h9 => ?_)
    exact ⟨(zt, zo, nI 1, hs, F, L), ⟨hR, rfl, fun h => absurd h (Nat.succ_ne_zero _)⟩, (by repeat (first | refine List.forall_mem_cons.mpr ⟨⟨_, rfl, rfl⟩, ?_⟩ | exact fun _ h => absurd h List.not_mem_nil)), rfl, rfl⟩
  · rw [if_neg h1] at hE
    by_cases h2 : nsI y = 1
    · rw [if_pos h2] at hE
      subst hE
      refine gFr_v (c_X4_copyT1b l G sz o ad (nI zt) (nI zo) th hs x y (ns0 h1) h2) ⟨Nat.le_of_ble_eq_true rfl, Nat.le_of_ble_eq_true rfl, Nat.le_refl _, Nat.le_refl _⟩ [0] [1, 2, 3, 4, 5, 6, 7, 8, 9, 10, 11, 12, 13, 14, 15, 16, 17, 18, 19, 20, 21, 22, 23, 24, 25] [0] 26 rfl (by decide) (by decide) (by decide) (by decide) (by decide) (fun u9 h9 => ?_)
      exact ⟨(zt, zo, nI 1, hs, F, L), ⟨hR, rfl, fun h => absurd h (Nat.succ_ne_zero _)⟩, (by repeat (first | refine List.forall_mem_cons.mpr ⟨⟨_, rfl, rfl⟩, ?_⟩ | exact fun _ h => absurd h List.not_mem_nil)), rfl, rfl⟩
    · rw [if_neg h2] at hE
      have h10 := ns0 h1
      obtain ⟨b, hb4, rfl, h4⟩ := ns_of h2
      rw [h4] at hE
      have hl9 := hS9 b hb4
      cases hbb : (A.2.2.2 b).1 with
      | false =>
        have hE2 : E = (2, 0, A) := by rw [← hE]; unfold cop1; rw [hbb]; rfl
        subst hE2
        refine gFr_v (c_X4_copyT2 l G sz o ad (nI zt) (nI zo) th hs x b (F 9) h10 hb4 (by rw [hl9.1, hbb]; rfl)) ⟨Nat.le_of_ble_eq_true rfl, Nat.le_of_ble_eq_true rfl, Nat.le_refl _, Nat.le_refl _⟩ [0, 9] [1, 2, 3, 4, 5, 6, 7, 8, 10, 11, 12, 13, 14, 15, 16, 17, 18, 19, 20, 21, 22, 23, 24, 25] [0, 9] 26 rfl (by decide) (by decide) (by decide) (by decide) (by decide) (fun u9 h9 => ?_)
        exact ⟨(zt, zo, nI 2, hs, F, L), ⟨hR, rfl, fun h => absurd h (Nat.succ_ne_zero _)⟩, (by repeat (first | refine List.forall_mem_cons.mpr ⟨⟨_, rfl, rfl⟩, ?_⟩ | exact fun _ h => absurd h List.not_mem_nil)), rfl, rfl⟩
      | true =>
        obtain ⟨a, ha4, rfl, h3⟩ := ns_of h1
        rw [h3] at hE
        obtain ⟨v, hv⟩ : ∃ v, v = A.2.2.2 b := ⟨_, rfl⟩
        obtain ⟨b9, k, cd, ed, T, h, kq⟩ := v
        rw [← hv] at hbb hE
        have hbb2 : b9 = true := hbb
        subst hbb2
        subst hE
        refine gFr_v (c_X4_copy l G sz o ad (nI zt) (nI zo) th hs a b k cd ed T h kq (F 4) (F 7) (L 5) (F 6) (L 8) (F 24) (L 25) (L 2) (F 9) (F 10) (F 11) (L 12) (F 13) A.2.2.2 ha4 hb4 hS9 hv.symm) ⟨Nat.le_of_ble_eq_true rfl, Nat.le_of_ble_eq_true rfl, Nat.le_refl _, Nat.le_refl _⟩ [0, 4, 7, 5, 6, 8, 22, 23, 2, 9, 10, 11, 12, 13] [1, 3, 14, 15, 16, 17, 18, 19, 20, 21, 24, 25] [0, 4, 7, 5, 6, 8, 22, 23, 2, 9, 10, 11, 12, 13] 26 rfl (by decide) (by decide) (by decide) (by decide) (by decide) (fun u9 h9 => ?_)
        obtain ⟨kf1, ff1, sf1, bf1, tf1, gb1, gc1, ge1, mf1, ys1⟩ := u9
        have hf := h9
        have hf : StmR (kf1, ff1, sf1, bf1, tf1) gb1 gc1 ge1 mf1 ys1 (va_up A.2.2.2 a (true, k, cd, ed, T, h, kq)) := hf
        exact ⟨(zt, zo, nI 0, hs, (va_up (va_up (va_up (va_up (va_up (va_up (va_up F 4 kf1) 7 ff1) 6 bf1) 9 gb1) 10 gc1) 11 ge1) 13 ys1), (va_up (va_up (va_up L 5 sf1) 8 tf1) 12 mf1)), ⟨⟨hT, hO, hG, hf, hc, hgf⟩, rfl, fun _ => rfl⟩, (by repeat (first | refine List.forall_mem_cons.mpr ⟨⟨_, rfl, rfl⟩, ?_⟩ | exact fun _ h => absurd h List.not_mem_nil)), rfl, rfl⟩
set_option maxRecDepth 100000 in
theorem m_about (l : Launch) (G : GW) (sz o : Nat) (ad : Nat → Nat) (u : MST) (A : AS) (x : Int32) (y : Int32) (E : AO) (hR : MR u A) (hE : aboutA A x y = E) : Met l yX4_about (Cond.code yX4_about cX4_about 3 (some FieldType.int) :: UW) ({ frames := 1, cells := 0, slots := 0, locals := 20 } : Room) (va_Pc [.ref o, .int x, .int y] (gPre G (mW G o ad u) sz)) (va_Qi (fun r v => mOK (Int32.toInt64 r) E v) (fun v => gPost G (va_A (mW G o ad u) sz) (mW G o ad v)) (va_A (mW G o ad u) sz)) 0 0 (va_A (mW G o ad u) sz) := by
  obtain ⟨zt, zo, th, hs, F, L⟩ := u
  have hT : TapeR (F 0) zt A.1 := hR.1
  have hO : OutR (F 16) zo A.2.1 := hR.2.1
  have hG : RegR (F 18) (F 19) A.2.2.1 := hR.2.2.1
  have hS9 : StmR (F 4, F 7, L 5, F 6, L 8) (F 9) (F 10) (F 11) (L 12) (F 13) A.2.2.2 := hR.2.2.2.1
  have hc : ∀ j, j < 80 → L 2 j = kT j := hR.2.2.2.2.1
  have hgf : ∀ j, j < 8 → L 3 j = sqA j ∧ L 3 (8 + j) = sqB j := hR.2.2.2.2.2
  unfold aboutA at hE
  by_cases h1 : nsI x = 1
  · rw [if_pos h1] at hE
    subst hE
    refine gFr_i (c_X4_aboutT1 l G sz o ad (nI zt) (nI zo) th hs x y h1) ⟨Nat.le_of_ble_eq_true rfl, Nat.le_of_ble_eq_true rfl, Nat.le_refl _, Nat.le_refl _⟩ [0] [1, 2, 3, 4, 5, 6, 7, 8, 9, 10, 11, 12, 13, 14, 15, 16, 17, 18, 19, 20, 21, 22, 23, 24, 25] [0] 26 rfl (by decide) (by decide) (by decide) (by decide) (by decide) (fun r9 u9 h9 => ?_)
    have er := h9
    subst er
    exact ⟨(zt, zo, nI 1, hs, F, L), ⟨hR, rfl, fun h => absurd h (Nat.succ_ne_zero _)⟩, (by repeat (first | refine List.forall_mem_cons.mpr ⟨⟨_, rfl, rfl⟩, ?_⟩ | exact fun _ h => absurd h List.not_mem_nil)), rfl, rfl⟩
  · rw [if_neg h1] at hE
    by_cases h2 : y < 0 ∨ 3 < y
    · rw [if_pos h2] at hE
      subst hE
      refine gFr_i (c_X4_aboutT1b l G sz o ad (nI zt) (nI zo) th hs x y (ns0 h1) h2) ⟨Nat.le_of_ble_eq_true rfl, Nat.le_of_ble_eq_true rfl, Nat.le_refl _, Nat.le_refl _⟩ [0] [1, 2, 3, 4, 5, 6, 7, 8, 9, 10, 11, 12, 13, 14, 15, 16, 17, 18, 19, 20, 21, 22, 23, 24, 25] [0] 26 rfl (by decide) (by decide) (by decide) (by decide) (by decide) (fun r9 u9 h9 => ?_)
      have er := h9
      subst er
      exact ⟨(zt, zo, nI 1, hs, F, L), ⟨hR, rfl, fun h => absurd h (Nat.succ_ne_zero _)⟩, (by repeat (first | refine List.forall_mem_cons.mpr ⟨⟨_, rfl, rfl⟩, ?_⟩ | exact fun _ h => absurd h List.not_mem_nil)), rfl, rfl⟩
    · rw [if_neg h2] at hE
      obtain ⟨s, hs4, rfl, h3⟩ := ns_of h1
      obtain ⟨j, hj, rfl, h4⟩ := rg_of (y := 3) (n := 3) (by decide) h2
      rw [h3, h4] at hE
      subst hE
      rcases (show j = 0 ∨ j = 1 ∨ j = 2 ∨ j = 3 by omega) with rfl | rfl | rfl | rfl
      · cases hbb : (A.2.2.2 s).1 with
        | false =>
          refine gFr_i (c_X4_about0N l G sz o ad (nI zt) (nI zo) th hs s (F 4) (F 7) (L 5) (F 6) (L 8) (F 24) (L 25) (L 2) (F 9) (F 10) (F 11) (L 12) (F 13) A.2.2.2 hs4 hS9 hbb) ⟨Nat.le_of_ble_eq_true rfl, Nat.le_of_ble_eq_true rfl, Nat.le_refl _, Nat.le_refl _⟩ [0, 4, 7, 5, 6, 8, 22, 23, 2, 9, 10, 11, 12, 13] [1, 3, 14, 15, 16, 17, 18, 19, 20, 21, 24, 25] [0, 4, 7, 5, 6, 8, 22, 23, 2, 9, 10, 11, 12, 13] 26 rfl (by decide) (by decide) (by decide) (by decide) (by decide) (fun r9 u9 h9 => ?_)
          have er := h9
          subst er
          exact ⟨(zt, zo, nI 0, hs, F, L), ⟨⟨hT, hO, hG, hS9, hc, hgf⟩, rfl, fun _ => rfl⟩, (by repeat (first | refine List.forall_mem_cons.mpr ⟨⟨_, rfl, rfl⟩, ?_⟩ | exact fun _ h => absurd h List.not_mem_nil)), rfl, rfl⟩
        | true =>
          obtain ⟨v, hv⟩ : ∃ v, v = A.2.2.2 s := ⟨_, rfl⟩
          obtain ⟨b9, k, cd, ed, T, h, kq⟩ := v
          rw [← hv] at hbb
          have hbb2 : b9 = true := hbb
          subst hbb2
          refine gFr_i (c_X4_about0B l G sz o ad (nI zt) (nI zo) th hs s k cd ed T h kq (F 4) (F 7) (L 5) (F 6) (L 8) (F 24) (L 25) (L 2) (F 9) (F 10) (F 11) (L 12) (F 13) A.2.2.2 hs4 hS9 hv.symm) ⟨Nat.le_of_ble_eq_true rfl, Nat.le_of_ble_eq_true rfl, Nat.le_refl _, Nat.le_refl _⟩ [0, 4, 7, 5, 6, 8, 22, 23, 2, 9, 10, 11, 12, 13] [1, 3, 14, 15, 16, 17, 18, 19, 20, 21, 24, 25] [0, 4, 7, 5, 6, 8, 22, 23, 2, 9, 10, 11, 12, 13] 26 rfl (by decide) (by decide) (by decide) (by decide) (by decide) (fun r9 u9 h9 => ?_)
          have er := h9
          subst er
          exact ⟨(zt, zo, nI 0, hs, F, L), ⟨⟨hT, hO, hG, hS9, hc, hgf⟩, rfl, fun _ => rfl⟩, (by repeat (first | refine List.forall_mem_cons.mpr ⟨⟨_, rfl, rfl⟩, ?_⟩ | exact fun _ h => absurd h List.not_mem_nil)), rfl, rfl⟩
      · cases hbb : (A.2.2.2 s).1 with
        | false =>
          refine gFr_i (c_X4_about1N l G sz o ad (nI zt) (nI zo) th hs s (F 4) (F 7) (L 5) (F 6) (L 8) (F 24) (L 25) (L 2) (F 9) (F 10) (F 11) (L 12) (F 13) A.2.2.2 hs4 hS9 hbb) ⟨Nat.le_of_ble_eq_true rfl, Nat.le_of_ble_eq_true rfl, Nat.le_refl _, Nat.le_refl _⟩ [0, 4, 7, 5, 6, 8, 22, 23, 2, 9, 10, 11, 12, 13] [1, 3, 14, 15, 16, 17, 18, 19, 20, 21, 24, 25] [0, 4, 7, 5, 6, 8, 22, 23, 2, 9, 10, 11, 12, 13] 26 rfl (by decide) (by decide) (by decide) (by decide) (by decide) (fun r9 u9 h9 => ?_)
          have er := h9
          subst er
          exact ⟨(zt, zo, nI 0, hs, F, L), ⟨⟨hT, hO, hG, hS9, hc, hgf⟩, rfl, fun _ => rfl⟩, (by repeat (first | refine List.forall_mem_cons.mpr ⟨⟨_, rfl, rfl⟩, ?_⟩ | exact fun _ h => absurd h List.not_mem_nil)), rfl, rfl⟩
        | true =>
          obtain ⟨v, hv⟩ : ∃ v, v = A.2.2.2 s := ⟨_, rfl⟩
          obtain ⟨b9, k, cd, ed, T, h, kq⟩ := v
          rw [← hv] at hbb
          have hbb2 : b9 = true := hbb
          subst hbb2
          refine gFr_i (c_X4_about1B l G sz o ad (nI zt) (nI zo) th hs s k cd ed T h kq (F 4) (F 7) (L 5) (F 6) (L 8) (F 24) (L 25) (L 2) (F 9) (F 10) (F 11) (L 12) (F 13) A.2.2.2 hs4 hS9 hv.symm) ⟨Nat.le_of_ble_eq_true rfl, Nat.le_of_ble_eq_true rfl, Nat.le_refl _, Nat.le_refl _⟩ [0, 4, 7, 5, 6, 8, 22, 23, 2, 9, 10, 11, 12, 13] [1, 3, 14, 15, 16, 17, 18, 19, 20, 21, 24, 25] [0, 4, 7, 5, 6, 8, 22, 23, 2, 9, 10, 11, 12, 13] 26 rfl (by decide) (by decide) (by decide) (by decide) (by decide) (fun r9 u9 h9 => ?_)
          have er := h9
          subst er
          exact ⟨(zt, zo, nI 0, hs, F, L), ⟨⟨hT, hO, hG, hS9, hc, hgf⟩, rfl, fun _ => rfl⟩, (by repeat (first | refine List.forall_mem_cons.mpr ⟨⟨_, rfl, rfl⟩, ?_⟩ | exact fun _ h => absurd h List.not_mem_nil)), rfl, rfl⟩
      · cases hbb : (A.2.2.2 s).1 with
        | false =>
          refine gFr_i (c_X4_about2N l G sz o ad (nI zt) (nI zo) th hs s (F 4) (F 7) (L 5) (F 6) (L 8) (F 24) (L 25) (L 2) (F 9) (F 10) (F 11) (L 12) (F 13) A.2.2.2 hs4 hS9 hbb) ⟨Nat.le_of_ble_eq_true rfl, Nat.le_of_ble_eq_true rfl, Nat.le_refl _, Nat.le_refl _⟩ [0, 4, 7, 5, 6, 8, 22, 23, 2, 9, 10, 11, 12, 13] [1, 3, 14, 15, 16, 17, 18, 19, 20, 21, 24, 25] [0, 4, 7, 5, 6, 8, 22, 23, 2, 9, 10, 11, 12, 13] 26 rfl (by decide) (by decide) (by decide) (by decide) (by decide) (fun r9 u9 h9 => ?_)
          have er := h9
          subst er
          exact ⟨(zt, zo, nI 0, hs, F, L), ⟨⟨hT, hO, hG, hS9, hc, hgf⟩, rfl, fun _ => rfl⟩, (by repeat (first | refine List.forall_mem_cons.mpr ⟨⟨_, rfl, rfl⟩, ?_⟩ | exact fun _ h => absurd h List.not_mem_nil)), rfl, rfl⟩
        | true =>
          obtain ⟨v, hv⟩ : ∃ v, v = A.2.2.2 s := ⟨_, rfl⟩
          obtain ⟨b9, k, cd, ed, T, h, kq⟩ := v
          rw [← hv] at hbb
          have hbb2 : b9 = true := hbb
          subst hbb2
          refine gFr_i (c_X4_about2B l G sz o ad (nI zt) (nI zo) th hs s k cd ed T h kq (F 4) (F 7) (L 5) (F 6) (L 8) (F 24) (L 25) (L 2) (F 9) (F 10) (F 11) (L 12) (F 13) A.2.2.2 hs4 hS9 hv.symm) ⟨Nat.le_of_ble_eq_true rfl, Nat.le_of_ble_eq_true rfl, Nat.le_refl _, Nat.le_refl _⟩ [0, 4, 7, 5, 6, 8, 22, 23, 2, 9, 10, 11, 12, 13] [1, 3, 14, 15, 16, 17, 18, 19, 20, 21, 24, 25] [0, 4, 7, 5, 6, 8, 22, 23, 2, 9, 10, 11, 12, 13] 26 rfl (by decide) (by decide) (by decide) (by decide) (by decide) (fun r9 u9 h9 => ?_)
          have er := h9
          subst er
          exact ⟨(zt, zo, nI 0, hs, F, L), ⟨⟨hT, hO, hG, hS9, hc, hgf⟩, rfl, fun _ => rfl⟩, (by repeat (first | refine List.forall_mem_cons.mpr ⟨⟨_, rfl, rfl⟩, ?_⟩ | exact fun _ h => absurd h List.not_mem_nil)), rfl, rfl⟩
      · cases hbb : (A.2.2.2 s).1 with
        | false =>
          refine gFr_i (c_X4_about3N l G sz o ad (nI zt) (nI zo) th hs s (F 4) (F 7) (L 5) (F 6) (L 8) (F 24) (L 25) (L 2) (F 9) (F 10) (F 11) (L 12) (F 13) A.2.2.2 hs4 hS9 hbb) ⟨Nat.le_of_ble_eq_true rfl, Nat.le_of_ble_eq_true rfl, Nat.le_refl _, Nat.le_refl _⟩ [0, 4, 7, 5, 6, 8, 22, 23, 2, 9, 10, 11, 12, 13] [1, 3, 14, 15, 16, 17, 18, 19, 20, 21, 24, 25] [0, 4, 7, 5, 6, 8, 22, 23, 2, 9, 10, 11, 12, 13] 26 rfl (by decide) (by decide) (by decide) (by decide) (by decide) (fun r9 u9 h9 => ?_)
          have er := h9
          subst er
          exact ⟨(zt, zo, nI 0, hs, F, L), ⟨⟨hT, hO, hG, hS9, hc, hgf⟩, rfl, fun _ => rfl⟩, (by repeat (first | refine List.forall_mem_cons.mpr ⟨⟨_, rfl, rfl⟩, ?_⟩ | exact fun _ h => absurd h List.not_mem_nil)), rfl, rfl⟩
        | true =>
          obtain ⟨v, hv⟩ : ∃ v, v = A.2.2.2 s := ⟨_, rfl⟩
          obtain ⟨b9, k, cd, ed, T, h, kq⟩ := v
          rw [← hv] at hbb
          have hbb2 : b9 = true := hbb
          subst hbb2
          refine gFr_i (c_X4_about3B l G sz o ad (nI zt) (nI zo) th hs s k cd ed T h kq (F 4) (F 7) (L 5) (F 6) (L 8) (F 24) (L 25) (L 2) (F 9) (F 10) (F 11) (L 12) (F 13) A.2.2.2 hs4 hS9 hv.symm) ⟨Nat.le_of_ble_eq_true rfl, Nat.le_of_ble_eq_true rfl, Nat.le_refl _, Nat.le_refl _⟩ [0, 4, 7, 5, 6, 8, 22, 23, 2, 9, 10, 11, 12, 13] [1, 3, 14, 15, 16, 17, 18, 19, 20, 21, 24, 25] [0, 4, 7, 5, 6, 8, 22, 23, 2, 9, 10, 11, 12, 13] 26 rfl (by decide) (by decide) (by decide) (by decide) (by decide) (fun r9 u9 h9 => ?_)
          have er := h9
          subst er
          exact ⟨(zt, zo, nI 0, hs, F, L), ⟨⟨hT, hO, hG, hS9, hc, hgf⟩, rfl, fun _ => rfl⟩, (by repeat (first | refine List.forall_mem_cons.mpr ⟨⟨_, rfl, rfl⟩, ?_⟩ | exact fun _ h => absurd h List.not_mem_nil)), rfl, rfl⟩
set_option maxRecDepth 100000 in
theorem m_hold (l : Launch) (G : GW) (sz o : Nat) (ad : Nat → Nat) (u : MST) (A : AS) (x : Int32) (E : AO) (hR : MR u A) (hE : holdA A x = E) : Met l yX4_hold (Cond.code yX4_hold cX4_hold 3 (some FieldType.int) :: UW) ({ frames := 0, cells := 0, slots := 0, locals := 0 } : Room) (va_Pc [.ref o, .int x] (gPre G (mW G o ad u) sz)) (va_Qi (fun r v => mOK (Int32.toInt64 r) E v) (fun v => gPost G (va_A (mW G o ad u) sz) (mW G o ad v)) (va_A (mW G o ad u) sz)) 0 0 (va_A (mW G o ad u) sz) := by
  obtain ⟨zt, zo, th, hs, F, L⟩ := u
  have hT : TapeR (F 0) zt A.1 := hR.1
  have hO : OutR (F 16) zo A.2.1 := hR.2.1
  have hG : RegR (F 18) (F 19) A.2.2.1 := hR.2.2.1
  have hS9 : StmR (F 4, F 7, L 5, F 6, L 8) (F 9) (F 10) (F 11) (L 12) (F 13) A.2.2.2 := hR.2.2.2.1
  have hc : ∀ j, j < 80 → L 2 j = kT j := hR.2.2.2.2.1
  have hgf : ∀ j, j < 8 → L 3 j = sqA j ∧ L 3 (8 + j) = sqB j := hR.2.2.2.2.2
  unfold holdA at hE
  by_cases h1 : x < 0 ∨ 2 < x
  · rw [if_pos h1] at hE
    subst hE
    refine gFr_i (c_X4_holdT1 l G sz o ad (nI zt) (nI zo) th hs x h1) ⟨Nat.le_of_ble_eq_true rfl, Nat.le_of_ble_eq_true rfl, Nat.le_refl _, Nat.le_refl _⟩ [0] [1, 2, 3, 4, 5, 6, 7, 8, 9, 10, 11, 12, 13, 14, 15, 16, 17, 18, 19, 20, 21, 22, 23, 24, 25] [0] 26 rfl (by decide) (by decide) (by decide) (by decide) (by decide) (fun r9 u9 h9 => ?_)
    have er := h9
    subst er
    exact ⟨(zt, zo, nI 1, hs, F, L), ⟨hR, rfl, fun h => absurd h (Nat.succ_ne_zero _)⟩, (by repeat (first | refine List.forall_mem_cons.mpr ⟨⟨_, rfl, rfl⟩, ?_⟩ | exact fun _ h => absurd h List.not_mem_nil)), rfl, rfl⟩
  · rw [if_neg h1] at hE
    obtain ⟨j, hj, rfl, h4⟩ := rg_of (y := 2) (n := 2) (by decide) h1
    rw [h4] at hE
    subst hE
    refine gFr_i (c_X4_hold l G sz o ad (nI zo) th hs zt j (F 19) (F 18) (F 0) A.1 A.2.2.1 (by omega) hT hG) ⟨Nat.le_of_ble_eq_true rfl, Nat.le_of_ble_eq_true rfl, Nat.le_refl _, Nat.le_refl _⟩ [0, 18, 17, 1] [2, 3, 4, 5, 6, 7, 8, 9, 10, 11, 12, 13, 14, 15, 16, 19, 20, 21, 22, 23, 24, 25] [0, 18, 17, 1] 26 rfl (by decide) (by decide) (by decide) (by decide) (by decide) (fun r9 u9 h9 => ?_)
    obtain ⟨rz1, rg1⟩ := u9
    obtain ⟨er, hf⟩ := h9
    subst er
    have hf : RegR rg1 rz1 (va_up A.2.2.1 j A.1) := hf
    exact ⟨(0, zo, nI 0, hs, (va_up (va_up F 19 rz1) 18 rg1), L), ⟨⟨TapeR0, hO, hf, hS9, hc, hgf⟩, rfl, fun _ => (nI_l (by have := hT.2.1; omega)).trans (by rw [hT.1])⟩, (by repeat (first | refine List.forall_mem_cons.mpr ⟨⟨_, rfl, rfl⟩, ?_⟩ | exact fun _ h => absurd h List.not_mem_nil)), rfl, rfl⟩
set_option maxRecDepth 100000 in
theorem m_keep (l : Launch) (G : GW) (sz o : Nat) (ad : Nat → Nat) (u : MST) (A : AS) (x : Int32) (E : AO) (hR : MR u A) (hE : keepA A x = E) : Met l yX4_keep (Cond.code yX4_keep cX4_keep 3 (some FieldType.int) :: UW) ({ frames := 0, cells := 0, slots := 0, locals := 0 } : Room) (va_Pc [.ref o, .int x] (gPre G (mW G o ad u) sz)) (va_Qi (fun r v => mOK (Int32.toInt64 r) E v) (fun v => gPost G (va_A (mW G o ad u) sz) (mW G o ad v)) (va_A (mW G o ad u) sz)) 0 0 (va_A (mW G o ad u) sz) := by
  obtain ⟨zt, zo, th, hs, F, L⟩ := u
  have hT : TapeR (F 0) zt A.1 := hR.1
  have hO : OutR (F 16) zo A.2.1 := hR.2.1
  have hG : RegR (F 18) (F 19) A.2.2.1 := hR.2.2.1
  have hS9 : StmR (F 4, F 7, L 5, F 6, L 8) (F 9) (F 10) (F 11) (L 12) (F 13) A.2.2.2 := hR.2.2.2.1
  have hc : ∀ j, j < 80 → L 2 j = kT j := hR.2.2.2.2.1
  have hgf : ∀ j, j < 8 → L 3 j = sqA j ∧ L 3 (8 + j) = sqB j := hR.2.2.2.2.2
  unfold keepA at hE
  by_cases h1 : x < 0 ∨ 2 < x
  · rw [if_pos h1] at hE
    subst hE
    refine gFr_i (c_X4_keepT1 l G sz o ad (nI zt) (nI zo) th hs x h1) ⟨Nat.le_of_ble_eq_true rfl, Nat.le_of_ble_eq_true rfl, Nat.le_refl _, Nat.le_refl _⟩ [0] [1, 2, 3, 4, 5, 6, 7, 8, 9, 10, 11, 12, 13, 14, 15, 16, 17, 18, 19, 20, 21, 22, 23, 24, 25] [0] 26 rfl (by decide) (by decide) (by decide) (by decide) (by decide) (fun r9 u9 h9 => ?_)
    have er := h9
    subst er
    exact ⟨(zt, zo, nI 1, hs, F, L), ⟨hR, rfl, fun h => absurd h (Nat.succ_ne_zero _)⟩, (by repeat (first | refine List.forall_mem_cons.mpr ⟨⟨_, rfl, rfl⟩, ?_⟩ | exact fun _ h => absurd h List.not_mem_nil)), rfl, rfl⟩
  · rw [if_neg h1] at hE
    obtain ⟨j, hj, rfl, h4⟩ := rg_of (y := 2) (n := 2) (by decide) h1
    by_cases h5 : 600 < A.2.1.length
    · rw [if_pos h5] at hE
      subst hE
      refine gFr_i (c_X4_keepN l G sz o ad (nI zt) th hs zo j (by omega) (by have := hO.1; have := hO.2.1; omega)) ⟨Nat.le_of_ble_eq_true rfl, Nat.le_of_ble_eq_true rfl, Nat.le_refl _, Nat.le_refl _⟩ [0] [1, 2, 3, 4, 5, 6, 7, 8, 9, 10, 11, 12, 13, 14, 15, 16, 17, 18, 19, 20, 21, 22, 23, 24, 25] [0] 26 rfl (by decide) (by decide) (by decide) (by decide) (by decide) (fun r9 u9 h9 => ?_)
      have er := h9
      subst er
      exact ⟨(zt, zo, nI 0, hs, F, L), ⟨⟨hT, hO, hG, hS9, hc, hgf⟩, rfl, fun _ => rfl⟩, (by repeat (first | refine List.forall_mem_cons.mpr ⟨⟨_, rfl, rfl⟩, ?_⟩ | exact fun _ h => absurd h List.not_mem_nil)), rfl, rfl⟩
    · rw [if_neg h5, h4] at hE
      subst hE
      refine gFr_i (c_X4_keep l G sz o ad (nI zt) th hs zo j (F 19) (F 18) (F 16) A.2.1 A.2.2.1 (by omega) hO hG (by have := hO.1; omega)) ⟨Nat.le_of_ble_eq_true rfl, Nat.le_of_ble_eq_true rfl, Nat.le_refl _, Nat.le_refl _⟩ [0, 18, 17, 16] [1, 2, 3, 4, 5, 6, 7, 8, 9, 10, 11, 12, 13, 14, 15, 19, 20, 21, 22, 23, 24, 25] [0, 18, 17, 16] 26 rfl (by decide) (by decide) (by decide) (by decide) (by decide) (fun r9 u9 h9 => ?_)
      obtain ⟨rz1, rg1⟩ := u9
      obtain ⟨er, hf⟩ := h9
      subst er
      have hf : RegR rg1 rz1 (va_up A.2.2.1 j A.2.1) := hf
      exact ⟨(zt, zo, nI 0, hs, (va_up (va_up F 19 rz1) 18 rg1), L), ⟨⟨hT, hO, hf, hS9, hc, hgf⟩, rfl, fun _ => (nI_l (by have := hO.2.1; omega)).trans (by rw [hO.1])⟩, (by repeat (first | refine List.forall_mem_cons.mpr ⟨⟨_, rfl, rfl⟩, ?_⟩ | exact fun _ h => absurd h List.not_mem_nil)), rfl, rfl⟩
set_option maxRecDepth 100000 in
theorem m_draw (l : Launch) (G : GW) (sz o : Nat) (ad : Nat → Nat) (u : MST) (A : AS) (x : Int32) (E : AO) (hR : MR u A) (hE : drawA A x = E) : Met l yX4_draw (Cond.code yX4_draw cX4_draw 2 (some FieldType.int) :: UW) ({ frames := 6, cells := 0, slots := 0, locals := 158 } : Room) (va_Pc [.ref o, .int x] (gPre G (mW G o ad u) sz)) (va_Qi (fun r v => mOK (Int32.toInt64 r) E v) (fun v => gPost G (va_A (mW G o ad u) sz) (mW G o ad v)) (va_A (mW G o ad u) sz)) 0 0 (va_A (mW G o ad u) sz) := by
  obtain ⟨zt, zo, th, hs, F, L⟩ := u
  have hT : TapeR (F 0) zt A.1 := hR.1
  have hO : OutR (F 16) zo A.2.1 := hR.2.1
  have hG : RegR (F 18) (F 19) A.2.2.1 := hR.2.2.1
  have hS9 : StmR (F 4, F 7, L 5, F 6, L 8) (F 9) (F 10) (F 11) (L 12) (F 13) A.2.2.2 := hR.2.2.2.1
  have hc : ∀ j, j < 80 → L 2 j = kT j := hR.2.2.2.2.1
  have hgf : ∀ j, j < 8 → L 3 j = sqA j ∧ L 3 (8 + j) = sqB j := hR.2.2.2.2.2
  unfold drawA at hE
  by_cases h1 : nkI x = 1
  · rw [if_pos h1] at hE
    subst hE
    refine gFr_i (c_X4_drawT1 l G sz o ad (nI zt) (nI zo) th hs x h1) ⟨Nat.le_of_ble_eq_true rfl, Nat.le_of_ble_eq_true rfl, Nat.le_refl _, Nat.le_refl _⟩ [0] [1, 2, 3, 4, 5, 6, 7, 8, 9, 10, 11, 12, 13, 14, 15, 16, 17, 18, 19, 20, 21, 22, 23, 24, 25] [0] 26 rfl (by decide) (by decide) (by decide) (by decide) (by decide) (fun r9 u9 h9 => ?_)
    have er := h9
    subst er
    exact ⟨(zt, zo, nI 1, hs, F, L), ⟨hR, rfl, fun h => absurd h (Nat.succ_ne_zero _)⟩, (by repeat (first | refine List.forall_mem_cons.mpr ⟨⟨_, rfl, rfl⟩, ?_⟩ | exact fun _ h => absurd h List.not_mem_nil)), rfl, rfl⟩
  · rw [if_neg h1] at hE
    obtain ⟨k, hk4, rfl, h4⟩ := nk_of h1
    rw [h4] at hE
    subst hE
    refine gFr_i (c_X4_draw l G sz o ad (nI zt) (nI zo) th hs k (F 4) (F 7) (L 5) (F 6) (L 8) (F 24) (L 25) (L 2) (L 3) (F 14) (F 15) (F 26) (F 19) (F 18) (F 16) A.2.2.1 hk4 hc hgf hG) ⟨Nat.le_of_ble_eq_true rfl, Nat.le_of_ble_eq_true rfl, Nat.le_refl _, Nat.le_refl _⟩ [0, 4, 7, 5, 6, 8, 22, 23, 2, 3, 14, 15, 24, 18, 17, 16] [1, 9, 10, 11, 12, 13, 19, 20, 21, 25] [0, 4, 7, 5, 6, 8, 22, 23, 2, 3, 14, 15, 24, 18, 17, 16] 26 rfl (by decide) (by decide) (by decide) (by decide) (by decide) (fun r9 u9 h9 => ?_)
    obtain ⟨kf1, ff1, sf1, bf1, tf1, nf1, df1, ky1, dg1, hf1, uf1⟩ := u9
    obtain ⟨er, hf⟩ := h9
    subst er
    have hf : (OutR uf1 (ds k) (codeQ k (keyQ k (A.2.2.1 1)) (A.2.2.1 0))) ∧ (MsO [4, 5, 6, 7, 8] ((F 4), (F 7), (L 5), (F 6), (L 8)) (kf1, ff1, sf1, bf1, tf1)) := hf
    exact ⟨(zt, (ds k), nI 0, nI (A.2.2.1 1).length, (va_up (va_up (va_up (va_up (va_up (va_up (va_up (va_up F 4 kf1) 7 ff1) 6 bf1) 24 nf1) 14 ky1) 15 dg1) 26 hf1) 16 uf1), (va_up (va_up (va_up L 5 sf1) 8 tf1) 25 df1)), ⟨⟨hT, hf.1, hG, hS9.other hf.2 (by decide), hc, hgf⟩, rfl, fun _ => nI_l (by have := ds_le k; omega)⟩, (by repeat (first | refine List.forall_mem_cons.mpr ⟨⟨_, rfl, rfl⟩, ?_⟩ | exact fun _ h => absurd h List.not_mem_nil)), rfl, rfl⟩
set_option maxRecDepth 100000 in
theorem m_spread (l : Launch) (G : GW) (sz o : Nat) (ad : Nat → Nat) (u : MST) (A : AS) (x : Int32) (n : Int32) (E : AO) (hR : MR u A) (hE : spreadA A x n = E) : Met l yX4_spread (Cond.code yX4_spread cX4_spread 7 (some FieldType.int) :: UW) ({ frames := 6, cells := 0, slots := 0, locals := 158 } : Room) (va_Pc [.ref o, .int x, .int n] (gPre G (mW G o ad u) sz)) (va_Qi (fun r v => mOK (Int32.toInt64 r) E v) (fun v => gPost G (va_A (mW G o ad u) sz) (mW G o ad v)) (va_A (mW G o ad u) sz)) 0 0 (va_A (mW G o ad u) sz) := by
  obtain ⟨zt, zo, th, hs, F, L⟩ := u
  have hT : TapeR (F 0) zt A.1 := hR.1
  have hO : OutR (F 16) zo A.2.1 := hR.2.1
  have hG : RegR (F 18) (F 19) A.2.2.1 := hR.2.2.1
  have hS9 : StmR (F 4, F 7, L 5, F 6, L 8) (F 9) (F 10) (F 11) (L 12) (F 13) A.2.2.2 := hR.2.2.2.1
  have hc : ∀ j, j < 80 → L 2 j = kT j := hR.2.2.2.2.1
  have hgf : ∀ j, j < 8 → L 3 j = sqA j ∧ L 3 (8 + j) = sqB j := hR.2.2.2.2.2
  unfold spreadA at hE
  by_cases h1 : nkI x = 1
  · rw [if_pos h1] at hE
    subst hE
    refine gFr_i (c_X4_spreadT1 l G sz o ad (nI zt) (nI zo) th hs x n h1) ⟨Nat.le_of_ble_eq_true rfl, Nat.le_of_ble_eq_true rfl, Nat.le_refl _, Nat.le_refl _⟩ [0] [1, 2, 3, 4, 5, 6, 7, 8, 9, 10, 11, 12, 13, 14, 15, 16, 17, 18, 19, 20, 21, 22, 23, 24, 25] [0] 26 rfl (by decide) (by decide) (by decide) (by decide) (by decide) (fun r9 u9 h9 => ?_)
    have er := h9
    subst er
    exact ⟨(zt, zo, nI 1, hs, F, L), ⟨hR, rfl, fun h => absurd h (Nat.succ_ne_zero _)⟩, (by repeat (first | refine List.forall_mem_cons.mpr ⟨⟨_, rfl, rfl⟩, ?_⟩ | exact fun _ h => absurd h List.not_mem_nil)), rfl, rfl⟩
  · rw [if_neg h1] at hE
    by_cases h2 : n < 0 ∨ 16320 < n
    · rw [if_pos h2] at hE
      subst hE
      refine gFr_i (c_X4_spreadT1b l G sz o ad (nI zt) (nI zo) th hs x n (nk0 h1) h2) ⟨Nat.le_of_ble_eq_true rfl, Nat.le_of_ble_eq_true rfl, Nat.le_refl _, Nat.le_refl _⟩ [0] [1, 2, 3, 4, 5, 6, 7, 8, 9, 10, 11, 12, 13, 14, 15, 16, 17, 18, 19, 20, 21, 22, 23, 24, 25] [0] 26 rfl (by decide) (by decide) (by decide) (by decide) (by decide) (fun r9 u9 h9 => ?_)
      have er := h9
      subst er
      exact ⟨(zt, zo, nI 1, hs, F, L), ⟨hR, rfl, fun h => absurd h (Nat.succ_ne_zero _)⟩, (by repeat (first | refine List.forall_mem_cons.mpr ⟨⟨_, rfl, rfl⟩, ?_⟩ | exact fun _ h => absurd h List.not_mem_nil)), rfl, rfl⟩
    · rw [if_neg h2] at hE
      obtain ⟨k, hk4, rfl, h4⟩ := nk_of h1
      obtain ⟨j, hj, rfl, h5⟩ := rg_of (y := 16320) (n := 16320) (by decide) h2
      rw [h4, h5] at hE
      by_cases h6 : 255 * ds k < j
      · rw [if_pos h6] at hE
        subst hE
        refine gFr_i (c_X4_spreadN l G sz o ad (nI zt) (nI zo) th hs k j hk4 hj h6) ⟨Nat.le_of_ble_eq_true rfl, Nat.le_of_ble_eq_true rfl, Nat.le_refl _, Nat.le_refl _⟩ [0] [1, 2, 3, 4, 5, 6, 7, 8, 9, 10, 11, 12, 13, 14, 15, 16, 17, 18, 19, 20, 21, 22, 23, 24, 25] [0] 26 rfl (by decide) (by decide) (by decide) (by decide) (by decide) (fun r9 u9 h9 => ?_)
        have er := h9
        subst er
        exact ⟨(zt, zo, nI 0, hs, F, L), ⟨⟨hT, hO, hG, hS9, hc, hgf⟩, rfl, fun _ => rfl⟩, (by repeat (first | refine List.forall_mem_cons.mpr ⟨⟨_, rfl, rfl⟩, ?_⟩ | exact fun _ h => absurd h List.not_mem_nil)), rfl, rfl⟩
      · rw [if_neg h6] at hE
        subst hE
        refine gFr_i (c_X4_spread l G sz o ad (nI zt) (nI zo) th hs k j (F 4) (F 7) (L 5) (F 6) (L 8) (F 24) (L 25) (L 2) (L 3) (F 14) (F 15) (F 26) (F 19) (F 18) (F 16) A.2.2.1 hk4 hj (by omega) hc hgf hG) ⟨Nat.le_of_ble_eq_true rfl, Nat.le_of_ble_eq_true rfl, Nat.le_refl _, Nat.le_refl _⟩ [0, 4, 7, 5, 6, 8, 22, 23, 2, 3, 14, 15, 24, 18, 17, 16] [1, 9, 10, 11, 12, 13, 19, 20, 21, 25] [0, 4, 7, 5, 6, 8, 22, 23, 2, 3, 14, 15, 24, 18, 17, 16] 26 rfl (by decide) (by decide) (by decide) (by decide) (by decide) (fun r9 u9 h9 => ?_)
        obtain ⟨kf1, ff1, sf1, bf1, tf1, nf1, df1, ky1, dg1, hf1, uf1⟩ := u9
        obtain ⟨er, hf⟩ := h9
        subst er
        have hf : (OutR uf1 j (spE (ds k) j (lnk k (keyQ k (A.2.2.1 0)) (A.2.2.1 2)))) ∧ (MsO [4, 5, 6, 7, 8] ((F 4), (F 7), (L 5), (F 6), (L 8)) (kf1, ff1, sf1, bf1, tf1)) := hf
        exact ⟨(zt, j, nI 0, nI (A.2.2.1 0).length, (va_up (va_up (va_up (va_up (va_up (va_up (va_up (va_up F 4 kf1) 7 ff1) 6 bf1) 24 nf1) 14 ky1) 15 dg1) 26 hf1) 16 uf1), (va_up (va_up (va_up L 5 sf1) 8 tf1) 25 df1)), ⟨⟨hT, hf.1, hG, hS9.other hf.2 (by decide), hc, hgf⟩, rfl, fun _ => nI_l (by omega)⟩, (by repeat (first | refine List.forall_mem_cons.mpr ⟨⟨_, rfl, rfl⟩, ?_⟩ | exact fun _ h => absurd h List.not_mem_nil)), rfl, rfl⟩
set_option maxRecDepth 100000 in
theorem m_stretch (l : Launch) (G : GW) (sz o : Nat) (ad : Nat → Nat) (u : MST) (A : AS) (x : Int32) (t : Int32) (n : Int32) (E : AO) (hR : MR u A) (hE : stretchA A x t n = E) : Met l yX4_stretch (Cond.code yX4_stretch cX4_stretch 9 (some FieldType.int) :: UW) ({ frames := 6, cells := 0, slots := 0, locals := 158 } : Room) (va_Pc [.ref o, .int x, .int t, .int n] (gPre G (mW G o ad u) sz)) (va_Qi (fun r v => mOK (Int32.toInt64 r) E v) (fun v => gPost G (va_A (mW G o ad u) sz) (mW G o ad v)) (va_A (mW G o ad u) sz)) 0 0 (va_A (mW G o ad u) sz) := by
  obtain ⟨zt, zo, th, hs, F, L⟩ := u
  have hT : TapeR (F 0) zt A.1 := hR.1
  have hO : OutR (F 16) zo A.2.1 := hR.2.1
  have hG : RegR (F 18) (F 19) A.2.2.1 := hR.2.2.1
  have hS9 : StmR (F 4, F 7, L 5, F 6, L 8) (F 9) (F 10) (F 11) (L 12) (F 13) A.2.2.2 := hR.2.2.2.1
  have hc : ∀ j, j < 80 → L 2 j = kT j := hR.2.2.2.2.1
  have hgf : ∀ j, j < 8 → L 3 j = sqA j ∧ L 3 (8 + j) = sqB j := hR.2.2.2.2.2
  unfold stretchA at hE
  by_cases h1 : nkI x = 1
  · rw [if_pos h1] at hE
    subst hE
    refine gFr_i (c_X4_stretchT1 l G sz o ad (nI zt) (nI zo) th hs x t n h1) ⟨Nat.le_of_ble_eq_true rfl, Nat.le_of_ble_eq_true rfl, Nat.le_refl _, Nat.le_refl _⟩ [0] [1, 2, 3, 4, 5, 6, 7, 8, 9, 10, 11, 12, 13, 14, 15, 16, 17, 18, 19, 20, 21, 22, 23, 24, 25] [0] 26 rfl (by decide) (by decide) (by decide) (by decide) (by decide) (fun r9 u9 h9 => ?_)
    have er := h9
    subst er
    exact ⟨(zt, zo, nI 1, hs, F, L), ⟨hR, rfl, fun h => absurd h (Nat.succ_ne_zero _)⟩, (by repeat (first | refine List.forall_mem_cons.mpr ⟨⟨_, rfl, rfl⟩, ?_⟩ | exact fun _ h => absurd h List.not_mem_nil)), rfl, rfl⟩
  · rw [if_neg h1] at hE
    by_cases h2 : t < 1 ∨ 500 < t ∨ n < 0 ∨ 400 < n
    · rw [if_pos h2] at hE
      subst hE
      refine gFr_i (c_X4_stretchT1b l G sz o ad (nI zt) (nI zo) th hs x t n (nk0 h1) h2) ⟨Nat.le_of_ble_eq_true rfl, Nat.le_of_ble_eq_true rfl, Nat.le_refl _, Nat.le_refl _⟩ [0] [1, 2, 3, 4, 5, 6, 7, 8, 9, 10, 11, 12, 13, 14, 15, 16, 17, 18, 19, 20, 21, 22, 23, 24, 25] [0] 26 rfl (by decide) (by decide) (by decide) (by decide) (by decide) (fun r9 u9 h9 => ?_)
      have er := h9
      subst er
      exact ⟨(zt, zo, nI 1, hs, F, L), ⟨hR, rfl, fun h => absurd h (Nat.succ_ne_zero _)⟩, (by repeat (first | refine List.forall_mem_cons.mpr ⟨⟨_, rfl, rfl⟩, ?_⟩ | exact fun _ h => absurd h List.not_mem_nil)), rfl, rfl⟩
    · rw [if_neg h2] at hE
      obtain ⟨k, hk4, rfl, h4⟩ := nk_of h1
      obtain ⟨j, hj, rfl, h5⟩ := rg_of (x := n) (y := 400) (n := 400) (by decide) (fun c => h2 (Or.inr (Or.inr c)))
      obtain ⟨tn, ht, rfl, h6⟩ := str_of h2
      rw [h4, h5, h6] at hE
      subst hE
      refine gFr_i (c_X4_stretch l G sz o ad (nI zt) (nI zo) th hs k tn j (F 4) (F 7) (L 5) (F 6) (L 8) (F 24) (L 25) (L 2) (L 3) (F 14) (F 15) (F 26) (F 19) (F 18) (F 16) A.2.2.1 (F 28) hk4 ht hj hc hgf hG) ⟨Nat.le_of_ble_eq_true rfl, Nat.le_of_ble_eq_true rfl, Nat.le_refl _, Nat.le_refl _⟩ [0, 4, 7, 5, 6, 8, 22, 23, 2, 3, 14, 15, 24, 18, 17, 16, 25] [1, 9, 10, 11, 12, 13, 19, 20, 21] [0, 4, 7, 5, 6, 8, 22, 23, 2, 3, 14, 15, 24, 18, 17, 16, 25] 26 rfl (by decide) (by decide) (by decide) (by decide) (by decide) (fun r9 u9 h9 => ?_)
      obtain ⟨kf1, ff1, sf1, bf1, tf1, nf1, df1, ky1, dg1, hf1, uf1, mx1⟩ := u9
      obtain ⟨er, hf⟩ := h9
      subst er
      have hf : (OutR uf1 j (spE (ds k) j (xSf k (keyQ k (A.2.2.1 0)) (A.2.2.1 1) tn))) ∧ (MsO [4, 5, 6, 7, 8] ((F 4), (F 7), (L 5), (F 6), (L 8)) (kf1, ff1, sf1, bf1, tf1)) := hf
      exact ⟨(zt, j, nI 0, nI (A.2.2.1 0).length, (va_up (va_up (va_up (va_up (va_up (va_up (va_up (va_up (va_up F 4 kf1) 7 ff1) 6 bf1) 24 nf1) 14 ky1) 15 dg1) 26 hf1) 16 uf1) 28 mx1), (va_up (va_up (va_up L 5 sf1) 8 tf1) 25 df1)), ⟨⟨hT, hf.1, hG, hS9.other hf.2 (by decide), hc, hgf⟩, rfl, fun _ => nI_l (by omega)⟩, (by repeat (first | refine List.forall_mem_cons.mpr ⟨⟨_, rfl, rfl⟩, ?_⟩ | exact fun _ h => absurd h List.not_mem_nil)), rfl, rfl⟩
set_option maxRecDepth 100000 in
theorem m_isOut (l : Launch) (G : GW) (sz o : Nat) (ad : Nat → Nat) (u : MST) (A : AS)  (E : AO) (hR : MR u A) (hE : isOutA A = E) : Met l yX4_isOut (Cond.code yX4_isOut cX4_isOut 3 (some FieldType.boolean) :: UW) ({ frames := 0, cells := 0, slots := 0, locals := 0 } : Room) (va_Pc [.ref o] (gPre G (mW G o ad u) sz)) (va_Qi (fun r v => mOK (Int32.toInt64 r) E v) (fun v => gPost G (va_A (mW G o ad u) sz) (mW G o ad v)) (va_A (mW G o ad u) sz)) 0 0 (va_A (mW G o ad u) sz) := by
  obtain ⟨zt, zo, th, hs, F, L⟩ := u
  have hT : TapeR (F 0) zt A.1 := hR.1
  have hO : OutR (F 16) zo A.2.1 := hR.2.1
  have hG : RegR (F 18) (F 19) A.2.2.1 := hR.2.2.1
  have hS9 : StmR (F 4, F 7, L 5, F 6, L 8) (F 9) (F 10) (F 11) (L 12) (F 13) A.2.2.2 := hR.2.2.2.1
  have hc : ∀ j, j < 80 → L 2 j = kT j := hR.2.2.2.2.1
  have hgf : ∀ j, j < 8 → L 3 j = sqA j ∧ L 3 (8 + j) = sqB j := hR.2.2.2.2.2
  unfold isOutA at hE
  subst hE
  refine gFr_i (c_X4_isOut l G sz o ad th hs zt zo (F 0) (F 16) A.1 A.2.1 hT hO) ⟨Nat.le_of_ble_eq_true rfl, Nat.le_of_ble_eq_true rfl, Nat.le_refl _, Nat.le_refl _⟩ [0, 1, 16] [2, 3, 4, 5, 6, 7, 8, 9, 10, 11, 12, 13, 14, 15, 17, 18, 19, 20, 21, 22, 23, 24, 25] [0, 1, 16] 26 rfl (by decide) (by decide) (by decide) (by decide) (by decide) (fun r9 u9 h9 => ?_)
  have er := h9
  subst er
  exact ⟨(0, zo, nI 0, hs, F, L), ⟨⟨TapeR0, hO, hG, hS9, hc, hgf⟩, rfl, fun _ => io_ret⟩, (by repeat (first | refine List.forall_mem_cons.mpr ⟨⟨_, rfl, rfl⟩, ?_⟩ | exact fun _ h => absurd h List.not_mem_nil)), rfl, rfl⟩
set_option maxRecDepth 100000 in
theorem m_constant (l : Launch) (G : GW) (sz o : Nat) (ad : Nat → Nat) (u : MST) (A : AS) (i : Int32) (E : AO) (hR : MR u A) (hE : ((0, constQ i, A) : AO) = E) : Met l yX4_constant (Cond.code yX4_constant cX4_constant 2 (some FieldType.long) :: UW) ({ frames := 0, cells := 0, slots := 0, locals := 0 } : Room) (va_Pc [.ref o, .int i] (gPre G (mW G o ad u) sz)) (va_Ql (fun r v => mOK r E v) (fun v => gPost G (va_A (mW G o ad u) sz) (mW G o ad v)) (va_A (mW G o ad u) sz)) 0 0 (va_A (mW G o ad u) sz) := by
  obtain ⟨zt, zo, th, hs, F, L⟩ := u
  have hT : TapeR (F 0) zt A.1 := hR.1
  have hO : OutR (F 16) zo A.2.1 := hR.2.1
  have hG : RegR (F 18) (F 19) A.2.2.1 := hR.2.2.1
  have hS9 : StmR (F 4, F 7, L 5, F 6, L 8) (F 9) (F 10) (F 11) (L 12) (F 13) A.2.2.2 := hR.2.2.2.1
  have hc : ∀ j, j < 80 → L 2 j = kT j := hR.2.2.2.2.1
  have hgf : ∀ j, j < 8 → L 3 j = sqA j ∧ L 3 (8 + j) = sqB j := hR.2.2.2.2.2
  subst hE
  refine gFr_l (c_X4_constant l G sz o ad (nI zt) (nI zo) th hs i (L 2) hc) ⟨Nat.le_of_ble_eq_true rfl, Nat.le_of_ble_eq_true rfl, Nat.le_refl _, Nat.le_refl _⟩ [0, 2] [1, 3, 4, 5, 6, 7, 8, 9, 10, 11, 12, 13, 14, 15, 16, 17, 18, 19, 20, 21, 22, 23, 24, 25] [0, 2] 26 rfl (by decide) (by decide) (by decide) (by decide) (by decide) (fun r9 u9 h9 => ?_)
  have er := h9
  subst er
  exact ⟨(zt, zo, nI 0, hs, F, L), ⟨⟨hT, hO, hG, hS9, hc, hgf⟩, rfl, fun _ => rfl⟩, (by repeat (first | refine List.forall_mem_cons.mpr ⟨⟨_, rfl, rfl⟩, ?_⟩ | exact fun _ h => absurd h List.not_mem_nil)), rfl, rfl⟩
set_option maxRecDepth 100000 in
theorem m_outs (l : Launch) (G : GW) (sz o : Nat) (ad : Nat → Nat) (u : MST) (A : AS) (i : Int32) (E : AO) (hR : MR u A) (hE : ((0, outsQ A.2.1 i 8, A) : AO) = E) : Met l yX4_outs (Cond.code yX4_outs cX4_outs 7 (some FieldType.long) :: UW) ({ frames := 0, cells := 0, slots := 0, locals := 0 } : Room) (va_Pc [.ref o, .int i] (gPre G (mW G o ad u) sz)) (va_Ql (fun r v => mOK r E v) (fun v => gPost G (va_A (mW G o ad u) sz) (mW G o ad v)) (va_A (mW G o ad u) sz)) 0 0 (va_A (mW G o ad u) sz) := by
  obtain ⟨zt, zo, th, hs, F, L⟩ := u
  have hT : TapeR (F 0) zt A.1 := hR.1
  have hO : OutR (F 16) zo A.2.1 := hR.2.1
  have hG : RegR (F 18) (F 19) A.2.2.1 := hR.2.2.1
  have hS9 : StmR (F 4, F 7, L 5, F 6, L 8) (F 9) (F 10) (F 11) (L 12) (F 13) A.2.2.2 := hR.2.2.2.1
  have hc : ∀ j, j < 80 → L 2 j = kT j := hR.2.2.2.2.1
  have hgf : ∀ j, j < 8 → L 3 j = sqA j ∧ L 3 (8 + j) = sqB j := hR.2.2.2.2.2
  subst hE
  refine gFr_l (c_X4_outs l G sz o ad (nI zt) th hs zo i (F 16) A.2.1 hO) ⟨Nat.le_of_ble_eq_true rfl, Nat.le_of_ble_eq_true rfl, Nat.le_refl _, Nat.le_refl _⟩ [0, 16] [1, 2, 3, 4, 5, 6, 7, 8, 9, 10, 11, 12, 13, 14, 15, 17, 18, 19, 20, 21, 22, 23, 24, 25] [0, 16] 26 rfl (by decide) (by decide) (by decide) (by decide) (by decide) (fun r9 u9 h9 => ?_)
  have er := h9
  subst er
  exact ⟨(zt, zo, nI 0, hs, F, L), ⟨⟨hT, hO, hG, hS9, hc, hgf⟩, rfl, fun _ => rfl⟩, (by repeat (first | refine List.forall_mem_cons.mpr ⟨⟨_, rfl, rfl⟩, ?_⟩ | exact fun _ h => absurd h List.not_mem_nil)), rfl, rfl⟩
set_option maxRecDepth 100000 in
theorem m_out (l : Launch) (G : GW) (sz o : Nat) (ad : Nat → Nat) (u : MST) (A : AS) (i : Int32) (E : AO) (hR : MR u A) (hE : ((0, (rowAt A.2.1 i).toInt64, A) : AO) = E) : Met l yX4_out (Cond.code yX4_out cX4_out 2 (some FieldType.int) :: UW) ({ frames := 0, cells := 0, slots := 0, locals := 0 } : Room) (va_Pc [.ref o, .int i] (gPre G (mW G o ad u) sz)) (va_Qi (fun r v => mOK (Int32.toInt64 r) E v) (fun v => gPost G (va_A (mW G o ad u) sz) (mW G o ad v)) (va_A (mW G o ad u) sz)) 0 0 (va_A (mW G o ad u) sz) := by
  obtain ⟨zt, zo, th, hs, F, L⟩ := u
  have hT : TapeR (F 0) zt A.1 := hR.1
  have hO : OutR (F 16) zo A.2.1 := hR.2.1
  have hG : RegR (F 18) (F 19) A.2.2.1 := hR.2.2.1
  have hS9 : StmR (F 4, F 7, L 5, F 6, L 8) (F 9) (F 10) (F 11) (L 12) (F 13) A.2.2.2 := hR.2.2.2.1
  have hc : ∀ j, j < 80 → L 2 j = kT j := hR.2.2.2.2.1
  have hgf : ∀ j, j < 8 → L 3 j = sqA j ∧ L 3 (8 + j) = sqB j := hR.2.2.2.2.2
  subst hE
  refine gFr_i (c_X4_out l G sz o ad (nI zt) th hs zo i (F 16) A.2.1 hO) ⟨Nat.le_of_ble_eq_true rfl, Nat.le_of_ble_eq_true rfl, Nat.le_refl _, Nat.le_refl _⟩ [0, 16] [1, 2, 3, 4, 5, 6, 7, 8, 9, 10, 11, 12, 13, 14, 15, 17, 18, 19, 20, 21, 22, 23, 24, 25] [0, 16] 26 rfl (by decide) (by decide) (by decide) (by decide) (by decide) (fun r9 u9 h9 => ?_)
  have er := h9
  subst er
  exact ⟨(zt, zo, nI 0, hs, F, L), ⟨⟨hT, hO, hG, hS9, hc, hgf⟩, rfl, fun _ => rfl⟩, (by repeat (first | refine List.forall_mem_cons.mpr ⟨⟨_, rfl, rfl⟩, ?_⟩ | exact fun _ h => absurd h List.not_mem_nil)), rfl, rfl⟩
