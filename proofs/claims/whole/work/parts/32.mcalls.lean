/-! the reference's calls: what it holds -/
def nsI (x : Int32) : Int32 := if x < 0 then 1 else if x < 4 then 0 else 1
def nkI (x : Int32) : Int32 := if x < 0 then 1 else if x ≤ 3 then 0 else 1
theorem nsI_nI {s : Nat} (h : s < 4) : nsI (nI s) = 0 := (by decide : ∀ s : Fin 4, nsI (nI s.val) = 0) ⟨s, h⟩
theorem nkI_nI {s : Nat} (h : s < 4) : nkI (nI s) = 0 := (by decide : ∀ s : Fin 4, nkI (nI s.val) = 0) ⟨s, h⟩
def bI (b : Bool) : Int32 := if b then 1 else 0
/-- a stream: begun, kind, a code, at its end, octets of the message, hash, key -/
abbrev SA : Type := Bool × Nat × Bool × Bool × Nat × HS × List Nat
def TapeR (f : Nat → Int32) (z : Nat) (q : List Nat) : Prop := z = q.length ∧ z ≤ 600 ∧ Ls f q
def OutR (f : Nat → Int32) (z : Nat) (q : List Nat) : Prop := z = q.length ∧ z ≤ 16320 ∧ Ls f q
def RegR (rg rz : Nat → Int32) (R : Nat → List Nat) : Prop := ∀ r, r < 3 → rz r = nI (R r).length ∧ (R r).length ≤ 600 ∧ (∀ c ∈ R r, c < 256) ∧ ∀ i, i < (R r).length → rg (600 * r + i) = nI ((R r).getD i 0)
def cB (k : Nat) (cd : Bool) : Nat := if cd then bs k else 0
def SlR (M : MS) (gb gc ge : Nat → Int32) (mf : Nat → Int64) (ys : Nat → Int32) (s : Nat) (v : SA) : Prop := gb s = bI v.1 ∧ (v.1 = true → gc s = bI v.2.2.1 ∧ ge s = bI v.2.2.2.1 ∧ mf s = lN v.2.2.2.2.1 ∧ MsR M s v.2.1 (cB v.2.1 v.2.2.1 + v.2.2.2.2.1) v.2.2.2.2.2.1 ∧ v.2.2.2.2.2.1.2.length = v.2.2.2.2.1 % bs v.2.1 ∧ (∀ c ∈ v.2.2.2.2.2.2, c < 256) ∧ (v.2.2.1 = true → ∀ i, i < 128 → ys (128 * s + i) = nI (v.2.2.2.2.2.2.getD i 0)))
def StmR (M : MS) (gb gc ge : Nat → Int32) (mf : Nat → Int64) (ys : Nat → Int32) (st : Nat → SA) : Prop := ∀ s, s < 4 → SlR M gb gc ge mf ys s (st s)
theorem StmR.set {M M' : MS} {gb gc ge gb' gc' ge' ys ys' : Nat → Int32} {mf mf' : Nat → Int64} {st : Nat → SA} {L : List Nat} {sl : Nat} {v : SA} (h : StmR M gb gc ge mf ys st) (hO : MsO L M M') (hL : ∀ x ∈ L, x = sl ∨ 4 ≤ x) (h1 : ∀ x, x ≠ sl → gb' x = gb x) (h2 : ∀ x, x ≠ sl → gc' x = gc x) (h3 : ∀ x, x ≠ sl → ge' x = ge x) (h4 : ∀ x, x ≠ sl → mf' x = mf x) (h5 : ∀ x, x ≠ sl → ∀ i, i < 128 → ys' (128 * x + i) = ys (128 * x + i)) (hs : SlR M' gb' gc' ge' mf' ys' sl v) : StmR M' gb' gc' ge' mf' ys' (va_up st sl v) := by
  intro s hs4
  unfold va_up
  by_cases c : s = sl
  · rw [if_pos c, c]; exact hs
  · rw [if_neg c]
    obtain ⟨a, b⟩ := h s hs4
    refine ⟨(h1 s c).trans a, fun e => ?_⟩
    obtain ⟨b1, b2, b3, b4, b5, b6, b7⟩ := b e
    exact ⟨(h2 s c).trans b1, (h3 s c).trans b2, (h4 s c).trans b3, b4.keep hO (by omega) (fun hm => (hL s hm).elim c (fun q => by omega)), b5, b6, fun e2 i hi => (h5 s c i hi).trans (b7 e2 i hi)⟩
theorem StmR.other {M M' : MS} {gb gc ge ys : Nat → Int32} {mf : Nat → Int64} {st : Nat → SA} {L : List Nat} (h : StmR M gb gc ge mf ys st) (hO : MsO L M M') (hL : ∀ x ∈ L, 4 ≤ x) : StmR M' gb gc ge mf ys st := by
  intro s hs4
  obtain ⟨a, b⟩ := h s hs4
  refine ⟨a, fun e => ?_⟩
  obtain ⟨b1, b2, b3, b4, b5, b6, b7⟩ := b e
  exact ⟨b1, b2, b3, b4.keep hO (by omega) (fun hm => by have := hL s hm; omega), b5, b6, b7⟩
def octs (n : Nat) (v : Int64) : List Nat := (List.range n).map (fun i => o8 (Int64.toInt32 (ushL v (nI (8 * i)))))
theorem octs_len (n : Nat) (v : Int64) : (octs n v).length = n := by simp [octs]
theorem octs_get {n i : Nat} {v : Int64} (h : i < n) : (octs n v).getD i 0 = o8 (Int64.toInt32 (ushL v (nI (8 * i)))) := by
  unfold octs
  rw [List.getD_eq_getElem?_getD, List.getElem?_map, List.getElem?_range h]
  rfl
theorem octs_lt (n : Nat) (v : Int64) : ∀ c ∈ octs n v, c < 256 := by
  intro c hc
  obtain ⟨i, -, rfl⟩ := List.mem_map.mp hc
  exact o8_lt _
theorem shr_sm : ∀ k : Fin 8, ((nI (8 * k.val)).toInt64 &&& 63).toBitVec.smod 64 = BitVec.ofNat 64 (8 * k.val) := by decide +kernel
theorem shr_us : ∀ k : Fin 8, ((nI (8 * k.val)).toInt64.toUInt64 &&& Int64.toUInt64 63).toBitVec % 64 = BitVec.ofNat 64 (8 * k.val) := by decide +kernel
theorem shr_ush (v : Int64) {k : Nat} (hk : k < 8) : Int64.toInt32 (shrL v (nI (8 * k)) &&& 255) = nI (o8 (Int64.toInt32 (ushL v (nI (8 * k))))) := by
  rw [← l255]
  apply Int32.toBitVec_inj.mp
  rw [Int64.toBitVec_toInt32, Int64.toBitVec_toInt32, Int64.toBitVec_and, Int64.toBitVec_and]
  apply BitVec.eq_of_getLsbD_eq
  intro i hi
  have h1 : (shrL v (nI (8 * k))).toBitVec = v.toBitVec.sshiftRight (8 * k) := by
    unfold shrL
    rw [Int64.toBitVec_shiftRight]
    show v.toBitVec.sshiftRight (((nI (8 * k)).toInt64 &&& 63).toBitVec.smod 64).toNat = _
    rw [shr_sm ⟨k, hk⟩, BitVec.toNat_ofNat, Nat.mod_eq_of_lt (by show 8 * k < _; omega)]
  have h2 : (ushL v (nI (8 * k))).toBitVec = v.toBitVec >>> (8 * k) := by
    unfold ushL
    show (v.toBitVec >>> (((nI (8 * k)).toInt64.toUInt64 &&& Int64.toUInt64 63).toBitVec % 64)) = _
    rw [shr_us ⟨k, hk⟩, BitVec.ushiftRight_eq', BitVec.toNat_ofNat, Nat.mod_eq_of_lt (by show 8 * k < _; omega)]
  rw [h1, h2]
  simp only [BitVec.getLsbD_signExtend, BitVec.getLsbD_and]
  have h255 : ∀ j : Fin 64, (255 : Int64).toBitVec.getLsbD j.val = decide (j.val < 8) := by decide
  have hm : ∀ j, j < 64 → ((v.toBitVec.sshiftRight (8 * k)).getLsbD j && (255 : Int64).toBitVec.getLsbD j) = ((v.toBitVec >>> (8 * k)).getLsbD j && (255 : Int64).toBitVec.getLsbD j) := by
    intro j hj
    rw [h255 ⟨j, hj⟩]
    by_cases c : j < 8
    · rw [BitVec.getLsbD_sshiftRight, BitVec.getLsbD_ushiftRight]
      simp [c, show ¬ 64 ≤ j by omega, show 8 * k + j < 64 by omega]
    · simp [c]
  have h64 : i < 64 := by omega
  simp only [if_pos h64]
  rw [hm i h64]
theorem tape_add {f f' : Nat → Int32} {z n : Nat} {q : List Nat} {v : Int64} (h : TapeR f z q) (hn : z + n ≤ 600) (h1 : ∀ i, i < z → f' i = f i) (h2 : ∀ i, i < n → f' (z + i) = nI ((octs n v).getD i 0)) : TapeR f' (z + n) (q ++ octs n v) := by
  obtain ⟨a, b, c, d⟩ := h
  refine ⟨by rw [List.length_append, octs_len, a], hn, fun x hx => (List.mem_append.mp hx).elim (c x) (octs_lt n v x), fun i hi => ?_⟩
  rw [List.length_append, octs_len] at hi
  rcases Nat.lt_or_ge i q.length with g | g
  · rw [h1 i (by omega), d i g, List.getD_eq_getElem?_getD, List.getD_eq_getElem?_getD, List.getElem?_append_left g]
  · have e : i = z + (i - z) := by omega
    rw [e, h2 (i - z) (by omega), List.getD_eq_getElem?_getD, List.getD_eq_getElem?_getD, List.getElem?_append_right (by omega)]
    congr 3
    omega
theorem nar_z1 : vp_nar .boolean (nI 1) = 1 := rfl
theorem nar_z0 : vp_nar .boolean (nI 0) = 0 := rfl
theorem un {f f' : Nat → Int32} {sl : Nat} {v : Int32} (e : f' = upd f sl v) : ∀ x, x ≠ sl → f' x = f x := fun _ h => by rw [e]; exact pk_un h
theorem unL {f f' : Nat → Int64} {sl : Nat} {v : Int64} (e : f' = vp_updL f sl v) : ∀ x, x ≠ sl → f' x = f x := fun _ h => by rw [e]; exact pk_uLn h
theorem len_mod {k T : Nat} {h : HS} {q : List Nat} (hl : h.2.length < bs k) (hm : h.2.length = T % bs k) : (plcs k h q).2.length = (T + q.length) % bs k := by
  rw [plcs_len q h hl, hm, Nat.mod_add_mod]
theorem fdU {g g' tp : Nat → Int32} {z n i : Nat} {v : Int64} (hI : i ≤ n ∧ (∀ x, x < z → g x = tp x) ∧ ∀ x, x < i → g (z + x) = nI ((octs n v).getD x 0)) (hi : i < n) (e : g' = upd g (z + i) (nI ((octs n v).getD i 0))) : i + 1 ≤ n ∧ (∀ x, x < z → g' x = tp x) ∧ ∀ x, x < i + 1 → g' (z + x) = nI ((octs n v).getD x 0) := by
  refine ⟨hi, fun x hx => by rw [e, pk_un (by omega)]; exact hI.2.1 x hx, fun x hx => ?_⟩
  rcases Nat.lt_or_ge x i with c | c
  · rw [e, pk_un (by omega)]; exact hI.2.2 x c
  · rw [show x = i by omega, e, pk_us]
theorem fdB {x : Int32} {z : Nat} (h : x < 1 ∨ 8 < x ∨ 600 < nI z + x) (a : ¬ x < 1) (b : ¬ 8 < x) (c : nI z + x ≤ 600) : False := by
  rcases h with h | h | h
  · exact a h
  · exact b h
  · exact absurd c (Int32.not_le.mpr h)
set_option maxHeartbeats 4000000 in
set_option maxRecDepth 100000 in
theorem c_X4_noStream (l : Launch) (G : GW) (sz : Nat) (x : Int32)  : Met l yX4_noStream (Cond.code yX4_noStream cX4_noStream 1 (some FieldType.boolean) :: UW) ({ frames := 0, cells := 0, slots := 0, locals := 0 } : Room) (va_Pc [.int x] (gPre G [] sz)) (va_Qi (fun (r : Int32) (_ : Unit) => r = nsI x) (fun u => gPost G (va_A [] sz) ((fun (_ : Unit) => ([] : va_W)) u)) (va_A [] sz)) 0 0 (va_A [] sz) := by
  refine gM_of (Qf := fun A => va_Qi (fun (r : Int32) (_ : Unit) => r = nsI x) (fun u => gPost G A ((fun (_ : Unit) => ([] : va_W)) u)) A) (by decide) (Nat.le_of_ble_eq_true rfl) ?_
  intro p e s m below meth c A ls hx hb hml hr hown htu hlk hnm hA hP hD hS hK hZ hl
  have hown : s.vm.findClass RX4 = some m.cls := hown
  have hl : lv_has ls 1 [(0, .int x)] := hl
  refine lv_iload_n hx hb dX4_noStream_0 rfl (lv_at hl 0 rfl) ?_
  refine lv_if_lt (tgt := 9) hx hb dX4_noStream_1 (by decide) (fun c_1 => ?_) (fun c_1 => ?_)
  · skip
    refine lv_iconst (v := 1) hx hb dX4_noStream_9 (by decide) ?_
    refine lv_goto (tgt := 14) hx hb dX4_noStream_10 (by decide) ?_
    exact gret_z hx hb hr hlk dX4_noStream_14 hS (by first | exact Or.inl rfl | exact Or.inr rfl) () (hP.sub [] rfl) (hD.sub [] (by decide) rfl) (by unfold nsI; first | rw [if_pos c_1] | rw [if_neg c_1, if_pos c_6] | rw [if_neg c_1, if_neg c_6])
  · skip
    refine lv_iload_n hx hb dX4_noStream_4 rfl (lv_at hl 0 rfl) ?_
    refine lv_iconst (v := 4) hx hb dX4_noStream_5 (by decide) ?_
    refine lv_icmp_lt (tgt := 13) hx hb dX4_noStream_6 (by decide) (fun c_6 => ?_) (fun c_6 => ?_)
    · skip
      refine lv_iconst (v := 0) hx hb dX4_noStream_13 (by decide) ?_
      exact gret_z hx hb hr hlk dX4_noStream_14 hS (by first | exact Or.inl rfl | exact Or.inr rfl) () (hP.sub [] rfl) (hD.sub [] (by decide) rfl) (by unfold nsI; first | rw [if_pos c_1] | rw [if_neg c_1, if_pos c_6] | rw [if_neg c_1, if_neg c_6])
    · skip
      refine lv_iconst (v := 1) hx hb dX4_noStream_9 (by decide) ?_
      refine lv_goto (tgt := 14) hx hb dX4_noStream_10 (by decide) ?_
      exact gret_z hx hb hr hlk dX4_noStream_14 hS (by first | exact Or.inl rfl | exact Or.inr rfl) () (hP.sub [] rfl) (hD.sub [] (by decide) rfl) (by unfold nsI; first | rw [if_pos c_1] | rw [if_neg c_1, if_pos c_6] | rw [if_neg c_1, if_neg c_6])
set_option maxHeartbeats 4000000 in
set_option maxRecDepth 100000 in
theorem c_X4_noKind (l : Launch) (G : GW) (sz : Nat) (x : Int32)  : Met l yX4_noKind (Cond.code yX4_noKind cX4_noKind 1 (some FieldType.boolean) :: UW) ({ frames := 0, cells := 0, slots := 0, locals := 0 } : Room) (va_Pc [.int x] (gPre G [] sz)) (va_Qi (fun (r : Int32) (_ : Unit) => r = nkI x) (fun u => gPost G (va_A [] sz) ((fun (_ : Unit) => ([] : va_W)) u)) (va_A [] sz)) 0 0 (va_A [] sz) := by
  refine gM_of (Qf := fun A => va_Qi (fun (r : Int32) (_ : Unit) => r = nkI x) (fun u => gPost G A ((fun (_ : Unit) => ([] : va_W)) u)) A) (by decide) (Nat.le_of_ble_eq_true rfl) ?_
  intro p e s m below meth c A ls hx hb hml hr hown htu hlk hnm hA hP hD hS hK hZ hl
  have hown : s.vm.findClass RX4 = some m.cls := hown
  have hl : lv_has ls 1 [(0, .int x)] := hl
  refine lv_iload_n hx hb dX4_noKind_0 rfl (lv_at hl 0 rfl) ?_
  refine lv_if_lt (tgt := 9) hx hb dX4_noKind_1 (by decide) (fun c_1 => ?_) (fun c_1 => ?_)
  · skip
    refine lv_iconst (v := 1) hx hb dX4_noKind_9 (by decide) ?_
    refine lv_goto (tgt := 14) hx hb dX4_noKind_10 (by decide) ?_
    exact gret_z hx hb hr hlk dX4_noKind_14 hS (by first | exact Or.inl rfl | exact Or.inr rfl) () (hP.sub [] rfl) (hD.sub [] (by decide) rfl) (by unfold nkI; first | rw [if_pos c_1] | rw [if_neg c_1, if_pos c_6] | rw [if_neg c_1, if_neg c_6])
  · skip
    refine lv_iload_n hx hb dX4_noKind_4 rfl (lv_at hl 0 rfl) ?_
    refine lv_iconst (v := 3) hx hb dX4_noKind_5 (by decide) ?_
    refine lv_icmp_le (tgt := 13) hx hb dX4_noKind_6 (by decide) (fun c_6 => ?_) (fun c_6 => ?_)
    · skip
      refine lv_iconst (v := 0) hx hb dX4_noKind_13 (by decide) ?_
      exact gret_z hx hb hr hlk dX4_noKind_14 hS (by first | exact Or.inl rfl | exact Or.inr rfl) () (hP.sub [] rfl) (hD.sub [] (by decide) rfl) (by unfold nkI; first | rw [if_pos c_1] | rw [if_neg c_1, if_pos c_6] | rw [if_neg c_1, if_neg c_6])
    · skip
      refine lv_iconst (v := 1) hx hb dX4_noKind_9 (by decide) ?_
      refine lv_goto (tgt := 14) hx hb dX4_noKind_10 (by decide) ?_
      exact gret_z hx hb hr hlk dX4_noKind_14 hS (by first | exact Or.inl rfl | exact Or.inr rfl) () (hP.sub [] rfl) (hD.sub [] (by decide) rfl) (by unfold nkI; first | rw [if_pos c_1] | rw [if_neg c_1, if_pos c_6] | rw [if_neg c_1, if_neg c_6])
set_option maxHeartbeats 4000000 in
set_option maxRecDepth 100000 in
theorem c_X4_thrown (l : Launch) (G : GW) (sz : Nat) (o : Nat) (ad : Nat → Nat) (sz1 : Int32) (osz : Int32) (th : Int32) (hsz : Int32)  : Met l yX4_thrown (Cond.code yX4_thrown cX4_thrown 1 (some FieldType.int) :: UW) ({ frames := 0, cells := 0, slots := 0, locals := 0 } : Room) (va_Pc [.ref o] (gPre G [(o, .inr (4, mF ad sz1 osz th hsz))] sz)) (va_Qi (fun (r : Int32) (_ : Unit) => r = th) (fun u => gPost G (va_A [(o, .inr (4, mF ad sz1 osz th hsz))] sz) ((fun (_ : Unit) => ([(o, .inr (4, mF ad sz1 osz th hsz))] : va_W)) u)) (va_A [(o, .inr (4, mF ad sz1 osz th hsz))] sz)) 0 0 (va_A [(o, .inr (4, mF ad sz1 osz th hsz))] sz) := by
  refine gM_of (Qf := fun A => va_Qi (fun (r : Int32) (_ : Unit) => r = th) (fun u => gPost G A ((fun (_ : Unit) => ([(o, .inr (4, mF ad sz1 osz th hsz))] : va_W)) u)) A) (by decide) (Nat.le_of_ble_eq_true rfl) ?_
  intro p e s m below meth c A ls hx hb hml hr hown htu hlk hnm hA hP hD hS hK hZ hl
  have hown : s.vm.findClass RX4 = some m.cls := hown
  have hl : lv_has ls 1 [(0, .ref o)] := hl
  refine lv_aload_n hx hb dX4_thrown_0 rfl (lv_at hl 0 rfl) ?_
  refine va_get (D := G.1) (ci := 4) (v := .int th) (C := RX4) (T := TX4) (N := 29) hx hb htu iwX4 hown hK.1 hP 0 rfl rfl 20 (by decide) (htu _ uF_X4_95) (fun _ h9 => h9) rfl dX4_thrown_1 ?_
  exact gret_i hx hb hr hlk dX4_thrown_4 hS () (hP.sub [0] rfl) (hD.sub [0] (by decide) rfl) (rfl)
set_option maxHeartbeats 4000000 in
set_option maxRecDepth 100000 in
theorem c_X4_feed (l : Launch) (G : GW) (sz : Nat) (o : Nat) (ad : Nat → Nat) (osz : Int32) (th : Int32) (hsz : Int32) (z : Nat) (n : Nat) (v : Int64) (tp : Nat → Int32) (q : List Nat) (hT : TapeR tp z q) (hn : 1 ≤ n ∧ n ≤ 8) (hz : z + n ≤ 600) : Met l yX4_feed (Cond.code yX4_feed cX4_feed 5 (some FieldType.int) :: UW) ({ frames := 0, cells := 0, slots := 0, locals := 0 } : Room) (va_Pc [.ref o, .int (nI n), .long v] (gPre G [(o, .inr (4, mF ad (nI z) osz th hsz)), (ad 0, .inl (G.2.1 1, 600, .inl tp))] sz)) (va_Qi (fun (r : Int32) (tp' : Nat → Int32) => r = nI (z + n) ∧ TapeR tp' (z + n) (q ++ octs n v)) (fun u => gPost G (va_A [(o, .inr (4, mF ad (nI z) osz th hsz)), (ad 0, .inl (G.2.1 1, 600, .inl tp))] sz) ((fun (tp' : Nat → Int32) => ([(o, .inr (4, mF ad (nI (z + n)) osz (nI 0) hsz)), (ad 0, .inl (G.2.1 1, 600, .inl tp'))] : va_W)) u)) (va_A [(o, .inr (4, mF ad (nI z) osz th hsz)), (ad 0, .inl (G.2.1 1, 600, .inl tp))] sz)) 0 0 (va_A [(o, .inr (4, mF ad (nI z) osz th hsz)), (ad 0, .inl (G.2.1 1, 600, .inl tp))] sz) := by
  refine gM_of (Qf := fun A => va_Qi (fun (r : Int32) (tp' : Nat → Int32) => r = nI (z + n) ∧ TapeR tp' (z + n) (q ++ octs n v)) (fun u => gPost G A ((fun (tp' : Nat → Int32) => ([(o, .inr (4, mF ad (nI (z + n)) osz (nI 0) hsz)), (ad 0, .inl (G.2.1 1, 600, .inl tp'))] : va_W)) u)) A) (by decide) (Nat.le_of_ble_eq_true rfl) ?_
  intro p e s m below meth c A ls hx hb hml hr hown htu hlk hnm hA hP hD hS hK hZ hl
  have hown : s.vm.findClass RX4 = some m.cls := hown
  have hl : lv_has ls 5 [(0, .ref o), (1, .int (nI n)), (2, .long v)] := hl
  refine lv_aload_n hx hb dX4_feed_0 rfl (lv_at hl 0 rfl) ?_
  refine lv_iload_n hx hb dX4_feed_1 rfl (lv_at hl 1 rfl) ?_
  refine lv_iconst (v := nI 1) hx hb dX4_feed_2 (by decide) ?_
  refine lv_icmp_lt (tgt := 24) hx hb dX4_feed_3 (by decide) (fun c_3 => absurd c_3 (nI_nlt (b := 1) hn.1 (by omega))) (fun _ => ?_)
  refine lv_iload_n hx hb dX4_feed_6 rfl (lv_at hl 1 rfl) ?_
  refine lv_bipush (v := nI 8) hx hb dX4_feed_7 (by decide) ?_
  refine lv_icmp_gt (tgt := 24) hx hb dX4_feed_9 (by decide) (fun c_9 => absurd c_9 (nI_nlt (a := 8) hn.2 (by decide))) (fun _ => ?_)
  refine lv_aload_n hx hb dX4_feed_12 rfl (lv_at hl 0 rfl) ?_
  refine va_get (D := G.1) (ci := 4) (v := .int (nI z)) (C := RX4) (T := TX4) (N := 29) hx hb htu iwX4 hown hK.1 hP 0 rfl rfl 1 (by decide) (htu _ uF_X4_171) (fun _ h9 => h9) rfl dX4_feed_13 ?_
  refine lv_iload_n hx hb dX4_feed_16 rfl (lv_at hl 1 rfl) ?_
  refine lv_iadd hx hb dX4_feed_17 ?_
  refine g_toi (y := nI (z + n)) (nI_add z n) ?_
  refine lv_sipush (v := nI 600) hx hb dX4_feed_18 (by decide) ?_
  refine lv_icmp_le (tgt := 28) hx hb dX4_feed_21 (by decide) (fun _ => ?_) (fun c_21 => absurd (nI_le (b := 600) hz (by decide)) c_21)
  refine lv_iconst (v := nI 0) hx hb dX4_feed_28 (by decide) ?_
  refine va_put (D := G.1) (ci := 4) (v := .int (nI 0)) (ty := .int) (C := RX4) (T := TX4) (N := 29) hx hb htu iwX4 tyX4 tyX4_ok nmX4 hown hK.1 hP hD hS 0 rfl rfl 20 (by decide) (htu _ uF_X4_95) (fun _ h9 => h9) rfl (by decide +kernel) rfl rfl (Nat.le_of_ble_eq_true rfl) dX4_feed_29 (fun H locs hP hD hS => ?_)
  have hP : va_P G.1 vwCl [(o, .inr (4, mF ad (nI z) osz (nI 0) hsz)), (ad 0, .inl (G.2.1 1, 600, .inl tp))] H := hP
  have hD : va_D A [(o, .inr (4, mF ad (nI z) osz (nI 0) hsz)), (ad 0, .inl (G.2.1 1, 600, .inl tp))] := hD
  refine lv_aload_n hx hb dX4_feed_32 rfl (lv_at hl 0 rfl) ?_
  refine va_get (D := G.1) (ci := 4) (v := .int (nI 0)) (C := RX4) (T := TX4) (N := 29) hx hb htu iwX4 hown hK.1 hP 0 rfl rfl 20 (by decide) (htu _ uF_X4_95) (fun _ h9 => h9) rfl dX4_feed_33 ?_
  refine lv_if_le (tgt := 41) hx hb dX4_feed_36 (by decide) (fun _ => ?_) (fun c_36 => absurd (by decide) c_36)
  refine lv_iconst (v := nI 0) hx hb dX4_feed_41 (by decide) ?_
  refine lv_istore (lv' := [(4, .int (nI 0)), (0, .ref o), (1, .int (nI n)), (2, .long v)]) hx hb dX4_feed_42 hl (by decide) rfl (fun ls hl => ?_)
  refine g_loop (σ := Nat × (Nat → Int32)) (G := G) (fun xq9 : Nat × (Nat → Int32) => [(o, .inr (4, mF ad (nI z) osz (nI 0) hsz)), (ad 0, .inl (G.2.1 1, 600, .inl xq9.2))]) (fun xq9 : Nat × (Nat → Int32) => [(0, .ref o), (1, .int (nI n)), (2, .long v), (4, .int (nI xq9.1))]) (fun xq9 : Nat × (Nat → Int32) => xq9.1 ≤ n ∧ (∀ x, x < z → xq9.2 x = tp x) ∧ ∀ x, x < xq9.1 → xq9.2 (z + x) = nI ((octs n v).getD x 0)) (fun xq9 : Nat × (Nat → Int32) => n - xq9.1) ?_ (0, tp) (show 0 ≤ n ∧ (∀ x, x < z → tp x = tp x) ∧ ∀ x, x < 0 → tp (z + x) = nI ((octs n v).getD x 0) from ⟨Nat.zero_le _, fun _ _ => rfl, fun _ h => absurd h (Nat.not_lt_zero _)⟩) (hP.sub [0, 1] rfl) (hD.sub [0, 1] (by decide) rfl) hS (lv_sub hl [1, 2, 3, 0] rfl)
  clear hP hD hS hl
  intro x hxI_44 ih_44 H locs ls hP hD hS hl
  obtain ⟨i, g⟩ := x
  have hI : i ≤ n ∧ (∀ x, x < z → g x = tp x) ∧ ∀ x, x < i → g (z + x) = nI ((octs n v).getD x 0) := hxI_44
  have hP : va_P G.1 vwCl [(o, .inr (4, mF ad (nI z) osz (nI 0) hsz)), (ad 0, .inl (G.2.1 1, 600, .inl g))] H := hP
  have hD : va_D A [(o, .inr (4, mF ad (nI z) osz (nI 0) hsz)), (ad 0, .inl (G.2.1 1, 600, .inl g))] := hD
  have hl : lv_has ls 5 [(0, .ref o), (1, .int (nI n)), (2, .long v), (4, .int (nI i))] := hl
  refine lv_iload hx hb dX4_feed_44 (lv_at hl 3 rfl) ?_
  refine lv_iload_n hx hb dX4_feed_46 rfl (lv_at hl 1 rfl) ?_
  refine lv_icmp_ge (tgt := 80) hx hb dX4_feed_47 (by decide) (fun c_47 => ?_) (fun c_47 => ?_)
  · skip
    have hg : n ≤ i := ge_t (n := n) c_47 (by omega)
    refine lv_aload_n hx hb dX4_feed_80 rfl (lv_at hl 0 rfl) ?_
    refine lv_dup hx hb dX4_feed_81 rfl ?_
    refine va_get (D := G.1) (ci := 4) (v := .int (nI z)) (C := RX4) (T := TX4) (N := 29) hx hb htu iwX4 hown hK.1 hP 0 rfl rfl 1 (by decide) (htu _ uF_X4_171) (fun _ h9 => h9) rfl dX4_feed_82 ?_
    refine lv_iload_n hx hb dX4_feed_85 rfl (lv_at hl 1 rfl) ?_
    refine lv_iadd hx hb dX4_feed_86 ?_
    refine g_toi (y := nI (z + n)) (nI_add z n) ?_
    refine va_put (D := G.1) (ci := 4) (v := .int (nI (z + n))) (ty := .int) (C := RX4) (T := TX4) (N := 29) hx hb htu iwX4 tyX4 tyX4_ok nmX4 hown hK.1 hP hD hS 0 rfl rfl 1 (by decide) (htu _ uF_X4_171) (fun _ h9 => h9) rfl (by decide +kernel) rfl rfl (Nat.le_of_ble_eq_true rfl) dX4_feed_87 (fun H locs hP hD hS => ?_)
    have hP : va_P G.1 vwCl [(o, .inr (4, mF ad (nI (z + n)) osz (nI 0) hsz)), (ad 0, .inl (G.2.1 1, 600, .inl g))] H := hP
    have hD : va_D A [(o, .inr (4, mF ad (nI (z + n)) osz (nI 0) hsz)), (ad 0, .inl (G.2.1 1, 600, .inl g))] := hD
    refine lv_aload_n hx hb dX4_feed_90 rfl (lv_at hl 0 rfl) ?_
    refine va_get (D := G.1) (ci := 4) (v := .int (nI (z + n))) (C := RX4) (T := TX4) (N := 29) hx hb htu iwX4 hown hK.1 hP 0 rfl rfl 1 (by decide) (htu _ uF_X4_171) (fun _ h9 => h9) rfl dX4_feed_91 ?_
    exact gret_i hx hb hr hlk dX4_feed_94 hS g (hP.sub [0, 1] rfl) (hD.sub [0, 1] (by decide) rfl) (show (nI (z + n) = nI (z + n)) ∧ (TapeR g (z + n) (q ++ octs n v)) from ⟨rfl, tape_add hT hz hI.2.1 (fun i hi => hI.2.2 i (by omega))⟩)
  · skip
    have hg : i < n := ge_f (n := n) c_47 (by have := hI.1; omega)
    refine lv_aload_n hx hb dX4_feed_50 rfl (lv_at hl 0 rfl) ?_
    refine va_get (D := G.1) (ci := 4) (v := .ref (ad 0)) (C := RX4) (T := TX4) (N := 29) hx hb htu iwX4 hown hK.1 hP 0 rfl rfl 0 (by decide) (htu _ uF_X4_7) (fun _ h9 => h9) rfl dX4_feed_51 ?_
    refine lv_aload_n hx hb dX4_feed_54 rfl (lv_at hl 0 rfl) ?_
    refine va_get (D := G.1) (ci := 4) (v := .int (nI z)) (C := RX4) (T := TX4) (N := 29) hx hb htu iwX4 hown hK.1 hP 0 rfl rfl 1 (by decide) (htu _ uF_X4_171) (fun _ h9 => h9) rfl dX4_feed_55 ?_
    refine lv_iload hx hb dX4_feed_58 (lv_at hl 3 rfl) ?_
    refine lv_iadd hx hb dX4_feed_60 ?_
    refine g_toi (y := nI (z + i)) (nI_add z i) ?_
    refine lv_lload_n hx hb dX4_feed_61 rfl (lv_at hl 2 rfl) ?_
    refine lv_bipush (v := nI 8) hx hb dX4_feed_62 (by decide) ?_
    refine lv_iload hx hb dX4_feed_64 (lv_at hl 3 rfl) ?_
    refine lv_imul hx hb dX4_feed_66 ?_
    refine g_toi (y := nI (8 * i)) (pk_mul 8 i) ?_
    refine lv_lshr (v := shrL v (nI (8 * i))) hx hb dX4_feed_67 rfl ?_
    refine lv_ldc2 hx hb hown (htu _ uL_X4_141) dX4_feed_68 ?_
    refine lv_land hx hb dX4_feed_71 ?_
    refine lv_l2i (v := Int64.toInt32 ((shrL v (nI (8 * i))) &&& 255)) hx hb dX4_feed_72 rfl ?_
    refine g_toi (y := nI ((octs n v).getD i 0)) (by rw [octs_get hg]; exact shr_ush v (by omega)) ?_
    refine g_iast hx hb hK.1 hP hD hS 1 1 rfl rfl ⟨by omega, by decide⟩ dX4_feed_73 (fun H locs hP hD hS => ?_)
    obtain ⟨g_1, eg_1⟩ : ∃ gq9 : Nat → Int32, gq9 = upd g (z + i) (nI ((octs n v).getD i 0)) := ⟨_, rfl⟩
    rw [← eg_1] at hP hD
    have hP : va_P G.1 vwCl [(o, .inr (4, mF ad (nI z) osz (nI 0) hsz)), (ad 0, .inl (G.2.1 1, 600, .inl g_1))] H := hP
    have hD : va_D A [(o, .inr (4, mF ad (nI z) osz (nI 0) hsz)), (ad 0, .inl (G.2.1 1, 600, .inl g_1))] := hD
    refine lv_iinc (v := nI (i + 1)) (lv' := [(4, .int (nI (i + 1))), (0, .ref o), (1, .int (nI n)), (2, .long v)]) hx hb dX4_feed_74 hl (k := 3) rfl (nI_1 i) (by decide) rfl (fun ls hl => ?_)
    refine lv_goto (tgt := 44) hx hb dX4_feed_77 (by decide) ?_
    exact ih_44 (i + 1, g_1) (show (i + 1) ≤ n ∧ (∀ x, x < z → g_1 x = tp x) ∧ ∀ x, x < (i + 1) → g_1 (z + x) = nI ((octs n v).getD x 0) from fdU hI hg eg_1) (by show n - (i + 1) < n - i; omega) _ _ _ (hP.sub [0, 1] rfl) (hD.sub [0, 1] (by decide) rfl) hS (lv_sub hl [1, 2, 3, 0] rfl)
set_option maxHeartbeats 4000000 in
set_option maxRecDepth 100000 in
theorem c_X4_feedT (l : Launch) (G : GW) (sz : Nat) (o : Nat) (ad : Nat → Nat) (osz : Int32) (th : Int32) (hsz : Int32) (z : Nat) (x : Int32) (v : Int64) (hb9 : x < 1 ∨ 8 < x ∨ 600 < nI z + x) : Met l yX4_feed (Cond.code yX4_feed cX4_feed 5 (some FieldType.int) :: UW) ({ frames := 0, cells := 0, slots := 0, locals := 0 } : Room) (va_Pc [.ref o, .int x, .long v] (gPre G [(o, .inr (4, mF ad (nI z) osz th hsz))] sz)) (va_Qi (fun (r : Int32) (_ : Unit) => r = 0) (fun u => gPost G (va_A [(o, .inr (4, mF ad (nI z) osz th hsz))] sz) ((fun (_ : Unit) => ([(o, .inr (4, mF ad (nI z) osz (nI 1) hsz))] : va_W)) u)) (va_A [(o, .inr (4, mF ad (nI z) osz th hsz))] sz)) 0 0 (va_A [(o, .inr (4, mF ad (nI z) osz th hsz))] sz) := by
  refine gM_of (Qf := fun A => va_Qi (fun (r : Int32) (_ : Unit) => r = 0) (fun u => gPost G A ((fun (_ : Unit) => ([(o, .inr (4, mF ad (nI z) osz (nI 1) hsz))] : va_W)) u)) A) (by decide) (Nat.le_of_ble_eq_true rfl) ?_
  intro p e s m below meth c A ls hx hb hml hr hown htu hlk hnm hA hP hD hS hK hZ hl
  have hown : s.vm.findClass RX4 = some m.cls := hown
  have hl : lv_has ls 5 [(0, .ref o), (1, .int x), (2, .long v)] := hl
  refine lv_aload_n hx hb dX4_feed_0 rfl (lv_at hl 0 rfl) ?_
  refine lv_iload_n hx hb dX4_feed_1 rfl (lv_at hl 1 rfl) ?_
  refine lv_iconst (v := nI 1) hx hb dX4_feed_2 (by decide) ?_
  refine lv_icmp_lt (tgt := 24) hx hb dX4_feed_3 (by decide) (fun c_3 => ?_) (fun c_3 => ?_)
  · skip
    refine lv_iconst (v := nI 1) hx hb dX4_feed_24 (by decide) ?_
    refine lv_goto (tgt := 29) hx hb dX4_feed_25 (by decide) ?_
    refine va_put (D := G.1) (ci := 4) (v := .int (nI 1)) (ty := .int) (C := RX4) (T := TX4) (N := 29) hx hb htu iwX4 tyX4 tyX4_ok nmX4 hown hK.1 hP hD hS 0 rfl rfl 20 (by decide) (htu _ uF_X4_95) (fun _ h9 => h9) rfl (by decide +kernel) rfl rfl (Nat.le_of_ble_eq_true rfl) dX4_feed_29 (fun H locs hP hD hS => ?_)
    have hP : va_P G.1 vwCl [(o, .inr (4, mF ad (nI z) osz (nI 1) hsz))] H := hP
    have hD : va_D A [(o, .inr (4, mF ad (nI z) osz (nI 1) hsz))] := hD
    refine lv_aload_n hx hb dX4_feed_32 rfl (lv_at hl 0 rfl) ?_
    refine va_get (D := G.1) (ci := 4) (v := .int (nI 1)) (C := RX4) (T := TX4) (N := 29) hx hb htu iwX4 hown hK.1 hP 0 rfl rfl 20 (by decide) (htu _ uF_X4_95) (fun _ h9 => h9) rfl dX4_feed_33 ?_
    refine lv_if_le (tgt := 41) hx hb dX4_feed_36 (by decide) (fun c_36 => absurd c_36 (by decide)) (fun _ => ?_)
    refine lv_iconst (v := nI 0) hx hb dX4_feed_39 (by decide) ?_
    exact gret_i hx hb hr hlk dX4_feed_40 hS () (hP.sub [0] rfl) (hD.sub [0] (by decide) rfl) (rfl)
  · skip
    refine lv_iload_n hx hb dX4_feed_6 rfl (lv_at hl 1 rfl) ?_
    refine lv_bipush (v := nI 8) hx hb dX4_feed_7 (by decide) ?_
    refine lv_icmp_gt (tgt := 24) hx hb dX4_feed_9 (by decide) (fun c_9 => ?_) (fun c_9 => ?_)
    · skip
      refine lv_iconst (v := nI 1) hx hb dX4_feed_24 (by decide) ?_
      refine lv_goto (tgt := 29) hx hb dX4_feed_25 (by decide) ?_
      refine va_put (D := G.1) (ci := 4) (v := .int (nI 1)) (ty := .int) (C := RX4) (T := TX4) (N := 29) hx hb htu iwX4 tyX4 tyX4_ok nmX4 hown hK.1 hP hD hS 0 rfl rfl 20 (by decide) (htu _ uF_X4_95) (fun _ h9 => h9) rfl (by decide +kernel) rfl rfl (Nat.le_of_ble_eq_true rfl) dX4_feed_29 (fun H locs hP hD hS => ?_)
      have hP : va_P G.1 vwCl [(o, .inr (4, mF ad (nI z) osz (nI 1) hsz))] H := hP
      have hD : va_D A [(o, .inr (4, mF ad (nI z) osz (nI 1) hsz))] := hD
      refine lv_aload_n hx hb dX4_feed_32 rfl (lv_at hl 0 rfl) ?_
      refine va_get (D := G.1) (ci := 4) (v := .int (nI 1)) (C := RX4) (T := TX4) (N := 29) hx hb htu iwX4 hown hK.1 hP 0 rfl rfl 20 (by decide) (htu _ uF_X4_95) (fun _ h9 => h9) rfl dX4_feed_33 ?_
      refine lv_if_le (tgt := 41) hx hb dX4_feed_36 (by decide) (fun c_36 => absurd c_36 (by decide)) (fun _ => ?_)
      refine lv_iconst (v := nI 0) hx hb dX4_feed_39 (by decide) ?_
      exact gret_i hx hb hr hlk dX4_feed_40 hS () (hP.sub [0] rfl) (hD.sub [0] (by decide) rfl) (rfl)
    · skip
      refine lv_aload_n hx hb dX4_feed_12 rfl (lv_at hl 0 rfl) ?_
      refine va_get (D := G.1) (ci := 4) (v := .int (nI z)) (C := RX4) (T := TX4) (N := 29) hx hb htu iwX4 hown hK.1 hP 0 rfl rfl 1 (by decide) (htu _ uF_X4_171) (fun _ h9 => h9) rfl dX4_feed_13 ?_
      refine lv_iload_n hx hb dX4_feed_16 rfl (lv_at hl 1 rfl) ?_
      refine lv_iadd hx hb dX4_feed_17 ?_
      refine lv_sipush (v := nI 600) hx hb dX4_feed_18 (by decide) ?_
      refine lv_icmp_le (tgt := 28) hx hb dX4_feed_21 (by decide) (fun c_21 => absurd c_21 (fun h => fdB hb9 c_3 c_9 h)) (fun _ => ?_)
      refine lv_iconst (v := nI 1) hx hb dX4_feed_24 (by decide) ?_
      refine lv_goto (tgt := 29) hx hb dX4_feed_25 (by decide) ?_
      refine va_put (D := G.1) (ci := 4) (v := .int (nI 1)) (ty := .int) (C := RX4) (T := TX4) (N := 29) hx hb htu iwX4 tyX4 tyX4_ok nmX4 hown hK.1 hP hD hS 0 rfl rfl 20 (by decide) (htu _ uF_X4_95) (fun _ h9 => h9) rfl (by decide +kernel) rfl rfl (Nat.le_of_ble_eq_true rfl) dX4_feed_29 (fun H locs hP hD hS => ?_)
      have hP : va_P G.1 vwCl [(o, .inr (4, mF ad (nI z) osz (nI 1) hsz))] H := hP
      have hD : va_D A [(o, .inr (4, mF ad (nI z) osz (nI 1) hsz))] := hD
      refine lv_aload_n hx hb dX4_feed_32 rfl (lv_at hl 0 rfl) ?_
      refine va_get (D := G.1) (ci := 4) (v := .int (nI 1)) (C := RX4) (T := TX4) (N := 29) hx hb htu iwX4 hown hK.1 hP 0 rfl rfl 20 (by decide) (htu _ uF_X4_95) (fun _ h9 => h9) rfl dX4_feed_33 ?_
      refine lv_if_le (tgt := 41) hx hb dX4_feed_36 (by decide) (fun c_36 => absurd c_36 (by decide)) (fun _ => ?_)
      refine lv_iconst (v := nI 0) hx hb dX4_feed_39 (by decide) ?_
      exact gret_i hx hb hr hlk dX4_feed_40 hS () (hP.sub [0] rfl) (hD.sub [0] (by decide) rfl) (rfl)
set_option maxHeartbeats 4000000 in
set_option maxRecDepth 100000 in
theorem c_X4_begin (l : Launch) (G : GW) (sz : Nat) (o : Nat) (ad : Nat → Nat) (sz1 : Int32) (osz : Int32) (th : Int32) (hsz : Int32) (sl : Nat) (k : Nat) (kf : Nat → Int32) (ff : Nat → Int32) (sf : Nat → Int64) (bf : Nat → Int32) (tf : Nat → Int64) (nf : Nat → Int32) (df : Nat → Int64) (cf : Nat → Int64) (gb : Nat → Int32) (gc : Nat → Int32) (ge : Nat → Int32) (mf : Nat → Int64) (ys : Nat → Int32) (gf : Nat → Int64) (st : Nat → SA) (hs : sl < 4) (hk : k < 4) (hgf : ∀ j, j < 8 → gf j = sqA j ∧ gf (8 + j) = sqB j) (hS9 : StmR (kf, ff, sf, bf, tf) gb gc ge mf ys st) : Met l yX4_begin (Cond.code yX4_begin cX4_begin 3 (none : Option FieldType) :: UW) ({ frames := 1, cells := 0, slots := 0, locals := 25 } : Room) (va_Pc [.ref o, .int (nI sl), .int (nI k)] (gPre G [(o, .inr (4, mF ad sz1 osz th hsz)), (ad 4, .inl (G.2.1 1, 9, .inl kf)), (ad 7, .inl (G.2.1 1, 9, .inl ff)), (ad 5, .inl (G.2.1 2, 72, .inr (.inl sf))), (ad 6, .inl (G.2.1 1, 1152, .inl bf)), (ad 8, .inl (G.2.1 2, 9, .inr (.inl tf))), (ad 24, .inl (G.2.1 1, 64, .inl nf)), (ad 25, .inl (G.2.1 2, 80, .inr (.inl df))), (ad 2, .inl (G.2.1 2, 80, .inr (.inl cf))), (ad 9, .inl (G.2.1 3, 4, .inl gb)), (ad 10, .inl (G.2.1 3, 4, .inl gc)), (ad 11, .inl (G.2.1 3, 4, .inl ge)), (ad 12, .inl (G.2.1 2, 4, .inr (.inl mf))), (ad 13, .inl (G.2.1 1, 512, .inl ys)), (ad 3, .inl (G.2.1 2, 16, .inr (.inl gf)))] sz)) (va_Qv (fun (uq9 : (Nat → Int32) × (Nat → Int32) × (Nat → Int64) × (Nat → Int64) × (Nat → Int32) × (Nat → Int32) × (Nat → Int32) × (Nat → Int64)) => StmR (uq9.1, uq9.2.1, uq9.2.2.1, bf, uq9.2.2.2.1) uq9.2.2.2.2.1 uq9.2.2.2.2.2.1 uq9.2.2.2.2.2.2.1 uq9.2.2.2.2.2.2.2 ys (va_up st sl (true, k, false, false, 0, hs0 k, []))) (fun u => gPost G (va_A [(o, .inr (4, mF ad sz1 osz th hsz)), (ad 4, .inl (G.2.1 1, 9, .inl kf)), (ad 7, .inl (G.2.1 1, 9, .inl ff)), (ad 5, .inl (G.2.1 2, 72, .inr (.inl sf))), (ad 6, .inl (G.2.1 1, 1152, .inl bf)), (ad 8, .inl (G.2.1 2, 9, .inr (.inl tf))), (ad 24, .inl (G.2.1 1, 64, .inl nf)), (ad 25, .inl (G.2.1 2, 80, .inr (.inl df))), (ad 2, .inl (G.2.1 2, 80, .inr (.inl cf))), (ad 9, .inl (G.2.1 3, 4, .inl gb)), (ad 10, .inl (G.2.1 3, 4, .inl gc)), (ad 11, .inl (G.2.1 3, 4, .inl ge)), (ad 12, .inl (G.2.1 2, 4, .inr (.inl mf))), (ad 13, .inl (G.2.1 1, 512, .inl ys)), (ad 3, .inl (G.2.1 2, 16, .inr (.inl gf)))] sz) ((fun (uq9 : (Nat → Int32) × (Nat → Int32) × (Nat → Int64) × (Nat → Int64) × (Nat → Int32) × (Nat → Int32) × (Nat → Int32) × (Nat → Int64)) => ([(o, .inr (4, mF ad sz1 osz (nI 0) hsz)), (ad 4, .inl (G.2.1 1, 9, .inl uq9.1)), (ad 7, .inl (G.2.1 1, 9, .inl uq9.2.1)), (ad 5, .inl (G.2.1 2, 72, .inr (.inl uq9.2.2.1))), (ad 6, .inl (G.2.1 1, 1152, .inl bf)), (ad 8, .inl (G.2.1 2, 9, .inr (.inl uq9.2.2.2.1))), (ad 24, .inl (G.2.1 1, 64, .inl nf)), (ad 25, .inl (G.2.1 2, 80, .inr (.inl df))), (ad 2, .inl (G.2.1 2, 80, .inr (.inl cf))), (ad 9, .inl (G.2.1 3, 4, .inl uq9.2.2.2.2.1)), (ad 10, .inl (G.2.1 3, 4, .inl uq9.2.2.2.2.2.1)), (ad 11, .inl (G.2.1 3, 4, .inl uq9.2.2.2.2.2.2.1)), (ad 12, .inl (G.2.1 2, 4, .inr (.inl uq9.2.2.2.2.2.2.2))), (ad 13, .inl (G.2.1 1, 512, .inl ys)), (ad 3, .inl (G.2.1 2, 16, .inr (.inl gf)))] : va_W)) u)) (va_A [(o, .inr (4, mF ad sz1 osz th hsz)), (ad 4, .inl (G.2.1 1, 9, .inl kf)), (ad 7, .inl (G.2.1 1, 9, .inl ff)), (ad 5, .inl (G.2.1 2, 72, .inr (.inl sf))), (ad 6, .inl (G.2.1 1, 1152, .inl bf)), (ad 8, .inl (G.2.1 2, 9, .inr (.inl tf))), (ad 24, .inl (G.2.1 1, 64, .inl nf)), (ad 25, .inl (G.2.1 2, 80, .inr (.inl df))), (ad 2, .inl (G.2.1 2, 80, .inr (.inl cf))), (ad 9, .inl (G.2.1 3, 4, .inl gb)), (ad 10, .inl (G.2.1 3, 4, .inl gc)), (ad 11, .inl (G.2.1 3, 4, .inl ge)), (ad 12, .inl (G.2.1 2, 4, .inr (.inl mf))), (ad 13, .inl (G.2.1 1, 512, .inl ys)), (ad 3, .inl (G.2.1 2, 16, .inr (.inl gf)))] sz)) 0 0 (va_A [(o, .inr (4, mF ad sz1 osz th hsz)), (ad 4, .inl (G.2.1 1, 9, .inl kf)), (ad 7, .inl (G.2.1 1, 9, .inl ff)), (ad 5, .inl (G.2.1 2, 72, .inr (.inl sf))), (ad 6, .inl (G.2.1 1, 1152, .inl bf)), (ad 8, .inl (G.2.1 2, 9, .inr (.inl tf))), (ad 24, .inl (G.2.1 1, 64, .inl nf)), (ad 25, .inl (G.2.1 2, 80, .inr (.inl df))), (ad 2, .inl (G.2.1 2, 80, .inr (.inl cf))), (ad 9, .inl (G.2.1 3, 4, .inl gb)), (ad 10, .inl (G.2.1 3, 4, .inl gc)), (ad 11, .inl (G.2.1 3, 4, .inl ge)), (ad 12, .inl (G.2.1 2, 4, .inr (.inl mf))), (ad 13, .inl (G.2.1 1, 512, .inl ys)), (ad 3, .inl (G.2.1 2, 16, .inr (.inl gf)))] sz) := by
  refine gM_of (Qf := fun A => va_Qv (fun (uq9 : (Nat → Int32) × (Nat → Int32) × (Nat → Int64) × (Nat → Int64) × (Nat → Int32) × (Nat → Int32) × (Nat → Int32) × (Nat → Int64)) => StmR (uq9.1, uq9.2.1, uq9.2.2.1, bf, uq9.2.2.2.1) uq9.2.2.2.2.1 uq9.2.2.2.2.2.1 uq9.2.2.2.2.2.2.1 uq9.2.2.2.2.2.2.2 ys (va_up st sl (true, k, false, false, 0, hs0 k, []))) (fun u => gPost G A ((fun (uq9 : (Nat → Int32) × (Nat → Int32) × (Nat → Int64) × (Nat → Int64) × (Nat → Int32) × (Nat → Int32) × (Nat → Int32) × (Nat → Int64)) => ([(o, .inr (4, mF ad sz1 osz (nI 0) hsz)), (ad 4, .inl (G.2.1 1, 9, .inl uq9.1)), (ad 7, .inl (G.2.1 1, 9, .inl uq9.2.1)), (ad 5, .inl (G.2.1 2, 72, .inr (.inl uq9.2.2.1))), (ad 6, .inl (G.2.1 1, 1152, .inl bf)), (ad 8, .inl (G.2.1 2, 9, .inr (.inl uq9.2.2.2.1))), (ad 24, .inl (G.2.1 1, 64, .inl nf)), (ad 25, .inl (G.2.1 2, 80, .inr (.inl df))), (ad 2, .inl (G.2.1 2, 80, .inr (.inl cf))), (ad 9, .inl (G.2.1 3, 4, .inl uq9.2.2.2.2.1)), (ad 10, .inl (G.2.1 3, 4, .inl uq9.2.2.2.2.2.1)), (ad 11, .inl (G.2.1 3, 4, .inl uq9.2.2.2.2.2.2.1)), (ad 12, .inl (G.2.1 2, 4, .inr (.inl uq9.2.2.2.2.2.2.2))), (ad 13, .inl (G.2.1 1, 512, .inl ys)), (ad 3, .inl (G.2.1 2, 16, .inr (.inl gf)))] : va_W)) u)) A) (by decide) (Nat.le_of_ble_eq_true rfl) ?_
  intro p e s m below meth c A ls hx hb hml hr hown htu hlk hnm hA hP hD hS hK hZ hl
  have hown : s.vm.findClass RX4 = some m.cls := hown
  have hl : lv_has ls 3 [(0, .ref o), (1, .int (nI sl)), (2, .int (nI k))] := hl
  refine lv_aload_n hx hb dX4_begin_0 rfl (lv_at hl 0 rfl) ?_
  refine lv_iload_n hx hb dX4_begin_1 rfl (lv_at hl 1 rfl) ?_
  refine g_calli (g_runS (As := [.int (nI sl)]) (rest := [.ref o]) ⟨hx, hb, hml, hown, htu⟩ (c_X4_noStream l G _ (nI sl) ) uM_X4_174 ok_X4_noStream uA_X4_noStream rfl rfl ⟨Nat.le_of_ble_eq_true rfl, Nat.le_of_ble_eq_true rfl⟩ hK hP hD hS hA hZ [] rfl rfl rfl hl.1 rfl (Nat.le_of_ble_eq_true rfl) dX4_begin_2 ⟨Nat.le_of_ble_eq_true rfl, Nat.le_of_ble_eq_true rfl⟩) hP hD hS hA [] rfl (fun r_1 u H locs hw_2 hP hD hS => ?_)
  have hw_2 : r_1 = nsI (nI sl) := hw_2
  subst hw_2
  have hP : va_P G.1 vwCl [(o, .inr (4, mF ad sz1 osz th hsz)), (ad 4, .inl (G.2.1 1, 9, .inl kf)), (ad 7, .inl (G.2.1 1, 9, .inl ff)), (ad 5, .inl (G.2.1 2, 72, .inr (.inl sf))), (ad 6, .inl (G.2.1 1, 1152, .inl bf)), (ad 8, .inl (G.2.1 2, 9, .inr (.inl tf))), (ad 24, .inl (G.2.1 1, 64, .inl nf)), (ad 25, .inl (G.2.1 2, 80, .inr (.inl df))), (ad 2, .inl (G.2.1 2, 80, .inr (.inl cf))), (ad 9, .inl (G.2.1 3, 4, .inl gb)), (ad 10, .inl (G.2.1 3, 4, .inl gc)), (ad 11, .inl (G.2.1 3, 4, .inl ge)), (ad 12, .inl (G.2.1 2, 4, .inr (.inl mf))), (ad 13, .inl (G.2.1 1, 512, .inl ys)), (ad 3, .inl (G.2.1 2, 16, .inr (.inl gf)))] H := hP
  have hD : va_D A [(o, .inr (4, mF ad sz1 osz th hsz)), (ad 4, .inl (G.2.1 1, 9, .inl kf)), (ad 7, .inl (G.2.1 1, 9, .inl ff)), (ad 5, .inl (G.2.1 2, 72, .inr (.inl sf))), (ad 6, .inl (G.2.1 1, 1152, .inl bf)), (ad 8, .inl (G.2.1 2, 9, .inr (.inl tf))), (ad 24, .inl (G.2.1 1, 64, .inl nf)), (ad 25, .inl (G.2.1 2, 80, .inr (.inl df))), (ad 2, .inl (G.2.1 2, 80, .inr (.inl cf))), (ad 9, .inl (G.2.1 3, 4, .inl gb)), (ad 10, .inl (G.2.1 3, 4, .inl gc)), (ad 11, .inl (G.2.1 3, 4, .inl ge)), (ad 12, .inl (G.2.1 2, 4, .inr (.inl mf))), (ad 13, .inl (G.2.1 1, 512, .inl ys)), (ad 3, .inl (G.2.1 2, 16, .inr (.inl gf)))] := hD
  refine g_toi (y := nI 0) (nsI_nI hs) ?_
  refine lv_if_eq (tgt := 12) hx hb dX4_begin_5 (by decide) (fun _ => ?_) (fun c_5 => absurd (by decide) c_5)
  refine lv_iload_n hx hb dX4_begin_12 rfl (lv_at hl 2 rfl) ?_
  refine g_calli (g_runS (As := [.int (nI k)]) (rest := [.ref o]) ⟨hx, hb, hml, hown, htu⟩ (c_X4_noKind l G _ (nI k) ) uM_X4_177 ok_X4_noKind uA_X4_noKind rfl rfl ⟨Nat.le_of_ble_eq_true rfl, Nat.le_of_ble_eq_true rfl⟩ hK hP hD hS hA hZ [] rfl rfl rfl hl.1 rfl (Nat.le_of_ble_eq_true rfl) dX4_begin_13 ⟨Nat.le_of_ble_eq_true rfl, Nat.le_of_ble_eq_true rfl⟩) hP hD hS hA [] rfl (fun r_3 u H locs hw_4 hP hD hS => ?_)
  have hw_4 : r_3 = nkI (nI k) := hw_4
  subst hw_4
  have hP : va_P G.1 vwCl [(o, .inr (4, mF ad sz1 osz th hsz)), (ad 4, .inl (G.2.1 1, 9, .inl kf)), (ad 7, .inl (G.2.1 1, 9, .inl ff)), (ad 5, .inl (G.2.1 2, 72, .inr (.inl sf))), (ad 6, .inl (G.2.1 1, 1152, .inl bf)), (ad 8, .inl (G.2.1 2, 9, .inr (.inl tf))), (ad 24, .inl (G.2.1 1, 64, .inl nf)), (ad 25, .inl (G.2.1 2, 80, .inr (.inl df))), (ad 2, .inl (G.2.1 2, 80, .inr (.inl cf))), (ad 9, .inl (G.2.1 3, 4, .inl gb)), (ad 10, .inl (G.2.1 3, 4, .inl gc)), (ad 11, .inl (G.2.1 3, 4, .inl ge)), (ad 12, .inl (G.2.1 2, 4, .inr (.inl mf))), (ad 13, .inl (G.2.1 1, 512, .inl ys)), (ad 3, .inl (G.2.1 2, 16, .inr (.inl gf)))] H := hP
  have hD : va_D A [(o, .inr (4, mF ad sz1 osz th hsz)), (ad 4, .inl (G.2.1 1, 9, .inl kf)), (ad 7, .inl (G.2.1 1, 9, .inl ff)), (ad 5, .inl (G.2.1 2, 72, .inr (.inl sf))), (ad 6, .inl (G.2.1 1, 1152, .inl bf)), (ad 8, .inl (G.2.1 2, 9, .inr (.inl tf))), (ad 24, .inl (G.2.1 1, 64, .inl nf)), (ad 25, .inl (G.2.1 2, 80, .inr (.inl df))), (ad 2, .inl (G.2.1 2, 80, .inr (.inl cf))), (ad 9, .inl (G.2.1 3, 4, .inl gb)), (ad 10, .inl (G.2.1 3, 4, .inl gc)), (ad 11, .inl (G.2.1 3, 4, .inl ge)), (ad 12, .inl (G.2.1 2, 4, .inr (.inl mf))), (ad 13, .inl (G.2.1 1, 512, .inl ys)), (ad 3, .inl (G.2.1 2, 16, .inr (.inl gf)))] := hD
  refine g_toi (y := nI 0) (nkI_nI hk) ?_
  refine lv_if_eq (tgt := 23) hx hb dX4_begin_16 (by decide) (fun _ => ?_) (fun c_16 => absurd (by decide) c_16)
  refine lv_iconst (v := nI 0) hx hb dX4_begin_23 (by decide) ?_
  refine va_put (D := G.1) (ci := 4) (v := .int (nI 0)) (ty := .int) (C := RX4) (T := TX4) (N := 29) hx hb htu iwX4 tyX4 tyX4_ok nmX4 hown hK.1 hP hD hS 0 rfl rfl 20 (by decide) (htu _ uF_X4_95) (fun _ h9 => h9) rfl (by decide +kernel) rfl rfl (Nat.le_of_ble_eq_true rfl) dX4_begin_24 (fun H locs hP hD hS => ?_)
  have hP : va_P G.1 vwCl [(o, .inr (4, mF ad sz1 osz (nI 0) hsz)), (ad 4, .inl (G.2.1 1, 9, .inl kf)), (ad 7, .inl (G.2.1 1, 9, .inl ff)), (ad 5, .inl (G.2.1 2, 72, .inr (.inl sf))), (ad 6, .inl (G.2.1 1, 1152, .inl bf)), (ad 8, .inl (G.2.1 2, 9, .inr (.inl tf))), (ad 24, .inl (G.2.1 1, 64, .inl nf)), (ad 25, .inl (G.2.1 2, 80, .inr (.inl df))), (ad 2, .inl (G.2.1 2, 80, .inr (.inl cf))), (ad 9, .inl (G.2.1 3, 4, .inl gb)), (ad 10, .inl (G.2.1 3, 4, .inl gc)), (ad 11, .inl (G.2.1 3, 4, .inl ge)), (ad 12, .inl (G.2.1 2, 4, .inr (.inl mf))), (ad 13, .inl (G.2.1 1, 512, .inl ys)), (ad 3, .inl (G.2.1 2, 16, .inr (.inl gf)))] H := hP
  have hD : va_D A [(o, .inr (4, mF ad sz1 osz (nI 0) hsz)), (ad 4, .inl (G.2.1 1, 9, .inl kf)), (ad 7, .inl (G.2.1 1, 9, .inl ff)), (ad 5, .inl (G.2.1 2, 72, .inr (.inl sf))), (ad 6, .inl (G.2.1 1, 1152, .inl bf)), (ad 8, .inl (G.2.1 2, 9, .inr (.inl tf))), (ad 24, .inl (G.2.1 1, 64, .inl nf)), (ad 25, .inl (G.2.1 2, 80, .inr (.inl df))), (ad 2, .inl (G.2.1 2, 80, .inr (.inl cf))), (ad 9, .inl (G.2.1 3, 4, .inl gb)), (ad 10, .inl (G.2.1 3, 4, .inl gc)), (ad 11, .inl (G.2.1 3, 4, .inl ge)), (ad 12, .inl (G.2.1 2, 4, .inr (.inl mf))), (ad 13, .inl (G.2.1 1, 512, .inl ys)), (ad 3, .inl (G.2.1 2, 16, .inr (.inl gf)))] := hD
  refine lv_aload_n hx hb dX4_begin_27 rfl (lv_at hl 0 rfl) ?_
  refine va_get (D := G.1) (ci := 4) (v := .int (nI 0)) (C := RX4) (T := TX4) (N := 29) hx hb htu iwX4 hown hK.1 hP 0 rfl rfl 20 (by decide) (htu _ uF_X4_95) (fun _ h9 => h9) rfl dX4_begin_28 ?_
  refine lv_if_ne (tgt := 68) hx hb dX4_begin_31 (by decide) (fun c_31 => absurd (by decide) c_31) (fun _ => ?_)
  refine lv_aload_n hx hb dX4_begin_34 rfl (lv_at hl 0 rfl) ?_
  refine lv_iload_n hx hb dX4_begin_35 rfl (lv_at hl 1 rfl) ?_
  refine lv_iload_n hx hb dX4_begin_36 rfl (lv_at hl 2 rfl) ?_
  refine g_callv (g_runV (As := [.int (nI sl), .int (nI k)]) (rest := []) ⟨hx, hb, hml, hown, htu⟩ (c_X4_start l G _ o ad sz1 osz (nI 0) hsz sl k kf ff tf sf gf (by omega) hk hgf) uM_X4_149 ok_X4_start in_X4_start rfl rfl ⟨Nat.le_of_ble_eq_true rfl, Nat.le_of_ble_eq_true rfl⟩ hK hP hD hS hA hZ [0, 1, 2, 5, 3, 14] rfl rfl 0 rfl rfl rfl rfl hl.1 rfl (Nat.le_of_ble_eq_true rfl) dX4_begin_37 ⟨Nat.le_of_ble_eq_true rfl, Nat.le_of_ble_eq_true rfl⟩) hP hD hS hA [0, 1, 2, 5, 3, 14] rfl (fun u H locs hw1 hP hD hS => ?_)
  obtain ⟨kf_6, ff_7, tf_8, sf_9⟩ := u
  have hw1 : ∀ bfq8 : Nat → Int32, MsR (kf_6, ff_7, sf_9, bfq8, tf_8) sl k 0 (hs0 k) ∧ MsO [sl] (kf, ff, sf, bfq8, tf) (kf_6, ff_7, sf_9, bfq8, tf_8) := hw1
  have hP : va_P G.1 vwCl [(ad 6, .inl (G.2.1 1, 1152, .inl bf)), (ad 24, .inl (G.2.1 1, 64, .inl nf)), (ad 25, .inl (G.2.1 2, 80, .inr (.inl df))), (ad 2, .inl (G.2.1 2, 80, .inr (.inl cf))), (ad 9, .inl (G.2.1 3, 4, .inl gb)), (ad 10, .inl (G.2.1 3, 4, .inl gc)), (ad 11, .inl (G.2.1 3, 4, .inl ge)), (ad 12, .inl (G.2.1 2, 4, .inr (.inl mf))), (ad 13, .inl (G.2.1 1, 512, .inl ys)), (o, .inr (4, mF ad sz1 osz (nI 0) hsz)), (ad 4, .inl (G.2.1 1, 9, .inl kf_6)), (ad 7, .inl (G.2.1 1, 9, .inl ff_7)), (ad 8, .inl (G.2.1 2, 9, .inr (.inl tf_8))), (ad 5, .inl (G.2.1 2, 72, .inr (.inl sf_9))), (ad 3, .inl (G.2.1 2, 16, .inr (.inl gf)))] H := hP
  have hD : va_D A [(ad 6, .inl (G.2.1 1, 1152, .inl bf)), (ad 24, .inl (G.2.1 1, 64, .inl nf)), (ad 25, .inl (G.2.1 2, 80, .inr (.inl df))), (ad 2, .inl (G.2.1 2, 80, .inr (.inl cf))), (ad 9, .inl (G.2.1 3, 4, .inl gb)), (ad 10, .inl (G.2.1 3, 4, .inl gc)), (ad 11, .inl (G.2.1 3, 4, .inl ge)), (ad 12, .inl (G.2.1 2, 4, .inr (.inl mf))), (ad 13, .inl (G.2.1 1, 512, .inl ys)), (o, .inr (4, mF ad sz1 osz (nI 0) hsz)), (ad 4, .inl (G.2.1 1, 9, .inl kf_6)), (ad 7, .inl (G.2.1 1, 9, .inl ff_7)), (ad 8, .inl (G.2.1 2, 9, .inr (.inl tf_8))), (ad 5, .inl (G.2.1 2, 72, .inr (.inl sf_9))), (ad 3, .inl (G.2.1 2, 16, .inr (.inl gf)))] := hD
  refine lv_aload_n hx hb dX4_begin_40 rfl (lv_at hl 0 rfl) ?_
  refine va_get (D := G.1) (ci := 4) (v := .ref (ad 9)) (C := RX4) (T := TX4) (N := 29) hx hb htu iwX4 hown hK.1 hP 9 rfl rfl 9 (by decide) (htu _ uF_X4_35) (fun _ h9 => h9) rfl dX4_begin_41 ?_
  refine lv_iload_n hx hb dX4_begin_44 rfl (lv_at hl 1 rfl) ?_
  refine lv_iconst (v := nI 1) hx hb dX4_begin_45 (by decide) ?_
  refine g_zast hx hb hK.1 hP hD hS 4 3 rfl rfl ⟨hs, by decide⟩ dX4_begin_46 (fun H locs hP hD hS => ?_)
  obtain ⟨g_10, eg_10⟩ : ∃ gq9 : Nat → Int32, gq9 = upd gb sl (vp_nar .boolean (nI 1)) := ⟨_, rfl⟩
  rw [← eg_10] at hP hD
  have hP : va_P G.1 vwCl [(ad 6, .inl (G.2.1 1, 1152, .inl bf)), (ad 24, .inl (G.2.1 1, 64, .inl nf)), (ad 25, .inl (G.2.1 2, 80, .inr (.inl df))), (ad 2, .inl (G.2.1 2, 80, .inr (.inl cf))), (ad 9, .inl (G.2.1 3, 4, .inl g_10)), (ad 10, .inl (G.2.1 3, 4, .inl gc)), (ad 11, .inl (G.2.1 3, 4, .inl ge)), (ad 12, .inl (G.2.1 2, 4, .inr (.inl mf))), (ad 13, .inl (G.2.1 1, 512, .inl ys)), (o, .inr (4, mF ad sz1 osz (nI 0) hsz)), (ad 4, .inl (G.2.1 1, 9, .inl kf_6)), (ad 7, .inl (G.2.1 1, 9, .inl ff_7)), (ad 8, .inl (G.2.1 2, 9, .inr (.inl tf_8))), (ad 5, .inl (G.2.1 2, 72, .inr (.inl sf_9))), (ad 3, .inl (G.2.1 2, 16, .inr (.inl gf)))] H := hP
  have hD : va_D A [(ad 6, .inl (G.2.1 1, 1152, .inl bf)), (ad 24, .inl (G.2.1 1, 64, .inl nf)), (ad 25, .inl (G.2.1 2, 80, .inr (.inl df))), (ad 2, .inl (G.2.1 2, 80, .inr (.inl cf))), (ad 9, .inl (G.2.1 3, 4, .inl g_10)), (ad 10, .inl (G.2.1 3, 4, .inl gc)), (ad 11, .inl (G.2.1 3, 4, .inl ge)), (ad 12, .inl (G.2.1 2, 4, .inr (.inl mf))), (ad 13, .inl (G.2.1 1, 512, .inl ys)), (o, .inr (4, mF ad sz1 osz (nI 0) hsz)), (ad 4, .inl (G.2.1 1, 9, .inl kf_6)), (ad 7, .inl (G.2.1 1, 9, .inl ff_7)), (ad 8, .inl (G.2.1 2, 9, .inr (.inl tf_8))), (ad 5, .inl (G.2.1 2, 72, .inr (.inl sf_9))), (ad 3, .inl (G.2.1 2, 16, .inr (.inl gf)))] := hD
  refine lv_aload_n hx hb dX4_begin_47 rfl (lv_at hl 0 rfl) ?_
  refine va_get (D := G.1) (ci := 4) (v := .ref (ad 10)) (C := RX4) (T := TX4) (N := 29) hx hb htu iwX4 hown hK.1 hP 9 rfl rfl 10 (by decide) (htu _ uF_X4_39) (fun _ h9 => h9) rfl dX4_begin_48 ?_
  refine lv_iload_n hx hb dX4_begin_51 rfl (lv_at hl 1 rfl) ?_
  refine lv_iconst (v := nI 0) hx hb dX4_begin_52 (by decide) ?_
  refine g_zast hx hb hK.1 hP hD hS 5 3 rfl rfl ⟨hs, by decide⟩ dX4_begin_53 (fun H locs hP hD hS => ?_)
  obtain ⟨g_11, eg_11⟩ : ∃ gq9 : Nat → Int32, gq9 = upd gc sl (vp_nar .boolean (nI 0)) := ⟨_, rfl⟩
  rw [← eg_11] at hP hD
  have hP : va_P G.1 vwCl [(ad 6, .inl (G.2.1 1, 1152, .inl bf)), (ad 24, .inl (G.2.1 1, 64, .inl nf)), (ad 25, .inl (G.2.1 2, 80, .inr (.inl df))), (ad 2, .inl (G.2.1 2, 80, .inr (.inl cf))), (ad 9, .inl (G.2.1 3, 4, .inl g_10)), (ad 10, .inl (G.2.1 3, 4, .inl g_11)), (ad 11, .inl (G.2.1 3, 4, .inl ge)), (ad 12, .inl (G.2.1 2, 4, .inr (.inl mf))), (ad 13, .inl (G.2.1 1, 512, .inl ys)), (o, .inr (4, mF ad sz1 osz (nI 0) hsz)), (ad 4, .inl (G.2.1 1, 9, .inl kf_6)), (ad 7, .inl (G.2.1 1, 9, .inl ff_7)), (ad 8, .inl (G.2.1 2, 9, .inr (.inl tf_8))), (ad 5, .inl (G.2.1 2, 72, .inr (.inl sf_9))), (ad 3, .inl (G.2.1 2, 16, .inr (.inl gf)))] H := hP
  have hD : va_D A [(ad 6, .inl (G.2.1 1, 1152, .inl bf)), (ad 24, .inl (G.2.1 1, 64, .inl nf)), (ad 25, .inl (G.2.1 2, 80, .inr (.inl df))), (ad 2, .inl (G.2.1 2, 80, .inr (.inl cf))), (ad 9, .inl (G.2.1 3, 4, .inl g_10)), (ad 10, .inl (G.2.1 3, 4, .inl g_11)), (ad 11, .inl (G.2.1 3, 4, .inl ge)), (ad 12, .inl (G.2.1 2, 4, .inr (.inl mf))), (ad 13, .inl (G.2.1 1, 512, .inl ys)), (o, .inr (4, mF ad sz1 osz (nI 0) hsz)), (ad 4, .inl (G.2.1 1, 9, .inl kf_6)), (ad 7, .inl (G.2.1 1, 9, .inl ff_7)), (ad 8, .inl (G.2.1 2, 9, .inr (.inl tf_8))), (ad 5, .inl (G.2.1 2, 72, .inr (.inl sf_9))), (ad 3, .inl (G.2.1 2, 16, .inr (.inl gf)))] := hD
  refine lv_aload_n hx hb dX4_begin_54 rfl (lv_at hl 0 rfl) ?_
  refine va_get (D := G.1) (ci := 4) (v := .ref (ad 11)) (C := RX4) (T := TX4) (N := 29) hx hb htu iwX4 hown hK.1 hP 9 rfl rfl 11 (by decide) (htu _ uF_X4_42) (fun _ h9 => h9) rfl dX4_begin_55 ?_
  refine lv_iload_n hx hb dX4_begin_58 rfl (lv_at hl 1 rfl) ?_
  refine lv_iconst (v := nI 0) hx hb dX4_begin_59 (by decide) ?_
  refine g_zast hx hb hK.1 hP hD hS 6 3 rfl rfl ⟨hs, by decide⟩ dX4_begin_60 (fun H locs hP hD hS => ?_)
  obtain ⟨g_12, eg_12⟩ : ∃ gq9 : Nat → Int32, gq9 = upd ge sl (vp_nar .boolean (nI 0)) := ⟨_, rfl⟩
  rw [← eg_12] at hP hD
  have hP : va_P G.1 vwCl [(ad 6, .inl (G.2.1 1, 1152, .inl bf)), (ad 24, .inl (G.2.1 1, 64, .inl nf)), (ad 25, .inl (G.2.1 2, 80, .inr (.inl df))), (ad 2, .inl (G.2.1 2, 80, .inr (.inl cf))), (ad 9, .inl (G.2.1 3, 4, .inl g_10)), (ad 10, .inl (G.2.1 3, 4, .inl g_11)), (ad 11, .inl (G.2.1 3, 4, .inl g_12)), (ad 12, .inl (G.2.1 2, 4, .inr (.inl mf))), (ad 13, .inl (G.2.1 1, 512, .inl ys)), (o, .inr (4, mF ad sz1 osz (nI 0) hsz)), (ad 4, .inl (G.2.1 1, 9, .inl kf_6)), (ad 7, .inl (G.2.1 1, 9, .inl ff_7)), (ad 8, .inl (G.2.1 2, 9, .inr (.inl tf_8))), (ad 5, .inl (G.2.1 2, 72, .inr (.inl sf_9))), (ad 3, .inl (G.2.1 2, 16, .inr (.inl gf)))] H := hP
  have hD : va_D A [(ad 6, .inl (G.2.1 1, 1152, .inl bf)), (ad 24, .inl (G.2.1 1, 64, .inl nf)), (ad 25, .inl (G.2.1 2, 80, .inr (.inl df))), (ad 2, .inl (G.2.1 2, 80, .inr (.inl cf))), (ad 9, .inl (G.2.1 3, 4, .inl g_10)), (ad 10, .inl (G.2.1 3, 4, .inl g_11)), (ad 11, .inl (G.2.1 3, 4, .inl g_12)), (ad 12, .inl (G.2.1 2, 4, .inr (.inl mf))), (ad 13, .inl (G.2.1 1, 512, .inl ys)), (o, .inr (4, mF ad sz1 osz (nI 0) hsz)), (ad 4, .inl (G.2.1 1, 9, .inl kf_6)), (ad 7, .inl (G.2.1 1, 9, .inl ff_7)), (ad 8, .inl (G.2.1 2, 9, .inr (.inl tf_8))), (ad 5, .inl (G.2.1 2, 72, .inr (.inl sf_9))), (ad 3, .inl (G.2.1 2, 16, .inr (.inl gf)))] := hD
  refine lv_aload_n hx hb dX4_begin_61 rfl (lv_at hl 0 rfl) ?_
  refine va_get (D := G.1) (ci := 4) (v := .ref (ad 12)) (C := RX4) (T := TX4) (N := 29) hx hb htu iwX4 hown hK.1 hP 9 rfl rfl 12 (by decide) (htu _ uF_X4_45) (fun _ h9 => h9) rfl dX4_begin_62 ?_
  refine lv_iload_n hx hb dX4_begin_65 rfl (lv_at hl 1 rfl) ?_
  refine lv_lconst (v := 0) hx hb dX4_begin_66 (by decide) ?_
  refine g_tol (y := lN 0) (rfl) ?_
  refine g_last hx hb hK.1 hP hD hS 7 2 rfl rfl ⟨hs, by decide⟩ dX4_begin_67 (fun H locs hP hD hS => ?_)
  obtain ⟨g_13, eg_13⟩ : ∃ gq9 : Nat → Int64, gq9 = vp_updL mf sl (lN 0) := ⟨_, rfl⟩
  rw [← eg_13] at hP hD
  have hP : va_P G.1 vwCl [(ad 6, .inl (G.2.1 1, 1152, .inl bf)), (ad 24, .inl (G.2.1 1, 64, .inl nf)), (ad 25, .inl (G.2.1 2, 80, .inr (.inl df))), (ad 2, .inl (G.2.1 2, 80, .inr (.inl cf))), (ad 9, .inl (G.2.1 3, 4, .inl g_10)), (ad 10, .inl (G.2.1 3, 4, .inl g_11)), (ad 11, .inl (G.2.1 3, 4, .inl g_12)), (ad 12, .inl (G.2.1 2, 4, .inr (.inl g_13))), (ad 13, .inl (G.2.1 1, 512, .inl ys)), (o, .inr (4, mF ad sz1 osz (nI 0) hsz)), (ad 4, .inl (G.2.1 1, 9, .inl kf_6)), (ad 7, .inl (G.2.1 1, 9, .inl ff_7)), (ad 8, .inl (G.2.1 2, 9, .inr (.inl tf_8))), (ad 5, .inl (G.2.1 2, 72, .inr (.inl sf_9))), (ad 3, .inl (G.2.1 2, 16, .inr (.inl gf)))] H := hP
  have hD : va_D A [(ad 6, .inl (G.2.1 1, 1152, .inl bf)), (ad 24, .inl (G.2.1 1, 64, .inl nf)), (ad 25, .inl (G.2.1 2, 80, .inr (.inl df))), (ad 2, .inl (G.2.1 2, 80, .inr (.inl cf))), (ad 9, .inl (G.2.1 3, 4, .inl g_10)), (ad 10, .inl (G.2.1 3, 4, .inl g_11)), (ad 11, .inl (G.2.1 3, 4, .inl g_12)), (ad 12, .inl (G.2.1 2, 4, .inr (.inl g_13))), (ad 13, .inl (G.2.1 1, 512, .inl ys)), (o, .inr (4, mF ad sz1 osz (nI 0) hsz)), (ad 4, .inl (G.2.1 1, 9, .inl kf_6)), (ad 7, .inl (G.2.1 1, 9, .inl ff_7)), (ad 8, .inl (G.2.1 2, 9, .inr (.inl tf_8))), (ad 5, .inl (G.2.1 2, 72, .inr (.inl sf_9))), (ad 3, .inl (G.2.1 2, 16, .inr (.inl gf)))] := hD
  exact gret_v hx hb hr hlk dX4_begin_68 hS (kf_6, ff_7, sf_9, tf_8, g_10, g_11, g_12, g_13) (hP.sub [9, 10, 11, 13, 0, 12, 1, 2, 3, 4, 5, 6, 7, 8, 14] rfl) (hD.sub [9, 10, 11, 13, 0, 12, 1, 2, 3, 4, 5, 6, 7, 8, 14] (by decide) rfl) (show StmR (kf_6, ff_7, sf_9, bf, tf_8) g_10 g_11 g_12 g_13 ys (va_up st sl (true, k, false, false, 0, hs0 k, [])) from hS9.set (hw1 bf).2 (fun x hx => Or.inl (List.mem_singleton.mp hx)) (un eg_10) (un eg_11) (un eg_12) (unL eg_13) (fun _ _ _ _ => rfl) ⟨by rw [eg_10, pk_us]; rfl, fun _ => ⟨by rw [eg_11, pk_us]; rfl, by rw [eg_12, pk_us]; rfl, by rw [eg_13, pk_uLs], (hw1 bf).1, (Nat.zero_mod _).symm, fun _ h => absurd h List.not_mem_nil, fun h => absurd (show false = true from h) (by decide)⟩⟩)
set_option maxHeartbeats 4000000 in
set_option maxRecDepth 100000 in
theorem c_X4_beginT1 (l : Launch) (G : GW) (sz : Nat) (o : Nat) (ad : Nat → Nat) (sz1 : Int32) (osz : Int32) (th : Int32) (hsz : Int32) (x : Int32) (y : Int32) (hx1 : nsI x = 1) : Met l yX4_begin (Cond.code yX4_begin cX4_begin 3 (none : Option FieldType) :: UW) ({ frames := 1, cells := 0, slots := 0, locals := 20 } : Room) (va_Pc [.ref o, .int x, .int y] (gPre G [(o, .inr (4, mF ad sz1 osz th hsz))] sz)) (va_Qv (fun (_ : Unit) => True) (fun u => gPost G (va_A [(o, .inr (4, mF ad sz1 osz th hsz))] sz) ((fun (_ : Unit) => ([(o, .inr (4, mF ad sz1 osz (nI 1) hsz))] : va_W)) u)) (va_A [(o, .inr (4, mF ad sz1 osz th hsz))] sz)) 0 0 (va_A [(o, .inr (4, mF ad sz1 osz th hsz))] sz) := by
  refine gM_of (Qf := fun A => va_Qv (fun (_ : Unit) => True) (fun u => gPost G A ((fun (_ : Unit) => ([(o, .inr (4, mF ad sz1 osz (nI 1) hsz))] : va_W)) u)) A) (by decide) (Nat.le_of_ble_eq_true rfl) ?_
  intro p e s m below meth c A ls hx hb hml hr hown htu hlk hnm hA hP hD hS hK hZ hl
  have hown : s.vm.findClass RX4 = some m.cls := hown
  have hl : lv_has ls 3 [(0, .ref o), (1, .int x), (2, .int y)] := hl
  refine lv_aload_n hx hb dX4_begin_0 rfl (lv_at hl 0 rfl) ?_
  refine lv_iload_n hx hb dX4_begin_1 rfl (lv_at hl 1 rfl) ?_
  refine g_calli (g_runS (As := [.int x]) (rest := [.ref o]) ⟨hx, hb, hml, hown, htu⟩ (c_X4_noStream l G _ x ) uM_X4_174 ok_X4_noStream uA_X4_noStream rfl rfl ⟨Nat.le_of_ble_eq_true rfl, Nat.le_of_ble_eq_true rfl⟩ hK hP hD hS hA hZ [] rfl rfl rfl hl.1 rfl (Nat.le_of_ble_eq_true rfl) dX4_begin_2 ⟨Nat.le_of_ble_eq_true rfl, Nat.le_of_ble_eq_true rfl⟩) hP hD hS hA [] rfl (fun r_1 u H locs hw_2 hP hD hS => ?_)
  have hw_2 : r_1 = nsI x := hw_2
  subst hw_2
  have hP : va_P G.1 vwCl [(o, .inr (4, mF ad sz1 osz th hsz))] H := hP
  have hD : va_D A [(o, .inr (4, mF ad sz1 osz th hsz))] := hD
  refine g_toi (y := nI 1) (hx1) ?_
  refine lv_if_eq (tgt := 12) hx hb dX4_begin_5 (by decide) (fun c_5 => absurd c_5 (by decide)) (fun _ => ?_)
  refine lv_iconst (v := nI 1) hx hb dX4_begin_8 (by decide) ?_
  refine lv_goto (tgt := 24) hx hb dX4_begin_9 (by decide) ?_
  refine va_put (D := G.1) (ci := 4) (v := .int (nI 1)) (ty := .int) (C := RX4) (T := TX4) (N := 29) hx hb htu iwX4 tyX4 tyX4_ok nmX4 hown hK.1 hP hD hS 0 rfl rfl 20 (by decide) (htu _ uF_X4_95) (fun _ h9 => h9) rfl (by decide +kernel) rfl rfl (Nat.le_of_ble_eq_true rfl) dX4_begin_24 (fun H locs hP hD hS => ?_)
  have hP : va_P G.1 vwCl [(o, .inr (4, mF ad sz1 osz (nI 1) hsz))] H := hP
  have hD : va_D A [(o, .inr (4, mF ad sz1 osz (nI 1) hsz))] := hD
  refine lv_aload_n hx hb dX4_begin_27 rfl (lv_at hl 0 rfl) ?_
  refine va_get (D := G.1) (ci := 4) (v := .int (nI 1)) (C := RX4) (T := TX4) (N := 29) hx hb htu iwX4 hown hK.1 hP 0 rfl rfl 20 (by decide) (htu _ uF_X4_95) (fun _ h9 => h9) rfl dX4_begin_28 ?_
  refine lv_if_ne (tgt := 68) hx hb dX4_begin_31 (by decide) (fun _ => ?_) (fun c_31 => absurd c_31 (by decide))
  exact gret_v hx hb hr hlk dX4_begin_68 hS () (hP.sub [0] rfl) (hD.sub [0] (by decide) rfl) (trivial)
set_option maxHeartbeats 4000000 in
set_option maxRecDepth 100000 in
theorem c_X4_beginT2 (l : Launch) (G : GW) (sz : Nat) (o : Nat) (ad : Nat → Nat) (sz1 : Int32) (osz : Int32) (th : Int32) (hsz : Int32) (x : Int32) (y : Int32) (hx1 : nsI x = 0) (hy1 : nkI y = 1) : Met l yX4_begin (Cond.code yX4_begin cX4_begin 3 (none : Option FieldType) :: UW) ({ frames := 1, cells := 0, slots := 0, locals := 20 } : Room) (va_Pc [.ref o, .int x, .int y] (gPre G [(o, .inr (4, mF ad sz1 osz th hsz))] sz)) (va_Qv (fun (_ : Unit) => True) (fun u => gPost G (va_A [(o, .inr (4, mF ad sz1 osz th hsz))] sz) ((fun (_ : Unit) => ([(o, .inr (4, mF ad sz1 osz (nI 2) hsz))] : va_W)) u)) (va_A [(o, .inr (4, mF ad sz1 osz th hsz))] sz)) 0 0 (va_A [(o, .inr (4, mF ad sz1 osz th hsz))] sz) := by
  refine gM_of (Qf := fun A => va_Qv (fun (_ : Unit) => True) (fun u => gPost G A ((fun (_ : Unit) => ([(o, .inr (4, mF ad sz1 osz (nI 2) hsz))] : va_W)) u)) A) (by decide) (Nat.le_of_ble_eq_true rfl) ?_
  intro p e s m below meth c A ls hx hb hml hr hown htu hlk hnm hA hP hD hS hK hZ hl
  have hown : s.vm.findClass RX4 = some m.cls := hown
  have hl : lv_has ls 3 [(0, .ref o), (1, .int x), (2, .int y)] := hl
  refine lv_aload_n hx hb dX4_begin_0 rfl (lv_at hl 0 rfl) ?_
  refine lv_iload_n hx hb dX4_begin_1 rfl (lv_at hl 1 rfl) ?_
  refine g_calli (g_runS (As := [.int x]) (rest := [.ref o]) ⟨hx, hb, hml, hown, htu⟩ (c_X4_noStream l G _ x ) uM_X4_174 ok_X4_noStream uA_X4_noStream rfl rfl ⟨Nat.le_of_ble_eq_true rfl, Nat.le_of_ble_eq_true rfl⟩ hK hP hD hS hA hZ [] rfl rfl rfl hl.1 rfl (Nat.le_of_ble_eq_true rfl) dX4_begin_2 ⟨Nat.le_of_ble_eq_true rfl, Nat.le_of_ble_eq_true rfl⟩) hP hD hS hA [] rfl (fun r_1 u H locs hw_2 hP hD hS => ?_)
  have hw_2 : r_1 = nsI x := hw_2
  subst hw_2
  have hP : va_P G.1 vwCl [(o, .inr (4, mF ad sz1 osz th hsz))] H := hP
  have hD : va_D A [(o, .inr (4, mF ad sz1 osz th hsz))] := hD
  refine g_toi (y := nI 0) (hx1) ?_
  refine lv_if_eq (tgt := 12) hx hb dX4_begin_5 (by decide) (fun _ => ?_) (fun c_5 => absurd (by decide) c_5)
  refine lv_iload_n hx hb dX4_begin_12 rfl (lv_at hl 2 rfl) ?_
  refine g_calli (g_runS (As := [.int y]) (rest := [.ref o]) ⟨hx, hb, hml, hown, htu⟩ (c_X4_noKind l G _ y ) uM_X4_177 ok_X4_noKind uA_X4_noKind rfl rfl ⟨Nat.le_of_ble_eq_true rfl, Nat.le_of_ble_eq_true rfl⟩ hK hP hD hS hA hZ [] rfl rfl rfl hl.1 rfl (Nat.le_of_ble_eq_true rfl) dX4_begin_13 ⟨Nat.le_of_ble_eq_true rfl, Nat.le_of_ble_eq_true rfl⟩) hP hD hS hA [] rfl (fun r_3 u H locs hw_4 hP hD hS => ?_)
  have hw_4 : r_3 = nkI y := hw_4
  subst hw_4
  have hP : va_P G.1 vwCl [(o, .inr (4, mF ad sz1 osz th hsz))] H := hP
  have hD : va_D A [(o, .inr (4, mF ad sz1 osz th hsz))] := hD
  refine g_toi (y := nI 1) (hy1) ?_
  refine lv_if_eq (tgt := 23) hx hb dX4_begin_16 (by decide) (fun c_16 => absurd c_16 (by decide)) (fun _ => ?_)
  refine lv_iconst (v := nI 2) hx hb dX4_begin_19 (by decide) ?_
  refine lv_goto (tgt := 24) hx hb dX4_begin_20 (by decide) ?_
  refine va_put (D := G.1) (ci := 4) (v := .int (nI 2)) (ty := .int) (C := RX4) (T := TX4) (N := 29) hx hb htu iwX4 tyX4 tyX4_ok nmX4 hown hK.1 hP hD hS 0 rfl rfl 20 (by decide) (htu _ uF_X4_95) (fun _ h9 => h9) rfl (by decide +kernel) rfl rfl (Nat.le_of_ble_eq_true rfl) dX4_begin_24 (fun H locs hP hD hS => ?_)
  have hP : va_P G.1 vwCl [(o, .inr (4, mF ad sz1 osz (nI 2) hsz))] H := hP
  have hD : va_D A [(o, .inr (4, mF ad sz1 osz (nI 2) hsz))] := hD
  refine lv_aload_n hx hb dX4_begin_27 rfl (lv_at hl 0 rfl) ?_
  refine va_get (D := G.1) (ci := 4) (v := .int (nI 2)) (C := RX4) (T := TX4) (N := 29) hx hb htu iwX4 hown hK.1 hP 0 rfl rfl 20 (by decide) (htu _ uF_X4_95) (fun _ h9 => h9) rfl dX4_begin_28 ?_
  refine lv_if_ne (tgt := 68) hx hb dX4_begin_31 (by decide) (fun _ => ?_) (fun c_31 => absurd c_31 (by decide))
  exact gret_v hx hb hr hlk dX4_begin_68 hS () (hP.sub [0] rfl) (hD.sub [0] (by decide) rfl) (trivial)
set_option maxHeartbeats 4000000 in
set_option maxRecDepth 100000 in
theorem c_X4_codeT1 (l : Launch) (G : GW) (sz : Nat) (o : Nat) (ad : Nat → Nat) (sz1 : Int32) (osz : Int32) (th : Int32) (hsz : Int32) (x : Int32) (y : Int32) (hx1 : nsI x = 1) : Met l yX4_code (Cond.code yX4_code cX4_code 4 (some FieldType.int) :: UW) ({ frames := 1, cells := 0, slots := 0, locals := 20 } : Room) (va_Pc [.ref o, .int x, .int y] (gPre G [(o, .inr (4, mF ad sz1 osz th hsz))] sz)) (va_Qi (fun (r : Int32) (_ : Unit) => r = 0) (fun u => gPost G (va_A [(o, .inr (4, mF ad sz1 osz th hsz))] sz) ((fun (_ : Unit) => ([(o, .inr (4, mF ad sz1 osz (nI 1) hsz))] : va_W)) u)) (va_A [(o, .inr (4, mF ad sz1 osz th hsz))] sz)) 0 0 (va_A [(o, .inr (4, mF ad sz1 osz th hsz))] sz) := by
  refine gM_of (Qf := fun A => va_Qi (fun (r : Int32) (_ : Unit) => r = 0) (fun u => gPost G A ((fun (_ : Unit) => ([(o, .inr (4, mF ad sz1 osz (nI 1) hsz))] : va_W)) u)) A) (by decide) (Nat.le_of_ble_eq_true rfl) ?_
  intro p e s m below meth c A ls hx hb hml hr hown htu hlk hnm hA hP hD hS hK hZ hl
  have hown : s.vm.findClass RX4 = some m.cls := hown
  have hl : lv_has ls 4 [(0, .ref o), (1, .int x), (2, .int y)] := hl
  refine lv_aload_n hx hb dX4_code_0 rfl (lv_at hl 0 rfl) ?_
  refine lv_iload_n hx hb dX4_code_1 rfl (lv_at hl 1 rfl) ?_
  refine g_calli (g_runS (As := [.int x]) (rest := [.ref o]) ⟨hx, hb, hml, hown, htu⟩ (c_X4_noStream l G _ x ) uM_X4_174 ok_X4_noStream uA_X4_noStream rfl rfl ⟨Nat.le_of_ble_eq_true rfl, Nat.le_of_ble_eq_true rfl⟩ hK hP hD hS hA hZ [] rfl rfl rfl hl.1 rfl (Nat.le_of_ble_eq_true rfl) dX4_code_2 ⟨Nat.le_of_ble_eq_true rfl, Nat.le_of_ble_eq_true rfl⟩) hP hD hS hA [] rfl (fun r_1 u H locs hw_2 hP hD hS => ?_)
  have hw_2 : r_1 = nsI x := hw_2
  subst hw_2
  have hP : va_P G.1 vwCl [(o, .inr (4, mF ad sz1 osz th hsz))] H := hP
  have hD : va_D A [(o, .inr (4, mF ad sz1 osz th hsz))] := hD
  refine g_toi (y := nI 1) (hx1) ?_
  refine lv_if_eq (tgt := 12) hx hb dX4_code_5 (by decide) (fun c_5 => absurd c_5 (by decide)) (fun _ => ?_)
  refine lv_iconst (v := nI 1) hx hb dX4_code_8 (by decide) ?_
  refine lv_goto (tgt := 24) hx hb dX4_code_9 (by decide) ?_
  refine va_put (D := G.1) (ci := 4) (v := .int (nI 1)) (ty := .int) (C := RX4) (T := TX4) (N := 29) hx hb htu iwX4 tyX4 tyX4_ok nmX4 hown hK.1 hP hD hS 0 rfl rfl 20 (by decide) (htu _ uF_X4_95) (fun _ h9 => h9) rfl (by decide +kernel) rfl rfl (Nat.le_of_ble_eq_true rfl) dX4_code_24 (fun H locs hP hD hS => ?_)
  have hP : va_P G.1 vwCl [(o, .inr (4, mF ad sz1 osz (nI 1) hsz))] H := hP
  have hD : va_D A [(o, .inr (4, mF ad sz1 osz (nI 1) hsz))] := hD
  refine lv_aload_n hx hb dX4_code_27 rfl (lv_at hl 0 rfl) ?_
  refine va_get (D := G.1) (ci := 4) (v := .int (nI 1)) (C := RX4) (T := TX4) (N := 29) hx hb htu iwX4 hown hK.1 hP 0 rfl rfl 20 (by decide) (htu _ uF_X4_95) (fun _ h9 => h9) rfl dX4_code_28 ?_
  refine lv_if_le (tgt := 36) hx hb dX4_code_31 (by decide) (fun c_31 => absurd c_31 (by decide)) (fun _ => ?_)
  refine lv_iconst (v := nI 0) hx hb dX4_code_34 (by decide) ?_
  exact gret_i hx hb hr hlk dX4_code_35 hS () (hP.sub [0] rfl) (hD.sub [0] (by decide) rfl) (rfl)
set_option maxHeartbeats 4000000 in
set_option maxRecDepth 100000 in
theorem c_X4_codeT2 (l : Launch) (G : GW) (sz : Nat) (o : Nat) (ad : Nat → Nat) (sz1 : Int32) (osz : Int32) (th : Int32) (hsz : Int32) (x : Int32) (y : Int32) (hx1 : nsI x = 0) (hy1 : nkI y = 1) : Met l yX4_code (Cond.code yX4_code cX4_code 4 (some FieldType.int) :: UW) ({ frames := 1, cells := 0, slots := 0, locals := 20 } : Room) (va_Pc [.ref o, .int x, .int y] (gPre G [(o, .inr (4, mF ad sz1 osz th hsz))] sz)) (va_Qi (fun (r : Int32) (_ : Unit) => r = 0) (fun u => gPost G (va_A [(o, .inr (4, mF ad sz1 osz th hsz))] sz) ((fun (_ : Unit) => ([(o, .inr (4, mF ad sz1 osz (nI 2) hsz))] : va_W)) u)) (va_A [(o, .inr (4, mF ad sz1 osz th hsz))] sz)) 0 0 (va_A [(o, .inr (4, mF ad sz1 osz th hsz))] sz) := by
  refine gM_of (Qf := fun A => va_Qi (fun (r : Int32) (_ : Unit) => r = 0) (fun u => gPost G A ((fun (_ : Unit) => ([(o, .inr (4, mF ad sz1 osz (nI 2) hsz))] : va_W)) u)) A) (by decide) (Nat.le_of_ble_eq_true rfl) ?_
  intro p e s m below meth c A ls hx hb hml hr hown htu hlk hnm hA hP hD hS hK hZ hl
  have hown : s.vm.findClass RX4 = some m.cls := hown
  have hl : lv_has ls 4 [(0, .ref o), (1, .int x), (2, .int y)] := hl
  refine lv_aload_n hx hb dX4_code_0 rfl (lv_at hl 0 rfl) ?_
  refine lv_iload_n hx hb dX4_code_1 rfl (lv_at hl 1 rfl) ?_
  refine g_calli (g_runS (As := [.int x]) (rest := [.ref o]) ⟨hx, hb, hml, hown, htu⟩ (c_X4_noStream l G _ x ) uM_X4_174 ok_X4_noStream uA_X4_noStream rfl rfl ⟨Nat.le_of_ble_eq_true rfl, Nat.le_of_ble_eq_true rfl⟩ hK hP hD hS hA hZ [] rfl rfl rfl hl.1 rfl (Nat.le_of_ble_eq_true rfl) dX4_code_2 ⟨Nat.le_of_ble_eq_true rfl, Nat.le_of_ble_eq_true rfl⟩) hP hD hS hA [] rfl (fun r_1 u H locs hw_2 hP hD hS => ?_)
  have hw_2 : r_1 = nsI x := hw_2
  subst hw_2
  have hP : va_P G.1 vwCl [(o, .inr (4, mF ad sz1 osz th hsz))] H := hP
  have hD : va_D A [(o, .inr (4, mF ad sz1 osz th hsz))] := hD
  refine g_toi (y := nI 0) (hx1) ?_
  refine lv_if_eq (tgt := 12) hx hb dX4_code_5 (by decide) (fun _ => ?_) (fun c_5 => absurd (by decide) c_5)
  refine lv_iload_n hx hb dX4_code_12 rfl (lv_at hl 2 rfl) ?_
  refine g_calli (g_runS (As := [.int y]) (rest := [.ref o]) ⟨hx, hb, hml, hown, htu⟩ (c_X4_noKind l G _ y ) uM_X4_177 ok_X4_noKind uA_X4_noKind rfl rfl ⟨Nat.le_of_ble_eq_true rfl, Nat.le_of_ble_eq_true rfl⟩ hK hP hD hS hA hZ [] rfl rfl rfl hl.1 rfl (Nat.le_of_ble_eq_true rfl) dX4_code_13 ⟨Nat.le_of_ble_eq_true rfl, Nat.le_of_ble_eq_true rfl⟩) hP hD hS hA [] rfl (fun r_3 u H locs hw_4 hP hD hS => ?_)
  have hw_4 : r_3 = nkI y := hw_4
  subst hw_4
  have hP : va_P G.1 vwCl [(o, .inr (4, mF ad sz1 osz th hsz))] H := hP
  have hD : va_D A [(o, .inr (4, mF ad sz1 osz th hsz))] := hD
  refine g_toi (y := nI 1) (hy1) ?_
  refine lv_if_eq (tgt := 23) hx hb dX4_code_16 (by decide) (fun c_16 => absurd c_16 (by decide)) (fun _ => ?_)
  refine lv_iconst (v := nI 2) hx hb dX4_code_19 (by decide) ?_
  refine lv_goto (tgt := 24) hx hb dX4_code_20 (by decide) ?_
  refine va_put (D := G.1) (ci := 4) (v := .int (nI 2)) (ty := .int) (C := RX4) (T := TX4) (N := 29) hx hb htu iwX4 tyX4 tyX4_ok nmX4 hown hK.1 hP hD hS 0 rfl rfl 20 (by decide) (htu _ uF_X4_95) (fun _ h9 => h9) rfl (by decide +kernel) rfl rfl (Nat.le_of_ble_eq_true rfl) dX4_code_24 (fun H locs hP hD hS => ?_)
  have hP : va_P G.1 vwCl [(o, .inr (4, mF ad sz1 osz (nI 2) hsz))] H := hP
  have hD : va_D A [(o, .inr (4, mF ad sz1 osz (nI 2) hsz))] := hD
  refine lv_aload_n hx hb dX4_code_27 rfl (lv_at hl 0 rfl) ?_
  refine va_get (D := G.1) (ci := 4) (v := .int (nI 2)) (C := RX4) (T := TX4) (N := 29) hx hb htu iwX4 hown hK.1 hP 0 rfl rfl 20 (by decide) (htu _ uF_X4_95) (fun _ h9 => h9) rfl dX4_code_28 ?_
  refine lv_if_le (tgt := 36) hx hb dX4_code_31 (by decide) (fun c_31 => absurd c_31 (by decide)) (fun _ => ?_)
  refine lv_iconst (v := nI 0) hx hb dX4_code_34 (by decide) ?_
  exact gret_i hx hb hr hlk dX4_code_35 hS () (hP.sub [0] rfl) (hD.sub [0] (by decide) rfl) (rfl)
