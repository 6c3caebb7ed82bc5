/-! the reference's making: figures of 16 bits -/
theorem wb_tb (n : Nat) : (lN n).toBitVec = BitVec.ofNat 64 n := rfl
theorem wb_inj {a b : Int64} (h : a.toBitVec = b.toBitVec) : a = b := Int64.toBitVec_inj.mp h
theorem wb_c : ∀ k, k < 64 → ((nI k).toInt64 &&& 63) = lN k := by decide +kernel
theorem wb_sm : ∀ k, k < 64 → (BitVec.ofNat 64 k).smod 64 = BitVec.ofNat 64 k := by decide +kernel
theorem wb_lt2 {a b : Nat} (h : a < b) : 2 ^ a < 2 ^ b := Nat.pow_lt_pow_right (by decide) h
theorem wb_mod (n : Nat) : lN n = lN (n % 2 ^ 64) := wb_inj (by rw [wb_tb, wb_tb]; apply BitVec.eq_of_toNat_eq; rw [BitVec.toNat_ofNat, BitVec.toNat_ofNat, Nat.mod_mod])
theorem wb_shl (n : Nat) {k : Nat} (hk : k < 64) : lN n <<< ((nI k).toInt64 &&& 63) = lN (n * 2 ^ k) := by
  rw [wb_c k hk]
  apply wb_inj
  rw [Int64.toBitVec_shiftLeft, wb_tb, wb_tb, wb_tb, wb_sm k hk]
  apply BitVec.eq_of_toNat_eq
  rw [BitVec.shiftLeft_eq', BitVec.toNat_shiftLeft, BitVec.toNat_ofNat, BitVec.toNat_ofNat, BitVec.toNat_ofNat, Nat.mod_eq_of_lt (show k < 2 ^ 64 by omega), Nat.shiftLeft_eq, Nat.mul_mod, Nat.mod_mod, ← Nat.mul_mod]
theorem wb_and {a b : Nat} (ha : a < 2 ^ 64) (hb : b < 2 ^ 64) : lN a &&& lN b = lN (a &&& b) := by
  apply wb_inj
  rw [Int64.toBitVec_and, wb_tb, wb_tb, wb_tb]
  apply BitVec.eq_of_toNat_eq
  rw [BitVec.toNat_and, BitVec.toNat_ofNat, BitVec.toNat_ofNat, BitVec.toNat_ofNat, Nat.mod_eq_of_lt ha, Nat.mod_eq_of_lt hb, Nat.mod_eq_of_lt (Nat.and_lt_two_pow _ hb)]
theorem wb_or {a b : Nat} (ha : a < 2 ^ 64) (hb : b < 2 ^ 64) : lN a ||| lN b = lN (a ||| b) := by
  apply wb_inj
  rw [Int64.toBitVec_or, wb_tb, wb_tb, wb_tb]
  apply BitVec.eq_of_toNat_eq
  rw [BitVec.toNat_or, BitVec.toNat_ofNat, BitVec.toNat_ofNat, BitVec.toNat_ofNat, Nat.mod_eq_of_lt ha, Nat.mod_eq_of_lt hb, Nat.mod_eq_of_lt (Nat.or_lt_two_pow ha hb)]
theorem wb_mask {n k : Nat} (hn : n < 2 ^ 64) (hk : k < 64) : lN n &&& lN (2 ^ k - 1) = lN (n % 2 ^ k) := by
  rw [wb_and hn (by have := wb_lt2 hk; omega), Nat.and_two_pow_sub_one_eq_mod]
theorem pf_shr {a d : Nat} {D : Int64} (hD : (D.toBitVec.smod 64).toNat = d) (h : a < 2 ^ 62) : lN a >>> D = lN (a / 2 ^ d) := by
  have hd : a / 2 ^ d ≤ a := Nat.div_le_self _ _
  apply Int64.toInt_inj.mp
  have e : (lN a >>> D).toInt = (lN a).toInt >>> d := by
    rw [← hD]
    exact BitVec.toInt_sshiftRight ..
  rw [e, Int.shiftRight_eq_div_pow, pk_lT (by omega), pk_lT (by omega)]
  rfl
theorem lsh16 {a : Nat} (h : a < 2 ^ 62) : shrL (lN a) (nI 16) = lN (a / 65536) := pf_shr (d := 16) (by decide) h
theorem lan16 {a : Nat} (h : a < 2 ^ 64) : lN a &&& 65535 = lN (a % 65536) := wb_mask (k := 16) h (by decide)
theorem wor {a b k : Nat} (ha : a < 2 ^ k) (h : b * 2 ^ k + a < 2 ^ 64) : lN (b * 2 ^ k) ||| lN a = lN (b * 2 ^ k + a) := by
  rw [wb_or (by omega) (by omega), Nat.mul_comm b, Nat.two_pow_add_eq_or_of_lt ha]
def dv (q : Nat → Nat) : Nat → Nat
  | 0 => 0
  | n + 1 => dv q n + q n * 2 ^ (16 * n)
def nu (q : Nat → Nat) (k v : Nat) : Nat → Nat := fun j => if j = k then v else q j
theorem nu_s {q : Nat → Nat} {k v : Nat} : nu q k v k = v := if_pos rfl
theorem nu_n {q : Nat → Nat} {k v j : Nat} (h : j ≠ k) : nu q k v j = q j := if_neg h
theorem dv_ge {q : Nat → Nat} {k v : Nat} : ∀ n, n ≤ k → dv (nu q k v) n = dv q n
  | 0, _ => rfl
  | n + 1, h => by
    show dv (nu q k v) n + nu q k v n * _ = dv q n + q n * _
    rw [dv_ge n (by omega), nu_n (by omega)]
theorem dv_nu {q : Nat → Nat} {k v : Nat} : ∀ n, k < n → dv (nu q k v) n + q k * 2 ^ (16 * k) = dv q n + v * 2 ^ (16 * k)
  | 0, h => absurd h (Nat.not_lt_zero _)
  | n + 1, h => by
    show dv (nu q k v) n + nu q k v n * _ + _ = dv q n + q n * _ + _
    rcases Nat.lt_or_ge k n with c | c
    · rw [nu_n (by omega)]
      have := dv_nu (q := q) (v := v) n c
      omega
    · have e : n = k := by omega
      subst e
      rw [dv_ge _ (Nat.le_refl _), nu_s]
      omega
theorem dv_inc {q : Nat → Nat} {k a n : Nat} (h : k < n) : dv (nu q k (q k + a)) n = dv q n + a * 2 ^ (16 * k) := by
  have := dv_nu (q := q) (v := q k + a) n h
  rw [Nat.add_mul] at this
  omega
/-- the row f holds the figures q -/
def LR (f : Nat → Int64) (q : Nat → Nat) (n : Nat) : Prop := ∀ j, j < n → f j = lN (q j)
theorem LR.up {f f' : Nat → Int64} {q : Nat → Nat} {n k v : Nat} (h : LR f q n) (e : f' = vp_updL f k (lN v)) : LR f' (nu q k v) n := by
  intro j hj
  by_cases c : j = k
  · rw [e, c, pk_uLs, nu_s]
  · rw [e, pk_uLn c, nu_n c]; exact h j hj
/-- a product in work: the figures x below i are through, of the figure i those below j -/
def MulI (n N : Nat) (g : Nat → Int64) (q a b : Nat → Nat) (i j : Nat) : Prop := LR g q n ∧ dv q n = dv a i * dv b N + a i * 2 ^ (16 * i) * dv b j ∧ ∀ k, k < n → q k ≤ (N * i + j) * 4294967296
theorem MulI.step {n N i j v : Nat} {g g' : Nat → Int64} {q a b : Nat → Nat} (h : MulI n N g q a b i j) (hij : i + j < n) (ha : a i < 65536) (hb : b j < 65536) (hv : v = q (i + j) + a i * b j) (e : g' = vp_updL g (i + j) (lN v)) : MulI n N g' (nu q (i + j) v) a b i (j + 1) := by
  subst hv
  refine ⟨h.1.up e, ?_, fun k hk => ?_⟩
  · rw [dv_inc hij, h.2.1]
    show _ = _ + _ * (dv b j + b j * 2 ^ (16 * j))
    rw [Nat.mul_add, Nat.mul_add, Nat.pow_add]
    have : a i * b j * (2 ^ (16 * i) * 2 ^ (16 * j)) = a i * 2 ^ (16 * i) * (b j * 2 ^ (16 * j)) := by
      simp only [Nat.mul_assoc, Nat.mul_left_comm, Nat.mul_comm]
    omega
  · have hp : a i * b j ≤ 65535 * 65535 := Nat.mul_le_mul (by omega) (by omega)
    have e2 : (N * i + (j + 1)) * 4294967296 = (N * i + j) * 4294967296 + 4294967296 := by rw [← Nat.add_assoc, Nat.add_mul]
    have h3 := h.2.2
    by_cases c : k = i + j
    · rw [c, nu_s]; have := h3 (i + j) hij; omega
    · rw [nu_n c]; exact Nat.le_trans (h3 k hk) (Nat.mul_le_mul_right _ (by omega))
theorem MulI.next {n N i j : Nat} {g : Nat → Int64} {q a b : Nat → Nat} (h : MulI n N g q a b i j) (hj : N ≤ j) (hj2 : j ≤ N) : MulI n N g q a b (i + 1) 0 := by
  have e : j = N := by omega
  subst e
  refine ⟨h.1, ?_, fun k hk => ?_⟩
  · rw [h.2.1]
    show _ = (dv a i + a i * 2 ^ (16 * i)) * _ + _ * 0
    rw [Nat.add_mul]; omega
  · exact Nat.le_trans (h.2.2 k hk) (Nat.mul_le_mul_right _ (by rw [Nat.mul_add]; omega))
theorem dv_zero {q : Nat → Nat} : ∀ n, (∀ j, j < n → q j = 0) → dv q n = 0
  | 0, _ => rfl
  | n + 1, h => by
    show dv q n + q n * _ = 0
    rw [dv_zero n (fun j hj => h j (by omega)), h n (by omega)]; omega
theorem MulI.start {n N : Nat} {g : Nat → Int64} {a b : Nat → Nat} (h : ∀ j, j < n → g j = 0) : MulI n N g (fun _ => 0) a b 0 0 := by
  refine ⟨fun j hj => h j hj, ?_, fun k hk => Nat.zero_le _⟩
  rw [dv_zero n (fun _ _ => rfl)]
  show 0 = 0 * _ + _ * 0
  omega
/-- carries: the figures below k are small -/
def CarI (n V : Nat) (g : Nat → Int64) (q : Nat → Nat) (k : Nat) : Prop := LR g q n ∧ dv q n = V ∧ (∀ j, j < k → q j < 65536) ∧ (∀ j, k < j → j < n → q j ≤ 1099511627776) ∧ (k < n → q k ≤ 2199023255552)
theorem CarI.start {n V : Nat} {g : Nat → Int64} {q : Nat → Nat} (h1 : LR g q n) (h2 : dv q n = V) (h3 : ∀ k, k < n → q k ≤ 1099511627776) : CarI n V g q 0 :=
  ⟨h1, h2, fun _ h => absurd h (Nat.not_lt_zero _), fun j _ hj => h3 j hj, fun h => by have := h3 0 h; omega⟩
theorem CarI.le {n V k : Nat} {g : Nat → Int64} {q : Nat → Nat} (h : CarI n V g q k) {j : Nat} (hj : j < n) : q j ≤ 2199023255552 := by
  obtain ⟨_, _, h3, h4, h5⟩ := h
  rcases Nat.lt_trichotomy j k with c | c | c
  · have := h3 j c; omega
  · subst c; exact h5 hj
  · have := h4 j c hj; omega
theorem CarI.step {n V k v w : Nat} {g g1 g2 : Nat → Int64} {q : Nat → Nat} (h : CarI n V g q k) (hk : k + 1 < n) (hv : v = q (k + 1) + q k / 65536) (hw : w = q k % 65536) (e1 : g1 = vp_updL g (k + 1) (lN v)) (e2 : g2 = vp_updL g1 k (lN w)) : CarI n V g2 (nu (nu q (k + 1) v) k w) (k + 1) := by
  obtain ⟨h1, h2, h3, h4, h5⟩ := h
  subst hv hw
  refine ⟨(h1.up e1).up e2, ?_, fun j hj => ?_, fun j hj hn => ?_, fun _ => ?_⟩
  · have a1 := dv_inc (q := q) (a := q k / 65536) hk
    have a2 := dv_nu (q := nu q (k + 1) (q (k + 1) + q k / 65536)) (k := k) (v := q k % 65536) n (by omega)
    rw [nu_n (show k ≠ k + 1 by omega)] at a2
    have a3 : 2 ^ (16 * (k + 1)) = 65536 * 2 ^ (16 * k) := by rw [show 16 * (k + 1) = 16 + 16 * k by omega, Nat.pow_add]
    have a4 : q k * 2 ^ (16 * k) = q k / 65536 * (65536 * 2 ^ (16 * k)) + q k % 65536 * 2 ^ (16 * k) := by
      rw [← Nat.mul_assoc, ← Nat.add_mul]
      congr 1; omega
    rw [a3] at a1
    omega
  · by_cases c : j = k
    · rw [c, nu_s]; omega
    · rw [nu_n c, nu_n (by omega)]; exact h3 j (by omega)
  · rw [nu_n (by omega), nu_n (by omega)]; exact h4 j (by omega) hn
  · rw [nu_n (by omega), nu_s]
    have := h4 (k + 1) (by omega) hk
    have := h5 (by omega)
    omega
set_option maxRecDepth 100000 in
theorem sq_lt {q : Nat → Nat} {V p : Nat} (hV : dv q 12 = V) (h : ∀ j, j < 11 → q j < 65536) (hp : p < 65536) : (q 9 = 0 ∧ q 10 = 0 ∧ q 11 = 0 ∧ q 8 < p) ↔ V < p * 2 ^ 128 := by
  have h0 := h 0 (by decide)
  have h1 := h 1 (by decide)
  have h2 := h 2 (by decide)
  have h3 := h 3 (by decide)
  have h4 := h 4 (by decide)
  have h5 := h 5 (by decide)
  have h6 := h 6 (by decide)
  have h7 := h 7 (by decide)
  have h8 := h 8 (by decide)
  have h9 := h 9 (by decide)
  have h10 := h 10 (by decide)
  simp only [dv, Nat.reduceMul, Nat.reducePow, Nat.mul_zero, Nat.pow_zero] at hV ⊢
  omega
set_option maxRecDepth 100000 in
theorem sq_eq {q : Nat → Nat} {V p : Nat} (hV : dv q 12 = V) (h : ∀ j, j < 11 → q j < 65536) (hp : p < 65536) : (q 8 = p ∧ ∀ j, j < 12 → j ≠ 8 → q j = 0) ↔ V = p * 2 ^ 128 := by
  have h0 := h 0 (by decide)
  have h1 := h 1 (by decide)
  have h2 := h 2 (by decide)
  have h3 := h 3 (by decide)
  have h4 := h 4 (by decide)
  have h5 := h 5 (by decide)
  have h6 := h 6 (by decide)
  have h7 := h 7 (by decide)
  have h8 := h 8 (by decide)
  have h9 := h 9 (by decide)
  have h10 := h 10 (by decide)
  simp only [dv, Nat.reduceMul, Nat.reducePow, Nat.mul_zero, Nat.pow_zero] at hV ⊢
  constructor
  · intro ⟨a, b⟩
    have b0 := b 0 (by decide) (by decide)
    have b1 := b 1 (by decide) (by decide)
    have b2 := b 2 (by decide) (by decide)
    have b3 := b 3 (by decide) (by decide)
    have b4 := b 4 (by decide) (by decide)
    have b5 := b 5 (by decide) (by decide)
    have b6 := b 6 (by decide) (by decide)
    have b7 := b 7 (by decide) (by decide)
    have b9 := b 9 (by decide) (by decide)
    have b10 := b 10 (by decide) (by decide)
    have b11 := b 11 (by decide) (by decide)
    omega
  · intro a
    have : q 0 = 0 ∧ q 1 = 0 ∧ q 2 = 0 ∧ q 3 = 0 ∧ q 4 = 0 ∧ q 5 = 0 ∧ q 6 = 0 ∧ q 7 = 0 ∧ q 8 = p ∧ q 9 = 0 ∧ q 10 = 0 ∧ q 11 = 0 := by omega
    obtain ⟨b0, b1, b2, b3, b4, b5, b6, b7, b8, b9, b10, b11⟩ := this
    refine ⟨b8, fun j hj hn => ?_⟩
    rcases (show j = 0 ∨ j = 1 ∨ j = 2 ∨ j = 3 ∨ j = 4 ∨ j = 5 ∨ j = 6 ∨ j = 7 ∨ j = 9 ∨ j = 10 ∨ j = 11 by omega) with e | e | e | e | e | e | e | e | e | e | e <;> rw [e] <;> assumption
set_option maxRecDepth 100000 in
theorem cu_lt {q : Nat → Nat} {V p : Nat} (hV : dv q 18 = V) (h : ∀ j, j < 17 → q j < 65536) (hp : p < 65536) : ((∀ j, 13 ≤ j → j < 18 → q j = 0) ∧ q 12 < p) ↔ V < p * 2 ^ 192 := by
  have h0 := h 0 (by decide)
  have h1 := h 1 (by decide)
  have h2 := h 2 (by decide)
  have h3 := h 3 (by decide)
  have h4 := h 4 (by decide)
  have h5 := h 5 (by decide)
  have h6 := h 6 (by decide)
  have h7 := h 7 (by decide)
  have h8 := h 8 (by decide)
  have h9 := h 9 (by decide)
  have h10 := h 10 (by decide)
  have h11 := h 11 (by decide)
  have h12 := h 12 (by decide)
  have h13 := h 13 (by decide)
  have h14 := h 14 (by decide)
  have h15 := h 15 (by decide)
  have h16 := h 16 (by decide)
  simp only [dv, Nat.reduceMul, Nat.reducePow, Nat.mul_zero, Nat.pow_zero] at hV ⊢
  constructor
  · intro ⟨a, b⟩
    have b13 := a 13 (by decide) (by decide)
    have b14 := a 14 (by decide) (by decide)
    have b15 := a 15 (by decide) (by decide)
    have b16 := a 16 (by decide) (by decide)
    have b17 := a 17 (by decide) (by decide)
    omega
  · intro a
    have : q 12 < p ∧ q 13 = 0 ∧ q 14 = 0 ∧ q 15 = 0 ∧ q 16 = 0 ∧ q 17 = 0 := by omega
    obtain ⟨b12, b13, b14, b15, b16, b17⟩ := this
    refine ⟨fun j hj hn => ?_, b12⟩
    rcases (show j = 13 ∨ j = 14 ∨ j = 15 ∨ j = 16 ∨ j = 17 by omega) with e | e | e | e | e <;> rw [e] <;> assumption
theorem bI_and (a b : Bool) : bI a &&& bI b = bI (a && b) := by cases a <;> cases b <;> decide
theorem bI_t {b : Bool} (h : ¬ bI b = 0) : b = true := by cases b with | true => rfl | false => exact absurd rfl h
theorem bI_f {b : Bool} (h : bI b = 0) : b = false := by cases b with | false => rfl | true => exact absurd h (by decide)
theorem cmp0 {a : Nat} (h : a < 2 ^ 63) : lg_cmp (lN a) 0 = 0 ↔ a = 0 := by rw [lg_cmp_eq]; exact pk_lEQ (b := 0) h (by decide)
theorem cmpE {a b : Nat} (h : a < 2 ^ 63) (hb : b < 2 ^ 63) : lg_cmp (lN a) (lN b) = 0 ↔ a = b := by rw [lg_cmp_eq]; exact pk_lEQ h hb
theorem cmpL {a b : Nat} (h : a < 2 ^ 63) (hb : b < 2 ^ 63) : lg_cmp (lN a) (lN b) < 0 ↔ a < b := by rw [lg_cmp_lt]; exact pk_lLT h hb
theorem cmpG {a b : Nat} (h : a < 2 ^ 63) (hb : b < 2 ^ 63) : 0 < lg_cmp (lN a) (lN b) ↔ b < a := by rw [lg_cmp_gt]; exact pk_lLT hb h
theorem cmpGE {a b : Nat} (h : a < 2 ^ 63) (hb : b < 2 ^ 63) : 0 ≤ lg_cmp (lN a) (lN b) ↔ b ≤ a := by rw [lg_cmp_ge]; exact pk_lLE hb h
def all8 (q : Nat → Nat) (k : Nat) : Bool := (List.range k).all (fun j => decide (j = 8) || decide (q j = 0))
theorem all8_s {q : Nat → Nat} {k : Nat} : all8 q (k + 1) = (all8 q k && (decide (k = 8) || decide (q k = 0))) := by unfold all8; rw [List.range_succ, List.all_append]; simp
def jst (q : Nat → Nat) (p k : Nat) : Bool := decide (q 8 = p) && all8 q k
theorem jst_s {q : Nat → Nat} {p k : Nat} {b c : Bool} (h : b = jst q p k) (hc : c = (decide (k = 8) || decide (q k = 0))) : (b && c) = jst q p (k + 1) := by
  unfold jst at h ⊢
  rw [all8_s, h, hc, Bool.and_assoc]
theorem jst_iff {q : Nat → Nat} {p : Nat} : jst q p 12 = true ↔ (q 8 = p ∧ ∀ j, j < 12 → j ≠ 8 → q j = 0) := by
  unfold jst all8
  rw [Bool.and_eq_true, decide_eq_true_iff, List.all_eq_true]
  constructor
  · intro ⟨a, b⟩
    refine ⟨a, fun j hj hn => ?_⟩
    have := b j (List.mem_range.mpr hj)
    simpa [hn] using this
  · intro ⟨a, b⟩
    refine ⟨a, fun j hj => ?_⟩
    by_cases c : j = 8
    · simp [c]
    · simp [b j (List.mem_range.mp hj) c]
def ok2 (p X : Nat) : Bool := Nat.ble (X * X) (p * 2 ^ 128)
def ok3 (p X : Nat) : Bool := Nat.blt (X * X * X) (p * 2 ^ 192)
theorem ok2_iff {p X : Nat} : ok2 p X = true ↔ X * X ≤ p * 2 ^ 128 := by unfold ok2; exact ⟨Nat.le_of_ble_eq_true, Nat.ble_eq_true_of_le⟩
theorem ok3_iff {p X : Nat} : ok3 p X = true ↔ X * X * X < p * 2 ^ 192 := by unfold ok3; exact ⟨Nat.le_of_ble_eq_true, Nat.ble_eq_true_of_le⟩
theorem am_lt {q : Nat → Nat} {g : Nat → Int64} {X p k : Nat} (hC : CarI 12 (X * X) g q k) (hk : 11 ≤ k) (hp : p < 65536) (h : q 9 = 0 ∧ q 10 = 0 ∧ q 11 = 0 ∧ q 8 < p) : nI 1 = bI (ok2 p X) := by
  have := (sq_lt hC.2.1 (fun j hj => hC.2.2.1 j (by omega)) hp).mp h
  rw [ok2_iff.mpr (by omega)]; rfl
theorem am_eq {q : Nat → Nat} {g : Nat → Int64} {X p k : Nat} (hC : CarI 12 (X * X) g q k) (hk : 11 ≤ k) (hp : p < 65536) (h : ¬ bI (jst q p 12) = 0) : nI 1 = bI (ok2 p X) := by
  have := (sq_eq hC.2.1 (fun j hj => hC.2.2.1 j (by omega)) hp).mp (jst_iff.mp (bI_t h))
  rw [ok2_iff.mpr (by omega)]; rfl
theorem am_no {q : Nat → Nat} {g : Nat → Int64} {X p k : Nat} (hC : CarI 12 (X * X) g q k) (hk : 11 ≤ k) (hp : p < 65536) (h0 : ¬ (q 9 = 0 ∧ q 10 = 0 ∧ q 11 = 0 ∧ q 8 < p)) (h : bI (jst q p 12) = 0) : nI 0 = bI (ok2 p X) := by
  have h1 := mt (sq_lt hC.2.1 (fun j hj => hC.2.2.1 j (by omega)) hp).mpr h0
  have h2 := mt (sq_eq hC.2.1 (fun j hj => hC.2.2.1 j (by omega)) hp).mpr (fun c => by rw [jst_iff.mpr c] at h; exact absurd h (by decide))
  have : ok2 p X = false := by
    cases e : ok2 p X with
    | false => rfl
    | true => have := ok2_iff.mp e; omega
  rw [this]; rfl
theorem CarI.fig11 {q : Nat → Nat} {g : Nat → Int64} {X k : Nat} (hC : CarI 12 (X * X) g q k) (hk : 11 ≤ k) (hX : X < 2 ^ 80) : ∀ j, j < 12 → q j < 65536 := by
  intro j hj
  rcases Nat.lt_or_ge j 11 with c | c
  · exact hC.2.2.1 j (by omega)
  · have e : j = 11 := by omega
    subst e
    have h1 : X * X < 2 ^ 80 * 2 ^ 80 := Nat.mul_lt_mul'' hX hX
    have h2 := hC.2.1
    have h3 : q 11 * 2 ^ 176 ≤ dv q 12 := by
      show q 11 * 2 ^ (16 * 11) ≤ dv q 11 + q 11 * 2 ^ (16 * 11)
      omega
    omega
def none5 (q : Nat → Nat) (k : Nat) : Bool := (List.range k).all (fun j => decide (j < 13) || decide (q j = 0))
theorem none5_s {q : Nat → Nat} {k : Nat} (h : 13 ≤ k) {b : Bool} (hb : b = none5 q k) {c : Bool} (hc : c = decide (q k = 0)) : (b && c) = none5 q (k + 1) := by
  unfold none5 at hb ⊢
  rw [List.range_succ, List.all_append, hb, hc]
  simp [show ¬ k < 13 by omega]
theorem none5_iff {q : Nat → Nat} : none5 q 18 = true ↔ ∀ j, 13 ≤ j → j < 18 → q j = 0 := by
  unfold none5
  rw [List.all_eq_true]
  constructor
  · intro b j h1 h2
    have := b j (List.mem_range.mpr h2)
    simpa [show ¬ j < 13 by omega] using this
  · intro b j hj
    by_cases c : j < 13
    · simp [c]
    · simp [b j (by omega) (List.mem_range.mp hj)]
theorem am3_y {q : Nat → Nat} {g : Nat → Int64} {X p k : Nat} (hC : CarI 18 (X * X * X) g q k) (hk : 17 ≤ k) (hp : p < 65536) (h : ¬ bI (none5 q 18) = 0) (h2 : q 12 < p) : nI 1 = bI (ok3 p X) := by
  rw [ok3_iff.mpr ((cu_lt hC.2.1 (fun j hj => hC.2.2.1 j (by omega)) hp).mp ⟨none5_iff.mp (bI_t h), h2⟩)]; rfl
theorem am3_n {q : Nat → Nat} {g : Nat → Int64} {X p k : Nat} (hC : CarI 18 (X * X * X) g q k) (hk : 17 ≤ k) (hp : p < 65536) (h : bI (none5 q 18) = 0 ∨ ¬ q 12 < p) : nI 0 = bI (ok3 p X) := by
  have : ok3 p X = false := by
    cases e : ok3 p X with
    | false => rfl
    | true =>
      have := (cu_lt hC.2.1 (fun j hj => hC.2.2.1 j (by omega)) hp).mpr (ok3_iff.mp e)
      rcases h with c | c
      · rw [none5_iff.mpr this.1] at c; exact absurd c (by decide)
      · exact absurd this.2 c
  rw [this]; rfl
/-- the greatest number, a bit at a time -/
def gr (ok : Nat → Bool) : Nat → Nat → Nat
  | 0, V => V
  | b + 1, V => if ok (V + 2 ^ b) then gr ok b (V + 2 ^ b) else gr ok b V
def RtI (ok : Nat → Bool) (V0 b : Nat) (x : Nat → Nat) (g : Nat → Int64) : Prop := b ≤ 64 ∧ LR g x 6 ∧ (∀ j, j < 5 → x j < 65536) ∧ (∀ j, j < 4 → x j % 2 ^ (min 16 (b - 16 * j)) = 0) ∧ gr ok b (dv x 5) = gr ok 64 V0
theorem two_d (d : Nat) : 2 ^ (d % 16) * 2 ^ (16 * (d / 16)) = 2 ^ d := by rw [← Nat.pow_add]; congr 1; omega
theorem mod_split {a s : Nat} (h : a % 2 ^ (s + 1) = 0) : a % 2 ^ s = 0 := by
  have h1 := Nat.div_add_mod a (2 ^ (s + 1))
  rw [h, Nat.pow_succ] at h1
  rw [← h1, Nat.add_zero, Nat.mul_assoc, Nat.mul_mod_right]
theorem mod_room {a s : Nat} (hs : s < 16) (h : a % 2 ^ (s + 1) = 0) (ha : a < 65536) : a + 2 ^ s < 65536 := by
  have h1 := Nat.div_add_mod a (2 ^ (s + 1))
  rw [h] at h1
  have e : (65536 : Nat) = 2 ^ (s + 1) * 2 ^ (15 - s) := by rw [← Nat.pow_add, show s + 1 + (15 - s) = 16 by omega]
  have h2 : a / 2 ^ (s + 1) < 2 ^ (15 - s) := by
    apply Nat.div_lt_of_lt_mul
    rw [← e]; exact ha
  have h3 : 2 ^ (s + 1) * (a / 2 ^ (s + 1) + 1) ≤ 2 ^ (s + 1) * 2 ^ (15 - s) := Nat.mul_le_mul_left _ h2
  rw [← e, Nat.mul_add] at h3
  have h4 : 2 ^ (s + 1) = 2 ^ s * 2 := Nat.pow_succ ..
  have h5 : 0 < 2 ^ s := Nat.two_pow_pos s
  omega
theorem RtI.low {ok : Nat → Bool} {V0 d : Nat} {x : Nat → Nat} {g : Nat → Int64} (h : RtI ok V0 (d + 1) x g) : x (d / 16) % 2 ^ (d % 16 + 1) = 0 := by
  have := h.2.2.2.1 (d / 16) (by have := h.1; omega)
  rwa [show min 16 (d + 1 - 16 * (d / 16)) = d % 16 + 1 by omega] at this
theorem RtI.fig {ok : Nat → Bool} {V0 d : Nat} {x : Nat → Nat} {g : Nat → Int64} (h : RtI ok V0 (d + 1) x g) : ∀ j, j < 5 → nu x (d / 16) (x (d / 16) + 2 ^ (d % 16)) j < 65536 := by
  intro j hj
  by_cases c : j = d / 16
  · rw [c, nu_s]; exact mod_room (by omega) h.low (h.2.2.1 _ (by omega))
  · rw [nu_n c]; exact h.2.2.1 j hj
theorem RtI.val {ok : Nat → Bool} {V0 d : Nat} {x : Nat → Nat} {g : Nat → Int64} (h : RtI ok V0 (d + 1) x g) : dv (nu x (d / 16) (x (d / 16) + 2 ^ (d % 16))) 5 = dv x 5 + 2 ^ d := by
  rw [dv_inc (by have := h.1; omega), two_d]
theorem RtI.yes {ok : Nat → Bool} {V0 d : Nat} {x : Nat → Nat} {g g' : Nat → Int64} (h : RtI ok V0 (d + 1) x g) (e : g' = vp_updL g (d / 16) (lN (x (d / 16) + 2 ^ (d % 16)))) (ho : ok (dv (nu x (d / 16) (x (d / 16) + 2 ^ (d % 16))) 5) = true) : RtI ok V0 d (nu x (d / 16) (x (d / 16) + 2 ^ (d % 16))) g' := by
  refine ⟨by have := h.1; omega, h.2.1.up e, h.fig, fun j hj => ?_, ?_⟩
  · by_cases c : j = d / 16
    · rw [c, nu_s, show min 16 (d - 16 * (d / 16)) = d % 16 by omega, Nat.add_mod_right]
      exact mod_split h.low
    · rw [nu_n c]
      have := h.2.2.2.1 j hj
      rwa [show min 16 (d - 16 * j) = min 16 (d + 1 - 16 * j) by omega]
  · have h5 := h.2.2.2.2
    rw [h.val] at ho ⊢
    rw [← h5]
    show _ = if ok (dv x 5 + 2 ^ d) then _ else _
    rw [if_pos ho]
theorem RtI.no {ok : Nat → Bool} {V0 d : Nat} {x : Nat → Nat} {g g1 g' : Nat → Int64} (h : RtI ok V0 (d + 1) x g) (e1 : g1 = vp_updL g (d / 16) (lN (x (d / 16) + 2 ^ (d % 16)))) (e : g' = vp_updL g1 (d / 16) (lN (x (d / 16)))) (ho : ok (dv (nu x (d / 16) (x (d / 16) + 2 ^ (d % 16))) 5) = false) : RtI ok V0 d x g' := by
  refine ⟨by have := h.1; omega, fun j hj => ?_, h.2.2.1, fun j hj => ?_, ?_⟩
  · by_cases c : j = d / 16
    · rw [e, c, pk_uLs]
    · rw [e, pk_uLn c, e1, pk_uLn c]; exact h.2.1 j hj
  · by_cases c : j = d / 16
    · rw [c, show min 16 (d - 16 * (d / 16)) = d % 16 by omega]
      exact mod_split h.low
    · have := h.2.2.2.1 j hj
      rwa [show min 16 (d - 16 * j) = min 16 (d + 1 - 16 * j) by omega]
  · have h5 := h.2.2.2.2
    rw [h.val] at ho
    rw [← h5]
    show _ = if ok (dv x 5 + 2 ^ d) then _ else _
    rw [if_neg (by rw [ho]; decide)]
theorem lsh1 (d : Nat) : shlL 1 (nI (d % 16)) = lN (2 ^ (d % 16)) := by
  have := wb_shl 1 (show d % 16 < 64 by omega)
  rw [Nat.one_mul] at this
  exact this
theorem RtI.start {ok : Nat → Bool} {w : Nat} {g g' : Nat → Int64} (h : ∀ j, j < 6 → g j = 0) (hw : w < 65536) (e : g' = vp_updL g 4 (lN w)) : RtI ok (w * 2 ^ 64) 64 (nu (fun _ => 0) 4 w) g' := by
  refine ⟨Nat.le_refl _, LR.up (fun j hj => h j hj) e, fun j hj => ?_, fun j hj => ?_, ?_⟩
  · by_cases c : j = 4
    · rw [c, nu_s]; exact hw
    · rw [nu_n c]; decide
  · rw [nu_n (by omega)]; exact Nat.zero_mod _
  · have : dv (nu (fun _ => 0) 4 w) 5 = w * 2 ^ 64 := by
      have := dv_nu (q := fun _ => 0) (v := w) (k := 4) 5 (by decide)
      rw [dv_zero 5 (fun _ _ => rfl)] at this
      omega
    rw [this]
theorem RtI.done {ok : Nat → Bool} {V0 : Nat} {x : Nat → Nat} {g : Nat → Int64} (h : RtI ok V0 0 x g) : lN (x 3 * 2 ^ 48) ||| lN (x 2 * 2 ^ 32) ||| lN (x 1 * 2 ^ 16) ||| lN (x 0) = lN (gr ok 64 V0) := by
  have h0 := h.2.2.1 0 (by decide)
  have h1 := h.2.2.1 1 (by decide)
  have h2 := h.2.2.1 2 (by decide)
  have h3 := h.2.2.1 3 (by decide)
  rw [← h.2.2.2.2]
  show _ = lN (dv x 5)
  rw [wor (b := x 3) (a := x 2 * 2 ^ 32) (k := 48) (by omega) (by omega)]
  rw [show x 3 * 2 ^ 48 + x 2 * 2 ^ 32 = (x 3 * 2 ^ 16 + x 2) * 2 ^ 32 by omega, wor (by omega) (by omega)]
  rw [show (x 3 * 2 ^ 16 + x 2) * 2 ^ 32 + x 1 * 2 ^ 16 = (x 3 * 2 ^ 32 + x 2 * 2 ^ 16 + x 1) * 2 ^ 16 by omega, wor (by omega) (by omega)]
  rw [wb_mod (dv x 5)]
  congr 1
  show _ = (0 + x 0 * 2 ^ (16 * 0) + x 1 * 2 ^ (16 * 1) + x 2 * 2 ^ (16 * 2) + x 3 * 2 ^ (16 * 3) + x 4 * 2 ^ (16 * 4)) % 2 ^ 64
  omega
def wh2 (p : Nat) : Nat := if p < 1 then 0 else if p < 4 then 1 else if p < 9 then 2 else if p < 16 then 3 else if p < 25 then 4 else if p < 36 then 5 else if p < 49 then 6 else if p < 64 then 7 else 8
def wh3 (p : Nat) : Nat := if p < 1 then 0 else if p < 8 then 1 else if p < 27 then 2 else if p < 64 then 3 else if p < 125 then 4 else if p < 216 then 5 else if p < 343 then 6 else if p < 512 then 7 else 8
theorem wh2_le (p : Nat) : wh2 p ≤ 8 := by unfold wh2; repeat' split <;> try omega
theorem wh3_le (p : Nat) : wh3 p ≤ 8 := by unfold wh3; repeat' split <;> try omega
theorem wh2_go {p w : Nat} (hp : p < 64) (hw : w ≤ wh2 p) : (w + 1) * (w + 1) ≤ p ↔ w + 1 ≤ wh2 p :=
  (by decide +kernel : ∀ p : Fin 64, ∀ w : Fin 9, w.val ≤ wh2 p.val → ((w.val + 1) * (w.val + 1) ≤ p.val ↔ w.val + 1 ≤ wh2 p.val)) ⟨p, hp⟩ ⟨w, by have := wh2_le p; omega⟩ hw
theorem wh3_go {p w : Nat} (hp : p < 512) (hw : w ≤ wh3 p) : (w + 1) * (w + 1) * (w + 1) ≤ p ↔ w + 1 ≤ wh3 p :=
  (by decide +kernel : ∀ p : Fin 512, ∀ w : Fin 9, w.val ≤ wh3 p.val → ((w.val + 1) * (w.val + 1) * (w.val + 1) ≤ p.val ↔ w.val + 1 ≤ wh3 p.val)) ⟨p, hp⟩ ⟨w, by have := wh3_le p; omega⟩ hw
/-- primes -/
def fP (p e : Nat) : Bool := decide (e < 2) || decide (p < e * e) || decide (p % e ≠ 0)
def isPd (p d : Nat) : Bool := (List.range d).all (fP p)
theorem isPd_s {p d : Nat} {b c : Bool} (h : b = isPd p d) (h2 : 2 ≤ d) (hd : d * d ≤ p) (hc : c = decide (p % d ≠ 0)) : (b && c) = isPd p (d + 1) := by
  unfold isPd at h ⊢
  rw [List.range_succ, List.all_append, h, hc]
  simp [fP, show ¬ d < 2 by omega, show ¬ p < d * d by omega]
theorem isPd_end {p d : Nat} (hd : p < d * d) (h : d ≤ 22) : isPd p d = isPd p 22 := by
  have hall : ∀ e, d ≤ e → fP p e = true := fun e he => by
    have : d * d ≤ e * e := Nat.mul_le_mul he he
    simp [fP, show p < e * e by omega]
  apply Bool.eq_iff_iff.mpr
  unfold isPd
  rw [List.all_eq_true, List.all_eq_true]
  constructor
  · intro k e he
    rcases Nat.lt_or_ge e d with c | c
    · exact k e (List.mem_range.mpr c)
    · exact hall e c
  · intro k e he
    exact k e (List.mem_range.mpr (by have := List.mem_range.mp he; omega))
def pr (i : Nat) : Nat := ([2, 3, 5, 7, 11, 13, 17, 19, 23, 29, 31, 37, 41, 43, 47, 53, 59, 61, 67, 71, 73, 79, 83, 89, 97, 101, 103, 107, 109, 113, 127, 131, 137, 139, 149, 151, 157, 163, 167, 173, 179, 181, 191, 193, 197, 199, 211, 223, 227, 229] ++ [233, 239, 241, 251, 257, 263, 269, 271, 277, 281, 283, 293, 307, 311, 313, 317, 331, 337, 347, 349, 353, 359, 367, 373, 379, 383, 389, 397, 401, 409] : List Nat).getD i 0
def nx (i : Nat) : Nat := ([2, 3, 4, 6, 8, 12, 14, 18, 20, 24, 30, 32, 38, 42, 44, 48, 54, 60, 62, 68, 72, 74, 80, 84, 90, 98, 102, 104, 108, 110, 114, 128, 132, 138, 140, 150, 152, 158, 164, 168, 174, 180, 182, 192, 194, 198, 200, 212, 224, 228] ++ [230, 234, 240, 242, 252, 258, 264, 270, 272, 278, 282, 284, 294, 308, 312, 314, 318, 332, 338, 348, 350, 354, 360, 368, 374, 380, 384, 390, 398, 402, 410] : List Nat).getD i 0
theorem nx_s : ∀ i, i < 80 → pr i + 1 = nx (i + 1) ∧ pr i < 441 ∧ (i < 16 → pr i < 64) ∧ nx i ≤ pr i ∧ 2 ≤ nx i := (by decide +kernel : ∀ i, i < 80 → pr i + 1 = nx (i + 1) ∧ pr i < 441 ∧ (i < 16 → pr i < 64) ∧ nx i ≤ pr i ∧ 2 ≤ nx i)
theorem pr_is : ∀ i, i < 80 → ∀ d, d < 15 → nx i + d ≤ pr i → isPd (nx i + d) 22 = decide (nx i + d = pr i) := by decide +kernel
theorem pr_gap : ∀ i, i < 80 → pr i < nx i + 15 := by decide +kernel
theorem pr_at {i p : Nat} (hi : i < 80) (h1 : nx i ≤ p) (h2 : p ≤ pr i) : isPd p 22 = decide (p = pr i) := by
  have g := pr_gap i hi
  have := pr_is i hi (p - nx i) (by omega) (by omega)
  rwa [show nx i + (p - nx i) = p by omega] at this
def c3 (i : Nat) : Int64 := lN (gr (ok3 (pr i)) 64 (wh3 (pr i) * 2 ^ 64))
def c2 (i : Nat) : Int64 := lN (gr (ok2 (pr i)) 64 (wh2 (pr i) * 2 ^ 64))
theorem c3_is : ∀ i, i < 80 → c3 i = kT i := by decide +kernel
theorem c2_is : ∀ i, i < 8 → c2 i = sqA i ∧ c2 (8 + i) = sqB i := by decide +kernel
theorem clW {g g' : Nat → Int64} {k : Nat} (h : ∀ j, j < k → g j = 0) (e : g' = vp_updL g k 0) : ∀ j, j < k + 1 → g' j = 0 := fun j hj => by
  by_cases c : j = k
  · rw [e, c, pk_uLs]
  · rw [e, pk_uLn c]; exact h j (by omega)
theorem clQ {g g' : Nat → Int64} {k : Nat} (h : ∀ j, j < k → j < 12 → g j = 0) (e : g' = vp_updL g k 0) : ∀ j, j < k + 1 → j < 12 → g' j = 0 := fun j hj h2 => by
  by_cases c : j = k
  · rw [e, c, pk_uLs]
  · rw [e, pk_uLn c]; exact h j (by omega) h2
theorem clZ {g g' : Nat → Int64} {k : Nat} (hk : 12 ≤ k) (h : ∀ j, j < k → j < 12 → g j = 0) (e : g' = vp_updL g 0 0) : ∀ j, j < k + 1 → j < 12 → g' j = 0 := fun j hj h2 => by
  by_cases c : j = 0
  · rw [e, c, pk_uLs]
  · rw [e, pk_uLn c]; exact h j (by omega) h2
theorem dv5 {x : Nat → Nat} (h : ∀ j, j < 5 → x j < 65536) : dv x 5 < 2 ^ 80 := by
  have h0 := h 0 (by decide)
  have h1 := h 1 (by decide)
  have h2 := h 2 (by decide)
  have h3 := h 3 (by decide)
  have h4 := h 4 (by decide)
  show 0 + x 0 * 2 ^ (16 * 0) + x 1 * 2 ^ (16 * 1) + x 2 * 2 ^ (16 * 2) + x 3 * 2 ^ (16 * 3) + x 4 * 2 ^ (16 * 4) < 2 ^ 80
  omega
theorem MulI.val {n N i : Nat} {g : Nat → Int64} {q a b : Nat → Nat} (h : MulI n N g q a b i 0) : dv q n = dv a i * dv b N := by
  have h2 := h.2.1
  rw [show dv b 0 = 0 from rfl, Nat.mul_zero, Nat.add_zero] at h2
  exact h2
theorem MulI.val5 {i : Nat} {g : Nat → Int64} {q x : Nat → Nat} (h : MulI 12 5 g q x x i 0) (h1 : 5 ≤ i) (h2 : i ≤ 5) : dv q 12 = dv x 5 * dv x 5 := by
  have e : i = 5 := Nat.le_antisymm h2 h1
  subst e
  exact h.val
theorem MulI.val12 {i V : Nat} {g : Nat → Int64} {u q x : Nat → Nat} (h : MulI 18 5 g u q x i 0) (hV : dv q 12 = V) (h1 : 12 ≤ i) (h2 : i ≤ 12) : dv u 18 = V * dv x 5 := by
  have e : i = 12 := Nat.le_antisymm h2 h1
  subst e
  rw [← hV]
  exact h.val
theorem MulI.le40 {n i j : Nat} {g : Nat → Int64} {q a b : Nat → Nat} (h : MulI n 5 g q a b i j) (hi : 5 * i + j ≤ 256) (k : Nat) (hk : k < n) : q k ≤ 1099511627776 :=
  Nat.le_trans (h.2.2 k hk) (Nat.le_trans (Nat.mul_le_mul_right _ hi) (by decide))
theorem RtI.start2 {ok : Nat → Bool} {w w0 : Nat} {g g' : Nat → Int64} (hw0 : w = w0) (h : ∀ j, j < 6 → g j = 0) (hw : w < 65536) (e : g' = vp_updL g 4 (lN w)) : RtI ok (w0 * 2 ^ 64) 64 (nu (fun _ => 0) 4 w) g' := by
  subst hw0
  exact RtI.start h hw e
