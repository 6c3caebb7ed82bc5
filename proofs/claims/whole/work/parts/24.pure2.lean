/-! the digest's numbers: schedules, rounds, blocks -/
theorem ge_t {t n : Nat} (h : nI n ≤ nI t) (hn : n < 2 ^ 31) : n ≤ t := Nat.le_of_not_lt (fun g => nI_ge g hn h)
theorem ge_f {t n : Nat} (h : ¬ nI n ≤ nI t) (ht : t < 2 ^ 31) : t < n := Nat.lt_of_not_le (fun g => h (nI_le g ht))
theorem lt_t {t n : Nat} (h : nI t < nI n) (ht : t < 2 ^ 31) : t < n := Nat.lt_of_not_le (fun g => nI_nlt g ht h)
theorem lt_f {t n : Nat} (h : ¬ nI t < nI n) (hn : n < 2 ^ 31) : n ≤ t := Nat.le_of_not_lt (fun g => h (nI_lt g hn))
theorem ix_ma (a t i : Nat) : nI a * nI t + nI i = nI (a * t + i) := by rw [pk_mul, nI_add]
def oB (f : Nat → Int32) : Nat → Int32 := fun j => f j &&& 255
def oL (l : List Nat) : Nat → Int32 := fun j => nI (l.getD j 0)
def ly4 (o : Nat → Int32) (t : Nat) : Nat → Int32
  | 0 => 0
  | i + 1 => (ly4 o t i <<< ((8 : Int32) &&& 31)) ||| o (4 * t + i)
def ly8 (o : Nat → Int32) (t : Nat) : Nat → Int64
  | 0 => 0
  | i + 1 => shlL (ly8 o t i) 8 ||| Int32.toInt64 (o (8 * t + i))
def s0I (x : Int32) : Int32 := rotI x 7 ^^^ rotI x 18 ^^^ ushI x 3
def s1I (x : Int32) : Int32 := rotI x 17 ^^^ rotI x 19 ^^^ ushI x 10
def s0L (x : Int64) : Int64 := rotL x 1 ^^^ rotL x 8 ^^^ ushL x 7
def s1L (x : Int64) : Int64 := rotL x 19 ^^^ rotL x 61 ^^^ ushL x 6
def sN (o : Nat → Int32) (t : Nat) : Int32 :=
  if h : t < 16 then ly4 o t 4 else s1I (sN o (t - 2)) + sN o (t - 7) + s0I (sN o (t - 15)) + sN o (t - 16)
termination_by t
decreasing_by all_goals omega
def sW (o : Nat → Int32) (t : Nat) : Int64 :=
  if h : t < 16 then ly8 o t 8 else s1L (sW o (t - 2)) + sW o (t - 7) + s0L (sW o (t - 15)) + sW o (t - 16)
termination_by t
decreasing_by all_goals omega
theorem sN_lt {o : Nat → Int32} {t : Nat} (h : t < 16) : sN o t = ly4 o t 4 := by rw [sN, dif_pos h]
theorem sN_ge {o : Nat → Int32} {t : Nat} (h : 16 ≤ t) : sN o t = s1I (sN o (t - 2)) + sN o (t - 7) + s0I (sN o (t - 15)) + sN o (t - 16) := by rw [sN, dif_neg (by omega)]
theorem sW_lt {o : Nat → Int32} {t : Nat} (h : t < 16) : sW o t = ly8 o t 8 := by rw [sW, dif_pos h]
theorem sW_ge {o : Nat → Int32} {t : Nat} (h : 16 ≤ t) : sW o t = s1L (sW o (t - 2)) + sW o (t - 7) + s0L (sW o (t - 15)) + sW o (t - 16) := by rw [sW, dif_neg (by omega)]
theorem ly4_congr {o o' : Nat → Int32} {t : Nat} : ∀ i, (∀ j, j < i → o (4 * t + j) = o' (4 * t + j)) → ly4 o t i = ly4 o' t i
  | 0, _ => rfl
  | i + 1, h => by rw [ly4, ly4, ly4_congr i (fun j hj => h j (by omega)), h i (by omega)]
theorem ly8_congr {o o' : Nat → Int32} {t : Nat} : ∀ i, (∀ j, j < i → o (8 * t + j) = o' (8 * t + j)) → ly8 o t i = ly8 o' t i
  | 0, _ => rfl
  | i + 1, h => by rw [ly8, ly8, ly8_congr i (fun j hj => h j (by omega)), h i (by omega)]
theorem sN_congr {o o' : Nat → Int32} (h : ∀ j, j < 64 → o j = o' j) : ∀ t, sN o t = sN o' t := by
  intro t
  induction t using Nat.strongRecOn with
  | ind t ih =>
    rcases Nat.lt_or_ge t 16 with c | c
    · rw [sN_lt c, sN_lt c]; exact ly4_congr 4 (fun j hj => h _ (by omega))
    · rw [sN_ge c, sN_ge c, ih (t - 2) (by omega), ih (t - 7) (by omega), ih (t - 15) (by omega), ih (t - 16) (by omega)]
theorem sW_congr {o o' : Nat → Int32} (h : ∀ j, j < 128 → o j = o' j) : ∀ t, sW o t = sW o' t := by
  intro t
  induction t using Nat.strongRecOn with
  | ind t ih =>
    rcases Nat.lt_or_ge t 16 with c | c
    · rw [sW_lt c, sW_lt c]; exact ly8_congr 8 (fun j hj => h _ (by omega))
    · rw [sW_ge c, sW_ge c, ih (t - 2) (by omega), ih (t - 7) (by omega), ih (t - 15) (by omega), ih (t - 16) (by omega)]
abbrev V8 (α : Type) : Type := α × α × α × α × α × α × α × α
def rdN (k w : Int32) (v : V8 Int32) : V8 Int32 := match v with
  | (a, b, c, d, e, f, g, h) =>
    let x := h + (rotI e 6 ^^^ rotI e 11 ^^^ rotI e 25) + ((e &&& f) ^^^ ((e ^^^ (-1)) &&& g)) + k + w
    let y := (rotI a 2 ^^^ rotI a 13 ^^^ rotI a 22) + ((a &&& b) ^^^ (a &&& c) ^^^ (b &&& c))
    (x + y, a, b, c, d + x, e, f, g)
def rdW (k w : Int64) (v : V8 Int64) : V8 Int64 := match v with
  | (a, b, c, d, e, f, g, h) =>
    let x := h + (rotL e 14 ^^^ rotL e 18 ^^^ rotL e 41) + ((e &&& f) ^^^ ((e ^^^ (-1)) &&& g)) + k + w
    let y := (rotL a 28 ^^^ rotL a 34 ^^^ rotL a 39) + ((a &&& b) ^^^ (a &&& c) ^^^ (b &&& c))
    (x + y, a, b, c, d + x, e, f, g)
def kN (t : Nat) : Int32 := Int64.toInt32 (ushL (kT t) 32)
def rdsN (w : Nat → Int32) (v : V8 Int32) : Nat → V8 Int32
  | 0 => v
  | t + 1 => rdN (kN t) (w t) (rdsN w v t)
def rdsW (w : Nat → Int64) (v : V8 Int64) : Nat → V8 Int64
  | 0 => v
  | t + 1 => rdW (kT t) (w t) (rdsW w v t)
theorem rdsN_congr {w w' : Nat → Int32} {v : V8 Int32} : ∀ t, (∀ j, j < t → w j = w' j) → rdsN w v t = rdsN w' v t
  | 0, _ => rfl
  | t + 1, h => by rw [rdsN, rdsN, rdsN_congr t (fun j hj => h j (by omega)), h t (by omega)]
theorem rdsW_congr {w w' : Nat → Int64} {v : V8 Int64} : ∀ t, (∀ j, j < t → w j = w' j) → rdsW w v t = rdsW w' v t
  | 0, _ => rfl
  | t + 1, h => by rw [rdsW, rdsW, rdsW_congr t (fun j hj => h j (by omega)), h t (by omega)]
def v0N (w : Nat → Int64) : V8 Int32 := (Int64.toInt32 (w 0), Int64.toInt32 (w 1), Int64.toInt32 (w 2), Int64.toInt32 (w 3), Int64.toInt32 (w 4), Int64.toInt32 (w 5), Int64.toInt32 (w 6), Int64.toInt32 (w 7))
def v0W (w : Nat → Int64) : V8 Int64 := (w 0, w 1, w 2, w 3, w 4, w 5, w 6, w 7)
def fnN (w : Nat → Int64) (v : V8 Int32) (j : Nat) : Int64 := match v with
  | (a, b, c, d, e, f, g, h) => match j with
    | 0 => (w 0 + Int32.toInt64 a) &&& 4294967295
    | 1 => (w 1 + Int32.toInt64 b) &&& 4294967295
    | 2 => (w 2 + Int32.toInt64 c) &&& 4294967295
    | 3 => (w 3 + Int32.toInt64 d) &&& 4294967295
    | 4 => (w 4 + Int32.toInt64 e) &&& 4294967295
    | 5 => (w 5 + Int32.toInt64 f) &&& 4294967295
    | 6 => (w 6 + Int32.toInt64 g) &&& 4294967295
    | _ => (w 7 + Int32.toInt64 h) &&& 4294967295
def fnW (w : Nat → Int64) (v : V8 Int64) (j : Nat) : Int64 := match v with
  | (a, b, c, d, e, f, g, h) => match j with
    | 0 => w 0 + a
    | 1 => w 1 + b
    | 2 => w 2 + c
    | 3 => w 3 + d
    | 4 => w 4 + e
    | 5 => w 5 + f
    | 6 => w 6 + g
    | _ => w 7 + h
def mxN (w : Nat → Int64) (s : Nat → Int32) (j : Nat) : Int64 := fnN w (rdsN s (v0N w) 64) j
def mxW (w : Nat → Int64) (s : Nat → Int64) (j : Nat) : Int64 := fnW w (rdsW s (v0W w) 80) j
def bs (k : Nat) : Nat := if k < 2 then 64 else 128
def ds (k : Nat) : Nat := if k = 0 then 28 else if k = 1 then 32 else if k = 2 then 48 else 64
/-- a block l of kind k goes into the words w -/
def cmpr (k : Nat) (w : Nat → Int64) (l : List Nat) : Nat → Int64 := if k < 2 then mxN w (sN (oL l)) else mxW w (sW (oL l))
abbrev HS : Type := (Nat → Int64) × List Nat
/-- an octet c comes -/
def plc (k : Nat) (h : HS) (c : Nat) : HS := if h.2.length + 1 < bs k then (h.1, h.2 ++ [c]) else (cmpr k h.1 (h.2 ++ [c]), [])
def plcs (k : Nat) (h : HS) (l : List Nat) : HS := l.foldl (plc k) h
def fstW (k j : Nat) : Int64 := if k = 0 then sqB j &&& 4294967295 else if k = 1 then ushL (sqA j) 32 else if k = 2 then sqB j else sqA j
def hs0 (k : Nat) : HS := (fstW k, [])
/-- the class's hash: kind k, z octets in the block, words wf, block bf -/
def HsR (k z : Nat) (wf : Nat → Int64) (bf : Nat → Int32) (h : HS) : Prop := k < 4 ∧ z = h.2.length ∧ h.2.length < bs k ∧ (∀ c ∈ h.2, c < 256) ∧ (∀ j, j < 8 → wf j = h.1 j) ∧ sb_Fit bf ∧ ∀ j, j < z → bf j = i2b (nI (h.2.getD j 0))
theorem v0N_congr {w w' : Nat → Int64} (h : ∀ j, j < 8 → w j = w' j) : v0N w = v0N w' := by
  simp only [v0N, h 0 (by decide), h 1 (by decide), h 2 (by decide), h 3 (by decide), h 4 (by decide), h 5 (by decide), h 6 (by decide), h 7 (by decide)]
theorem v0W_congr {w w' : Nat → Int64} (h : ∀ j, j < 8 → w j = w' j) : v0W w = v0W w' := by
  simp only [v0W, h 0 (by decide), h 1 (by decide), h 2 (by decide), h 3 (by decide), h 4 (by decide), h 5 (by decide), h 6 (by decide), h 7 (by decide)]
theorem fnN_congr {w w' : Nat → Int64} (h : ∀ j, j < 8 → w j = w' j) (v : V8 Int32) : ∀ j, fnN w v j = fnN w' v j := by
  obtain ⟨a, b, c, d, e, f, g, i⟩ := v
  intro j
  unfold fnN
  split <;> simp only [h 0 (by decide), h 1 (by decide), h 2 (by decide), h 3 (by decide), h 4 (by decide), h 5 (by decide), h 6 (by decide), h 7 (by decide)]
theorem fnW_congr {w w' : Nat → Int64} (h : ∀ j, j < 8 → w j = w' j) (v : V8 Int64) : ∀ j, fnW w v j = fnW w' v j := by
  obtain ⟨a, b, c, d, e, f, g, i⟩ := v
  intro j
  unfold fnW
  split <;> simp only [h 0 (by decide), h 1 (by decide), h 2 (by decide), h 3 (by decide), h 4 (by decide), h 5 (by decide), h 6 (by decide), h 7 (by decide)]
theorem mxN_congr {w w' : Nat → Int64} {s s' : Nat → Int32} (h : ∀ j, j < 8 → w j = w' j) (hs : ∀ j, j < 64 → s j = s' j) (j : Nat) : mxN w s j = mxN w' s' j := by
  unfold mxN
  rw [v0N_congr h, rdsN_congr 64 hs, fnN_congr h]
theorem mxW_congr {w w' : Nat → Int64} {s s' : Nat → Int64} (h : ∀ j, j < 8 → w j = w' j) (hs : ∀ j, j < 80 → s j = s' j) (j : Nat) : mxW w s j = mxW w' s' j := by
  unfold mxW
  rw [v0W_congr h, rdsW_congr 80 hs, fnW_congr h]
theorem bsI_nI {k : Nat} (h : k < 4) : bsI (nI k) = nI (bs k) := by
  have : ∀ k : Fin 4, bsI (nI k.val) = nI (bs k.val) := by decide
  exact this ⟨k, h⟩
theorem dsI_nI {k : Nat} (h : k < 4) : dsI (nI k) = nI (ds k) := by
  have : ∀ k : Fin 4, dsI (nI k.val) = nI (ds k.val) := by decide
  exact this ⟨k, h⟩
theorem wdI_0 {k : Nat} (h : k < 4) (hw : wdI (nI k) = 0) : k < 2 := by
  have : ∀ k : Fin 4, wdI (nI k.val) = 0 → k.val < 2 := by decide
  exact this ⟨k, h⟩ hw
theorem wdI_1 {k : Nat} (h : k < 4) (hw : ¬ wdI (nI k) = 0) : ¬ k < 2 := by
  have : ∀ k : Fin 4, ¬ wdI (nI k.val) = 0 → ¬ k.val < 2 := by decide
  exact this ⟨k, h⟩ hw
theorem bs_le (k : Nat) : bs k ≤ 128 := by unfold bs; split <;> decide
theorem bs_pos (k : Nat) : 0 < bs k := by unfold bs; split <;> decide
theorem ds_le (k : Nat) : ds k ≤ 64 := by unfold ds; split <;> (try split) <;> (try split) <;> decide
