/-! octets and rows -/
def o8 (x : Int32) : Nat := x.toBitVec.toNat % 256
theorem o8_lt (x : Int32) : o8 x < 256 := Nat.mod_lt _ (by decide)
theorem o8_and (x : Int32) : x &&& 255 = nI (o8 x) := pk_and x 8 rfl
theorem i2b_and (x : Int32) : i2b x &&& 255 = nI (o8 x) := by
  rw [← o8_and]
  apply Int32.toBitVec_inj.mp
  apply BitVec.eq_of_getLsbD_eq
  intro i hi
  have h255 : (255 : Int32).toBitVec.getLsbD i = decide (i < 8) := (by decide : ∀ k : Fin 32, (255 : Int32).toBitVec.getLsbD k.val = decide (k.val < 8)) ⟨i, hi⟩
  simp only [i2b, Int32.toBitVec_and, Int8.toBitVec_toInt32, Int32.toBitVec_toInt8, BitVec.getLsbD_and, BitVec.getLsbD_signExtend, h255]
  by_cases h8 : i < 8
  · simp [h8, hi]
  · simp [h8]
theorem i2b_o8 (x : Int32) : i2b x = i2b (nI (o8 x)) := by
  have h : x.toInt8 = (nI (o8 x)).toInt8 := by
    apply Int8.toBitVec_inj.mp
    rw [Int32.toBitVec_toInt8, Int32.toBitVec_toInt8]
    apply BitVec.eq_of_getLsbD_eq
    intro i hi
    have e : (nI (o8 x)).toBitVec.getLsbD i = x.toBitVec.getLsbD i := by
      rw [BitVec.getLsbD, BitVec.getLsbD, pk_tn (Nat.lt_trans (o8_lt x) (by decide)), o8, show (256 : Nat) = 2 ^ 8 from rfl, Nat.testBit_mod_two_pow]
      simp [hi]
    simp only [BitVec.getLsbD_signExtend, e]
    simp [show i < 32 by omega]
  unfold i2b
  rw [h]
theorem o8_nI {c : Nat} (h : c < 256) : o8 (nI c) = c := by unfold o8; rw [pk_tn (by omega)]; omega
theorem nar_i2b (x : Int32) : vp_nar .byte (i2b x) = i2b x := pk_vb x
/-- the row f of room n, of z octets, holds q -/
def RowR (n : Nat) (f : Nat → Int32) (z : Nat) (q : List Nat) : Prop := z = q.length ∧ z ≤ n ∧ n < 2 ^ 31 ∧ (∀ c ∈ q, c < 256) ∧ ∀ j, j < z → f j = i2b (nI (q.getD j 0))
theorem getD_lt {q : List Nat} (h : ∀ c ∈ q, c < 256) (j : Nat) : q.getD j 0 < 256 := by
  rw [List.getD_eq_getElem?_getD]
  cases e : q[j]? with
  | none => simp
  | some c => simpa using h c (List.mem_of_getElem? e)
theorem RowR.at {n z : Nat} {f : Nat → Int32} {q : List Nat} (h : RowR n f z q) {j : Nat} (hj : j < z) : f j &&& 255 = nI (q.getD j 0) := by
  rw [h.2.2.2.2 j hj, i2b_and, o8_nI (getD_lt h.2.2.2.1 j)]
theorem RowR.nil {n : Nat} {f : Nat → Int32} (hn : n < 2 ^ 31) : RowR n f 0 [] := ⟨rfl, Nat.zero_le _, hn, fun _ h => absurd h List.not_mem_nil, fun _ h => absurd h (Nat.not_lt_zero _)⟩
theorem RowR.push {n z : Nat} {f : Nat → Int32} {q : List Nat} (h : RowR n f z q) (hz : z < n) {x : Int32} : RowR n (upd f z (vp_nar .byte (i2b x))) (z + 1) (q ++ [o8 x]) := by
  obtain ⟨h1, h2, h3, h4, h5⟩ := h
  refine ⟨by rw [List.length_append, h1]; rfl, hz, h3, fun c hc => ?_, fun j hj => ?_⟩
  · rcases List.mem_append.mp hc with h | h
    · exact h4 c h
    · rw [List.mem_singleton.mp h]; exact o8_lt x
  · rcases Nat.lt_or_ge j z with hl | hl
    · rw [pk_un (by omega), h5 j hl, List.getD_eq_getElem?_getD, List.getD_eq_getElem?_getD, List.getElem?_append_left (by omega)]
    · have : j = z := by omega
      subst this
      rw [pk_us, nar_i2b, i2b_o8, List.getD_eq_getElem?_getD, List.getElem?_append_right (by omega), h1]
      simp
def rowAt (q : List Nat) (i : Int32) : Int32 := if i < 0 then -1 else if nI q.length ≤ i then -1 else nI (q.getD i.toNatClampNeg 0)
def rowAtZ (q : List Nat) (i : Int32) : Int32 := if rowAt q i < 0 then 0 else rowAt q i
theorem row_ix {i : Int32} {z : Nat} (h0 : ¬ i < 0) (h1 : ¬ nI z ≤ i) (hz : z < 2 ^ 31) : ∃ j : Nat, j < z ∧ i = nI j := by
  rcases pk_ix i hz with h | h | h
  · exact absurd h h0
  · exact absurd h h1
  · exact h
theorem rowAt_in {q : List Nat} {j : Nat} (h : j < q.length) (hq : q.length < 2 ^ 31) : rowAt q (nI j) = nI (q.getD j 0) := by
  unfold rowAt
  rw [if_neg (nI_pos (by omega)), if_neg (nI_ge h hq), nI_clamp (by omega)]
theorem rowAt_out {q : List Nat} {j : Nat} (h : q.length ≤ j) (hj : j < 2 ^ 31) : rowAt q (nI j) = -1 := by
  unfold rowAt
  rw [if_neg (nI_pos hj), if_pos (nI_le h hj)]
theorem rowAtZ_nI {q : List Nat} {j : Nat} (hj : j < 2 ^ 31) (hq : q.length < 2 ^ 31) (h4 : ∀ c ∈ q, c < 256) : rowAtZ q (nI j) = nI (q.getD j 0) := by
  unfold rowAtZ
  rcases Nat.lt_or_ge j q.length with h | h
  · rw [rowAt_in h hq, if_neg (nI_pos (by have := getD_lt h4 j; omega))]
  · rw [rowAt_out h hj, if_pos (by decide), List.getD_eq_getElem?_getD, List.getElem?_eq_none h]
    rfl
theorem o8_rowAtZ {q : List Nat} {j : Nat} (hj : j < 2 ^ 31) (hq : q.length < 2 ^ 31) (h4 : ∀ c ∈ q, c < 256) : o8 (rowAtZ q (nI j)) = q.getD j 0 := by
  rw [rowAtZ_nI hj hq h4, o8_nI (getD_lt h4 j)]
def bsI (x : Int32) : Int32 := if x < 2 then 64 else 128
def dsI (x : Int32) : Int32 := if x < 0 then 0 else if 4 ≤ x then 0 else dsz x.toNatClampNeg
def wdI (x : Int32) : Int32 := if x < 2 then 0 else 1
def rotI (x n : Int32) : Int32 := ushI x n ||| (x <<< ((-n) &&& 31))
def rotL (x : Int64) (n : Int32) : Int64 := ushL x n ||| shlL x (-n)
