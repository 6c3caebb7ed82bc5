/-! the reference's slots -/
abbrev MS : Type := (Nat → Int32) × (Nat → Int32) × (Nat → Int64) × (Nat → Int32) × (Nat → Int64)
/-- slot sl of the reference (kinds, fills, states, buffers, totals) holds the hash h of kind k, t octets in all -/
def MsR (M : MS) (sl k t : Nat) (h : HS) : Prop := k < 4 ∧ M.1 sl = nI k ∧ M.2.1 sl = nI h.2.length ∧ h.2.length < bs k ∧ (∀ c ∈ h.2, c < 256) ∧ (∀ j, j < 8 → M.2.2.1 (8 * sl + j) = h.1 j) ∧ (∀ j, j < h.2.length → M.2.2.2.1 (128 * sl + j) = nI (h.2.getD j 0)) ∧ M.2.2.2.2 sl = lN t
/-- the slots but those of L are as before -/
def MsO (L : List Nat) (M M' : MS) : Prop := ∀ x, x < 9 → x ∉ L → M'.1 x = M.1 x ∧ M'.2.1 x = M.2.1 x ∧ (∀ j, j < 8 → M'.2.2.1 (8 * x + j) = M.2.2.1 (8 * x + j)) ∧ (∀ j, j < 128 → M'.2.2.2.1 (128 * x + j) = M.2.2.2.1 (128 * x + j)) ∧ M'.2.2.2.2 x = M.2.2.2.2 x
theorem MsO.refl (L : List Nat) (M : MS) : MsO L M M := fun _ _ _ => ⟨rfl, rfl, fun _ _ => rfl, fun _ _ => rfl, rfl⟩
theorem MsO.trans {L L1 L2 : List Nat} {M M1 M2 : MS} (a : MsO L1 M M1) (b : MsO L2 M1 M2) (h1 : ∀ x ∈ L1, x ∈ L) (h2 : ∀ x ∈ L2, x ∈ L) : MsO L M M2 := fun x hx hn => by
  obtain ⟨a1, a2, a3, a4, a5⟩ := a x hx (fun h => hn (h1 x h))
  obtain ⟨b1, b2, b3, b4, b5⟩ := b x hx (fun h => hn (h2 x h))
  exact ⟨b1.trans a1, b2.trans a2, fun j hj => (b3 j hj).trans (a3 j hj), fun j hj => (b4 j hj).trans (a4 j hj), b5.trans a5⟩
theorem MsO.tr {L : List Nat} {M M1 M2 : MS} (a : MsO L M M1) (b : MsO L M1 M2) : MsO L M M2 := a.trans b (fun _ h => h) (fun _ h => h)
theorem MsR.keep {L : List Nat} {M M' : MS} {x k t : Nat} {h : HS} (a : MsR M x k t h) (b : MsO L M M') (hx : x < 9) (hn : x ∉ L) : MsR M' x k t h := by
  obtain ⟨a1, a2, a3, a4, a5, a6, a7, a8⟩ := a
  obtain ⟨b1, b2, b3, b4, b5⟩ := b x hx hn
  have := bs_le k
  exact ⟨a1, b1.trans a2, b2.trans a3, a4, a5, fun j hj => (b3 j hj).trans (a6 j hj), fun j hj => (b4 j (by omega)).trans (a7 j hj), b5.trans a8⟩
theorem MsR.l31 {M : MS} {x k t : Nat} {h : HS} (a : MsR M x k t h) : h.2.length < 128 := Nat.lt_of_lt_of_le a.2.2.2.1 (bs_le k)
/-- octets at the places 0, 1 .. -/
def Ls (f : Nat → Int32) (q : List Nat) : Prop := (∀ c ∈ q, c < 256) ∧ ∀ i, i < q.length → f i = nI (q.getD i 0)
theorem updO {α : Type} {f : Nat → α} {g : Nat → α} (h : ∀ i, f i = g i) : f = g := funext h
theorem stU {g g' sf : Nat → Int64} {sl j k : Nat} {v : Int64} (hI : j ≤ 8 ∧ (∀ i, i < j → g (8 * sl + i) = fstW k i) ∧ ∀ x, (x < 8 * sl ∨ 8 * sl + 8 ≤ x) → g x = sf x) (hj : j < 8) (e : g' = vp_updL g (8 * sl + j) v) (hv : v = fstW k j) : j + 1 ≤ 8 ∧ (∀ i, i < j + 1 → g' (8 * sl + i) = fstW k i) ∧ ∀ x, (x < 8 * sl ∨ 8 * sl + 8 ≤ x) → g' x = sf x := by
  refine ⟨hj, fun i hi => ?_, fun x hx => ?_⟩
  · rcases Nat.lt_or_ge i j with c | c
    · rw [e, pk_uLn (by omega)]; exact hI.2.1 i c
    · have : i = j := by omega
      subst this
      rw [e, pk_uLs, hv]
  · rw [e, pk_uLn (by omega)]; exact hI.2.2 x hx
theorem stE {kf ff bf kf1 ff1 : Nat → Int32} {tf sf tf1 g : Nat → Int64} {sl k j : Nat} (hk : k < 4) (hI : j ≤ 8 ∧ (∀ i, i < j → g (8 * sl + i) = fstW k i) ∧ ∀ x, (x < 8 * sl ∨ 8 * sl + 8 ≤ x) → g x = sf x) (hg : 8 ≤ j) (e1 : kf1 = upd kf sl (nI k)) (e2 : ff1 = upd ff sl (nI 0)) (e3 : tf1 = vp_updL tf sl (lN 0)) : MsR (kf1, ff1, g, bf, tf1) sl k 0 (hs0 k) ∧ MsO [sl] (kf, ff, sf, bf, tf) (kf1, ff1, g, bf, tf1) := by
  refine ⟨⟨hk, by rw [e1]; exact pk_us, by rw [e2]; exact pk_us, bs_pos k, fun _ h => absurd h List.not_mem_nil, fun i hi => hI.2.1 i (by omega), fun _ h => absurd h (Nat.not_lt_zero _), by rw [e3]; exact pk_uLs⟩, fun x hx hn => ?_⟩
  have hne : x ≠ sl := fun h => hn (by rw [h]; exact List.mem_singleton.mpr rfl)
  exact ⟨by rw [e1]; exact pk_un hne, by rw [e2]; exact pk_un hne, fun i hi => hI.2.2 _ (by omega), fun _ _ => rfl, by rw [e3]; exact pk_uLn hne⟩
theorem abA {kf ff bf bf1 ff1 : Nat → Int32} {sf tf tf1 : Nat → Int64} {sl k t ch : Nat} {h : HS} (hM : MsR (kf, ff, sf, bf, tf) sl k t h) (hch : ch < 256) (eb : bf1 = upd bf (128 * sl + h.2.length) (nI ch)) (ef : ff1 = upd ff sl (nI (h.2.length + 1))) (et : tf1 = vp_updL tf sl (lN (t + 1))) (hn : ¬ nI (h.2.length + 1) = nI (bs k)) : MsR (kf, ff1, sf, bf1, tf1) sl k (t + 1) (plc k h ch) ∧ MsO [sl] (kf, ff, sf, bf, tf) (kf, ff1, sf, bf1, tf1) := by
  obtain ⟨a1, a2, a3, a4, a5, a6, a7, a8⟩ := hM
  have hb := bs_le k
  have hl : h.2.length + 1 < bs k := by
    rcases Nat.lt_or_ge (h.2.length + 1) (bs k) with c | c
    · exact c
    · exact absurd (by rw [show h.2.length + 1 = bs k by omega]) hn
  have hp : plc k h ch = (h.1, h.2 ++ [ch]) := by unfold plc; rw [if_pos hl]
  rw [hp]
  refine ⟨⟨a1, a2, by rw [ef, List.length_append]; exact pk_us, by rw [List.length_append]; exact hl, fun c hc => ?_, a6, fun j hj => ?_, by rw [et]; exact pk_uLs⟩, fun x hx hne0 => ?_⟩
  · rcases List.mem_append.mp hc with g | g
    · exact a5 c g
    · rw [List.mem_singleton.mp g]; exact hch
  · have hj' : j < h.2.length + 1 := by simpa using hj
    show bf1 (128 * sl + j) = _
    rcases Nat.lt_or_ge j h.2.length with c | c
    · rw [eb, pk_un (by omega), getD_app _ c]; exact a7 j c
    · have : j = h.2.length := by omega
      rw [eb, this, pk_us, getD_snoc]
  · have hne : x ≠ sl := fun h => hne0 (by rw [h]; exact List.mem_singleton.mpr rfl)
    exact ⟨rfl, by rw [ef]; exact pk_un hne, fun _ _ => rfl, fun j hj => by show bf1 _ = bf _; rw [eb]; exact pk_un (by omega), by rw [et]; exact pk_uLn hne⟩
theorem abF {kf ff bf bf1 ff1 ff2 : Nat → Int32} {sf sf1 tf tf1 : Nat → Int64} {sl k t ch : Nat} {h : HS} (hM : MsR (kf, ff, sf, bf, tf) sl k t h) (hch : ch < 256) (eb : bf1 = upd bf (128 * sl + h.2.length) (nI ch)) (ef : ff1 = upd ff sl (nI (h.2.length + 1))) (et : tf1 = vp_updL tf sl (lN (t + 1))) (ef2 : ff2 = upd ff1 sl (nI 0)) (hn : nI (h.2.length + 1) = nI (bs k))
    (hw : ∀ j, j < 8 → sf1 (8 * sl + j) = (if k < 2 then mxN (wM sf sl) (sN (oM bf1 sl)) j else mxW (wM sf sl) (sW (oM bf1 sl)) j)) (ho : ∀ i, (i < 8 * sl ∨ 8 * sl + 8 ≤ i) → sf1 i = sf i) : MsR (kf, ff2, sf1, bf1, tf1) sl k (t + 1) (plc k h ch) ∧ MsO [sl] (kf, ff, sf, bf, tf) (kf, ff2, sf1, bf1, tf1) := by
  obtain ⟨a1, a2, a3, a4, a5, a6, a7, a8⟩ := hM
  have hb := bs_le k
  have hl : h.2.length + 1 = bs k := (nI_eq (by omega) (by omega)).mp hn
  have hp : plc k h ch = (cmpr k h.1 (h.2 ++ [ch]), []) := by unfold plc; rw [if_neg (by omega)]
  rw [hp]
  have hblk : ∀ j, j < bs k → oM bf1 sl j = oL (h.2 ++ [ch]) j := by
    intro j hj
    unfold oM oL
    rcases Nat.lt_or_ge j h.2.length with c | c
    · rw [eb, pk_un (by omega), getD_app _ c]; exact a7 j c
    · have : j = h.2.length := by omega
      rw [eb, this, pk_us, getD_snoc]
  refine ⟨⟨a1, a2, by rw [ef2]; exact pk_us, bs_pos k, fun _ h => absurd h List.not_mem_nil, fun j hj => ?_, fun _ h => absurd h (Nat.not_lt_zero _), by rw [et]; exact pk_uLs⟩, fun x hx hne0 => ?_⟩
  · show sf1 (8 * sl + j) = cmpr k h.1 (h.2 ++ [ch]) j
    rw [hw j hj]
    unfold cmpr
    by_cases c : k < 2
    · rw [if_pos c, if_pos c]
      have h64 : bs k = 64 := by unfold bs; rw [if_pos c]
      exact mxN_congr (fun i hi => a6 i hi) (fun i hi => sN_congr (fun i hi => hblk i (by omega)) i) j
    · rw [if_neg c, if_neg c]
      have h128 : bs k = 128 := by unfold bs; rw [if_neg c]
      exact mxW_congr (fun i hi => a6 i hi) (fun i hi => sW_congr (fun i hi => hblk i (by omega)) i) j
  · have hne : x ≠ sl := fun h => hne0 (by rw [h]; exact List.mem_singleton.mpr rfl)
    exact ⟨rfl, by rw [ef2, ef]; exact (pk_un hne).trans (pk_un hne), fun i hi => ho _ (by omega), fun j hj => by show bf1 _ = bf _; rw [eb]; exact pk_un (by omega), by rw [et]; exact pk_uLn hne⟩
/-- slot a is as slot b was -/
def MsC (a b : Nat) (M M' : MS) : Prop := M'.1 a = M.1 b ∧ M'.2.1 a = M.2.1 b ∧ (∀ j, j < 8 → M'.2.2.1 (8 * a + j) = M.2.2.1 (8 * b + j)) ∧ (∀ j, j < 128 → M'.2.2.2.1 (128 * a + j) = M.2.2.2.1 (128 * b + j)) ∧ M'.2.2.2.2 a = M.2.2.2.2 b
theorem MsR.copy {M M' : MS} {a b k t : Nat} {h : HS} (x : MsR M b k t h) (y : MsC a b M M') : MsR M' a k t h := by
  obtain ⟨a1, a2, a3, a4, a5, a6, a7, a8⟩ := x
  obtain ⟨b1, b2, b3, b4, b5⟩ := y
  have := bs_le k
  exact ⟨a1, b1.trans a2, b2.trans a3, a4, a5, fun j hj => (b3 j hj).trans (a6 j hj), fun j hj => (b4 j (by omega)).trans (a7 j hj), b5.trans a8⟩
theorem csL {a b n j : Nat} {g g' f : Nat → Int64} {v : Int64} (hI : j ≤ n ∧ (∀ i, i < j → g (n * a + i) = f (n * b + i)) ∧ ∀ x, (x < n * a ∨ n * a + j ≤ x) → g x = f x) (hj : j < n) (e : g' = vp_updL g (n * a + j) v) (hv : v = g (n * b + j)) : j + 1 ≤ n ∧ (∀ i, i < j + 1 → g' (n * a + i) = f (n * b + i)) ∧ ∀ x, (x < n * a ∨ n * a + (j + 1) ≤ x) → g' x = f x := by
  have hr : g (n * b + j) = f (n * b + j) := by
    apply hI.2.2
    rcases Nat.lt_or_ge b a with c | c
    · left
      have : n * (b + 1) ≤ n * a := Nat.mul_le_mul_left n c
      rw [Nat.mul_add] at this
      omega
    · right
      have : n * a ≤ n * b := Nat.mul_le_mul_left n c
      omega
  refine ⟨hj, fun i hi => ?_, fun x hx => ?_⟩
  · rcases Nat.lt_or_ge i j with c | c
    · rw [e, pk_uLn (by omega)]; exact hI.2.1 i c
    · have : i = j := by omega
      subst this
      rw [e, pk_uLs, hv, hr]
  · rw [e, pk_uLn (by omega)]; exact hI.2.2 x (by omega)
theorem csI {a b n j : Nat} {g g' f : Nat → Int32} {v : Int32} (hI : j ≤ n ∧ (∀ i, i < j → g (n * a + i) = f (n * b + i)) ∧ ∀ x, (x < n * a ∨ n * a + j ≤ x) → g x = f x) (hj : j < n) (e : g' = upd g (n * a + j) v) (hv : v = g (n * b + j)) : j + 1 ≤ n ∧ (∀ i, i < j + 1 → g' (n * a + i) = f (n * b + i)) ∧ ∀ x, (x < n * a ∨ n * a + (j + 1) ≤ x) → g' x = f x := by
  have hr : g (n * b + j) = f (n * b + j) := by
    apply hI.2.2
    rcases Nat.lt_or_ge b a with c | c
    · left
      have : n * (b + 1) ≤ n * a := Nat.mul_le_mul_left n c
      rw [Nat.mul_add] at this
      omega
    · right
      have : n * a ≤ n * b := Nat.mul_le_mul_left n c
      omega
  refine ⟨hj, fun i hi => ?_, fun x hx => ?_⟩
  · rcases Nat.lt_or_ge i j with c | c
    · rw [e, pk_un (by omega)]; exact hI.2.1 i c
    · have : i = j := by omega
      subst this
      rw [e, pk_us, hv, hr]
  · rw [e, pk_un (by omega)]; exact hI.2.2 x (by omega)
theorem csE {kf ff bf kf1 ff1 bf1 : Nat → Int32} {tf sf tf1 sf1 : Nat → Int64} {a b i j : Nat} {vk vf : Int32} {vt : Int64} (e1 : kf1 = upd kf a vk) (hk : vk = kf b) (e2 : ff1 = upd ff a vf) (hf : vf = ff b) (e3 : tf1 = vp_updL tf a vt) (ht : vt = tf b) (hI : i ≤ 8 ∧ (∀ x, x < i → sf1 (8 * a + x) = sf (8 * b + x)) ∧ ∀ x, (x < 8 * a ∨ 8 * a + i ≤ x) → sf1 x = sf x) (h8 : 8 ≤ i)
    (hJ : j ≤ 128 ∧ (∀ x, x < j → bf1 (128 * a + x) = bf (128 * b + x)) ∧ ∀ x, (x < 128 * a ∨ 128 * a + j ≤ x) → bf1 x = bf x) (h128 : 128 ≤ j) : MsC a b (kf, ff, sf, bf, tf) (kf1, ff1, sf1, bf1, tf1) ∧ MsO [a] (kf, ff, sf, bf, tf) (kf1, ff1, sf1, bf1, tf1) := by
  refine ⟨⟨by rw [e1]; exact pk_us.trans hk, by rw [e2]; exact pk_us.trans hf, fun x hx => hI.2.1 x (by omega), fun x hx => hJ.2.1 x (by omega), by rw [e3]; exact pk_uLs.trans ht⟩, fun x hx hn => ?_⟩
  have hne : x ≠ a := fun h => hn (by rw [h]; exact List.mem_singleton.mpr rfl)
  exact ⟨by rw [e1]; exact pk_un hne, by rw [e2]; exact pk_un hne, fun y hy => hI.2.2 _ (by omega), fun y hy => hJ.2.2 _ (by omega), by rw [e3]; exact pk_uLn hne⟩
set_option maxHeartbeats 4000000 in
set_option maxRecDepth 100000 in
theorem c_X4_start (l : Launch) (G : GW) (sz : Nat) (o : Nat) (ad : Nat → Nat) (sz1 : Int32) (osz : Int32) (th : Int32) (hsz : Int32) (sl : Nat) (k : Nat) (kf : Nat → Int32) (ff : Nat → Int32) (tf : Nat → Int64) (sf : Nat → Int64) (gf : Nat → Int64) (hs : sl < 9) (hk : k < 4) (hgf : ∀ j, j < 8 → gf j = sqA j ∧ gf (8 + j) = sqB j) : Met l yX4_start (Cond.code yX4_start cX4_start 6 (none : Option FieldType) :: UW) ({ frames := 0, cells := 0, slots := 0, locals := 0 } : Room) (va_Pc [.ref o, .int (nI sl), .int (nI k)] (gPre G [(o, .inr (4, mF ad sz1 osz th hsz)), (ad 4, .inl (G.2.1 1, 9, .inl kf)), (ad 7, .inl (G.2.1 1, 9, .inl ff)), (ad 8, .inl (G.2.1 2, 9, .inr (.inl tf))), (ad 5, .inl (G.2.1 2, 72, .inr (.inl sf))), (ad 3, .inl (G.2.1 2, 16, .inr (.inl gf)))] sz)) (va_Qv (fun (uq9 : (Nat → Int32) × (Nat → Int32) × (Nat → Int64) × (Nat → Int64)) => ∀ bf : Nat → Int32, MsR (uq9.1, uq9.2.1, uq9.2.2.2, bf, uq9.2.2.1) sl k 0 (hs0 k) ∧ MsO [sl] (kf, ff, sf, bf, tf) (uq9.1, uq9.2.1, uq9.2.2.2, bf, uq9.2.2.1)) (fun u => gPost G (va_A [(o, .inr (4, mF ad sz1 osz th hsz)), (ad 4, .inl (G.2.1 1, 9, .inl kf)), (ad 7, .inl (G.2.1 1, 9, .inl ff)), (ad 8, .inl (G.2.1 2, 9, .inr (.inl tf))), (ad 5, .inl (G.2.1 2, 72, .inr (.inl sf))), (ad 3, .inl (G.2.1 2, 16, .inr (.inl gf)))] sz) ((fun (uq9 : (Nat → Int32) × (Nat → Int32) × (Nat → Int64) × (Nat → Int64)) => ([(o, .inr (4, mF ad sz1 osz th hsz)), (ad 4, .inl (G.2.1 1, 9, .inl uq9.1)), (ad 7, .inl (G.2.1 1, 9, .inl uq9.2.1)), (ad 8, .inl (G.2.1 2, 9, .inr (.inl uq9.2.2.1))), (ad 5, .inl (G.2.1 2, 72, .inr (.inl uq9.2.2.2))), (ad 3, .inl (G.2.1 2, 16, .inr (.inl gf)))] : va_W)) u)) (va_A [(o, .inr (4, mF ad sz1 osz th hsz)), (ad 4, .inl (G.2.1 1, 9, .inl kf)), (ad 7, .inl (G.2.1 1, 9, .inl ff)), (ad 8, .inl (G.2.1 2, 9, .inr (.inl tf))), (ad 5, .inl (G.2.1 2, 72, .inr (.inl sf))), (ad 3, .inl (G.2.1 2, 16, .inr (.inl gf)))] sz)) 0 0 (va_A [(o, .inr (4, mF ad sz1 osz th hsz)), (ad 4, .inl (G.2.1 1, 9, .inl kf)), (ad 7, .inl (G.2.1 1, 9, .inl ff)), (ad 8, .inl (G.2.1 2, 9, .inr (.inl tf))), (ad 5, .inl (G.2.1 2, 72, .inr (.inl sf))), (ad 3, .inl (G.2.1 2, 16, .inr (.inl gf)))] sz) := by
  refine gM_of (Qf := fun A => va_Qv (fun (uq9 : (Nat → Int32) × (Nat → Int32) × (Nat → Int64) × (Nat → Int64)) => ∀ bf : Nat → Int32, MsR (uq9.1, uq9.2.1, uq9.2.2.2, bf, uq9.2.2.1) sl k 0 (hs0 k) ∧ MsO [sl] (kf, ff, sf, bf, tf) (uq9.1, uq9.2.1, uq9.2.2.2, bf, uq9.2.2.1)) (fun u => gPost G A ((fun (uq9 : (Nat → Int32) × (Nat → Int32) × (Nat → Int64) × (Nat → Int64)) => ([(o, .inr (4, mF ad sz1 osz th hsz)), (ad 4, .inl (G.2.1 1, 9, .inl uq9.1)), (ad 7, .inl (G.2.1 1, 9, .inl uq9.2.1)), (ad 8, .inl (G.2.1 2, 9, .inr (.inl uq9.2.2.1))), (ad 5, .inl (G.2.1 2, 72, .inr (.inl uq9.2.2.2))), (ad 3, .inl (G.2.1 2, 16, .inr (.inl gf)))] : va_W)) u)) A) (by decide) (Nat.le_of_ble_eq_true rfl) ?_
  intro p e s m below meth c A ls hx hb hml hr hown htu hlk hnm hA hP hD hS hK hZ hl
  have hown : s.vm.findClass RX4 = some m.cls := hown
  have hl : lv_has ls 6 [(0, .ref o), (1, .int (nI sl)), (2, .int (nI k))] := hl
  refine lv_aload_n hx hb dX4_start_0 rfl (lv_at hl 0 rfl) ?_
  refine va_get (D := G.1) (ci := 4) (v := .ref (ad 4)) (C := RX4) (T := TX4) (N := 29) hx hb htu iwX4 hown hK.1 hP 0 rfl rfl 4 (by decide) (htu _ uF_X4_20) (fun _ h9 => h9) rfl dX4_start_1 ?_
  refine lv_iload_n hx hb dX4_start_4 rfl (lv_at hl 1 rfl) ?_
  refine lv_iload_n hx hb dX4_start_5 rfl (lv_at hl 2 rfl) ?_
  refine g_iast hx hb hK.1 hP hD hS 1 1 rfl rfl ⟨hs, by decide⟩ dX4_start_6 (fun H locs hP hD hS => ?_)
  obtain ⟨g_1, eg_1⟩ : ∃ gq9 : Nat → Int32, gq9 = upd kf sl (nI k) := ⟨_, rfl⟩
  rw [← eg_1] at hP hD
  have hP : va_P G.1 vwCl [(o, .inr (4, mF ad sz1 osz th hsz)), (ad 4, .inl (G.2.1 1, 9, .inl g_1)), (ad 7, .inl (G.2.1 1, 9, .inl ff)), (ad 8, .inl (G.2.1 2, 9, .inr (.inl tf))), (ad 5, .inl (G.2.1 2, 72, .inr (.inl sf))), (ad 3, .inl (G.2.1 2, 16, .inr (.inl gf)))] H := hP
  have hD : va_D A [(o, .inr (4, mF ad sz1 osz th hsz)), (ad 4, .inl (G.2.1 1, 9, .inl g_1)), (ad 7, .inl (G.2.1 1, 9, .inl ff)), (ad 8, .inl (G.2.1 2, 9, .inr (.inl tf))), (ad 5, .inl (G.2.1 2, 72, .inr (.inl sf))), (ad 3, .inl (G.2.1 2, 16, .inr (.inl gf)))] := hD
  refine lv_aload_n hx hb dX4_start_7 rfl (lv_at hl 0 rfl) ?_
  refine va_get (D := G.1) (ci := 4) (v := .ref (ad 7)) (C := RX4) (T := TX4) (N := 29) hx hb htu iwX4 hown hK.1 hP 0 rfl rfl 7 (by decide) (htu _ uF_X4_29) (fun _ h9 => h9) rfl dX4_start_8 ?_
  refine lv_iload_n hx hb dX4_start_11 rfl (lv_at hl 1 rfl) ?_
  refine lv_iconst (v := nI 0) hx hb dX4_start_12 (by decide) ?_
  refine g_iast hx hb hK.1 hP hD hS 2 1 rfl rfl ⟨hs, by decide⟩ dX4_start_13 (fun H locs hP hD hS => ?_)
  obtain ⟨g_2, eg_2⟩ : ∃ gq9 : Nat → Int32, gq9 = upd ff sl (nI 0) := ⟨_, rfl⟩
  rw [← eg_2] at hP hD
  have hP : va_P G.1 vwCl [(o, .inr (4, mF ad sz1 osz th hsz)), (ad 4, .inl (G.2.1 1, 9, .inl g_1)), (ad 7, .inl (G.2.1 1, 9, .inl g_2)), (ad 8, .inl (G.2.1 2, 9, .inr (.inl tf))), (ad 5, .inl (G.2.1 2, 72, .inr (.inl sf))), (ad 3, .inl (G.2.1 2, 16, .inr (.inl gf)))] H := hP
  have hD : va_D A [(o, .inr (4, mF ad sz1 osz th hsz)), (ad 4, .inl (G.2.1 1, 9, .inl g_1)), (ad 7, .inl (G.2.1 1, 9, .inl g_2)), (ad 8, .inl (G.2.1 2, 9, .inr (.inl tf))), (ad 5, .inl (G.2.1 2, 72, .inr (.inl sf))), (ad 3, .inl (G.2.1 2, 16, .inr (.inl gf)))] := hD
  refine lv_aload_n hx hb dX4_start_14 rfl (lv_at hl 0 rfl) ?_
  refine va_get (D := G.1) (ci := 4) (v := .ref (ad 8)) (C := RX4) (T := TX4) (N := 29) hx hb htu iwX4 hown hK.1 hP 0 rfl rfl 8 (by decide) (htu _ uF_X4_32) (fun _ h9 => h9) rfl dX4_start_15 ?_
  refine lv_iload_n hx hb dX4_start_18 rfl (lv_at hl 1 rfl) ?_
  refine lv_lconst (v := 0) hx hb dX4_start_19 (by decide) ?_
  refine g_tol (y := lN 0) (rfl) ?_
  refine g_last hx hb hK.1 hP hD hS 3 2 rfl rfl ⟨hs, by decide⟩ dX4_start_20 (fun H locs hP hD hS => ?_)
  obtain ⟨g_3, eg_3⟩ : ∃ gq9 : Nat → Int64, gq9 = vp_updL tf sl (lN 0) := ⟨_, rfl⟩
  rw [← eg_3] at hP hD
  have hP : va_P G.1 vwCl [(o, .inr (4, mF ad sz1 osz th hsz)), (ad 4, .inl (G.2.1 1, 9, .inl g_1)), (ad 7, .inl (G.2.1 1, 9, .inl g_2)), (ad 8, .inl (G.2.1 2, 9, .inr (.inl g_3))), (ad 5, .inl (G.2.1 2, 72, .inr (.inl sf))), (ad 3, .inl (G.2.1 2, 16, .inr (.inl gf)))] H := hP
  have hD : va_D A [(o, .inr (4, mF ad sz1 osz th hsz)), (ad 4, .inl (G.2.1 1, 9, .inl g_1)), (ad 7, .inl (G.2.1 1, 9, .inl g_2)), (ad 8, .inl (G.2.1 2, 9, .inr (.inl g_3))), (ad 5, .inl (G.2.1 2, 72, .inr (.inl sf))), (ad 3, .inl (G.2.1 2, 16, .inr (.inl gf)))] := hD
  refine lv_iconst (v := nI 0) hx hb dX4_start_21 (by decide) ?_
  refine lv_istore_n (lv' := [(3, .int (nI 0)), (0, .ref o), (1, .int (nI sl)), (2, .int (nI k))]) hx hb dX4_start_22 rfl hl (by decide) rfl (fun ls hl => ?_)
  refine g_loop (σ := Nat × (Nat → Int64)) (G := G) (fun xq9 : Nat × (Nat → Int64) => [(o, .inr (4, mF ad sz1 osz th hsz)), (ad 4, .inl (G.2.1 1, 9, .inl g_1)), (ad 7, .inl (G.2.1 1, 9, .inl g_2)), (ad 8, .inl (G.2.1 2, 9, .inr (.inl g_3))), (ad 5, .inl (G.2.1 2, 72, .inr (.inl xq9.2))), (ad 3, .inl (G.2.1 2, 16, .inr (.inl gf)))]) (fun xq9 : Nat × (Nat → Int64) => [(0, .ref o), (1, .int (nI sl)), (2, .int (nI k)), (3, .int (nI xq9.1))]) (fun xq9 : Nat × (Nat → Int64) => xq9.1 ≤ 8 ∧ (∀ i, i < xq9.1 → xq9.2 (8 * sl + i) = fstW k i) ∧ ∀ x, (x < 8 * sl ∨ 8 * sl + 8 ≤ x) → xq9.2 x = sf x) (fun xq9 : Nat × (Nat → Int64) => 8 - xq9.1) ?_ (0, sf) (show 0 ≤ 8 ∧ (∀ i, i < 0 → sf (8 * sl + i) = fstW k i) ∧ ∀ x, (x < 8 * sl ∨ 8 * sl + 8 ≤ x) → sf x = sf x from ⟨Nat.zero_le _, fun _ h => absurd h (Nat.not_lt_zero _), fun _ _ => rfl⟩) (hP.sub [0, 1, 2, 3, 4, 5] rfl) (hD.sub [0, 1, 2, 3, 4, 5] (by decide) rfl) hS (lv_sub hl [1, 2, 3, 0] rfl)
  clear hP hD hS hl
  intro x hxI_23 ih_23 H locs ls hP hD hS hl
  obtain ⟨j, g⟩ := x
  have hI : j ≤ 8 ∧ (∀ i, i < j → g (8 * sl + i) = fstW k i) ∧ ∀ x, (x < 8 * sl ∨ 8 * sl + 8 ≤ x) → g x = sf x := hxI_23
  have hP : va_P G.1 vwCl [(o, .inr (4, mF ad sz1 osz th hsz)), (ad 4, .inl (G.2.1 1, 9, .inl g_1)), (ad 7, .inl (G.2.1 1, 9, .inl g_2)), (ad 8, .inl (G.2.1 2, 9, .inr (.inl g_3))), (ad 5, .inl (G.2.1 2, 72, .inr (.inl g))), (ad 3, .inl (G.2.1 2, 16, .inr (.inl gf)))] H := hP
  have hD : va_D A [(o, .inr (4, mF ad sz1 osz th hsz)), (ad 4, .inl (G.2.1 1, 9, .inl g_1)), (ad 7, .inl (G.2.1 1, 9, .inl g_2)), (ad 8, .inl (G.2.1 2, 9, .inr (.inl g_3))), (ad 5, .inl (G.2.1 2, 72, .inr (.inl g))), (ad 3, .inl (G.2.1 2, 16, .inr (.inl gf)))] := hD
  have hl : lv_has ls 6 [(0, .ref o), (1, .int (nI sl)), (2, .int (nI k)), (3, .int (nI j))] := hl
  refine lv_iload_n hx hb dX4_start_23 rfl (lv_at hl 3 rfl) ?_
  refine lv_bipush (v := nI 8) hx hb dX4_start_24 (by decide) ?_
  refine lv_icmp_ge (tgt := 104) hx hb dX4_start_26 (by decide) (fun c_26 => ?_) (fun c_26 => ?_)
  · skip
    have hg : 8 ≤ j := ge_t (n := 8) c_26 (by decide)
    exact gret_v hx hb hr hlk dX4_start_104 hS (g_1, g_2, g_3, g) (hP.sub [0, 1, 2, 3, 4, 5] rfl) (hD.sub [0, 1, 2, 3, 4, 5] (by decide) rfl) (show ∀ bf : Nat → Int32, MsR (g_1, g_2, g, bf, g_3) sl k 0 (hs0 k) ∧ MsO [sl] (kf, ff, sf, bf, tf) (g_1, g_2, g, bf, g_3) from fun bf => stE hk hI hg eg_1 eg_2 eg_3)
  · skip
    have hg : j < 8 := ge_f (n := 8) c_26 (by omega)
    rcases (show k = 0 ∨ k = 1 ∨ k = 2 ∨ k = 3 by omega) with ek | ek | ek | ek
    · skip
      refine lv_iload_n hx hb dX4_start_29 rfl (lv_at hl 2 rfl) ?_
      refine lv_iconst (v := nI 1) hx hb dX4_start_30 (by decide) ?_
      refine lv_icmp_eq (tgt := 39) hx hb dX4_start_31 (by decide) (fun c_31 => absurd c_31 (by subst ek; decide)) (fun _ => ?_)
      refine lv_iload_n hx hb dX4_start_34 rfl (lv_at hl 2 rfl) ?_
      refine lv_iconst (v := nI 3) hx hb dX4_start_35 (by decide) ?_
      refine lv_icmp_ne (tgt := 48) hx hb dX4_start_36 (by decide) (fun _ => ?_) (fun c_36 => absurd c_36 (by subst ek; decide))
      refine lv_aload_n hx hb dX4_start_48 rfl (lv_at hl 0 rfl) ?_
      refine va_get (D := G.1) (ci := 4) (v := .ref (ad 3)) (C := RX4) (T := TX4) (N := 29) hx hb htu iwX4 hown hK.1 hP 0 rfl rfl 3 (by decide) (htu _ uF_X4_17) (fun _ h9 => h9) rfl dX4_start_49 ?_
      refine lv_bipush (v := nI 8) hx hb dX4_start_52 (by decide) ?_
      refine lv_iload_n hx hb dX4_start_54 rfl (lv_at hl 3 rfl) ?_
      refine lv_iadd hx hb dX4_start_55 ?_
      refine g_toi (y := nI (8 + j)) (nI_add 8 j) ?_
      refine g_lald hx hb hK.1 hP 5 2 rfl rfl ⟨by omega, by decide⟩ dX4_start_56 ?_
      refine lv_topl (fun v_4 ev_4 => ?_)
      refine lv_lstore (lv' := [(4, .long v_4), (0, .ref o), (1, .int (nI sl)), (2, .int (nI k)), (3, .int (nI j))]) hx hb dX4_start_57 hl (by decide) rfl (fun ls hl => ?_)
      refine lv_aload_n hx hb dX4_start_59 rfl (lv_at hl 1 rfl) ?_
      refine va_get (D := G.1) (ci := 4) (v := .ref (ad 5)) (C := RX4) (T := TX4) (N := 29) hx hb htu iwX4 hown hK.1 hP 0 rfl rfl 5 (by decide) (htu _ uF_X4_23) (fun _ h9 => h9) rfl dX4_start_60 ?_
      refine lv_bipush (v := nI 8) hx hb dX4_start_63 (by decide) ?_
      refine lv_iload_n hx hb dX4_start_65 rfl (lv_at hl 2 rfl) ?_
      refine lv_imul hx hb dX4_start_66 ?_
      refine g_toi (y := nI (8 * sl)) (pk_mul 8 sl) ?_
      refine lv_iload_n hx hb dX4_start_67 rfl (lv_at hl 4 rfl) ?_
      refine lv_iadd hx hb dX4_start_68 ?_
      refine g_toi (y := nI (8 * sl + j)) (nI_add (8 * sl) j) ?_
      refine lv_iload_n hx hb dX4_start_69 rfl (lv_at hl 3 rfl) ?_
      refine lv_if_ne (tgt := 82) hx hb dX4_start_70 (by decide) (fun c_70 => absurd (by subst ek; decide) c_70) (fun _ => ?_)
      refine lv_lload hx hb dX4_start_73 (lv_at hl 0 rfl) ?_
      refine lv_ldc2 hx hb hown (htu _ uL_X4_112) dX4_start_75 ?_
      refine lv_land hx hb dX4_start_78 ?_
      refine lv_goto (tgt := 97) hx hb dX4_start_79 (by decide) ?_
      refine lv_topl (fun v_5 ev_5 => ?_)
      refine g_last hx hb hK.1 hP hD hS 4 2 rfl rfl ⟨by omega, by decide⟩ dX4_start_97 (fun H locs hP hD hS => ?_)
      obtain ⟨g_6, eg_6⟩ : ∃ gq9 : Nat → Int64, gq9 = vp_updL g (8 * sl + j) v_5 := ⟨_, rfl⟩
      rw [← eg_6] at hP hD
      have hP : va_P G.1 vwCl [(o, .inr (4, mF ad sz1 osz th hsz)), (ad 4, .inl (G.2.1 1, 9, .inl g_1)), (ad 7, .inl (G.2.1 1, 9, .inl g_2)), (ad 8, .inl (G.2.1 2, 9, .inr (.inl g_3))), (ad 5, .inl (G.2.1 2, 72, .inr (.inl g_6))), (ad 3, .inl (G.2.1 2, 16, .inr (.inl gf)))] H := hP
      have hD : va_D A [(o, .inr (4, mF ad sz1 osz th hsz)), (ad 4, .inl (G.2.1 1, 9, .inl g_1)), (ad 7, .inl (G.2.1 1, 9, .inl g_2)), (ad 8, .inl (G.2.1 2, 9, .inr (.inl g_3))), (ad 5, .inl (G.2.1 2, 72, .inr (.inl g_6))), (ad 3, .inl (G.2.1 2, 16, .inr (.inl gf)))] := hD
      refine lv_iinc (v := nI (j + 1)) (lv' := [(3, .int (nI (j + 1))), (4, .long v_4), (0, .ref o), (1, .int (nI sl)), (2, .int (nI k))]) hx hb dX4_start_98 hl (k := 4) rfl (nI_1 j) (by decide) rfl (fun ls hl => ?_)
      refine lv_goto (tgt := 23) hx hb dX4_start_101 (by decide) ?_
      exact ih_23 (j + 1, g_6) (show (j + 1) ≤ 8 ∧ (∀ i, i < (j + 1) → g_6 (8 * sl + i) = fstW k i) ∧ ∀ x, (x < 8 * sl ∨ 8 * sl + 8 ≤ x) → g_6 x = sf x from stU hI hg eg_6 (by subst_vars; simp only [(hgf j hg).1, (hgf j hg).2]; rfl)) (by show 8 - (j + 1) < 8 - j; omega) _ _ _ (hP.sub [0, 1, 2, 3, 4, 5] rfl) (hD.sub [0, 1, 2, 3, 4, 5] (by decide) rfl) hS (lv_sub hl [2, 3, 4, 0] rfl)
    · skip
      refine lv_iload_n hx hb dX4_start_29 rfl (lv_at hl 2 rfl) ?_
      refine lv_iconst (v := nI 1) hx hb dX4_start_30 (by decide) ?_
      refine lv_icmp_eq (tgt := 39) hx hb dX4_start_31 (by decide) (fun _ => ?_) (fun c_31 => absurd (by subst ek; decide) c_31)
      refine lv_aload_n hx hb dX4_start_39 rfl (lv_at hl 0 rfl) ?_
      refine va_get (D := G.1) (ci := 4) (v := .ref (ad 3)) (C := RX4) (T := TX4) (N := 29) hx hb htu iwX4 hown hK.1 hP 0 rfl rfl 3 (by decide) (htu _ uF_X4_17) (fun _ h9 => h9) rfl dX4_start_40 ?_
      refine lv_iload_n hx hb dX4_start_43 rfl (lv_at hl 3 rfl) ?_
      refine g_lald hx hb hK.1 hP 5 2 rfl rfl ⟨by omega, by decide⟩ dX4_start_44 ?_
      refine lv_goto (tgt := 57) hx hb dX4_start_45 (by decide) ?_
      refine lv_topl (fun v_7 ev_7 => ?_)
      refine lv_lstore (lv' := [(4, .long v_7), (0, .ref o), (1, .int (nI sl)), (2, .int (nI k)), (3, .int (nI j))]) hx hb dX4_start_57 hl (by decide) rfl (fun ls hl => ?_)
      refine lv_aload_n hx hb dX4_start_59 rfl (lv_at hl 1 rfl) ?_
      refine va_get (D := G.1) (ci := 4) (v := .ref (ad 5)) (C := RX4) (T := TX4) (N := 29) hx hb htu iwX4 hown hK.1 hP 0 rfl rfl 5 (by decide) (htu _ uF_X4_23) (fun _ h9 => h9) rfl dX4_start_60 ?_
      refine lv_bipush (v := nI 8) hx hb dX4_start_63 (by decide) ?_
      refine lv_iload_n hx hb dX4_start_65 rfl (lv_at hl 2 rfl) ?_
      refine lv_imul hx hb dX4_start_66 ?_
      refine g_toi (y := nI (8 * sl)) (pk_mul 8 sl) ?_
      refine lv_iload_n hx hb dX4_start_67 rfl (lv_at hl 4 rfl) ?_
      refine lv_iadd hx hb dX4_start_68 ?_
      refine g_toi (y := nI (8 * sl + j)) (nI_add (8 * sl) j) ?_
      refine lv_iload_n hx hb dX4_start_69 rfl (lv_at hl 3 rfl) ?_
      refine lv_if_ne (tgt := 82) hx hb dX4_start_70 (by decide) (fun _ => ?_) (fun c_70 => absurd c_70 (by subst ek; decide))
      refine lv_iload_n hx hb dX4_start_82 rfl (lv_at hl 3 rfl) ?_
      refine lv_iconst (v := nI 1) hx hb dX4_start_83 (by decide) ?_
      refine lv_icmp_ne (tgt := 95) hx hb dX4_start_84 (by decide) (fun c_84 => absurd (by subst ek; decide) c_84) (fun _ => ?_)
      refine lv_lload hx hb dX4_start_87 (lv_at hl 0 rfl) ?_
      refine lv_bipush (v := nI 32) hx hb dX4_start_89 (by decide) ?_
      refine lv_lushr (v := ushL v_7 (nI 32)) hx hb dX4_start_91 rfl ?_
      refine lv_goto (tgt := 97) hx hb dX4_start_92 (by decide) ?_
      refine lv_topl (fun v_8 ev_8 => ?_)
      refine g_last hx hb hK.1 hP hD hS 4 2 rfl rfl ⟨by omega, by decide⟩ dX4_start_97 (fun H locs hP hD hS => ?_)
      obtain ⟨g_9, eg_9⟩ : ∃ gq9 : Nat → Int64, gq9 = vp_updL g (8 * sl + j) v_8 := ⟨_, rfl⟩
      rw [← eg_9] at hP hD
      have hP : va_P G.1 vwCl [(o, .inr (4, mF ad sz1 osz th hsz)), (ad 4, .inl (G.2.1 1, 9, .inl g_1)), (ad 7, .inl (G.2.1 1, 9, .inl g_2)), (ad 8, .inl (G.2.1 2, 9, .inr (.inl g_3))), (ad 5, .inl (G.2.1 2, 72, .inr (.inl g_9))), (ad 3, .inl (G.2.1 2, 16, .inr (.inl gf)))] H := hP
      have hD : va_D A [(o, .inr (4, mF ad sz1 osz th hsz)), (ad 4, .inl (G.2.1 1, 9, .inl g_1)), (ad 7, .inl (G.2.1 1, 9, .inl g_2)), (ad 8, .inl (G.2.1 2, 9, .inr (.inl g_3))), (ad 5, .inl (G.2.1 2, 72, .inr (.inl g_9))), (ad 3, .inl (G.2.1 2, 16, .inr (.inl gf)))] := hD
      refine lv_iinc (v := nI (j + 1)) (lv' := [(3, .int (nI (j + 1))), (4, .long v_7), (0, .ref o), (1, .int (nI sl)), (2, .int (nI k))]) hx hb dX4_start_98 hl (k := 4) rfl (nI_1 j) (by decide) rfl (fun ls hl => ?_)
      refine lv_goto (tgt := 23) hx hb dX4_start_101 (by decide) ?_
      exact ih_23 (j + 1, g_9) (show (j + 1) ≤ 8 ∧ (∀ i, i < (j + 1) → g_9 (8 * sl + i) = fstW k i) ∧ ∀ x, (x < 8 * sl ∨ 8 * sl + 8 ≤ x) → g_9 x = sf x from stU hI hg eg_9 (by subst_vars; simp only [(hgf j hg).1, (hgf j hg).2]; rfl)) (by show 8 - (j + 1) < 8 - j; omega) _ _ _ (hP.sub [0, 1, 2, 3, 4, 5] rfl) (hD.sub [0, 1, 2, 3, 4, 5] (by decide) rfl) hS (lv_sub hl [2, 3, 4, 0] rfl)
    · skip
      refine lv_iload_n hx hb dX4_start_29 rfl (lv_at hl 2 rfl) ?_
      refine lv_iconst (v := nI 1) hx hb dX4_start_30 (by decide) ?_
      refine lv_icmp_eq (tgt := 39) hx hb dX4_start_31 (by decide) (fun c_31 => absurd c_31 (by subst ek; decide)) (fun _ => ?_)
      refine lv_iload_n hx hb dX4_start_34 rfl (lv_at hl 2 rfl) ?_
      refine lv_iconst (v := nI 3) hx hb dX4_start_35 (by decide) ?_
      refine lv_icmp_ne (tgt := 48) hx hb dX4_start_36 (by decide) (fun _ => ?_) (fun c_36 => absurd c_36 (by subst ek; decide))
      refine lv_aload_n hx hb dX4_start_48 rfl (lv_at hl 0 rfl) ?_
      refine va_get (D := G.1) (ci := 4) (v := .ref (ad 3)) (C := RX4) (T := TX4) (N := 29) hx hb htu iwX4 hown hK.1 hP 0 rfl rfl 3 (by decide) (htu _ uF_X4_17) (fun _ h9 => h9) rfl dX4_start_49 ?_
      refine lv_bipush (v := nI 8) hx hb dX4_start_52 (by decide) ?_
      refine lv_iload_n hx hb dX4_start_54 rfl (lv_at hl 3 rfl) ?_
      refine lv_iadd hx hb dX4_start_55 ?_
      refine g_toi (y := nI (8 + j)) (nI_add 8 j) ?_
      refine g_lald hx hb hK.1 hP 5 2 rfl rfl ⟨by omega, by decide⟩ dX4_start_56 ?_
      refine lv_topl (fun v_10 ev_10 => ?_)
      refine lv_lstore (lv' := [(4, .long v_10), (0, .ref o), (1, .int (nI sl)), (2, .int (nI k)), (3, .int (nI j))]) hx hb dX4_start_57 hl (by decide) rfl (fun ls hl => ?_)
      refine lv_aload_n hx hb dX4_start_59 rfl (lv_at hl 1 rfl) ?_
      refine va_get (D := G.1) (ci := 4) (v := .ref (ad 5)) (C := RX4) (T := TX4) (N := 29) hx hb htu iwX4 hown hK.1 hP 0 rfl rfl 5 (by decide) (htu _ uF_X4_23) (fun _ h9 => h9) rfl dX4_start_60 ?_
      refine lv_bipush (v := nI 8) hx hb dX4_start_63 (by decide) ?_
      refine lv_iload_n hx hb dX4_start_65 rfl (lv_at hl 2 rfl) ?_
      refine lv_imul hx hb dX4_start_66 ?_
      refine g_toi (y := nI (8 * sl)) (pk_mul 8 sl) ?_
      refine lv_iload_n hx hb dX4_start_67 rfl (lv_at hl 4 rfl) ?_
      refine lv_iadd hx hb dX4_start_68 ?_
      refine g_toi (y := nI (8 * sl + j)) (nI_add (8 * sl) j) ?_
      refine lv_iload_n hx hb dX4_start_69 rfl (lv_at hl 3 rfl) ?_
      refine lv_if_ne (tgt := 82) hx hb dX4_start_70 (by decide) (fun _ => ?_) (fun c_70 => absurd c_70 (by subst ek; decide))
      refine lv_iload_n hx hb dX4_start_82 rfl (lv_at hl 3 rfl) ?_
      refine lv_iconst (v := nI 1) hx hb dX4_start_83 (by decide) ?_
      refine lv_icmp_ne (tgt := 95) hx hb dX4_start_84 (by decide) (fun _ => ?_) (fun c_84 => absurd c_84 (by subst ek; decide))
      refine lv_lload hx hb dX4_start_95 (lv_at hl 0 rfl) ?_
      refine g_last hx hb hK.1 hP hD hS 4 2 rfl rfl ⟨by omega, by decide⟩ dX4_start_97 (fun H locs hP hD hS => ?_)
      obtain ⟨g_11, eg_11⟩ : ∃ gq9 : Nat → Int64, gq9 = vp_updL g (8 * sl + j) v_10 := ⟨_, rfl⟩
      rw [← eg_11] at hP hD
      have hP : va_P G.1 vwCl [(o, .inr (4, mF ad sz1 osz th hsz)), (ad 4, .inl (G.2.1 1, 9, .inl g_1)), (ad 7, .inl (G.2.1 1, 9, .inl g_2)), (ad 8, .inl (G.2.1 2, 9, .inr (.inl g_3))), (ad 5, .inl (G.2.1 2, 72, .inr (.inl g_11))), (ad 3, .inl (G.2.1 2, 16, .inr (.inl gf)))] H := hP
      have hD : va_D A [(o, .inr (4, mF ad sz1 osz th hsz)), (ad 4, .inl (G.2.1 1, 9, .inl g_1)), (ad 7, .inl (G.2.1 1, 9, .inl g_2)), (ad 8, .inl (G.2.1 2, 9, .inr (.inl g_3))), (ad 5, .inl (G.2.1 2, 72, .inr (.inl g_11))), (ad 3, .inl (G.2.1 2, 16, .inr (.inl gf)))] := hD
      refine lv_iinc (v := nI (j + 1)) (lv' := [(3, .int (nI (j + 1))), (4, .long v_10), (0, .ref o), (1, .int (nI sl)), (2, .int (nI k))]) hx hb dX4_start_98 hl (k := 4) rfl (nI_1 j) (by decide) rfl (fun ls hl => ?_)
      refine lv_goto (tgt := 23) hx hb dX4_start_101 (by decide) ?_
      exact ih_23 (j + 1, g_11) (show (j + 1) ≤ 8 ∧ (∀ i, i < (j + 1) → g_11 (8 * sl + i) = fstW k i) ∧ ∀ x, (x < 8 * sl ∨ 8 * sl + 8 ≤ x) → g_11 x = sf x from stU hI hg eg_11 (by subst_vars; simp only [(hgf j hg).1, (hgf j hg).2]; rfl)) (by show 8 - (j + 1) < 8 - j; omega) _ _ _ (hP.sub [0, 1, 2, 3, 4, 5] rfl) (hD.sub [0, 1, 2, 3, 4, 5] (by decide) rfl) hS (lv_sub hl [2, 3, 4, 0] rfl)
    · skip
      refine lv_iload_n hx hb dX4_start_29 rfl (lv_at hl 2 rfl) ?_
      refine lv_iconst (v := nI 1) hx hb dX4_start_30 (by decide) ?_
      refine lv_icmp_eq (tgt := 39) hx hb dX4_start_31 (by decide) (fun c_31 => absurd c_31 (by subst ek; decide)) (fun _ => ?_)
      refine lv_iload_n hx hb dX4_start_34 rfl (lv_at hl 2 rfl) ?_
      refine lv_iconst (v := nI 3) hx hb dX4_start_35 (by decide) ?_
      refine lv_icmp_ne (tgt := 48) hx hb dX4_start_36 (by decide) (fun c_36 => absurd (by subst ek; decide) c_36) (fun _ => ?_)
      refine lv_aload_n hx hb dX4_start_39 rfl (lv_at hl 0 rfl) ?_
      refine va_get (D := G.1) (ci := 4) (v := .ref (ad 3)) (C := RX4) (T := TX4) (N := 29) hx hb htu iwX4 hown hK.1 hP 0 rfl rfl 3 (by decide) (htu _ uF_X4_17) (fun _ h9 => h9) rfl dX4_start_40 ?_
      refine lv_iload_n hx hb dX4_start_43 rfl (lv_at hl 3 rfl) ?_
      refine g_lald hx hb hK.1 hP 5 2 rfl rfl ⟨by omega, by decide⟩ dX4_start_44 ?_
      refine lv_goto (tgt := 57) hx hb dX4_start_45 (by decide) ?_
      refine lv_topl (fun v_12 ev_12 => ?_)
      refine lv_lstore (lv' := [(4, .long v_12), (0, .ref o), (1, .int (nI sl)), (2, .int (nI k)), (3, .int (nI j))]) hx hb dX4_start_57 hl (by decide) rfl (fun ls hl => ?_)
      refine lv_aload_n hx hb dX4_start_59 rfl (lv_at hl 1 rfl) ?_
      refine va_get (D := G.1) (ci := 4) (v := .ref (ad 5)) (C := RX4) (T := TX4) (N := 29) hx hb htu iwX4 hown hK.1 hP 0 rfl rfl 5 (by decide) (htu _ uF_X4_23) (fun _ h9 => h9) rfl dX4_start_60 ?_
      refine lv_bipush (v := nI 8) hx hb dX4_start_63 (by decide) ?_
      refine lv_iload_n hx hb dX4_start_65 rfl (lv_at hl 2 rfl) ?_
      refine lv_imul hx hb dX4_start_66 ?_
      refine g_toi (y := nI (8 * sl)) (pk_mul 8 sl) ?_
      refine lv_iload_n hx hb dX4_start_67 rfl (lv_at hl 4 rfl) ?_
      refine lv_iadd hx hb dX4_start_68 ?_
      refine g_toi (y := nI (8 * sl + j)) (nI_add (8 * sl) j) ?_
      refine lv_iload_n hx hb dX4_start_69 rfl (lv_at hl 3 rfl) ?_
      refine lv_if_ne (tgt := 82) hx hb dX4_start_70 (by decide) (fun _ => ?_) (fun c_70 => absurd c_70 (by subst ek; decide))
      refine lv_iload_n hx hb dX4_start_82 rfl (lv_at hl 3 rfl) ?_
      refine lv_iconst (v := nI 1) hx hb dX4_start_83 (by decide) ?_
      refine lv_icmp_ne (tgt := 95) hx hb dX4_start_84 (by decide) (fun _ => ?_) (fun c_84 => absurd c_84 (by subst ek; decide))
      refine lv_lload hx hb dX4_start_95 (lv_at hl 0 rfl) ?_
      refine g_last hx hb hK.1 hP hD hS 4 2 rfl rfl ⟨by omega, by decide⟩ dX4_start_97 (fun H locs hP hD hS => ?_)
      obtain ⟨g_13, eg_13⟩ : ∃ gq9 : Nat → Int64, gq9 = vp_updL g (8 * sl + j) v_12 := ⟨_, rfl⟩
      rw [← eg_13] at hP hD
      have hP : va_P G.1 vwCl [(o, .inr (4, mF ad sz1 osz th hsz)), (ad 4, .inl (G.2.1 1, 9, .inl g_1)), (ad 7, .inl (G.2.1 1, 9, .inl g_2)), (ad 8, .inl (G.2.1 2, 9, .inr (.inl g_3))), (ad 5, .inl (G.2.1 2, 72, .inr (.inl g_13))), (ad 3, .inl (G.2.1 2, 16, .inr (.inl gf)))] H := hP
      have hD : va_D A [(o, .inr (4, mF ad sz1 osz th hsz)), (ad 4, .inl (G.2.1 1, 9, .inl g_1)), (ad 7, .inl (G.2.1 1, 9, .inl g_2)), (ad 8, .inl (G.2.1 2, 9, .inr (.inl g_3))), (ad 5, .inl (G.2.1 2, 72, .inr (.inl g_13))), (ad 3, .inl (G.2.1 2, 16, .inr (.inl gf)))] := hD
      refine lv_iinc (v := nI (j + 1)) (lv' := [(3, .int (nI (j + 1))), (4, .long v_12), (0, .ref o), (1, .int (nI sl)), (2, .int (nI k))]) hx hb dX4_start_98 hl (k := 4) rfl (nI_1 j) (by decide) rfl (fun ls hl => ?_)
      refine lv_goto (tgt := 23) hx hb dX4_start_101 (by decide) ?_
      exact ih_23 (j + 1, g_13) (show (j + 1) ≤ 8 ∧ (∀ i, i < (j + 1) → g_13 (8 * sl + i) = fstW k i) ∧ ∀ x, (x < 8 * sl ∨ 8 * sl + 8 ≤ x) → g_13 x = sf x from stU hI hg eg_13 (by subst_vars; simp only [(hgf j hg).1, (hgf j hg).2]; rfl)) (by show 8 - (j + 1) < 8 - j; omega) _ _ _ (hP.sub [0, 1, 2, 3, 4, 5] rfl) (hD.sub [0, 1, 2, 3, 4, 5] (by decide) rfl) hS (lv_sub hl [2, 3, 4, 0] rfl)
set_option maxHeartbeats 4000000 in
set_option maxRecDepth 100000 in
theorem c_X4_absorb (l : Launch) (G : GW) (sz : Nat) (o : Nat) (ad : Nat → Nat) (sz1 : Int32) (osz : Int32) (th : Int32) (hsz : Int32) (sl : Nat) (k : Nat) (t : Nat) (ch : Nat) (kf : Nat → Int32) (ff : Nat → Int32) (sf : Nat → Int64) (bf : Nat → Int32) (tf : Nat → Int64) (nf : Nat → Int32) (df : Nat → Int64) (cf : Nat → Int64) (h : HS) (hs : sl < 9) (hc : ∀ j, j < 80 → cf j = kT j) (hM : MsR (kf, ff, sf, bf, tf) sl k t h) (hch : ch < 256) : Met l yX4_absorb (Cond.code yX4_absorb cX4_absorb 3 (none : Option FieldType) :: UW) ({ frames := 2, cells := 0, slots := 0, locals := 65 } : Room) (va_Pc [.ref o, .int (nI sl), .int (nI ch)] (gPre G [(o, .inr (4, mF ad sz1 osz th hsz)), (ad 4, .inl (G.2.1 1, 9, .inl kf)), (ad 7, .inl (G.2.1 1, 9, .inl ff)), (ad 5, .inl (G.2.1 2, 72, .inr (.inl sf))), (ad 6, .inl (G.2.1 1, 1152, .inl bf)), (ad 8, .inl (G.2.1 2, 9, .inr (.inl tf))), (ad 24, .inl (G.2.1 1, 64, .inl nf)), (ad 25, .inl (G.2.1 2, 80, .inr (.inl df))), (ad 2, .inl (G.2.1 2, 80, .inr (.inl cf)))] sz)) (va_Qv (fun (uq9 : (Nat → Int32) × (Nat → Int64) × (Nat → Int32) × (Nat → Int64) × (Nat → Int32) × (Nat → Int64)) => MsR (kf, uq9.1, uq9.2.1, uq9.2.2.1, uq9.2.2.2.1) sl k (t + 1) (plc k h ch) ∧ MsO [sl] (kf, ff, sf, bf, tf) (kf, uq9.1, uq9.2.1, uq9.2.2.1, uq9.2.2.2.1)) (fun u => gPost G (va_A [(o, .inr (4, mF ad sz1 osz th hsz)), (ad 4, .inl (G.2.1 1, 9, .inl kf)), (ad 7, .inl (G.2.1 1, 9, .inl ff)), (ad 5, .inl (G.2.1 2, 72, .inr (.inl sf))), (ad 6, .inl (G.2.1 1, 1152, .inl bf)), (ad 8, .inl (G.2.1 2, 9, .inr (.inl tf))), (ad 24, .inl (G.2.1 1, 64, .inl nf)), (ad 25, .inl (G.2.1 2, 80, .inr (.inl df))), (ad 2, .inl (G.2.1 2, 80, .inr (.inl cf)))] sz) ((fun (uq9 : (Nat → Int32) × (Nat → Int64) × (Nat → Int32) × (Nat → Int64) × (Nat → Int32) × (Nat → Int64)) => ([(o, .inr (4, mF ad sz1 osz th hsz)), (ad 4, .inl (G.2.1 1, 9, .inl kf)), (ad 7, .inl (G.2.1 1, 9, .inl uq9.1)), (ad 5, .inl (G.2.1 2, 72, .inr (.inl uq9.2.1))), (ad 6, .inl (G.2.1 1, 1152, .inl uq9.2.2.1)), (ad 8, .inl (G.2.1 2, 9, .inr (.inl uq9.2.2.2.1))), (ad 24, .inl (G.2.1 1, 64, .inl uq9.2.2.2.2.1)), (ad 25, .inl (G.2.1 2, 80, .inr (.inl uq9.2.2.2.2.2))), (ad 2, .inl (G.2.1 2, 80, .inr (.inl cf)))] : va_W)) u)) (va_A [(o, .inr (4, mF ad sz1 osz th hsz)), (ad 4, .inl (G.2.1 1, 9, .inl kf)), (ad 7, .inl (G.2.1 1, 9, .inl ff)), (ad 5, .inl (G.2.1 2, 72, .inr (.inl sf))), (ad 6, .inl (G.2.1 1, 1152, .inl bf)), (ad 8, .inl (G.2.1 2, 9, .inr (.inl tf))), (ad 24, .inl (G.2.1 1, 64, .inl nf)), (ad 25, .inl (G.2.1 2, 80, .inr (.inl df))), (ad 2, .inl (G.2.1 2, 80, .inr (.inl cf)))] sz)) 0 0 (va_A [(o, .inr (4, mF ad sz1 osz th hsz)), (ad 4, .inl (G.2.1 1, 9, .inl kf)), (ad 7, .inl (G.2.1 1, 9, .inl ff)), (ad 5, .inl (G.2.1 2, 72, .inr (.inl sf))), (ad 6, .inl (G.2.1 1, 1152, .inl bf)), (ad 8, .inl (G.2.1 2, 9, .inr (.inl tf))), (ad 24, .inl (G.2.1 1, 64, .inl nf)), (ad 25, .inl (G.2.1 2, 80, .inr (.inl df))), (ad 2, .inl (G.2.1 2, 80, .inr (.inl cf)))] sz) := by
  refine gM_of (Qf := fun A => va_Qv (fun (uq9 : (Nat → Int32) × (Nat → Int64) × (Nat → Int32) × (Nat → Int64) × (Nat → Int32) × (Nat → Int64)) => MsR (kf, uq9.1, uq9.2.1, uq9.2.2.1, uq9.2.2.2.1) sl k (t + 1) (plc k h ch) ∧ MsO [sl] (kf, ff, sf, bf, tf) (kf, uq9.1, uq9.2.1, uq9.2.2.1, uq9.2.2.2.1)) (fun u => gPost G A ((fun (uq9 : (Nat → Int32) × (Nat → Int64) × (Nat → Int32) × (Nat → Int64) × (Nat → Int32) × (Nat → Int64)) => ([(o, .inr (4, mF ad sz1 osz th hsz)), (ad 4, .inl (G.2.1 1, 9, .inl kf)), (ad 7, .inl (G.2.1 1, 9, .inl uq9.1)), (ad 5, .inl (G.2.1 2, 72, .inr (.inl uq9.2.1))), (ad 6, .inl (G.2.1 1, 1152, .inl uq9.2.2.1)), (ad 8, .inl (G.2.1 2, 9, .inr (.inl uq9.2.2.2.1))), (ad 24, .inl (G.2.1 1, 64, .inl uq9.2.2.2.2.1)), (ad 25, .inl (G.2.1 2, 80, .inr (.inl uq9.2.2.2.2.2))), (ad 2, .inl (G.2.1 2, 80, .inr (.inl cf)))] : va_W)) u)) A) (by decide) (Nat.le_of_ble_eq_true rfl) ?_
  intro p e s m below meth c A ls hx hb hml hr hown htu hlk hnm hA hP hD hS hK hZ hl
  have hown : s.vm.findClass RX4 = some m.cls := hown
  have hl : lv_has ls 3 [(0, .ref o), (1, .int (nI sl)), (2, .int (nI ch))] := hl
  refine lv_aload_n hx hb dX4_absorb_0 rfl (lv_at hl 0 rfl) ?_
  refine va_get (D := G.1) (ci := 4) (v := .ref (ad 6)) (C := RX4) (T := TX4) (N := 29) hx hb htu iwX4 hown hK.1 hP 0 rfl rfl 6 (by decide) (htu _ uF_X4_26) (fun _ h9 => h9) rfl dX4_absorb_1 ?_
  refine lv_sipush (v := nI 128) hx hb dX4_absorb_4 (by decide) ?_
  refine lv_iload_n hx hb dX4_absorb_7 rfl (lv_at hl 1 rfl) ?_
  refine lv_imul hx hb dX4_absorb_8 ?_
  refine g_toi (y := nI (128 * sl)) (pk_mul 128 sl) ?_
  refine lv_aload_n hx hb dX4_absorb_9 rfl (lv_at hl 0 rfl) ?_
  refine va_get (D := G.1) (ci := 4) (v := .ref (ad 7)) (C := RX4) (T := TX4) (N := 29) hx hb htu iwX4 hown hK.1 hP 0 rfl rfl 7 (by decide) (htu _ uF_X4_29) (fun _ h9 => h9) rfl dX4_absorb_10 ?_
  refine lv_iload_n hx hb dX4_absorb_13 rfl (lv_at hl 1 rfl) ?_
  refine g_iald hx hb hK.1 hP 2 1 rfl rfl ⟨hs, by decide⟩ dX4_absorb_14 ?_
  refine g_toi (y := nI h.2.length) (hM.2.2.1) ?_
  refine lv_iadd hx hb dX4_absorb_15 ?_
  refine g_toi (y := nI (128 * sl + h.2.length)) (nI_add (128 * sl) h.2.length) ?_
  refine lv_iload_n hx hb dX4_absorb_16 rfl (lv_at hl 2 rfl) ?_
  refine g_iast hx hb hK.1 hP hD hS 4 1 rfl rfl ⟨by have := hM.l31; omega, by decide⟩ dX4_absorb_17 (fun H locs hP hD hS => ?_)
  obtain ⟨g_1, eg_1⟩ : ∃ gq9 : Nat → Int32, gq9 = upd bf (128 * sl + h.2.length) (nI ch) := ⟨_, rfl⟩
  rw [← eg_1] at hP hD
  have hP : va_P G.1 vwCl [(o, .inr (4, mF ad sz1 osz th hsz)), (ad 4, .inl (G.2.1 1, 9, .inl kf)), (ad 7, .inl (G.2.1 1, 9, .inl ff)), (ad 5, .inl (G.2.1 2, 72, .inr (.inl sf))), (ad 6, .inl (G.2.1 1, 1152, .inl g_1)), (ad 8, .inl (G.2.1 2, 9, .inr (.inl tf))), (ad 24, .inl (G.2.1 1, 64, .inl nf)), (ad 25, .inl (G.2.1 2, 80, .inr (.inl df))), (ad 2, .inl (G.2.1 2, 80, .inr (.inl cf)))] H := hP
  have hD : va_D A [(o, .inr (4, mF ad sz1 osz th hsz)), (ad 4, .inl (G.2.1 1, 9, .inl kf)), (ad 7, .inl (G.2.1 1, 9, .inl ff)), (ad 5, .inl (G.2.1 2, 72, .inr (.inl sf))), (ad 6, .inl (G.2.1 1, 1152, .inl g_1)), (ad 8, .inl (G.2.1 2, 9, .inr (.inl tf))), (ad 24, .inl (G.2.1 1, 64, .inl nf)), (ad 25, .inl (G.2.1 2, 80, .inr (.inl df))), (ad 2, .inl (G.2.1 2, 80, .inr (.inl cf)))] := hD
  refine lv_aload_n hx hb dX4_absorb_18 rfl (lv_at hl 0 rfl) ?_
  refine va_get (D := G.1) (ci := 4) (v := .ref (ad 7)) (C := RX4) (T := TX4) (N := 29) hx hb htu iwX4 hown hK.1 hP 0 rfl rfl 7 (by decide) (htu _ uF_X4_29) (fun _ h9 => h9) rfl dX4_absorb_19 ?_
  refine lv_iload_n hx hb dX4_absorb_22 rfl (lv_at hl 1 rfl) ?_
  refine lv_dup2_11 hx hb dX4_absorb_23 rfl rfl ?_
  refine g_iald hx hb hK.1 hP 2 1 rfl rfl ⟨hs, by decide⟩ dX4_absorb_24 ?_
  refine g_toi (y := nI h.2.length) (hM.2.2.1) ?_
  refine lv_iconst (v := nI 1) hx hb dX4_absorb_25 (by decide) ?_
  refine lv_iadd hx hb dX4_absorb_26 ?_
  refine g_toi (y := nI (h.2.length + 1)) (nI_1 _) ?_
  refine g_iast hx hb hK.1 hP hD hS 2 1 rfl rfl ⟨hs, by decide⟩ dX4_absorb_27 (fun H locs hP hD hS => ?_)
  obtain ⟨g_2, eg_2⟩ : ∃ gq9 : Nat → Int32, gq9 = upd ff sl (nI (h.2.length + 1)) := ⟨_, rfl⟩
  rw [← eg_2] at hP hD
  have hP : va_P G.1 vwCl [(o, .inr (4, mF ad sz1 osz th hsz)), (ad 4, .inl (G.2.1 1, 9, .inl kf)), (ad 7, .inl (G.2.1 1, 9, .inl g_2)), (ad 5, .inl (G.2.1 2, 72, .inr (.inl sf))), (ad 6, .inl (G.2.1 1, 1152, .inl g_1)), (ad 8, .inl (G.2.1 2, 9, .inr (.inl tf))), (ad 24, .inl (G.2.1 1, 64, .inl nf)), (ad 25, .inl (G.2.1 2, 80, .inr (.inl df))), (ad 2, .inl (G.2.1 2, 80, .inr (.inl cf)))] H := hP
  have hD : va_D A [(o, .inr (4, mF ad sz1 osz th hsz)), (ad 4, .inl (G.2.1 1, 9, .inl kf)), (ad 7, .inl (G.2.1 1, 9, .inl g_2)), (ad 5, .inl (G.2.1 2, 72, .inr (.inl sf))), (ad 6, .inl (G.2.1 1, 1152, .inl g_1)), (ad 8, .inl (G.2.1 2, 9, .inr (.inl tf))), (ad 24, .inl (G.2.1 1, 64, .inl nf)), (ad 25, .inl (G.2.1 2, 80, .inr (.inl df))), (ad 2, .inl (G.2.1 2, 80, .inr (.inl cf)))] := hD
  refine lv_aload_n hx hb dX4_absorb_28 rfl (lv_at hl 0 rfl) ?_
  refine va_get (D := G.1) (ci := 4) (v := .ref (ad 8)) (C := RX4) (T := TX4) (N := 29) hx hb htu iwX4 hown hK.1 hP 0 rfl rfl 8 (by decide) (htu _ uF_X4_32) (fun _ h9 => h9) rfl dX4_absorb_29 ?_
  refine lv_iload_n hx hb dX4_absorb_32 rfl (lv_at hl 1 rfl) ?_
  refine lv_dup2_11 hx hb dX4_absorb_33 rfl rfl ?_
  refine g_lald hx hb hK.1 hP 5 2 rfl rfl ⟨hs, by decide⟩ dX4_absorb_34 ?_
  refine g_tol (y := lN t) (hM.2.2.2.2.2.2.2) ?_
  refine lv_lconst (v := 1) hx hb dX4_absorb_35 (by decide) ?_
  refine lv_ladd hx hb dX4_absorb_36 ?_
  refine g_tol (y := lN (t + 1)) (lN_1 t) ?_
  refine g_last hx hb hK.1 hP hD hS 5 2 rfl rfl ⟨hs, by decide⟩ dX4_absorb_37 (fun H locs hP hD hS => ?_)
  obtain ⟨g_3, eg_3⟩ : ∃ gq9 : Nat → Int64, gq9 = vp_updL tf sl (lN (t + 1)) := ⟨_, rfl⟩
  rw [← eg_3] at hP hD
  have hP : va_P G.1 vwCl [(o, .inr (4, mF ad sz1 osz th hsz)), (ad 4, .inl (G.2.1 1, 9, .inl kf)), (ad 7, .inl (G.2.1 1, 9, .inl g_2)), (ad 5, .inl (G.2.1 2, 72, .inr (.inl sf))), (ad 6, .inl (G.2.1 1, 1152, .inl g_1)), (ad 8, .inl (G.2.1 2, 9, .inr (.inl g_3))), (ad 24, .inl (G.2.1 1, 64, .inl nf)), (ad 25, .inl (G.2.1 2, 80, .inr (.inl df))), (ad 2, .inl (G.2.1 2, 80, .inr (.inl cf)))] H := hP
  have hD : va_D A [(o, .inr (4, mF ad sz1 osz th hsz)), (ad 4, .inl (G.2.1 1, 9, .inl kf)), (ad 7, .inl (G.2.1 1, 9, .inl g_2)), (ad 5, .inl (G.2.1 2, 72, .inr (.inl sf))), (ad 6, .inl (G.2.1 1, 1152, .inl g_1)), (ad 8, .inl (G.2.1 2, 9, .inr (.inl g_3))), (ad 24, .inl (G.2.1 1, 64, .inl nf)), (ad 25, .inl (G.2.1 2, 80, .inr (.inl df))), (ad 2, .inl (G.2.1 2, 80, .inr (.inl cf)))] := hD
  refine lv_aload_n hx hb dX4_absorb_38 rfl (lv_at hl 0 rfl) ?_
  refine va_get (D := G.1) (ci := 4) (v := .ref (ad 7)) (C := RX4) (T := TX4) (N := 29) hx hb htu iwX4 hown hK.1 hP 0 rfl rfl 7 (by decide) (htu _ uF_X4_29) (fun _ h9 => h9) rfl dX4_absorb_39 ?_
  refine lv_iload_n hx hb dX4_absorb_42 rfl (lv_at hl 1 rfl) ?_
  refine g_iald hx hb hK.1 hP 2 1 rfl rfl ⟨hs, by decide⟩ dX4_absorb_43 ?_
  refine g_toi (y := nI (h.2.length + 1)) (by rw [eg_2, pk_us]) ?_
  refine lv_aload_n hx hb dX4_absorb_44 rfl (lv_at hl 0 rfl) ?_
  refine va_get (D := G.1) (ci := 4) (v := .ref (ad 4)) (C := RX4) (T := TX4) (N := 29) hx hb htu iwX4 hown hK.1 hP 0 rfl rfl 4 (by decide) (htu _ uF_X4_20) (fun _ h9 => h9) rfl dX4_absorb_45 ?_
  refine lv_iload_n hx hb dX4_absorb_48 rfl (lv_at hl 1 rfl) ?_
  refine g_iald hx hb hK.1 hP 1 1 rfl rfl ⟨hs, by decide⟩ dX4_absorb_49 ?_
  refine g_toi (y := nI k) (hM.2.1) ?_
  refine g_calli (g_runS (As := [.int (nI k)]) (rest := [.int (nI (h.2.length + 1))]) ⟨hx, hb, hml, hown, htu⟩ (c_X4_blockOf l G _ (nI k) ) uM_X4_124 ok_X4_blockOf uA_X4_blockOf rfl rfl ⟨Nat.le_of_ble_eq_true rfl, Nat.le_of_ble_eq_true rfl⟩ hK hP hD hS hA hZ [] rfl rfl rfl hl.1 rfl (Nat.le_of_ble_eq_true rfl) dX4_absorb_50 ⟨Nat.le_of_ble_eq_true rfl, Nat.le_of_ble_eq_true rfl⟩) hP hD hS hA [] rfl (fun r_4 u H locs hw_5 hP hD hS => ?_)
  have hw_5 : r_4 = bsI (nI k) := hw_5
  subst hw_5
  have hP : va_P G.1 vwCl [(o, .inr (4, mF ad sz1 osz th hsz)), (ad 4, .inl (G.2.1 1, 9, .inl kf)), (ad 7, .inl (G.2.1 1, 9, .inl g_2)), (ad 5, .inl (G.2.1 2, 72, .inr (.inl sf))), (ad 6, .inl (G.2.1 1, 1152, .inl g_1)), (ad 8, .inl (G.2.1 2, 9, .inr (.inl g_3))), (ad 24, .inl (G.2.1 1, 64, .inl nf)), (ad 25, .inl (G.2.1 2, 80, .inr (.inl df))), (ad 2, .inl (G.2.1 2, 80, .inr (.inl cf)))] H := hP
  have hD : va_D A [(o, .inr (4, mF ad sz1 osz th hsz)), (ad 4, .inl (G.2.1 1, 9, .inl kf)), (ad 7, .inl (G.2.1 1, 9, .inl g_2)), (ad 5, .inl (G.2.1 2, 72, .inr (.inl sf))), (ad 6, .inl (G.2.1 1, 1152, .inl g_1)), (ad 8, .inl (G.2.1 2, 9, .inr (.inl g_3))), (ad 24, .inl (G.2.1 1, 64, .inl nf)), (ad 25, .inl (G.2.1 2, 80, .inr (.inl df))), (ad 2, .inl (G.2.1 2, 80, .inr (.inl cf)))] := hD
  refine g_toi (y := nI (bs k)) (bsI_nI hM.1) ?_
  refine lv_icmp_ne (tgt := 86) hx hb dX4_absorb_53 (by decide) (fun c_53 => ?_) (fun c_53 => ?_)
  · skip
    exact gret_v hx hb hr hlk dX4_absorb_86 hS (g_2, sf, g_1, g_3, nf, df) (hP.sub [0, 1, 2, 3, 4, 5, 6, 7, 8] rfl) (hD.sub [0, 1, 2, 3, 4, 5, 6, 7, 8] (by decide) rfl) (show (MsR (kf, g_2, sf, g_1, g_3) sl k (t + 1) (plc k h ch)) ∧ (MsO [sl] (kf, ff, sf, bf, tf) (kf, g_2, sf, g_1, g_3)) from abA hM hch eg_1 eg_2 eg_3 c_53)
  · skip
    refine lv_aload_n hx hb dX4_absorb_56 rfl (lv_at hl 0 rfl) ?_
    refine va_get (D := G.1) (ci := 4) (v := .ref (ad 7)) (C := RX4) (T := TX4) (N := 29) hx hb htu iwX4 hown hK.1 hP 0 rfl rfl 7 (by decide) (htu _ uF_X4_29) (fun _ h9 => h9) rfl dX4_absorb_57 ?_
    refine lv_iload_n hx hb dX4_absorb_60 rfl (lv_at hl 1 rfl) ?_
    refine lv_iconst (v := nI 0) hx hb dX4_absorb_61 (by decide) ?_
    refine g_iast hx hb hK.1 hP hD hS 2 1 rfl rfl ⟨hs, by decide⟩ dX4_absorb_62 (fun H locs hP hD hS => ?_)
    obtain ⟨g_6, eg_6⟩ : ∃ gq9 : Nat → Int32, gq9 = upd g_2 sl (nI 0) := ⟨_, rfl⟩
    rw [← eg_6] at hP hD
    have hP : va_P G.1 vwCl [(o, .inr (4, mF ad sz1 osz th hsz)), (ad 4, .inl (G.2.1 1, 9, .inl kf)), (ad 7, .inl (G.2.1 1, 9, .inl g_6)), (ad 5, .inl (G.2.1 2, 72, .inr (.inl sf))), (ad 6, .inl (G.2.1 1, 1152, .inl g_1)), (ad 8, .inl (G.2.1 2, 9, .inr (.inl g_3))), (ad 24, .inl (G.2.1 1, 64, .inl nf)), (ad 25, .inl (G.2.1 2, 80, .inr (.inl df))), (ad 2, .inl (G.2.1 2, 80, .inr (.inl cf)))] H := hP
    have hD : va_D A [(o, .inr (4, mF ad sz1 osz th hsz)), (ad 4, .inl (G.2.1 1, 9, .inl kf)), (ad 7, .inl (G.2.1 1, 9, .inl g_6)), (ad 5, .inl (G.2.1 2, 72, .inr (.inl sf))), (ad 6, .inl (G.2.1 1, 1152, .inl g_1)), (ad 8, .inl (G.2.1 2, 9, .inr (.inl g_3))), (ad 24, .inl (G.2.1 1, 64, .inl nf)), (ad 25, .inl (G.2.1 2, 80, .inr (.inl df))), (ad 2, .inl (G.2.1 2, 80, .inr (.inl cf)))] := hD
    refine lv_aload_n hx hb dX4_absorb_63 rfl (lv_at hl 0 rfl) ?_
    refine va_get (D := G.1) (ci := 4) (v := .ref (ad 4)) (C := RX4) (T := TX4) (N := 29) hx hb htu iwX4 hown hK.1 hP 0 rfl rfl 4 (by decide) (htu _ uF_X4_20) (fun _ h9 => h9) rfl dX4_absorb_64 ?_
    refine lv_iload_n hx hb dX4_absorb_67 rfl (lv_at hl 1 rfl) ?_
    refine g_iald hx hb hK.1 hP 1 1 rfl rfl ⟨hs, by decide⟩ dX4_absorb_68 ?_
    refine g_toi (y := nI k) (hM.2.1) ?_
    refine lv_iconst (v := nI 2) hx hb dX4_absorb_69 (by decide) ?_
    refine lv_icmp_ge (tgt := 81) hx hb dX4_absorb_70 (by decide) (fun c_70 => ?_) (fun c_70 => ?_)
    · skip
      have hk2 : ¬ k < 2 := Nat.not_lt.mpr (ge_t (n := 2) c_70 (by decide))
      refine lv_aload_n hx hb dX4_absorb_81 rfl (lv_at hl 0 rfl) ?_
      refine lv_iload_n hx hb dX4_absorb_82 rfl (lv_at hl 1 rfl) ?_
      refine g_callv (g_runV (As := [.int (nI sl)]) (rest := []) ⟨hx, hb, hml, hown, htu⟩ (c_X4_wideBlock l G _ o ad sz1 osz th hsz sl sf g_1 df cf hs hc) uM_X4_132 ok_X4_wideBlock in_X4_wideBlock rfl rfl ⟨Nat.le_of_ble_eq_true rfl, Nat.le_of_ble_eq_true rfl⟩ hK hP hD hS hA hZ [0, 3, 4, 7, 8] rfl rfl 0 rfl rfl rfl rfl hl.1 rfl (Nat.le_of_ble_eq_true rfl) dX4_absorb_83 ⟨Nat.le_of_ble_eq_true rfl, Nat.le_of_ble_eq_true rfl⟩) hP hD hS hA [0, 3, 4, 7, 8] rfl (fun u H locs hw1 hP hD hS => ?_)
      obtain ⟨sf_8, nf_9⟩ := u
      have hw1 : (∀ jq8, jq8 < 8 → sf_8 (8 * sl + jq8) = mxW (wM sf sl) (sW (oM g_1 sl)) jq8) ∧ (∀ iq8, (iq8 < 8 * sl ∨ 8 * sl + 8 ≤ iq8) → sf_8 iq8 = sf iq8) := hw1
      have hP : va_P G.1 vwCl [(ad 4, .inl (G.2.1 1, 9, .inl kf)), (ad 7, .inl (G.2.1 1, 9, .inl g_6)), (ad 8, .inl (G.2.1 2, 9, .inr (.inl g_3))), (ad 24, .inl (G.2.1 1, 64, .inl nf)), (o, .inr (4, mF ad sz1 osz th hsz)), (ad 5, .inl (G.2.1 2, 72, .inr (.inl sf_8))), (ad 6, .inl (G.2.1 1, 1152, .inl g_1)), (ad 25, .inl (G.2.1 2, 80, .inr (.inl nf_9))), (ad 2, .inl (G.2.1 2, 80, .inr (.inl cf)))] H := hP
      have hD : va_D A [(ad 4, .inl (G.2.1 1, 9, .inl kf)), (ad 7, .inl (G.2.1 1, 9, .inl g_6)), (ad 8, .inl (G.2.1 2, 9, .inr (.inl g_3))), (ad 24, .inl (G.2.1 1, 64, .inl nf)), (o, .inr (4, mF ad sz1 osz th hsz)), (ad 5, .inl (G.2.1 2, 72, .inr (.inl sf_8))), (ad 6, .inl (G.2.1 1, 1152, .inl g_1)), (ad 25, .inl (G.2.1 2, 80, .inr (.inl nf_9))), (ad 2, .inl (G.2.1 2, 80, .inr (.inl cf)))] := hD
      exact gret_v hx hb hr hlk dX4_absorb_86 hS (g_6, sf_8, g_1, g_3, nf, nf_9) (hP.sub [4, 0, 1, 5, 6, 2, 3, 7, 8] rfl) (hD.sub [4, 0, 1, 5, 6, 2, 3, 7, 8] (by decide) rfl) (show (MsR (kf, g_6, sf_8, g_1, g_3) sl k (t + 1) (plc k h ch)) ∧ (MsO [sl] (kf, ff, sf, bf, tf) (kf, g_6, sf_8, g_1, g_3)) from abF hM hch eg_1 eg_2 eg_3 eg_6 c_53 (fun j hj => by rw [if_neg hk2]; exact hw1.1 j hj) hw1.2)
    · skip
      have hk2 : k < 2 := ge_f (n := 2) c_70 (by have := hM.1; omega)
      refine lv_aload_n hx hb dX4_absorb_73 rfl (lv_at hl 0 rfl) ?_
      refine lv_iload_n hx hb dX4_absorb_74 rfl (lv_at hl 1 rfl) ?_
      refine g_callv (g_runV (As := [.int (nI sl)]) (rest := []) ⟨hx, hb, hml, hown, htu⟩ (c_X4_narrowBlock l G _ o ad sz1 osz th hsz sl sf g_1 nf cf hs hc) uM_X4_128 ok_X4_narrowBlock in_X4_narrowBlock rfl rfl ⟨Nat.le_of_ble_eq_true rfl, Nat.le_of_ble_eq_true rfl⟩ hK hP hD hS hA hZ [0, 3, 4, 6, 8] rfl rfl 0 rfl rfl rfl rfl hl.1 rfl (Nat.le_of_ble_eq_true rfl) dX4_absorb_75 ⟨Nat.le_of_ble_eq_true rfl, Nat.le_of_ble_eq_true rfl⟩) hP hD hS hA [0, 3, 4, 6, 8] rfl (fun u H locs hw1 hP hD hS => ?_)
      obtain ⟨sf_11, nf_12⟩ := u
      have hw1 : (∀ jq8, jq8 < 8 → sf_11 (8 * sl + jq8) = mxN (wM sf sl) (sN (oM g_1 sl)) jq8) ∧ (∀ iq8, (iq8 < 8 * sl ∨ 8 * sl + 8 ≤ iq8) → sf_11 iq8 = sf iq8) := hw1
      have hP : va_P G.1 vwCl [(ad 4, .inl (G.2.1 1, 9, .inl kf)), (ad 7, .inl (G.2.1 1, 9, .inl g_6)), (ad 8, .inl (G.2.1 2, 9, .inr (.inl g_3))), (ad 25, .inl (G.2.1 2, 80, .inr (.inl df))), (o, .inr (4, mF ad sz1 osz th hsz)), (ad 5, .inl (G.2.1 2, 72, .inr (.inl sf_11))), (ad 6, .inl (G.2.1 1, 1152, .inl g_1)), (ad 24, .inl (G.2.1 1, 64, .inl nf_12)), (ad 2, .inl (G.2.1 2, 80, .inr (.inl cf)))] H := hP
      have hD : va_D A [(ad 4, .inl (G.2.1 1, 9, .inl kf)), (ad 7, .inl (G.2.1 1, 9, .inl g_6)), (ad 8, .inl (G.2.1 2, 9, .inr (.inl g_3))), (ad 25, .inl (G.2.1 2, 80, .inr (.inl df))), (o, .inr (4, mF ad sz1 osz th hsz)), (ad 5, .inl (G.2.1 2, 72, .inr (.inl sf_11))), (ad 6, .inl (G.2.1 1, 1152, .inl g_1)), (ad 24, .inl (G.2.1 1, 64, .inl nf_12)), (ad 2, .inl (G.2.1 2, 80, .inr (.inl cf)))] := hD
      refine lv_goto (tgt := 86) hx hb dX4_absorb_78 (by decide) ?_
      exact gret_v hx hb hr hlk dX4_absorb_86 hS (g_6, sf_11, g_1, g_3, nf_12, df) (hP.sub [4, 0, 1, 5, 6, 2, 7, 3, 8] rfl) (hD.sub [4, 0, 1, 5, 6, 2, 7, 3, 8] (by decide) rfl) (show (MsR (kf, g_6, sf_11, g_1, g_3) sl k (t + 1) (plc k h ch)) ∧ (MsO [sl] (kf, ff, sf, bf, tf) (kf, g_6, sf_11, g_1, g_3)) from abF hM hch eg_1 eg_2 eg_3 eg_6 c_53 (fun j hj => by rw [if_pos hk2]; exact hw1.1 j hj) hw1.2)
set_option maxHeartbeats 4000000 in
set_option maxRecDepth 100000 in
theorem c_X4_copySlot (l : Launch) (G : GW) (sz : Nat) (o : Nat) (ad : Nat → Nat) (sz1 : Int32) (osz : Int32) (th : Int32) (hsz : Int32) (a : Nat) (b : Nat) (kf : Nat → Int32) (ff : Nat → Int32) (sf : Nat → Int64) (bf : Nat → Int32) (tf : Nat → Int64) (ha : a < 9) (hb9 : b < 9) : Met l yX4_copySlot (Cond.code yX4_copySlot cX4_copySlot 4 (none : Option FieldType) :: UW) ({ frames := 0, cells := 0, slots := 0, locals := 0 } : Room) (va_Pc [.ref o, .int (nI a), .int (nI b)] (gPre G [(o, .inr (4, mF ad sz1 osz th hsz)), (ad 4, .inl (G.2.1 1, 9, .inl kf)), (ad 7, .inl (G.2.1 1, 9, .inl ff)), (ad 5, .inl (G.2.1 2, 72, .inr (.inl sf))), (ad 6, .inl (G.2.1 1, 1152, .inl bf)), (ad 8, .inl (G.2.1 2, 9, .inr (.inl tf)))] sz)) (va_Qv (fun (uq9 : (Nat → Int32) × (Nat → Int32) × (Nat → Int64) × (Nat → Int32) × (Nat → Int64)) => MsC a b (kf, ff, sf, bf, tf) (uq9.1, uq9.2.1, uq9.2.2.1, uq9.2.2.2.1, uq9.2.2.2.2) ∧ MsO [a] (kf, ff, sf, bf, tf) (uq9.1, uq9.2.1, uq9.2.2.1, uq9.2.2.2.1, uq9.2.2.2.2)) (fun u => gPost G (va_A [(o, .inr (4, mF ad sz1 osz th hsz)), (ad 4, .inl (G.2.1 1, 9, .inl kf)), (ad 7, .inl (G.2.1 1, 9, .inl ff)), (ad 5, .inl (G.2.1 2, 72, .inr (.inl sf))), (ad 6, .inl (G.2.1 1, 1152, .inl bf)), (ad 8, .inl (G.2.1 2, 9, .inr (.inl tf)))] sz) ((fun (uq9 : (Nat → Int32) × (Nat → Int32) × (Nat → Int64) × (Nat → Int32) × (Nat → Int64)) => ([(o, .inr (4, mF ad sz1 osz th hsz)), (ad 4, .inl (G.2.1 1, 9, .inl uq9.1)), (ad 7, .inl (G.2.1 1, 9, .inl uq9.2.1)), (ad 5, .inl (G.2.1 2, 72, .inr (.inl uq9.2.2.1))), (ad 6, .inl (G.2.1 1, 1152, .inl uq9.2.2.2.1)), (ad 8, .inl (G.2.1 2, 9, .inr (.inl uq9.2.2.2.2)))] : va_W)) u)) (va_A [(o, .inr (4, mF ad sz1 osz th hsz)), (ad 4, .inl (G.2.1 1, 9, .inl kf)), (ad 7, .inl (G.2.1 1, 9, .inl ff)), (ad 5, .inl (G.2.1 2, 72, .inr (.inl sf))), (ad 6, .inl (G.2.1 1, 1152, .inl bf)), (ad 8, .inl (G.2.1 2, 9, .inr (.inl tf)))] sz)) 0 0 (va_A [(o, .inr (4, mF ad sz1 osz th hsz)), (ad 4, .inl (G.2.1 1, 9, .inl kf)), (ad 7, .inl (G.2.1 1, 9, .inl ff)), (ad 5, .inl (G.2.1 2, 72, .inr (.inl sf))), (ad 6, .inl (G.2.1 1, 1152, .inl bf)), (ad 8, .inl (G.2.1 2, 9, .inr (.inl tf)))] sz) := by
  refine gM_of (Qf := fun A => va_Qv (fun (uq9 : (Nat → Int32) × (Nat → Int32) × (Nat → Int64) × (Nat → Int32) × (Nat → Int64)) => MsC a b (kf, ff, sf, bf, tf) (uq9.1, uq9.2.1, uq9.2.2.1, uq9.2.2.2.1, uq9.2.2.2.2) ∧ MsO [a] (kf, ff, sf, bf, tf) (uq9.1, uq9.2.1, uq9.2.2.1, uq9.2.2.2.1, uq9.2.2.2.2)) (fun u => gPost G A ((fun (uq9 : (Nat → Int32) × (Nat → Int32) × (Nat → Int64) × (Nat → Int32) × (Nat → Int64)) => ([(o, .inr (4, mF ad sz1 osz th hsz)), (ad 4, .inl (G.2.1 1, 9, .inl uq9.1)), (ad 7, .inl (G.2.1 1, 9, .inl uq9.2.1)), (ad 5, .inl (G.2.1 2, 72, .inr (.inl uq9.2.2.1))), (ad 6, .inl (G.2.1 1, 1152, .inl uq9.2.2.2.1)), (ad 8, .inl (G.2.1 2, 9, .inr (.inl uq9.2.2.2.2)))] : va_W)) u)) A) (by decide) (Nat.le_of_ble_eq_true rfl) ?_
  intro p e s m below meth c A ls hx hb hml hr hown htu hlk hnm hA hP hD hS hK hZ hl
  have hown : s.vm.findClass RX4 = some m.cls := hown
  have hl : lv_has ls 4 [(0, .ref o), (1, .int (nI a)), (2, .int (nI b))] := hl
  refine lv_aload_n hx hb dX4_copySlot_0 rfl (lv_at hl 0 rfl) ?_
  refine va_get (D := G.1) (ci := 4) (v := .ref (ad 4)) (C := RX4) (T := TX4) (N := 29) hx hb htu iwX4 hown hK.1 hP 0 rfl rfl 4 (by decide) (htu _ uF_X4_20) (fun _ h9 => h9) rfl dX4_copySlot_1 ?_
  refine lv_iload_n hx hb dX4_copySlot_4 rfl (lv_at hl 1 rfl) ?_
  refine lv_aload_n hx hb dX4_copySlot_5 rfl (lv_at hl 0 rfl) ?_
  refine va_get (D := G.1) (ci := 4) (v := .ref (ad 4)) (C := RX4) (T := TX4) (N := 29) hx hb htu iwX4 hown hK.1 hP 0 rfl rfl 4 (by decide) (htu _ uF_X4_20) (fun _ h9 => h9) rfl dX4_copySlot_6 ?_
  refine lv_iload_n hx hb dX4_copySlot_9 rfl (lv_at hl 2 rfl) ?_
  refine g_iald hx hb hK.1 hP 1 1 rfl rfl ⟨hb9, by decide⟩ dX4_copySlot_10 ?_
  refine lv_topi (fun v_1 ev_1 => ?_)
  refine g_iast hx hb hK.1 hP hD hS 1 1 rfl rfl ⟨ha, by decide⟩ dX4_copySlot_11 (fun H locs hP hD hS => ?_)
  obtain ⟨g_2, eg_2⟩ : ∃ gq9 : Nat → Int32, gq9 = upd kf a v_1 := ⟨_, rfl⟩
  rw [← eg_2] at hP hD
  have hP : va_P G.1 vwCl [(o, .inr (4, mF ad sz1 osz th hsz)), (ad 4, .inl (G.2.1 1, 9, .inl g_2)), (ad 7, .inl (G.2.1 1, 9, .inl ff)), (ad 5, .inl (G.2.1 2, 72, .inr (.inl sf))), (ad 6, .inl (G.2.1 1, 1152, .inl bf)), (ad 8, .inl (G.2.1 2, 9, .inr (.inl tf)))] H := hP
  have hD : va_D A [(o, .inr (4, mF ad sz1 osz th hsz)), (ad 4, .inl (G.2.1 1, 9, .inl g_2)), (ad 7, .inl (G.2.1 1, 9, .inl ff)), (ad 5, .inl (G.2.1 2, 72, .inr (.inl sf))), (ad 6, .inl (G.2.1 1, 1152, .inl bf)), (ad 8, .inl (G.2.1 2, 9, .inr (.inl tf)))] := hD
  refine lv_aload_n hx hb dX4_copySlot_12 rfl (lv_at hl 0 rfl) ?_
  refine va_get (D := G.1) (ci := 4) (v := .ref (ad 7)) (C := RX4) (T := TX4) (N := 29) hx hb htu iwX4 hown hK.1 hP 0 rfl rfl 7 (by decide) (htu _ uF_X4_29) (fun _ h9 => h9) rfl dX4_copySlot_13 ?_
  refine lv_iload_n hx hb dX4_copySlot_16 rfl (lv_at hl 1 rfl) ?_
  refine lv_aload_n hx hb dX4_copySlot_17 rfl (lv_at hl 0 rfl) ?_
  refine va_get (D := G.1) (ci := 4) (v := .ref (ad 7)) (C := RX4) (T := TX4) (N := 29) hx hb htu iwX4 hown hK.1 hP 0 rfl rfl 7 (by decide) (htu _ uF_X4_29) (fun _ h9 => h9) rfl dX4_copySlot_18 ?_
  refine lv_iload_n hx hb dX4_copySlot_21 rfl (lv_at hl 2 rfl) ?_
  refine g_iald hx hb hK.1 hP 2 1 rfl rfl ⟨hb9, by decide⟩ dX4_copySlot_22 ?_
  refine lv_topi (fun v_3 ev_3 => ?_)
  refine g_iast hx hb hK.1 hP hD hS 2 1 rfl rfl ⟨ha, by decide⟩ dX4_copySlot_23 (fun H locs hP hD hS => ?_)
  obtain ⟨g_4, eg_4⟩ : ∃ gq9 : Nat → Int32, gq9 = upd ff a v_3 := ⟨_, rfl⟩
  rw [← eg_4] at hP hD
  have hP : va_P G.1 vwCl [(o, .inr (4, mF ad sz1 osz th hsz)), (ad 4, .inl (G.2.1 1, 9, .inl g_2)), (ad 7, .inl (G.2.1 1, 9, .inl g_4)), (ad 5, .inl (G.2.1 2, 72, .inr (.inl sf))), (ad 6, .inl (G.2.1 1, 1152, .inl bf)), (ad 8, .inl (G.2.1 2, 9, .inr (.inl tf)))] H := hP
  have hD : va_D A [(o, .inr (4, mF ad sz1 osz th hsz)), (ad 4, .inl (G.2.1 1, 9, .inl g_2)), (ad 7, .inl (G.2.1 1, 9, .inl g_4)), (ad 5, .inl (G.2.1 2, 72, .inr (.inl sf))), (ad 6, .inl (G.2.1 1, 1152, .inl bf)), (ad 8, .inl (G.2.1 2, 9, .inr (.inl tf)))] := hD
  refine lv_aload_n hx hb dX4_copySlot_24 rfl (lv_at hl 0 rfl) ?_
  refine va_get (D := G.1) (ci := 4) (v := .ref (ad 8)) (C := RX4) (T := TX4) (N := 29) hx hb htu iwX4 hown hK.1 hP 0 rfl rfl 8 (by decide) (htu _ uF_X4_32) (fun _ h9 => h9) rfl dX4_copySlot_25 ?_
  refine lv_iload_n hx hb dX4_copySlot_28 rfl (lv_at hl 1 rfl) ?_
  refine lv_aload_n hx hb dX4_copySlot_29 rfl (lv_at hl 0 rfl) ?_
  refine va_get (D := G.1) (ci := 4) (v := .ref (ad 8)) (C := RX4) (T := TX4) (N := 29) hx hb htu iwX4 hown hK.1 hP 0 rfl rfl 8 (by decide) (htu _ uF_X4_32) (fun _ h9 => h9) rfl dX4_copySlot_30 ?_
  refine lv_iload_n hx hb dX4_copySlot_33 rfl (lv_at hl 2 rfl) ?_
  refine g_lald hx hb hK.1 hP 5 2 rfl rfl ⟨hb9, by decide⟩ dX4_copySlot_34 ?_
  refine lv_topl (fun v_5 ev_5 => ?_)
  refine g_last hx hb hK.1 hP hD hS 5 2 rfl rfl ⟨ha, by decide⟩ dX4_copySlot_35 (fun H locs hP hD hS => ?_)
  obtain ⟨g_6, eg_6⟩ : ∃ gq9 : Nat → Int64, gq9 = vp_updL tf a v_5 := ⟨_, rfl⟩
  rw [← eg_6] at hP hD
  have hP : va_P G.1 vwCl [(o, .inr (4, mF ad sz1 osz th hsz)), (ad 4, .inl (G.2.1 1, 9, .inl g_2)), (ad 7, .inl (G.2.1 1, 9, .inl g_4)), (ad 5, .inl (G.2.1 2, 72, .inr (.inl sf))), (ad 6, .inl (G.2.1 1, 1152, .inl bf)), (ad 8, .inl (G.2.1 2, 9, .inr (.inl g_6)))] H := hP
  have hD : va_D A [(o, .inr (4, mF ad sz1 osz th hsz)), (ad 4, .inl (G.2.1 1, 9, .inl g_2)), (ad 7, .inl (G.2.1 1, 9, .inl g_4)), (ad 5, .inl (G.2.1 2, 72, .inr (.inl sf))), (ad 6, .inl (G.2.1 1, 1152, .inl bf)), (ad 8, .inl (G.2.1 2, 9, .inr (.inl g_6)))] := hD
  refine lv_iconst (v := nI 0) hx hb dX4_copySlot_36 (by decide) ?_
  refine lv_istore_n (lv' := [(3, .int (nI 0)), (0, .ref o), (1, .int (nI a)), (2, .int (nI b))]) hx hb dX4_copySlot_37 rfl hl (by decide) rfl (fun ls hl => ?_)
  refine g_loop (σ := Nat × (Nat → Int64)) (G := G) (fun xq9 : Nat × (Nat → Int64) => [(o, .inr (4, mF ad sz1 osz th hsz)), (ad 4, .inl (G.2.1 1, 9, .inl g_2)), (ad 7, .inl (G.2.1 1, 9, .inl g_4)), (ad 5, .inl (G.2.1 2, 72, .inr (.inl xq9.2))), (ad 6, .inl (G.2.1 1, 1152, .inl bf)), (ad 8, .inl (G.2.1 2, 9, .inr (.inl g_6)))]) (fun xq9 : Nat × (Nat → Int64) => [(0, .ref o), (1, .int (nI a)), (2, .int (nI b)), (3, .int (nI xq9.1))]) (fun xq9 : Nat × (Nat → Int64) => xq9.1 ≤ 8 ∧ (∀ x, x < xq9.1 → xq9.2 (8 * a + x) = sf (8 * b + x)) ∧ ∀ x, (x < 8 * a ∨ 8 * a + xq9.1 ≤ x) → xq9.2 x = sf x) (fun xq9 : Nat × (Nat → Int64) => 8 - xq9.1) ?_ (0, sf) (show 0 ≤ 8 ∧ (∀ x, x < 0 → sf (8 * a + x) = sf (8 * b + x)) ∧ ∀ x, (x < 8 * a ∨ 8 * a + 0 ≤ x) → sf x = sf x from ⟨Nat.zero_le _, fun _ h => absurd h (Nat.not_lt_zero _), fun _ _ => rfl⟩) (hP.sub [0, 1, 2, 3, 4, 5] rfl) (hD.sub [0, 1, 2, 3, 4, 5] (by decide) rfl) hS (lv_sub hl [1, 2, 3, 0] rfl)
  clear hP hD hS hl
  intro x hxI_38 ih_38 H locs ls hP hD hS hl
  obtain ⟨i, g⟩ := x
  have hI : i ≤ 8 ∧ (∀ x, x < i → g (8 * a + x) = sf (8 * b + x)) ∧ ∀ x, (x < 8 * a ∨ 8 * a + i ≤ x) → g x = sf x := hxI_38
  have hP : va_P G.1 vwCl [(o, .inr (4, mF ad sz1 osz th hsz)), (ad 4, .inl (G.2.1 1, 9, .inl g_2)), (ad 7, .inl (G.2.1 1, 9, .inl g_4)), (ad 5, .inl (G.2.1 2, 72, .inr (.inl g))), (ad 6, .inl (G.2.1 1, 1152, .inl bf)), (ad 8, .inl (G.2.1 2, 9, .inr (.inl g_6)))] H := hP
  have hD : va_D A [(o, .inr (4, mF ad sz1 osz th hsz)), (ad 4, .inl (G.2.1 1, 9, .inl g_2)), (ad 7, .inl (G.2.1 1, 9, .inl g_4)), (ad 5, .inl (G.2.1 2, 72, .inr (.inl g))), (ad 6, .inl (G.2.1 1, 1152, .inl bf)), (ad 8, .inl (G.2.1 2, 9, .inr (.inl g_6)))] := hD
  have hl : lv_has ls 4 [(0, .ref o), (1, .int (nI a)), (2, .int (nI b)), (3, .int (nI i))] := hl
  refine lv_iload_n hx hb dX4_copySlot_38 rfl (lv_at hl 3 rfl) ?_
  refine lv_bipush (v := nI 8) hx hb dX4_copySlot_39 (by decide) ?_
  refine lv_icmp_ge (tgt := 72) hx hb dX4_copySlot_41 (by decide) (fun c_41 => ?_) (fun c_41 => ?_)
  · skip
    have hg : 8 ≤ i := ge_t (n := 8) c_41 (by decide)
    refine lv_iconst (v := nI 0) hx hb dX4_copySlot_72 (by decide) ?_
    refine lv_istore_n (lv' := [(3, .int (nI 0)), (0, .ref o), (1, .int (nI a)), (2, .int (nI b))]) hx hb dX4_copySlot_73 rfl hl (by decide) rfl (fun ls hl => ?_)
    refine g_loop (σ := Nat × (Nat → Int32)) (G := G) (fun xq9 : Nat × (Nat → Int32) => [(o, .inr (4, mF ad sz1 osz th hsz)), (ad 4, .inl (G.2.1 1, 9, .inl g_2)), (ad 7, .inl (G.2.1 1, 9, .inl g_4)), (ad 5, .inl (G.2.1 2, 72, .inr (.inl g))), (ad 6, .inl (G.2.1 1, 1152, .inl xq9.2)), (ad 8, .inl (G.2.1 2, 9, .inr (.inl g_6)))]) (fun xq9 : Nat × (Nat → Int32) => [(0, .ref o), (1, .int (nI a)), (2, .int (nI b)), (3, .int (nI xq9.1))]) (fun xq9 : Nat × (Nat → Int32) => xq9.1 ≤ 128 ∧ (∀ x, x < xq9.1 → xq9.2 (128 * a + x) = bf (128 * b + x)) ∧ ∀ x, (x < 128 * a ∨ 128 * a + xq9.1 ≤ x) → xq9.2 x = bf x) (fun xq9 : Nat × (Nat → Int32) => 128 - xq9.1) ?_ (0, bf) (show 0 ≤ 128 ∧ (∀ x, x < 0 → bf (128 * a + x) = bf (128 * b + x)) ∧ ∀ x, (x < 128 * a ∨ 128 * a + 0 ≤ x) → bf x = bf x from ⟨Nat.zero_le _, fun _ h => absurd h (Nat.not_lt_zero _), fun _ _ => rfl⟩) (hP.sub [0, 1, 2, 3, 4, 5] rfl) (hD.sub [0, 1, 2, 3, 4, 5] (by decide) rfl) hS (lv_sub hl [1, 2, 3, 0] rfl)
    clear hP hD hS hl
    intro x hxI_74 ih_74 H locs ls hP hD hS hl
    obtain ⟨j, y⟩ := x
    have hJ : j ≤ 128 ∧ (∀ x, x < j → y (128 * a + x) = bf (128 * b + x)) ∧ ∀ x, (x < 128 * a ∨ 128 * a + j ≤ x) → y x = bf x := hxI_74
    have hP : va_P G.1 vwCl [(o, .inr (4, mF ad sz1 osz th hsz)), (ad 4, .inl (G.2.1 1, 9, .inl g_2)), (ad 7, .inl (G.2.1 1, 9, .inl g_4)), (ad 5, .inl (G.2.1 2, 72, .inr (.inl g))), (ad 6, .inl (G.2.1 1, 1152, .inl y)), (ad 8, .inl (G.2.1 2, 9, .inr (.inl g_6)))] H := hP
    have hD : va_D A [(o, .inr (4, mF ad sz1 osz th hsz)), (ad 4, .inl (G.2.1 1, 9, .inl g_2)), (ad 7, .inl (G.2.1 1, 9, .inl g_4)), (ad 5, .inl (G.2.1 2, 72, .inr (.inl g))), (ad 6, .inl (G.2.1 1, 1152, .inl y)), (ad 8, .inl (G.2.1 2, 9, .inr (.inl g_6)))] := hD
    have hl : lv_has ls 4 [(0, .ref o), (1, .int (nI a)), (2, .int (nI b)), (3, .int (nI j))] := hl
    refine lv_iload_n hx hb dX4_copySlot_74 rfl (lv_at hl 3 rfl) ?_
    refine lv_sipush (v := nI 128) hx hb dX4_copySlot_75 (by decide) ?_
    refine lv_icmp_ge (tgt := 111) hx hb dX4_copySlot_78 (by decide) (fun c_78 => ?_) (fun c_78 => ?_)
    · skip
      have hq : 128 ≤ j := ge_t (n := 128) c_78 (by decide)
      exact gret_v hx hb hr hlk dX4_copySlot_111 hS (g_2, g_4, g, y, g_6) (hP.sub [0, 1, 2, 3, 4, 5] rfl) (hD.sub [0, 1, 2, 3, 4, 5] (by decide) rfl) (show (MsC a b (kf, ff, sf, bf, tf) (g_2, g_4, g, y, g_6)) ∧ (MsO [a] (kf, ff, sf, bf, tf) (g_2, g_4, g, y, g_6)) from csE eg_2 ev_1 eg_4 ev_3 eg_6 ev_5 hI hg hJ hq)
    · skip
      have hq : j < 128 := ge_f (n := 128) c_78 (by omega)
      refine lv_aload_n hx hb dX4_copySlot_81 rfl (lv_at hl 0 rfl) ?_
      refine va_get (D := G.1) (ci := 4) (v := .ref (ad 6)) (C := RX4) (T := TX4) (N := 29) hx hb htu iwX4 hown hK.1 hP 0 rfl rfl 6 (by decide) (htu _ uF_X4_26) (fun _ h9 => h9) rfl dX4_copySlot_82 ?_
      refine lv_sipush (v := nI 128) hx hb dX4_copySlot_85 (by decide) ?_
      refine lv_iload_n hx hb dX4_copySlot_88 rfl (lv_at hl 1 rfl) ?_
      refine lv_imul hx hb dX4_copySlot_89 ?_
      refine g_toi (y := nI (128 * a)) (pk_mul 128 a) ?_
      refine lv_iload_n hx hb dX4_copySlot_90 rfl (lv_at hl 3 rfl) ?_
      refine lv_iadd hx hb dX4_copySlot_91 ?_
      refine g_toi (y := nI (128 * a + j)) (nI_add (128 * a) j) ?_
      refine lv_aload_n hx hb dX4_copySlot_92 rfl (lv_at hl 0 rfl) ?_
      refine va_get (D := G.1) (ci := 4) (v := .ref (ad 6)) (C := RX4) (T := TX4) (N := 29) hx hb htu iwX4 hown hK.1 hP 0 rfl rfl 6 (by decide) (htu _ uF_X4_26) (fun _ h9 => h9) rfl dX4_copySlot_93 ?_
      refine lv_sipush (v := nI 128) hx hb dX4_copySlot_96 (by decide) ?_
      refine lv_iload_n hx hb dX4_copySlot_99 rfl (lv_at hl 2 rfl) ?_
      refine lv_imul hx hb dX4_copySlot_100 ?_
      refine g_toi (y := nI (128 * b)) (pk_mul 128 b) ?_
      refine lv_iload_n hx hb dX4_copySlot_101 rfl (lv_at hl 3 rfl) ?_
      refine lv_iadd hx hb dX4_copySlot_102 ?_
      refine g_toi (y := nI (128 * b + j)) (nI_add (128 * b) j) ?_
      refine g_iald hx hb hK.1 hP 4 1 rfl rfl ⟨by omega, by decide⟩ dX4_copySlot_103 ?_
      refine lv_topi (fun v_7 ev_7 => ?_)
      refine g_iast hx hb hK.1 hP hD hS 4 1 rfl rfl ⟨by omega, by decide⟩ dX4_copySlot_104 (fun H locs hP hD hS => ?_)
      obtain ⟨g_8, eg_8⟩ : ∃ gq9 : Nat → Int32, gq9 = upd y (128 * a + j) v_7 := ⟨_, rfl⟩
      rw [← eg_8] at hP hD
      have hP : va_P G.1 vwCl [(o, .inr (4, mF ad sz1 osz th hsz)), (ad 4, .inl (G.2.1 1, 9, .inl g_2)), (ad 7, .inl (G.2.1 1, 9, .inl g_4)), (ad 5, .inl (G.2.1 2, 72, .inr (.inl g))), (ad 6, .inl (G.2.1 1, 1152, .inl g_8)), (ad 8, .inl (G.2.1 2, 9, .inr (.inl g_6)))] H := hP
      have hD : va_D A [(o, .inr (4, mF ad sz1 osz th hsz)), (ad 4, .inl (G.2.1 1, 9, .inl g_2)), (ad 7, .inl (G.2.1 1, 9, .inl g_4)), (ad 5, .inl (G.2.1 2, 72, .inr (.inl g))), (ad 6, .inl (G.2.1 1, 1152, .inl g_8)), (ad 8, .inl (G.2.1 2, 9, .inr (.inl g_6)))] := hD
      refine lv_iinc (v := nI (j + 1)) (lv' := [(3, .int (nI (j + 1))), (0, .ref o), (1, .int (nI a)), (2, .int (nI b))]) hx hb dX4_copySlot_105 hl (k := 3) rfl (nI_1 j) (by decide) rfl (fun ls hl => ?_)
      refine lv_goto (tgt := 74) hx hb dX4_copySlot_108 (by decide) ?_
      exact ih_74 (j + 1, g_8) (show (j + 1) ≤ 128 ∧ (∀ x, x < (j + 1) → g_8 (128 * a + x) = bf (128 * b + x)) ∧ ∀ x, (x < 128 * a ∨ 128 * a + (j + 1) ≤ x) → g_8 x = bf x from csI hJ hq eg_8 ev_7) (by show 128 - (j + 1) < 128 - j; omega) _ _ _ (hP.sub [0, 1, 2, 3, 4, 5] rfl) (hD.sub [0, 1, 2, 3, 4, 5] (by decide) rfl) hS (lv_sub hl [1, 2, 3, 0] rfl)
  · skip
    have hg : i < 8 := ge_f (n := 8) c_41 (by omega)
    refine lv_aload_n hx hb dX4_copySlot_44 rfl (lv_at hl 0 rfl) ?_
    refine va_get (D := G.1) (ci := 4) (v := .ref (ad 5)) (C := RX4) (T := TX4) (N := 29) hx hb htu iwX4 hown hK.1 hP 0 rfl rfl 5 (by decide) (htu _ uF_X4_23) (fun _ h9 => h9) rfl dX4_copySlot_45 ?_
    refine lv_bipush (v := nI 8) hx hb dX4_copySlot_48 (by decide) ?_
    refine lv_iload_n hx hb dX4_copySlot_50 rfl (lv_at hl 1 rfl) ?_
    refine lv_imul hx hb dX4_copySlot_51 ?_
    refine g_toi (y := nI (8 * a)) (pk_mul 8 a) ?_
    refine lv_iload_n hx hb dX4_copySlot_52 rfl (lv_at hl 3 rfl) ?_
    refine lv_iadd hx hb dX4_copySlot_53 ?_
    refine g_toi (y := nI (8 * a + i)) (nI_add (8 * a) i) ?_
    refine lv_aload_n hx hb dX4_copySlot_54 rfl (lv_at hl 0 rfl) ?_
    refine va_get (D := G.1) (ci := 4) (v := .ref (ad 5)) (C := RX4) (T := TX4) (N := 29) hx hb htu iwX4 hown hK.1 hP 0 rfl rfl 5 (by decide) (htu _ uF_X4_23) (fun _ h9 => h9) rfl dX4_copySlot_55 ?_
    refine lv_bipush (v := nI 8) hx hb dX4_copySlot_58 (by decide) ?_
    refine lv_iload_n hx hb dX4_copySlot_60 rfl (lv_at hl 2 rfl) ?_
    refine lv_imul hx hb dX4_copySlot_61 ?_
    refine g_toi (y := nI (8 * b)) (pk_mul 8 b) ?_
    refine lv_iload_n hx hb dX4_copySlot_62 rfl (lv_at hl 3 rfl) ?_
    refine lv_iadd hx hb dX4_copySlot_63 ?_
    refine g_toi (y := nI (8 * b + i)) (nI_add (8 * b) i) ?_
    refine g_lald hx hb hK.1 hP 3 2 rfl rfl ⟨by omega, by decide⟩ dX4_copySlot_64 ?_
    refine lv_topl (fun v_9 ev_9 => ?_)
    refine g_last hx hb hK.1 hP hD hS 3 2 rfl rfl ⟨by omega, by decide⟩ dX4_copySlot_65 (fun H locs hP hD hS => ?_)
    obtain ⟨g_10, eg_10⟩ : ∃ gq9 : Nat → Int64, gq9 = vp_updL g (8 * a + i) v_9 := ⟨_, rfl⟩
    rw [← eg_10] at hP hD
    have hP : va_P G.1 vwCl [(o, .inr (4, mF ad sz1 osz th hsz)), (ad 4, .inl (G.2.1 1, 9, .inl g_2)), (ad 7, .inl (G.2.1 1, 9, .inl g_4)), (ad 5, .inl (G.2.1 2, 72, .inr (.inl g_10))), (ad 6, .inl (G.2.1 1, 1152, .inl bf)), (ad 8, .inl (G.2.1 2, 9, .inr (.inl g_6)))] H := hP
    have hD : va_D A [(o, .inr (4, mF ad sz1 osz th hsz)), (ad 4, .inl (G.2.1 1, 9, .inl g_2)), (ad 7, .inl (G.2.1 1, 9, .inl g_4)), (ad 5, .inl (G.2.1 2, 72, .inr (.inl g_10))), (ad 6, .inl (G.2.1 1, 1152, .inl bf)), (ad 8, .inl (G.2.1 2, 9, .inr (.inl g_6)))] := hD
    refine lv_iinc (v := nI (i + 1)) (lv' := [(3, .int (nI (i + 1))), (0, .ref o), (1, .int (nI a)), (2, .int (nI b))]) hx hb dX4_copySlot_66 hl (k := 3) rfl (nI_1 i) (by decide) rfl (fun ls hl => ?_)
    refine lv_goto (tgt := 38) hx hb dX4_copySlot_69 (by decide) ?_
    exact ih_38 (i + 1, g_10) (show (i + 1) ≤ 8 ∧ (∀ x, x < (i + 1) → g_10 (8 * a + x) = sf (8 * b + x)) ∧ ∀ x, (x < 8 * a ∨ 8 * a + (i + 1) ≤ x) → g_10 x = sf x from csL hI hg eg_10 ev_9) (by show 8 - (i + 1) < 8 - i; omega) _ _ _ (hP.sub [0, 1, 2, 3, 4, 5] rfl) (hD.sub [0, 1, 2, 3, 4, 5] (by decide) rfl) hS (lv_sub hl [1, 2, 3, 0] rfl)
