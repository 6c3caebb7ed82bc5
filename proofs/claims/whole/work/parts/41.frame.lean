/-! contracts over larger worlds -/
theorem fm_of {ws : va_W} : ∀ (l : List Nat) (w : va_W), l.map (fun i => ws[i]?) = w.map some → l.filterMap (fun i => ws[i]?) = w := by
  intro l
  induction l with
  | nil => intro w h; cases w with | nil => rfl | cons a w => simp at h
  | cons a l ih =>
    intro w h
    cases w with
    | nil => simp at h
    | cons b w =>
      simp only [List.map_cons, List.cons.injEq] at h
      simp only [List.filterMap_cons, h.1, ih w h.2]
section Fr
variable {l : Launch} {y : MethodName} {cw : List Cond} {rm rm' : Room} {av : List Value} {G : GW} {ws wc : va_W} {sz mc ms : Nat} {S S' : Type} {w1 : S → va_W} {W1 : S' → va_W}
theorem vaA_sub (isC : List Nat) (hC : isC.map (fun i => ws[i]?) = wc.map some) {q : Nat} (h : va_A wc sz q) : va_A ws sz q := by
  rcases h with ⟨k, e, h⟩ | h
  · have h1 : (isC.map (fun i => ws[i]?))[k]? = some (some (q, e)) := by rw [hC, List.getElem?_map, h]; rfl
    rw [List.getElem?_map] at h1
    cases hi : isC[k]? with
    | none => rw [hi] at h1; simp at h1
    | some i =>
      rw [hi] at h1
      exact Or.inl ⟨i, e, Option.some.inj h1⟩
  · exact Or.inr h
theorem gPre_sub1 (isC : List Nat) (hC : isC.map (fun i => ws[i]?) = wc.map some) (hnd : va_nd isC = true) {U : State} (h : gPre G ws sz U) : gPre G wc sz U := by
  obtain ⟨h1, h2, h3, h4, h5⟩ := h
  exact ⟨h1, h2.sub isC (fm_of isC wc hC), h3, h4.sub isC hnd hC, h5.narrow (fun q hq => vaA_sub isC hC hq)⟩
/-- a world W' out of a call's world and the places that it left alone -/
theorem gW_of {D : va_G} {cl : List vw_C} {A : Nat → Prop} {W' wr wo : va_W} {H : Heap} {isR isO : List Nat} {N : Nat} (hR : isR.map (fun i => W'[i]?) = wr.map some) (hO : isO.map (fun i => W'[i]?) = wo.map some) (hN : W'.length = N) (hcov : ∀ k, k < N → k ∈ isR ++ isO) (hP : va_P D cl (wr ++ wo) H) (hD : va_D A (wr ++ wo)) : va_P D cl W' H ∧ va_D A W' := by
  have h1 : (isR ++ isO).map (fun i => W'[i]?) = (wr ++ wo).map some := by rw [List.map_append, List.map_append, hR, hO]
  have key : ∀ (k : Nat) (q : Nat × va_E), W'[k]? = some q → ∃ i : Nat, (isR ++ isO)[i]? = some k ∧ (wr ++ wo)[i]? = some q := by
    intro k q hk
    have hk2 : k < N := by rw [← hN]; exact (List.getElem?_eq_some_iff.mp hk).1
    obtain ⟨i, hi⟩ := List.getElem?_of_mem (hcov k hk2)
    refine ⟨i, hi, ?_⟩
    have h2 : ((isR ++ isO).map (fun i => W'[i]?))[i]? = some (some q) := by rw [List.getElem?_map, hi]; show some (W'[k]?) = _; rw [hk]
    rw [h1, List.getElem?_map] at h2
    cases h3 : (wr ++ wo)[i]? with
    | none => rw [h3] at h2; exact nomatch h2
    | some x => rw [h3] at h2; exact congrArg some (Option.some.inj (Option.some.inj h2))
  refine ⟨fun k q hk => ?_, fun i j x y hx hy hxy => ?_, fun k q hk => ?_⟩
  · obtain ⟨i, -, h⟩ := key k q hk
    exact hP i q h
  · obtain ⟨i', h1, h2⟩ := key i x hx
    obtain ⟨j', h3, h4⟩ := key j y hy
    have e := hD.1 i' j' x y h2 h4 hxy
    rw [e, h3] at h1
    exact (Option.some.inj h1).symm
  · obtain ⟨i, -, h⟩ := key k q hk
    exact hD.2 i q h
theorem gPost_sup (isC isR isO : List Nat) {N : Nat} (hC : isC.map (fun i => ws[i]?) = wc.map some) (hnR : va_nd isR = true) (hdis : ∀ i ∈ isR, i ∉ isC) (hlt : ∀ i ∈ isR, i < N) (hcov : ∀ k, k < N → k ∈ isR ++ isO) {st t : State} {u : S} {w2 : va_W} (h : gPre G ws sz st) (hB : gPost G (va_A wc sz) (w1 u) t) (hF : va_F (va_A wc sz) st t)
    (hR0 : ∀ i ∈ isR, ∃ x : Nat × va_E, ws[i]? = some x ∧ w2[i]? = some x) (hO : isO.map (fun i => w2[i]?) = (w1 u).map some) (hN : w2.length = N) : gPost G (va_A ws sz) w2 t := by
  obtain ⟨h1, h2, h3, h4, h5⟩ := h
  subst h1
  have hR : isR.map (fun i => ws[i]?) = isR.map (fun i => w2[i]?) := List.map_congr_left (fun i hi => by obtain ⟨x, e1, e2⟩ := hR0 i hi; rw [e1, e2])
  have hr : isR.map (fun i => w2[i]?) = (isR.filterMap (fun i => w2[i]?)).map some := gRest_map (fun i hi => by rw [hN]; exact hlt i hi)
  obtain ⟨a, b⟩ := va_join (A0 := va_A ws st.heap.size) (wr := isR.filterMap (fun i => w2[i]?)) h2 h4.self isC isR hC (hR.trans hr) hnR hdis hF.2 (fun q hq => vaA_sub isC hC hq) hB.1 hB.2
  exact gW_of hr hO hN hcov a b
theorem vaF_sup (isC : List Nat) (hC : isC.map (fun i => ws[i]?) = wc.map some) {st t : State} (hF : va_F (va_A wc sz) st t) : va_F (va_A ws sz) st t := ⟨hF.1, fun q h1 h2 => hF.2 q h1 (fun h => h2 (vaA_sub isC hC h))⟩
theorem Met.room {Pc : Array Value → State → Prop} {Qc : Array Value → State → Outcome → State → Prop} {free : Addr → Prop} (h : Met l y cw rm Pc Qc mc ms free) (hr : rm.frames ≤ rm'.frames ∧ rm.locals ≤ rm'.locals ∧ rm.cells ≤ rm'.cells ∧ rm.slots ≤ rm'.slots) : Met l y cw rm' Pc Qc mc ms free :=
  MetFree.respec (S := headSpec cw rm) (S' := headSpec cw rm') h (fun _ _ h => h) hr.1 hr.2.1 hr.2.2.1 hr.2.2.2
theorem gFr_i {post : Int32 → S → Prop} {post' : Int32 → S' → Prop} (hM : Met l y cw rm (va_Pc av (gPre G wc sz)) (va_Qi post (fun u => gPost G (va_A wc sz) (w1 u)) (va_A wc sz)) mc ms (va_A wc sz)) (hr : rm.frames ≤ rm'.frames ∧ rm.locals ≤ rm'.locals ∧ rm.cells ≤ rm'.cells ∧ rm.slots ≤ rm'.slots) (isC isR isO : List Nat) (N : Nat) (hC : isC.map (fun i => ws[i]?) = wc.map some) (hnd : va_nd isC = true) (hnR : va_nd isR = true) (hdis : ∀ i ∈ isR, i ∉ isC) (hlt : ∀ i ∈ isR, i < N) (hcov : ∀ k, k < N → k ∈ isR ++ isO)
    (k : ∀ r u, post r u → ∃ u', post' r u' ∧ (∀ i ∈ isR, ∃ x : Nat × va_E, ws[i]? = some x ∧ (W1 u')[i]? = some x) ∧ isO.map (fun i => (W1 u')[i]?) = (w1 u).map some ∧ (W1 u').length = N) :
    Met l y cw rm' (va_Pc av (gPre G ws sz)) (va_Qi post' (fun u => gPost G (va_A ws sz) (W1 u)) (va_A ws sz)) mc ms (va_A ws sz) := by
  refine MetFree.mono (hM.room hr) (fun a s h => ⟨h.1, gPre_sub1 isC hC hnd h.2⟩) (fun _ _ _ _ _ h => h) ?_
  intro a st o t hp hq
  obtain ⟨⟨⟨r, u, ho, h1, h2⟩, h3⟩, L, h4, h5⟩ := hq
  obtain ⟨u', k1, k2, k3, k4⟩ := k r u h1
  exact ⟨⟨⟨r, u', ho, k1, gPost_sup isC isR isO hC hnR hdis hlt hcov hp.2 h2 h3 k2 k3 k4⟩, vaF_sup isC hC h3⟩, L, h4, fun q hq => vaA_sub isC hC (h5 q hq)⟩
theorem gFr_l {post : Int64 → S → Prop} {post' : Int64 → S' → Prop} (hM : Met l y cw rm (va_Pc av (gPre G wc sz)) (va_Ql post (fun u => gPost G (va_A wc sz) (w1 u)) (va_A wc sz)) mc ms (va_A wc sz)) (hr : rm.frames ≤ rm'.frames ∧ rm.locals ≤ rm'.locals ∧ rm.cells ≤ rm'.cells ∧ rm.slots ≤ rm'.slots) (isC isR isO : List Nat) (N : Nat) (hC : isC.map (fun i => ws[i]?) = wc.map some) (hnd : va_nd isC = true) (hnR : va_nd isR = true) (hdis : ∀ i ∈ isR, i ∉ isC) (hlt : ∀ i ∈ isR, i < N) (hcov : ∀ k, k < N → k ∈ isR ++ isO)
    (k : ∀ r u, post r u → ∃ u', post' r u' ∧ (∀ i ∈ isR, ∃ x : Nat × va_E, ws[i]? = some x ∧ (W1 u')[i]? = some x) ∧ isO.map (fun i => (W1 u')[i]?) = (w1 u).map some ∧ (W1 u').length = N) :
    Met l y cw rm' (va_Pc av (gPre G ws sz)) (va_Ql post' (fun u => gPost G (va_A ws sz) (W1 u)) (va_A ws sz)) mc ms (va_A ws sz) := by
  refine MetFree.mono (hM.room hr) (fun a s h => ⟨h.1, gPre_sub1 isC hC hnd h.2⟩) (fun _ _ _ _ _ h => h) ?_
  intro a st o t hp hq
  obtain ⟨⟨⟨r, u, ho, h1, h2⟩, h3⟩, L, h4, h5⟩ := hq
  obtain ⟨u', k1, k2, k3, k4⟩ := k r u h1
  exact ⟨⟨⟨r, u', ho, k1, gPost_sup isC isR isO hC hnR hdis hlt hcov hp.2 h2 h3 k2 k3 k4⟩, vaF_sup isC hC h3⟩, L, h4, fun q hq => vaA_sub isC hC (h5 q hq)⟩
theorem gFr_v {post : S → Prop} {post' : S' → Prop} (hM : Met l y cw rm (va_Pc av (gPre G wc sz)) (va_Qv post (fun u => gPost G (va_A wc sz) (w1 u)) (va_A wc sz)) mc ms (va_A wc sz)) (hr : rm.frames ≤ rm'.frames ∧ rm.locals ≤ rm'.locals ∧ rm.cells ≤ rm'.cells ∧ rm.slots ≤ rm'.slots) (isC isR isO : List Nat) (N : Nat) (hC : isC.map (fun i => ws[i]?) = wc.map some) (hnd : va_nd isC = true) (hnR : va_nd isR = true) (hdis : ∀ i ∈ isR, i ∉ isC) (hlt : ∀ i ∈ isR, i < N) (hcov : ∀ k, k < N → k ∈ isR ++ isO)
    (k : ∀ u, post u → ∃ u', post' u' ∧ (∀ i ∈ isR, ∃ x : Nat × va_E, ws[i]? = some x ∧ (W1 u')[i]? = some x) ∧ isO.map (fun i => (W1 u')[i]?) = (w1 u).map some ∧ (W1 u').length = N) :
    Met l y cw rm' (va_Pc av (gPre G ws sz)) (va_Qv post' (fun u => gPost G (va_A ws sz) (W1 u)) (va_A ws sz)) mc ms (va_A ws sz) := by
  refine MetFree.mono (hM.room hr) (fun a s h => ⟨h.1, gPre_sub1 isC hC hnd h.2⟩) (fun _ _ _ _ _ h => h) ?_
  intro a st o t hp hq
  obtain ⟨⟨⟨u, ho, h1, h2⟩, h3⟩, L, h4, h5⟩ := hq
  obtain ⟨u', k1, k2, k3, k4⟩ := k u h1
  exact ⟨⟨⟨u', ho, k1, gPost_sup isC isR isO hC hnR hdis hlt hcov hp.2 h2 h3 k2 k3 k4⟩, vaF_sup isC hC h3⟩, L, h4, fun q hq => vaA_sub isC hC (h5 q hq)⟩
end Fr
/-! the document's machine -/
/-- tape, out, registers, streams -/
abbrev AS : Type := List Nat × List Nat × (Nat → List Nat) × (Nat → SA)
/-- what a call does: what is thrown, the answer, the state behind -/
abbrev AO : Type := Nat × Int64 × AS
def setS (A : AS) (s : Nat) (v : SA) : AS := (A.1, A.2.1, A.2.2.1, va_up A.2.2.2 s v)
def cl (x : Int32) : Nat := x.toNatClampNeg
def feedA (A : AS) (x : Int32) (v : Int64) : AO := if x < 1 ∨ 8 < x ∨ 600 < nI A.1.length + x then (1, 0, A) else (0, lN (A.1.length + cl x), (A.1 ++ octs (cl x) v, A.2))
def beginA (A : AS) (x y : Int32) : AO := if nsI x = 1 then (1, 0, A) else if nkI y = 1 then (2, 0, A) else (0, 0, setS A (cl x) (true, cl y, false, false, 0, hs0 (cl y), []))
def codeA (A : AS) (x y : Int32) : AO := if nsI x = 1 then (1, 0, A) else if nkI y = 1 then (2, 0, A) else (0, lN A.1.length, ([], A.2.1, A.2.2.1, va_up A.2.2.2 (cl x) (true, cl y, true, false, 0, kin (cl y) (keyQ (cl y) A.1) 54, keyQ (cl y) A.1)))
/-- no stream that takes octets -/
def shut (v : SA) : Bool := !v.1 || v.2.2.2.1
def upd1 (A : AS) (s : Nat) (v : SA) : AO := if shut v then (2, 0, A) else (0, lN (v.2.2.2.2.1 + A.1.length), ([], A.2.1, A.2.2.1, va_up A.2.2.2 s (true, v.2.1, v.2.2.1, false, v.2.2.2.2.1 + A.1.length, plcs v.2.1 v.2.2.2.2.2.1 A.1, v.2.2.2.2.2.2)))
def updateA (A : AS) (x : Int32) : AO := if nsI x = 1 then (1, 0, A) else upd1 A (cl x) (A.2.2.2 (cl x))
def rep1 (A : AS) (s : Nat) (v : SA) (w n : Int32) : AO := if shut v then (2, 0, A) else if n < 0 ∨ 20000 < n then (3, 0, A) else (0, lN (v.2.2.2.2.1 + cl n), setS A s (true, v.2.1, v.2.2.1, false, v.2.2.2.2.1 + cl n, plcs v.2.1 v.2.2.2.2.2.1 (List.replicate (cl n) (o8 w)), v.2.2.2.2.2.2))
def repeatA (A : AS) (x w n : Int32) : AO := if nsI x = 1 then (1, 0, A) else rep1 A (cl x) (A.2.2.2 (cl x)) w n
def fin1 (A : AS) (s : Nat) (v : SA) : AO := if shut v then (2, 0, A) else (0, lN (ds v.2.1), (A.1, finQ v, A.2.2.1, va_up A.2.2.2 s (true, v.2.1, v.2.2.1, true, v.2.2.2.2.1, v.2.2.2.2.2.1, v.2.2.2.2.2.2)))
def finishA (A : AS) (x : Int32) : AO := if nsI x = 1 then (1, 0, A) else fin1 A (cl x) (A.2.2.2 (cl x))
def cop1 (A : AS) (s : Nat) (v : SA) : AO := if v.1 then (0, 0, setS A s v) else (2, 0, A)
def copyA (A : AS) (x y : Int32) : AO := if nsI x = 1 then (1, 0, A) else if nsI y = 1 then (1, 0, A) else cop1 A (cl x) (A.2.2.2 (cl y))
def aboutA (A : AS) (x y : Int32) : AO := if nsI x = 1 then (1, 0, A) else if y < 0 ∨ 3 < y then (1, 0, A) else (0, (abQ (A.2.2.2 (cl x)) (cl y)).toInt64, A)
def holdA (A : AS) (x : Int32) : AO := if x < 0 ∨ 2 < x then (1, 0, A) else (0, lN A.1.length, ([], A.2.1, va_up A.2.2.1 (cl x) A.1, A.2.2.2))
def keepA (A : AS) (x : Int32) : AO := if x < 0 ∨ 2 < x then (1, 0, A) else if 600 < A.2.1.length then (0, -1, A) else (0, lN A.2.1.length, (A.1, A.2.1, va_up A.2.2.1 (cl x) A.2.1, A.2.2.2))
def drawA (A : AS) (x : Int32) : AO := if nkI x = 1 then (1, 0, A) else (0, lN (ds (cl x)), (A.1, codeQ (cl x) (keyQ (cl x) (A.2.2.1 1)) (A.2.2.1 0), A.2.2))
def spreadA (A : AS) (x n : Int32) : AO := if nkI x = 1 then (1, 0, A) else if n < 0 ∨ 16320 < n then (1, 0, A) else if 255 * ds (cl x) < cl n then (0, -1, A) else (0, lN (cl n), (A.1, spE (ds (cl x)) (cl n) (lnk (cl x) (keyQ (cl x) (A.2.2.1 0)) (A.2.2.1 2)), A.2.2))
def stretchA (A : AS) (x t n : Int32) : AO := if nkI x = 1 then (1, 0, A) else if t < 1 ∨ 500 < t ∨ n < 0 ∨ 400 < n then (1, 0, A) else (0, lN (cl n), (A.1, spE (ds (cl x)) (cl n) (xSf (cl x) (keyQ (cl x) (A.2.2.1 0)) (A.2.2.1 1) (cl t)), A.2.2))
def isOutA (A : AS) : AO := (0, if A.2.1 = A.1 then 1 else 0, ([], A.2))
/-! the reference's world -/
/-- sizes of tape and out, what is thrown, the hand's size, the rows by their fields -/
abbrev MST : Type := Nat × Nat × Int32 × Int32 × (Nat → Nat → Int32) × (Nat → Nat → Int64)
theorem ns_of {x : Int32} (h : ¬ nsI x = 1) : ∃ s, s < 4 ∧ x = nI s ∧ cl x = s := by
  unfold nsI at h
  by_cases c : x < 0
  · rw [if_pos c] at h; exact absurd rfl h
  · by_cases d : x < 4
    · obtain ⟨j, hj, rfl⟩ := nI_of c
      have hj4 : j < 4 := (nI_ltI (b := 4) hj (by decide)).mp d
      exact ⟨j, hj4, rfl, nI_clamp hj⟩
    · rw [if_neg c, if_neg d] at h; exact absurd rfl h
theorem nk_of {x : Int32} (h : ¬ nkI x = 1) : ∃ s, s < 4 ∧ x = nI s ∧ cl x = s := by
  unfold nkI at h
  by_cases c : x < 0
  · rw [if_pos c] at h; exact absurd rfl h
  · by_cases d : x ≤ 3
    · obtain ⟨j, hj, rfl⟩ := nI_of c
      have hj4 : j ≤ 3 := (nI_leI (b := 3) hj (by decide)).mp d
      exact ⟨j, by omega, rfl, nI_clamp hj⟩
    · rw [if_neg c, if_neg d] at h; exact absurd rfl h
theorem ns0 {x : Int32} (h : ¬ nsI x = 1) : nsI x = 0 := by obtain ⟨s, h1, rfl, -⟩ := ns_of h; exact nsI_nI h1
theorem nk0 {x : Int32} (h : ¬ nkI x = 1) : nkI x = 0 := by obtain ⟨s, h1, rfl, -⟩ := nk_of h; exact nkI_nI h1
theorem rg_of {x y : Int32} {n : Nat} (hy : y.toInt = n) (h : ¬ (x < 0 ∨ y < x)) : ∃ s, s ≤ n ∧ x = nI s ∧ cl x = s := by
  have h0 : ¬ x < 0 := fun c => h (Or.inl c)
  obtain ⟨j, hj, rfl⟩ := nI_of2 hy h0 (Int32.not_lt.mp (fun c => h (Or.inr c)))
  have : n < 2 ^ 31 := by have := Int32.toInt_lt y; omega
  exact ⟨j, hj, rfl, nI_clamp (by omega)⟩
theorem cl_nI {s : Nat} (h : s < 2 ^ 31) : cl (nI s) = s := nI_clamp h
theorem shut_no {v : SA} (h : shut v = false) : ∃ k cd T h kq, v = (true, k, cd, false, T, h, kq) := by
  obtain ⟨b, k, cd, ed, T, h9, kq⟩ := v
  cases b with
  | false => exact nomatch (show true = false from h)
  | true =>
    cases ed with
    | true => exact nomatch (show true = false from h)
    | false => exact ⟨k, cd, T, h9, kq, rfl⟩
abbrev mW (G : GW) (o : Nat) (ad : Nat → Nat) (u : MST) : va_W := [(o, .inr (4, mF ad (nI u.1) (nI u.2.1) u.2.2.1 u.2.2.2.1)), (ad 0, .inl (G.2.1 1, 600, .inl (u.2.2.2.2.1 0))), (ad 2, .inl (G.2.1 2, 80, .inr (.inl (u.2.2.2.2.2 2)))), (ad 3, .inl (G.2.1 2, 16, .inr (.inl (u.2.2.2.2.2 3)))), (ad 4, .inl (G.2.1 1, 9, .inl (u.2.2.2.2.1 4))), (ad 5, .inl (G.2.1 2, 72, .inr (.inl (u.2.2.2.2.2 5)))), (ad 6, .inl (G.2.1 1, 1152, .inl (u.2.2.2.2.1 6))), (ad 7, .inl (G.2.1 1, 9, .inl (u.2.2.2.2.1 7))), (ad 8, .inl (G.2.1 2, 9, .inr (.inl (u.2.2.2.2.2 8)))), (ad 9, .inl (G.2.1 3, 4, .inl (u.2.2.2.2.1 9))), (ad 10, .inl (G.2.1 3, 4, .inl (u.2.2.2.2.1 10))), (ad 11, .inl (G.2.1 3, 4, .inl (u.2.2.2.2.1 11))), (ad 12, .inl (G.2.1 2, 4, .inr (.inl (u.2.2.2.2.2 12)))), (ad 13, .inl (G.2.1 1, 512, .inl (u.2.2.2.2.1 13))), (ad 14, .inl (G.2.1 1, 128, .inl (u.2.2.2.2.1 14))), (ad 15, .inl (G.2.1 1, 64, .inl (u.2.2.2.2.1 15))), (ad 16, .inl (G.2.1 1, 16320, .inl (u.2.2.2.2.1 16))), (ad 18, .inl (G.2.1 1, 1800, .inl (u.2.2.2.2.1 18))), (ad 19, .inl (G.2.1 1, 3, .inl (u.2.2.2.2.1 19))), (ad 21, .inl (G.2.1 2, 6, .inr (.inl (u.2.2.2.2.2 21)))), (ad 22, .inl (G.2.1 2, 12, .inr (.inl (u.2.2.2.2.2 22)))), (ad 23, .inl (G.2.1 2, 18, .inr (.inl (u.2.2.2.2.2 23)))), (ad 24, .inl (G.2.1 1, 64, .inl (u.2.2.2.2.1 24))), (ad 25, .inl (G.2.1 2, 80, .inr (.inl (u.2.2.2.2.2 25)))), (ad 26, .inl (G.2.1 1, 600, .inl (u.2.2.2.2.1 26))), (ad 28, .inl (G.2.1 1, 64, .inl (u.2.2.2.2.1 28)))]
def MR (u : MST) (A : AS) : Prop := TapeR (u.2.2.2.2.1 0) u.1 A.1 ∧ OutR (u.2.2.2.2.1 16) u.2.1 A.2.1 ∧ RegR (u.2.2.2.2.1 18) (u.2.2.2.2.1 19) A.2.2.1 ∧ StmR (u.2.2.2.2.1 4, u.2.2.2.2.1 7, u.2.2.2.2.2 5, u.2.2.2.2.1 6, u.2.2.2.2.2 8) (u.2.2.2.2.1 9) (u.2.2.2.2.1 10) (u.2.2.2.2.1 11) (u.2.2.2.2.2 12) (u.2.2.2.2.1 13) A.2.2.2 ∧ (∀ j, j < 80 → u.2.2.2.2.2 2 j = kT j) ∧ ∀ j, j < 8 → u.2.2.2.2.2 3 j = sqA j ∧ u.2.2.2.2.2 3 (8 + j) = sqB j
/-- what the reference has done is what the document asks -/
def mOK (r : Int64) (E : AO) (u : MST) : Prop := MR u E.2.2 ∧ u.2.2.1 = nI E.1 ∧ (E.1 = 0 → r = E.2.1)
