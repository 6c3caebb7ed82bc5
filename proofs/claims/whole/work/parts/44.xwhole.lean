/-! blocks of a world -/
theorem blkC (P B R : va_W) : (List.range' P.length B.length).map (fun i => ((P ++ B) ++ R)[i]?) = B.map some := by
  apply List.ext_getElem?
  intro k
  rw [List.getElem?_map, List.getElem?_map]
  by_cases h : k < B.length
  · rw [List.getElem?_range' h, List.getElem?_eq_getElem h]
    show some (((P ++ B) ++ R)[P.length + 1 * k]?) = _
    rw [Nat.one_mul, List.append_assoc, List.getElem?_append_right (Nat.le_add_right _ _), Nat.add_sub_cancel_left, List.getElem?_append_left h, List.getElem?_eq_getElem h]
    rfl
  · rw [List.getElem?_eq_none (by rw [List.length_range']; omega), List.getElem?_eq_none (by omega)]
    rfl
theorem blkP (P Q : va_W) : (List.range P.length).map (fun i => (P ++ Q)[i]?) = P.map some := by
  apply List.ext_getElem?
  intro k
  rw [List.getElem?_map, List.getElem?_map]
  by_cases h : k < P.length
  · rw [List.getElem?_range h, List.getElem?_eq_getElem h]
    show some ((P ++ Q)[k]?) = _
    rw [List.getElem?_append_left h, List.getElem?_eq_getElem h]
    rfl
  · rw [List.getElem?_eq_none (by rw [List.length_range]; omega), List.getElem?_eq_none (by omega)]
    rfl
theorem blkR (P B R : va_W) : (List.range P.length ++ List.range' (P ++ B).length R.length).map (fun i => ((P ++ B) ++ R)[i]?) = (P ++ R).map some := by
  rw [List.map_append, List.map_append]
  have h1 := blkP P (B ++ R)
  rw [← List.append_assoc] at h1
  have h2 := blkC (P ++ B) R []
  rw [List.append_nil] at h2
  rw [h1, h2]
theorem blkN (P B R : va_W) : va_nd (List.range P.length ++ List.range' (P ++ B).length R.length) = true := va_nd_of (List.nodup_append.mpr ⟨List.nodup_range, List.nodup_range', fun a ha b hb => by
  have h1 := List.mem_range.mp ha
  have h2 := (List.mem_range'_1.mp hb).1
  rw [List.length_append] at h2
  omega⟩)
theorem blkX (P B R : va_W) : ∀ i ∈ List.range P.length ++ List.range' (P ++ B).length R.length, i ∉ List.range' P.length B.length := fun i hi hc => by
  have h1 := List.mem_range'_1.mp hc
  rcases List.mem_append.mp hi with h | h
  · have := List.mem_range.mp h
    omega
  · have := (List.mem_range'_1.mp h).1
    rw [List.length_append] at this
    omega
section BlkCall
variable {p : Program} {l : Launch} {e : Env} {R : Room} {s : State} {m : MethodId} {args : Array Value} {below : List Frame} {meth : Method} {c : Code} {H : Heap} {locs : List Loc} {cells slots : Nat} {Q : State → Prop} {cc bytes : ByteArray} {pc nL maxL n index mc ms : Nat} {ls : Array Slot} {rest st0 : List Value} {A : Nat → Prop} {G : GW} {P B T : va_W} {S : Type} {w1 : S → va_W} {a : Array Value}
theorem b_back {H1 : Heap} {u : S} {t : State} (ht : t.heap = H1) (hB : gPost G (va_A B H.size) (w1 u) t) (hk : ∀ q : Nat, q < H.size → ¬ va_A B H.size q → H1[q]? = H[q]?) (hP : va_P G.1 vwCl ((P ++ B) ++ T) H) (hD : va_D A ((P ++ B) ++ T)) (hS : va_S A s.heap H locs) (hA : ∀ q : Nat, s.heap.size ≤ q → A q) :
    va_P G.1 vwCl ((P ++ w1 u) ++ T) H1 ∧ va_D A ((P ++ w1 u) ++ T) := by
  obtain ⟨hP1, hD1⟩ := hB
  rw [ht] at hP1
  have h := va_join hP hD (List.range' P.length B.length) (List.range P.length ++ List.range' (P ++ B).length T.length) (blkC P B T) (blkR P B T) (blkN P B T) (blkX P B T) hk (va_free (wc := B) hD hS hA _ (blkC P B T)) hP1 hD1
  exact ⟨h.1.swap, h.2.swap⟩
theorem b_calli {post : Int32 → S → Prop} (hr : va_Run p l e R s m args below meth c H locs cells slots mc ms (F0 m pc ls st0) rest (va_Qi post (fun u => gPost G (va_A B H.size) (w1 u)) (va_A B H.size) a) (va_A B H.size)) (hP : va_P G.1 vwCl ((P ++ B) ++ T) H) (hD : va_D A ((P ++ B) ++ T)) (hS : va_S A s.heap H locs) (hA : ∀ q : Nat, s.heap.size ≤ q → A q)
    (kk : ∀ (r : Int32) (u : S) (H1 : Heap) (locs1 : List Loc), post r u → va_P G.1 vwCl ((P ++ w1 u) ++ T) H1 → va_D A ((P ++ w1 u) ++ T) → va_S A s.heap H1 locs1 → W p l e R s m args below meth c H1 locs1 (cells + mc) (slots + ms) Q (F0 m (pc + 3) ls (.int r :: rest))) : W p l e R s m args below meth c H locs cells slots Q (F0 m pc ls st0) :=
  va_calli hr hS (fun q _ h => va_free (wc := B) hD hS hA _ (blkC P B T) q h) (va_free (wc := B) hD hS hA _ (blkC P B T)) (fun r u t H1 locs1 ht _ hw hB _ hk1 hS1 => kk r u H1 locs1 hw (b_back ht hB hk1 hP hD hS hA).1 (b_back ht hB hk1 hP hD hS hA).2 hS1)
theorem b_calll {post : Int64 → S → Prop} (hr : va_Run p l e R s m args below meth c H locs cells slots mc ms (F0 m pc ls st0) rest (va_Ql post (fun u => gPost G (va_A B H.size) (w1 u)) (va_A B H.size) a) (va_A B H.size)) (hP : va_P G.1 vwCl ((P ++ B) ++ T) H) (hD : va_D A ((P ++ B) ++ T)) (hS : va_S A s.heap H locs) (hA : ∀ q : Nat, s.heap.size ≤ q → A q)
    (kk : ∀ (r : Int64) (u : S) (H1 : Heap) (locs1 : List Loc), post r u → va_P G.1 vwCl ((P ++ w1 u) ++ T) H1 → va_D A ((P ++ w1 u) ++ T) → va_S A s.heap H1 locs1 → W p l e R s m args below meth c H1 locs1 (cells + mc) (slots + ms) Q (F0 m (pc + 3) ls (.long r :: rest))) : W p l e R s m args below meth c H locs cells slots Q (F0 m pc ls st0) :=
  va_calll hr hS (fun q _ h => va_free (wc := B) hD hS hA _ (blkC P B T) q h) (va_free (wc := B) hD hS hA _ (blkC P B T)) (fun r u t H1 locs1 ht _ hw hB _ hk1 hS1 => kk r u H1 locs1 hw (b_back ht hB hk1 hP hD hS hA).1 (b_back ht hB hk1 hP hD hS hA).2 hS1)
theorem b_callv {post : S → Prop} (hr : va_Run p l e R s m args below meth c H locs cells slots mc ms (F0 m pc ls st0) rest (va_Qv post (fun u => gPost G (va_A B H.size) (w1 u)) (va_A B H.size) a) (va_A B H.size)) (hP : va_P G.1 vwCl ((P ++ B) ++ T) H) (hD : va_D A ((P ++ B) ++ T)) (hS : va_S A s.heap H locs) (hA : ∀ q : Nat, s.heap.size ≤ q → A q)
    (kk : ∀ (u : S) (H1 : Heap) (locs1 : List Loc), post u → va_P G.1 vwCl ((P ++ w1 u) ++ T) H1 → va_D A ((P ++ w1 u) ++ T) → va_S A s.heap H1 locs1 → W p l e R s m args below meth c H1 locs1 (cells + mc) (slots + ms) Q (F0 m (pc + 3) ls rest)) : W p l e R s m args below meth c H locs cells slots Q (F0 m pc ls st0) :=
  va_callv hr hS (fun q _ h => va_free (wc := B) hD hS hA _ (blkC P B T) q h) (va_free (wc := B) hD hS hA _ (blkC P B T)) (fun u t H1 locs1 ht _ hw hB _ hk1 hS1 => kk u H1 locs1 hw (b_back ht hB hk1 hP hD hS hA).1 (b_back ht hB hk1 hP hD hS hA).2 hS1)
theorem b_xcall {E : String} (hr : vx_Run p l e R s m args below meth c H locs cells slots mc ms (F0 m pc ls st0) rest (gNo a) (gXC G E (va_A B H.size) B) (va_A B H.size)) (hP : va_P G.1 vwCl ((P ++ B) ++ T) H) (hD : va_D A ((P ++ B) ++ T)) (hS : va_S A s.heap H locs) (hA : ∀ q : Nat, s.heap.size ≤ q → A q)
    (kx : ∀ (ce : Cell) (q9 : Addr) (H1 : Heap) (locs1 : List Loc), va_P G.1 vwCl ((P ++ B) ++ T) H1 → va_S A s.heap H1 locs1 → H1[q9]? = some ce → ce.vm = .none → s.vm.findClass E = some ce.cls → vx_W p l e R s m args below meth c H1 locs1 (cells + mc) (slots + ms) Q (F0 m pc ls rest) q9) :
    W p l e R s m args below meth c H locs cells slots Q (F0 m pc ls st0) := by
  intro T9 hT X
  rcases hr T9 hT X with ⟨v, st₀, t, T', L, h0, X', hL, e1, e2, hq, st⟩ | ⟨q, st₀, t, T', L, E', ce, h0, X', hL, e1, e2, ⟨u, hp, ⟨hE, hB⟩, hF⟩, hce, hcv, hcl, st⟩
  · exact False.elim hq
  · subst hE
    have hfr := va_free (wc := B) hD hS hA _ (blkC P B T)
    obtain ⟨k1, k2, k3⟩ := vx_keep h0 e1 hS (fun q _ h => hfr q h) hfr hL hF
    have hb2 := b_back (w1 := fun _ : Unit => B) (u := ()) (e1.symm) hB k2 hP hD hS hA
    obtain ⟨t2, a1, b1⟩ := kx ce q T'.heap (locs ++ L) hb2.1 k3 (by rw [e1]; exact hce) hcv hcl T' rfl X'
    exact ⟨t2, st.trans a1, b1⟩
end BlkCall
/-! throws over larger worlds -/
theorem gFrX {l : Launch} {y : MethodName} {cw : List Cond} {rm rm' : Room} {av : List Value} {G : GW} {ws wc : va_W} {sz mc ms : Nat} {E : String} (hM : vx_Met l y cw rm (va_Pc av (gPre G wc sz)) gNo (gXC G E (va_A wc sz) wc) mc ms (va_A wc sz)) (hr : rm.frames ≤ rm'.frames ∧ rm.locals ≤ rm'.locals ∧ rm.cells ≤ rm'.cells ∧ rm.slots ≤ rm'.slots) (isC isR : List Nat) (N : Nat) (hC : isC.map (fun i => ws[i]?) = wc.map some) (hnd : va_nd isC = true) (hnR : va_nd isR = true) (hdis : ∀ i ∈ isR, i ∉ isC) (hlt : ∀ i ∈ isR, i < N) (hcov : ∀ k, k < N → k ∈ isR ++ isC) (hN : ws.length = N) :
    vx_Met l y cw rm' (va_Pc av (gPre G ws sz)) gNo (gXC G E (va_A ws sz) ws) mc ms (va_A ws sz) := by
  have hM1 : MetFree l y (headSpec cw rm') (va_Pc av (gPre G wc sz)) (fun _ _ _ _ _ => True) (vx_Q gNo (gXC G E (va_A wc sz) wc) mc ms (va_A wc sz)) := MetFree.respec (S := headSpec cw rm) (S' := headSpec cw rm') hM (fun _ _ h => h) hr.1 hr.2.1 hr.2.2.1 hr.2.2.2
  refine MetFree.mono hM1 (fun a s h => ⟨h.1, gPre_sub1 isC hC hnd h.2⟩) (fun _ _ _ _ _ h => h) ?_
  intro a st o t hp hq
  rcases hq with ⟨h, -⟩ | ⟨q, ho, E', ce, L, ⟨u, hu, ⟨hE, hB⟩, hF⟩, h2, h3, h4, h5, h6, h7⟩
  · exact False.elim h
  · exact Or.inr ⟨q, ho, E', ce, L, ⟨u, hu, ⟨hE, gPost_sup (w1 := fun _ : Unit => wc) (u := ()) isC isR isC hC hnR hdis hlt hcov hp.2 hB hF (fun i hi => ⟨_, List.getElem?_eq_getElem (by rw [hN]; exact hlt i hi), List.getElem?_eq_getElem (by rw [hN]; exact hlt i hi)⟩) hC hN⟩, vaF_sup isC hC hF⟩, h2, h3, h4, h5, h6, fun z hz => vaA_sub isC hC (h7 z hz)⟩
/-! the class's world -/
/-- sizes of rows; rows of ints; rows of longs; the streams' and hashes' ints; their longs -/
abbrev XU : Type := (Nat → Nat) × (Nat → Nat → Int32) × (Nat → Nat → Int64) × (Nat → Int32) × (Nat → Int64)
abbrev xW (G : GW) (x0 : Nat) (ad : Nat → Nat) (u : XU) : va_W := ((x0, .inr (3, [.ref (ad 1), .ref (ad 3), .ref (ad 15), .ref (ad 16), .ref (ad 17), .ref (ad 5), .ref (ad 7)])) :: (ad 1, .inr (1, [.ref (ad 2), .int (nI (u.1 0))])) :: (ad 2, .inl (G.2.1 0, 600, .inl (u.2.1 0))) :: (ad 3, .inr (1, [.ref (ad 4), .int (nI (u.1 1))])) :: (ad 4, .inl (G.2.1 0, 16320, .inl (u.2.1 1))) :: (ad 5, .inr (1, [.ref (ad 6), .int (nI (u.1 2))])) :: (ad 6, .inl (G.2.1 0, 64, .inl (u.2.1 2))) :: (ad 7, .inr (1, [.ref (ad 8), .int (nI (u.1 3))])) :: (ad 8, .inl (G.2.1 0, 64, .inl (u.2.1 3))) :: (ad 9, .inr (1, [.ref (ad 10), .int (nI (u.1 4))])) :: (ad 10, .inl (G.2.1 0, 600, .inl (u.2.1 4))) :: (ad 11, .inr (1, [.ref (ad 12), .int (nI (u.1 5))])) :: (ad 12, .inl (G.2.1 0, 600, .inl (u.2.1 5))) :: (ad 13, .inr (1, [.ref (ad 14), .int (nI (u.1 6))])) :: (ad 14, .inl (G.2.1 0, 600, .inl (u.2.1 6))) :: (ad 15, .inl (G.2.1 4, 3, .inr (.inr (.inr (.inr (va_up (va_up (va_up (fun _ => none) 0 (some (ad 9))) 1 (some (ad 11))) 2 (some (ad 13)))))))) :: (ad 16, .inl (G.2.1 5, 4, .inr (.inr (.inr (.inr (va_up (va_up (va_up (va_up (fun _ => none) 0 (some (ad 27))) 1 (some (ad 37))) 2 (some (ad 47))) 3 (some (ad 57)))))))) :: (ad 17, .inr (2, [.ref (ad 18), .ref (ad 23), .ref (ad 25), .ref (ad 26), .int (u.2.2.2.1 0), .int (u.2.2.2.1 1), .int (u.2.2.2.1 2), .long (u.2.2.2.2 0)])) :: (ad 18, .inr (0, [.ref (ad 19), .ref (ad 20), .ref (ad 21), .ref (ad 22), .int (u.2.2.2.1 3), .int (u.2.2.2.1 4), .long (u.2.2.2.2 1)])) :: (ad 19, .inl (G.2.1 2, 8, .inr (.inl (u.2.2.1 0)))) :: (ad 20, .inl (G.2.1 0, 128, .inl (u.2.1 10))) :: (ad 21, .inl (G.2.1 1, 64, .inl (u.2.1 11))) :: (ad 22, .inl (G.2.1 2, 80, .inr (.inl (u.2.2.1 1)))) :: (ad 23, .inr (1, [.ref (ad 24), .int (nI (u.1 10))])) :: (ad 24, .inl (G.2.1 0, 128, .inl (u.2.1 12))) :: (ad 25, .inl (G.2.1 2, 8, .inr (.inl (u.2.2.1 2)))) :: (ad 26, .inl (G.2.1 2, 8, .inr (.inl (u.2.2.1 3)))) :: (ad 27, .inr (2, [.ref (ad 28), .ref (ad 33), .ref (ad 35), .ref (ad 36), .int (u.2.2.2.1 5), .int (u.2.2.2.1 6), .int (u.2.2.2.1 7), .long (u.2.2.2.2 2)])) :: (ad 28, .inr (0, [.ref (ad 29), .ref (ad 30), .ref (ad 31), .ref (ad 32), .int (u.2.2.2.1 8), .int (u.2.2.2.1 9), .long (u.2.2.2.2 3)])) :: (ad 29, .inl (G.2.1 2, 8, .inr (.inl (u.2.2.1 4)))) :: (ad 30, .inl (G.2.1 0, 128, .inl (u.2.1 13))) :: (ad 31, .inl (G.2.1 1, 64, .inl (u.2.1 14))) :: (ad 32, .inl (G.2.1 2, 80, .inr (.inl (u.2.2.1 5)))) :: (ad 33, .inr (1, [.ref (ad 34), .int (nI (u.1 11))])) :: (ad 34, .inl (G.2.1 0, 128, .inl (u.2.1 15))) :: (ad 35, .inl (G.2.1 2, 8, .inr (.inl (u.2.2.1 6)))) :: (ad 36, .inl (G.2.1 2, 8, .inr (.inl (u.2.2.1 7)))) :: (ad 37, .inr (2, [.ref (ad 38), .ref (ad 43), .ref (ad 45), .ref (ad 46), .int (u.2.2.2.1 10), .int (u.2.2.2.1 11), .int (u.2.2.2.1 12), .long (u.2.2.2.2 4)])) :: (ad 38, .inr (0, [.ref (ad 39), .ref (ad 40), .ref (ad 41), .ref (ad 42), .int (u.2.2.2.1 13), .int (u.2.2.2.1 14), .long (u.2.2.2.2 5)])) :: (ad 39, .inl (G.2.1 2, 8, .inr (.inl (u.2.2.1 8)))) :: (ad 40, .inl (G.2.1 0, 128, .inl (u.2.1 16))) :: (ad 41, .inl (G.2.1 1, 64, .inl (u.2.1 17))) :: (ad 42, .inl (G.2.1 2, 80, .inr (.inl (u.2.2.1 9)))) :: (ad 43, .inr (1, [.ref (ad 44), .int (nI (u.1 12))])) :: (ad 44, .inl (G.2.1 0, 128, .inl (u.2.1 18))) :: (ad 45, .inl (G.2.1 2, 8, .inr (.inl (u.2.2.1 10)))) :: (ad 46, .inl (G.2.1 2, 8, .inr (.inl (u.2.2.1 11)))) :: (ad 47, .inr (2, [.ref (ad 48), .ref (ad 53), .ref (ad 55), .ref (ad 56), .int (u.2.2.2.1 15), .int (u.2.2.2.1 16), .int (u.2.2.2.1 17), .long (u.2.2.2.2 6)])) :: (ad 48, .inr (0, [.ref (ad 49), .ref (ad 50), .ref (ad 51), .ref (ad 52), .int (u.2.2.2.1 18), .int (u.2.2.2.1 19), .long (u.2.2.2.2 7)])) :: (ad 49, .inl (G.2.1 2, 8, .inr (.inl (u.2.2.1 12)))) :: (ad 50, .inl (G.2.1 0, 128, .inl (u.2.1 19))) :: (ad 51, .inl (G.2.1 1, 64, .inl (u.2.1 20))) :: (ad 52, .inl (G.2.1 2, 80, .inr (.inl (u.2.2.1 13)))) :: (ad 53, .inr (1, [.ref (ad 54), .int (nI (u.1 13))])) :: (ad 54, .inl (G.2.1 0, 128, .inl (u.2.1 21))) :: (ad 55, .inl (G.2.1 2, 8, .inr (.inl (u.2.2.1 14)))) :: (ad 56, .inl (G.2.1 2, 8, .inr (.inl (u.2.2.1 15)))) :: (ad 57, .inr (2, [.ref (ad 58), .ref (ad 63), .ref (ad 65), .ref (ad 66), .int (u.2.2.2.1 20), .int (u.2.2.2.1 21), .int (u.2.2.2.1 22), .long (u.2.2.2.2 8)])) :: (ad 58, .inr (0, [.ref (ad 59), .ref (ad 60), .ref (ad 61), .ref (ad 62), .int (u.2.2.2.1 23), .int (u.2.2.2.1 24), .long (u.2.2.2.2 9)])) :: (ad 59, .inl (G.2.1 2, 8, .inr (.inl (u.2.2.1 16)))) :: (ad 60, .inl (G.2.1 0, 128, .inl (u.2.1 22))) :: (ad 61, .inl (G.2.1 1, 64, .inl (u.2.1 23))) :: (ad 62, .inl (G.2.1 2, 80, .inr (.inl (u.2.2.1 17)))) :: (ad 63, .inr (1, [.ref (ad 64), .int (nI (u.1 14))])) :: (ad 64, .inl (G.2.1 0, 128, .inl (u.2.1 24))) :: (ad 65, .inl (G.2.1 2, 8, .inr (.inl (u.2.2.1 18)))) :: (ad 66, .inl (G.2.1 2, 8, .inr (.inl (u.2.2.1 19)))) :: ([] : va_W))
/-- a stream of the class is the document's stream v -/
def SX (bf : Nat → Int32) (kd cd ed : Int32) (ln : Int64) (kh zh : Int32) (th : Int64) (wf so : Nat → Int64) (v : SA) : Prop :=
  sb_Fit bf ∧ (v.1 = false → kd = -1 ∧ cd = 0 ∧ ed = 0 ∧ ln = 0) ∧ (v.1 = true → v.2.1 < 4 ∧ kd = nI v.2.1 ∧ cd = bI v.2.2.1 ∧ ed = bI v.2.2.2.1 ∧ ln = lN v.2.2.2.2.1 ∧ (v.2.2.2.1 = false → kh = nI v.2.1 ∧ th = lN (cB v.2.1 v.2.2.1 + v.2.2.2.2.1) ∧ (∃ z, zh = nI z ∧ HsR v.2.1 z wf bf v.2.2.2.2.2.1) ∧ (v.2.2.1 = true → ∀ j, j < 8 → so j = (kin v.2.1 v.2.2.2.2.2.2 92).1 j)))
def XR (u : XU) (A : AS) : Prop := RowR 600 (u.2.1 0) (u.1 0) A.1 ∧ RowR 16320 (u.2.1 1) (u.1 1) A.2.1 ∧ (RowR 600 (u.2.1 4) (u.1 4) (A.2.2.1 0) ∧ RowR 600 (u.2.1 5) (u.1 5) (A.2.2.1 1) ∧ RowR 600 (u.2.1 6) (u.1 6) (A.2.2.1 2)) ∧
  (SX (u.2.1 13) (u.2.2.2.1 5) (u.2.2.2.1 6) (u.2.2.2.1 7) (u.2.2.2.2 2) (u.2.2.2.1 8) (u.2.2.2.1 9) (u.2.2.2.2 3) (u.2.2.1 4) (u.2.2.1 7) (A.2.2.2 0) ∧ SX (u.2.1 16) (u.2.2.2.1 10) (u.2.2.2.1 11) (u.2.2.2.1 12) (u.2.2.2.2 4) (u.2.2.2.1 13) (u.2.2.2.1 14) (u.2.2.2.2 5) (u.2.2.1 8) (u.2.2.1 11) (A.2.2.2 1) ∧
   SX (u.2.1 19) (u.2.2.2.1 15) (u.2.2.2.1 16) (u.2.2.2.1 17) (u.2.2.2.2 6) (u.2.2.2.1 18) (u.2.2.2.1 19) (u.2.2.2.2 7) (u.2.2.1 12) (u.2.2.1 15) (A.2.2.2 2) ∧ SX (u.2.1 22) (u.2.2.2.1 20) (u.2.2.2.1 21) (u.2.2.2.1 22) (u.2.2.2.2 8) (u.2.2.2.1 23) (u.2.2.2.1 24) (u.2.2.2.2 9) (u.2.2.1 16) (u.2.2.1 19) (A.2.2.2 3)) ∧ sb_Fit (u.2.1 10)
theorem row_ret {n z : Nat} {f : Nat → Int32} {q : List Nat} (h : RowR n f z q) : (nI z).toInt64 = lN q.length := by rw [nI_l h.z31, h.1]
theorem tp_ret {n z : Nat} {f : Nat → Int32} {q : List Nat} (h : RowR n f z q) : (nI z).toInt64 = lN q.length := row_ret h
theorem fd_ret {n z m : Nat} {f : Nat → Int32} {q : List Nat} {v : Int64} (h : RowR n f z (q ++ octs m v)) : (nI z).toInt64 = lN (q.length + m) := by rw [row_ret h, List.length_append, octs_len]
theorem drw_ret {n z k : Nat} {f : Nat → Int32} {kq q : List Nat} (h : RowR n f z (codeQ k kq q)) : (nI z).toInt64 = lN (ds k) := by rw [row_ret h, codeQ_len]
theorem fin_row {n z k T : Nat} {f : Nat → Int32} {c : Int32} {cd : Bool} {h : HS} {so : Nat → Int64} {kq : List Nat} (e2 : c = bI cd) (hso : cd = true → ∀ j, j < 8 → so j = (kin k kq 92).1 j) (hf : RowR n f z (closeQ k c h (lN (cB k cd + T)) so)) : RowR n f z (finQ (true, k, cd, false, T, h, kq)) := by
  subst e2
  cases cd with
  | false =>
    have e : closeQ k (bI false) h (lN (cB k false + T)) so = finQ (true, k, false, false, T, h, kq) := by
      unfold closeQ
      rw [if_pos (show bI false = 0 from rfl), show cB k false + T = T from Nat.zero_add T]
      rfl
    rw [e] at hf
    exact hf
  | true =>
    have e := closeQ_1 (k := k) (h := h) (t := lN (cB k true + T)) (hso rfl)
    rw [show bI true = 1 from rfl, e] at hf
    exact hf
theorem finQ_l (v : SA) : (finQ v).length = ds v.2.1 := by unfold finQ; split <;> exact dig_len _ _ _
theorem fin_ret {n z k T : Nat} {f : Nat → Int32} {c : Int32} {cd : Bool} {h : HS} {so : Nat → Int64} {kq : List Nat} (e2 : c = bI cd) (hso : cd = true → ∀ j, j < 8 → so j = (kin k kq 92).1 j) (hf : RowR n f z (closeQ k c h (lN (cB k cd + T)) so)) : (nI z).toInt64 = lN (ds k) := by rw [row_ret (fin_row e2 hso hf), finQ_l]
theorem SX_begin {k : Nat} {bf : Nat → Int32} {wf so : Nat → Int64} (hk : k < 4) (hF : sb_Fit bf) (hf : ∀ j, j < 8 → wf j = fstW k j) : SX bf (nI k) 0 0 (lN 0) (nI k) (nI 0) (lN 0) wf so (true, k, false, false, 0, hs0 k, []) :=
  ⟨hF, (fun h => nomatch h), fun _ => ⟨hk, rfl, rfl, rfl, rfl, fun _ => ⟨rfl, rfl, ⟨0, rfl, hs0R hk hf hF⟩, (fun h => nomatch h)⟩⟩⟩
theorem SX_code {k z : Nat} {bf : Nat → Int32} {wf si so : Nat → Int64} {q : List Nat} (hk : k < 4) (hf : HsR k z wf bf (kin k (keyQ k q) 54) ∧ (∀ j, j < 8 → si j = (kin k (keyQ k q) 54).1 j) ∧ ∀ j, j < 8 → so j = (kin k (keyQ k q) 92).1 j) : SX bf (nI k) 1 0 (lN 0) (nI k) (nI z) (lN (bs k)) wf so (true, k, true, false, 0, kin k (keyQ k q) 54, keyQ k q) :=
  ⟨hf.1.2.2.2.2.2.1, (fun h => nomatch h), fun _ => ⟨hk, rfl, rfl, rfl, rfl, fun _ => ⟨rfl, rfl, ⟨z, rfl, hf.1⟩, fun _ => hf.2.2⟩⟩⟩
theorem SX_more {k z T n m : Nat} {bf : Nat → Int32} {wf so : Nat → Int64} {c : Int32} {cd : Bool} {h : HS} {kq : List Nat} (hk : k < 4) (e2 : c = bI cd) (hf : HsR k z wf bf h) (hso : cd = true → ∀ j, j < 8 → so j = (kin k kq 92).1 j) (e : n = m) : SX bf (nI k) c 0 (lN (T + n)) (nI k) (nI z) (lN (cB k cd + T + n)) wf so (true, k, cd, false, T + m, h, kq) := by
  subst e
  exact ⟨hf.2.2.2.2.2.1, (fun h => nomatch h), fun _ => ⟨hk, rfl, e2, rfl, rfl, fun _ => ⟨rfl, by rw [Nat.add_assoc], ⟨z, rfl, hf⟩, hso⟩⟩⟩
theorem SX_end {k T : Nat} {bf : Nat → Int32} {wf so : Nat → Int64} {c kh zh : Int32} {ln th : Int64} {cd : Bool} {h : HS} {kq : List Nat} (hk : k < 4) (e2 : c = bI cd) (e4 : ln = lN T) (hF : sb_Fit bf) : SX bf (nI k) c 1 ln kh zh th wf so (true, k, cd, true, T, h, kq) :=
  ⟨hF, (fun h => nomatch h), fun _ => ⟨hk, rfl, e2, rfl, e4, (fun h => nomatch h)⟩⟩
section
variable {bf bf' : Nat → Int32} {kd cd ed : Int32} {ln : Int64} {kh zh : Int32} {th : Int64} {wf so wf' so' : Nat → Int64} {v : SA}
theorem bI_or (b : Bool) : bI b = 0 ∨ bI b = 1 := by cases b; exact Or.inl rfl; exact Or.inr rfl
theorem SX_kd (h : SX bf kd cd ed ln kh zh th wf so v) (hb : v.1 = true) : ¬ kd = -1 := by rw [(h.2.2 hb).2.1]; exact nI_m1 (h.2.2 hb).1
theorem SX_cd (h : SX bf kd cd ed ln kh zh th wf so v) : cd = 0 ∨ cd = 1 := by
  cases hb : v.1 with
  | false => exact Or.inl (h.2.1 hb).2.1
  | true => rw [(h.2.2 hb).2.2.1]; exact bI_or _
theorem SX_ed (h : SX bf kd cd ed ln kh zh th wf so v) : ed = 0 ∨ ed = 1 := by
  cases hb : v.1 with
  | false => exact Or.inl (h.2.1 hb).2.2.1
  | true => rw [(h.2.2 hb).2.2.2.1]; exact bI_or _
theorem SX_shut (h : SX bf kd cd ed ln kh zh th wf so v) (hs : shut v = true) : kd = -1 ∨ ¬ ed = 0 := by
  cases hb : v.1 with
  | false => exact Or.inl (h.2.1 hb).1
  | true =>
    refine Or.inr ?_
    unfold shut at hs
    rw [hb] at hs
    have he : v.2.2.2.1 = true := hs
    rw [(h.2.2 hb).2.2.2.1, he]
    decide
theorem SX_copy (h : SX bf kd cd ed ln kh zh th wf so v) (h1 : ∀ j, j < 8 → wf' j = wf j) (h2 : sb_Fit bf') (h3 : ∀ j, j < 128 → bf' j = bf j) (h4 : ∀ j, j < 8 → so' j = so j) : SX bf' kd cd ed ln kh zh th wf' so' v := by
  refine ⟨h2, h.2.1, fun hb => ?_⟩
  obtain ⟨a1, a2, a3, a4, a5, a6⟩ := h.2.2 hb
  refine ⟨a1, a2, a3, a4, a5, fun he => ?_⟩
  obtain ⟨b1, b2, ⟨z, b3, b4⟩, b5⟩ := a6 he
  refine ⟨b1, b2, ⟨z, b3, b4.1, b4.2.1, b4.2.2.1, b4.2.2.2.1, fun j hj => (h1 j hj).trans (b4.2.2.2.2.1 j hj), h2, fun j hj => (h3 j (Nat.lt_trans hj b4.z128)).trans (b4.2.2.2.2.2.2 j hj)⟩, fun hc j hj => (h4 j hj).trans (b5 hc j hj)⟩
theorem SX_ab0 (h : SX bf kd cd ed ln kh zh th wf so v) : kd = abQ v 0 := by
  unfold abQ
  cases hb : v.1 with
  | false => rw [(h.2.1 hb).1]; rfl
  | true => rw [(h.2.2 hb).2.1]; rfl
theorem SX_ab1 (h : SX bf kd cd ed ln kh zh th wf so v) : cd = abQ v 1 := by
  unfold abQ
  cases hb : v.1 with
  | false => rw [(h.2.1 hb).2.1]; rfl
  | true => rw [(h.2.2 hb).2.2.1]; rfl
theorem SX_ab2 (h : SX bf kd cd ed ln kh zh th wf so v) : ed = abQ v 2 := by
  unfold abQ
  cases hb : v.1 with
  | false => rw [(h.2.1 hb).2.2.1]; rfl
  | true => rw [(h.2.2 hb).2.2.2.1]; rfl
theorem lN_and (T b : Nat) (hb : b < 31) : Int64.toInt32 (lN T &&& lN (2 ^ b - 1)) = nI (T % 2 ^ b) := by
  have h1 : 2 ^ b ≤ 2 ^ 30 := Nat.pow_le_pow_right (by decide) (by omega)
  have h0 : 0 < 2 ^ b := Nat.two_pow_pos b
  have h2 : T % 2 ^ b < 2 ^ b := Nat.mod_lt _ h0
  apply Int32.toBitVec_inj.mp
  apply BitVec.eq_of_toNat_eq
  rw [pk_tn (by omega), Int64.toBitVec_toInt32, BitVec.signExtend_eq_setWidth_of_le _ (by decide), BitVec.toNat_setWidth, Int64.toBitVec_and, BitVec.toNat_and]
  have a1 : (lN T).toBitVec.toNat = T % 2 ^ 64 := by show (BitVec.ofNat 64 T).toNat = _; rw [BitVec.toNat_ofNat]
  have a2 : (lN (2 ^ b - 1)).toBitVec.toNat = 2 ^ b - 1 := by show (BitVec.ofNat 64 (2 ^ b - 1)).toNat = _; rw [BitVec.toNat_ofNat, Nat.mod_eq_of_lt (by omega)]
  have a3 : T % 2 ^ 64 % 2 ^ b = T % 2 ^ b := Nat.mod_mod_of_dvd _ (Nat.pow_dvd_pow 2 (by omega))
  rw [a1, a2, Nat.and_two_pow_sub_one_eq_mod, a3, Nat.mod_eq_of_lt (by omega)]
theorem SX_ab3 (h : SX bf kd cd ed ln kh zh th wf so v) : Int64.toInt32 (ln &&& Int32.toInt64 (bsI kd - 1)) = abQ v 3 := by
  unfold abQ
  cases hb : v.1 with
  | false =>
    rw [(h.2.1 hb).1, (h.2.1 hb).2.2.2]
    exact (show Int64.toInt32 (0 &&& Int32.toInt64 (bsI (-1) - 1)) = 0 by decide)
  | true =>
    obtain ⟨hk, e1, -, -, e4, -⟩ := h.2.2 hb
    rw [e1, e4, bsI_nI hk]
    by_cases c : v.2.1 < 2
    · rw [show bs v.2.1 = 64 from if_pos c, show Int32.toInt64 (nI 64 - 1) = lN (2 ^ 6 - 1) by decide, lN_and _ 6 (by decide)]
      rfl
    · rw [show bs v.2.1 = 128 from if_neg c, show Int32.toInt64 (nI 128 - 1) = lN (2 ^ 7 - 1) by decide, lN_and _ 7 (by decide)]
      rfl
end
set_option maxRecDepth 100000 in
set_option maxHeartbeats 4000000 in
theorem x_feed (l : Launch) (hT9 : l.stackTraces = false) (G : GW) (x0 : Nat) (ad : Nat → Nat) (u : XU) (A : AS) (x : Int32) (v : Int64) (E : AO) (hR : XR u A) (hE : feedA A x v = E) : (E.1 = 0 ∧ ∀ sz : Nat, Met l yX3_feed (Cond.code yX3_feed cX3_feed 5 (some FieldType.int) :: UW) ({ frames := 6, cells := 0, slots := 0, locals := 82 } : Room) (va_Pc [.ref x0, .int x, .long v] (gPre G (xW G x0 ad u) sz)) (va_Qi (fun r v => r.toInt64 = E.2.1 ∧ XR v E.2.2) (fun v => gPost G (va_A (xW G x0 ad u) sz) (xW G x0 ad v)) (va_A (xW G x0 ad u) sz)) 0 0 (va_A (xW G x0 ad u) sz)) ∨ (E = (1, 0, A) ∧ ∀ sz : Nat, vx_Met l yX3_feed (Cond.code yX3_feed cX3_feed 5 (some FieldType.int) :: UW) ({ frames := 6, cells := 1, slots := 6, locals := 82 } : Room) (va_Pc [.ref x0, .int x, .long v] (gPre G (xW G x0 ad u) sz)) gNo (gXC G xIAE (va_A (xW G x0 ad u) sz) (xW G x0 ad u)) 1 6 (va_A (xW G x0 ad u) sz)) := by
  obtain ⟨Z, F, L, J, K⟩ := u
  obtain ⟨hT, hO, hG, hS9, hW9⟩ := hR
  have hT : RowR 600 (F 0) (Z 0) A.1 := hT
  have hO : RowR 16320 (F 1) (Z 1) A.2.1 := hO
  have hG : RowR 600 (F 4) (Z 4) (A.2.2.1 0) ∧ RowR 600 (F 5) (Z 5) (A.2.2.1 1) ∧ RowR 600 (F 6) (Z 6) (A.2.2.1 2) := hG
  have hS9 : SX (F 13) (J 5) (J 6) (J 7) (K 2) (J 8) (J 9) (K 3) (L 4) (L 7) (A.2.2.2 0) ∧ SX (F 16) (J 10) (J 11) (J 12) (K 4) (J 13) (J 14) (K 5) (L 8) (L 11) (A.2.2.2 1) ∧ SX (F 19) (J 15) (J 16) (J 17) (K 6) (J 18) (J 19) (K 7) (L 12) (L 15) (A.2.2.2 2) ∧ SX (F 22) (J 20) (J 21) (J 22) (K 8) (J 23) (J 24) (K 9) (L 16) (L 19) (A.2.2.2 3) := hS9
  have hW9 : sb_Fit (F 10) := hW9
  unfold feedA at hE
  have hz : Z 0 = A.1.length := hT.1
  by_cases h1 : x < 1 ∨ 8 < x ∨ 600 < nI A.1.length + x
  · rw [if_pos h1] at hE
    subst hE
    refine Or.inr (⟨rfl, fun sz => ?_⟩)
    exact gFrX (c_X3_feedT l hT9 G sz x0 (ad 1) (ad 3) (ad 15) (ad 16) (ad 17) (ad 5) (ad 7) (ad 2) (F 0) (Z 0) x v (by rw [hz]; exact h1)) ⟨Nat.le_of_ble_eq_true rfl, Nat.le_of_ble_eq_true rfl, Nat.le_refl _, Nat.le_refl _⟩ [0, 1, 2] [3, 4, 5, 6, 7, 8, 9, 10, 11, 12, 13, 14, 15, 16, 17, 18, 19, 20, 21, 22, 23, 24, 25, 26, 27, 28, 29, 30, 31, 32, 33, 34, 35, 36, 37, 38, 39, 40, 41, 42, 43, 44, 45, 46, 47, 48, 49, 50, 51, 52, 53, 54, 55, 56, 57, 58, 59, 60, 61, 62, 63, 64, 65, 66] 67 rfl (by decide) (by decide) (by decide) (by decide) (by decide) rfl
  · rw [if_neg h1] at hE
    obtain ⟨n, h2, rfl, h3⟩ := feed_of h1
    rw [h3] at hE
    have h4 : Z 0 + n ≤ 600 := by
      rw [hz]
      exact feed_room hT.2.1 hz h1 h2.2
    subst hE
    refine Or.inl (⟨rfl, fun sz => ?_⟩)
    refine gFr_i (c_X3_feed l G sz x0 (ad 1) (ad 3) (ad 15) (ad 16) (ad 17) (ad 5) (ad 7) (ad 2) (F 0) (Z 0) n v A.1 hT h2 h4) ⟨Nat.le_of_ble_eq_true rfl, Nat.le_of_ble_eq_true rfl, Nat.le_refl _, Nat.le_refl _⟩ [0, 1, 2] [3, 4, 5, 6, 7, 8, 9, 10, 11, 12, 13, 14, 15, 16, 17, 18, 19, 20, 21, 22, 23, 24, 25, 26, 27, 28, 29, 30, 31, 32, 33, 34, 35, 36, 37, 38, 39, 40, 41, 42, 43, 44, 45, 46, 47, 48, 49, 50, 51, 52, 53, 54, 55, 56, 57, 58, 59, 60, 61, 62, 63, 64, 65, 66] [0, 1, 2] 67 rfl (by decide) (by decide) (by decide) (by decide) (by decide) (fun r9 u9 h9 => ?_)
    obtain ⟨ftp1, ztp1⟩ := u9
    obtain ⟨er, hf⟩ := h9
    subst er
    have hf : RowR 600 ftp1 ztp1 (A.1 ++ octs n v) := hf
    exact ⟨((va_up Z 0 ztp1), (va_up F 0 ftp1), L, J, K), ⟨fd_ret hf, ⟨hf, hO, hG, hS9, hW9⟩⟩, (by repeat (first | refine List.forall_mem_cons.mpr ⟨⟨_, rfl, rfl⟩, ?_⟩ | exact fun _ h => absurd h List.not_mem_nil)), rfl, rfl⟩
set_option maxRecDepth 100000 in
set_option maxHeartbeats 4000000 in
theorem x_begin (l : Launch) (hT9 : l.stackTraces = false) (G : GW) (x0 : Nat) (ad : Nat → Nat) (u : XU) (A : AS) (x : Int32) (y : Int32) (E : AO) (hR : XR u A) (hE : beginA A x y = E) : (E.1 = 0 ∧ ∀ sz : Nat, Met l yX3_begin (Cond.code yX3_begin cX3_begin 4 (none : Option FieldType) :: UW) ({ frames := 7, cells := 0, slots := 0, locals := 103 } : Room) (va_Pc [.ref x0, .int x, .int y] (gPre G (xW G x0 ad u) sz)) (va_Qv (fun v => XR v E.2.2) (fun v => gPost G (va_A (xW G x0 ad u) sz) (xW G x0 ad v)) (va_A (xW G x0 ad u) sz)) 0 0 (va_A (xW G x0 ad u) sz)) ∨ (E = (1, 0, A) ∧ ∀ sz : Nat, vx_Met l yX3_begin (Cond.code yX3_begin cX3_begin 4 (none : Option FieldType) :: UW) ({ frames := 7, cells := 1, slots := 6, locals := 103 } : Room) (va_Pc [.ref x0, .int x, .int y] (gPre G (xW G x0 ad u) sz)) gNo (gXC G xIOB (va_A (xW G x0 ad u) sz) (xW G x0 ad u)) 1 6 (va_A (xW G x0 ad u) sz)) ∨ (E = (2, 0, A) ∧ ∀ sz : Nat, vx_Met l yX3_begin (Cond.code yX3_begin cX3_begin 4 (none : Option FieldType) :: UW) ({ frames := 7, cells := 1, slots := 6, locals := 103 } : Room) (va_Pc [.ref x0, .int x, .int y] (gPre G (xW G x0 ad u) sz)) gNo (gXC G xIAE (va_A (xW G x0 ad u) sz) (xW G x0 ad u)) 1 6 (va_A (xW G x0 ad u) sz)) := by
  obtain ⟨Z, F, L, J, K⟩ := u
  obtain ⟨hT, hO, hG, hS9, hW9⟩ := hR
  have hT : RowR 600 (F 0) (Z 0) A.1 := hT
  have hO : RowR 16320 (F 1) (Z 1) A.2.1 := hO
  have hG : RowR 600 (F 4) (Z 4) (A.2.2.1 0) ∧ RowR 600 (F 5) (Z 5) (A.2.2.1 1) ∧ RowR 600 (F 6) (Z 6) (A.2.2.1 2) := hG
  have hS9 : SX (F 13) (J 5) (J 6) (J 7) (K 2) (J 8) (J 9) (K 3) (L 4) (L 7) (A.2.2.2 0) ∧ SX (F 16) (J 10) (J 11) (J 12) (K 4) (J 13) (J 14) (K 5) (L 8) (L 11) (A.2.2.2 1) ∧ SX (F 19) (J 15) (J 16) (J 17) (K 6) (J 18) (J 19) (K 7) (L 12) (L 15) (A.2.2.2 2) ∧ SX (F 22) (J 20) (J 21) (J 22) (K 8) (J 23) (J 24) (K 9) (L 16) (L 19) (A.2.2.2 3) := hS9
  have hW9 : sb_Fit (F 10) := hW9
  unfold beginA at hE
  by_cases h1 : nsI x = 1
  · rw [if_pos h1] at hE
    subst hE
    refine Or.inr (Or.inl (⟨rfl, fun sz => ?_⟩))
    exact gFrX (c_X3_beginT l hT9 G sz x0 (ad 1) (ad 3) (ad 15) (ad 16) (ad 17) (ad 5) (ad 7) x y h1) ⟨Nat.le_of_ble_eq_true rfl, Nat.le_of_ble_eq_true rfl, Nat.le_refl _, Nat.le_refl _⟩ [0] [1, 2, 3, 4, 5, 6, 7, 8, 9, 10, 11, 12, 13, 14, 15, 16, 17, 18, 19, 20, 21, 22, 23, 24, 25, 26, 27, 28, 29, 30, 31, 32, 33, 34, 35, 36, 37, 38, 39, 40, 41, 42, 43, 44, 45, 46, 47, 48, 49, 50, 51, 52, 53, 54, 55, 56, 57, 58, 59, 60, 61, 62, 63, 64, 65, 66] 67 rfl (by decide) (by decide) (by decide) (by decide) (by decide) rfl
  · rw [if_neg h1] at hE
    obtain ⟨s, hs4, rfl, h3⟩ := ns_of h1
    rw [h3] at hE
    by_cases h2 : nkI y = 1
    · rw [if_pos h2] at hE
      subst hE
      refine Or.inr (Or.inr (⟨rfl, fun sz => ?_⟩))
      rcases (show s = 0 ∨ s = 1 ∨ s = 2 ∨ s = 3 by omega) with rfl | rfl | rfl | rfl
      · skip
        exact gFrX (c_X3_beginT2 l hT9 G sz x0 (ad 1) (ad 3) (ad 15) (ad 16) (ad 17) (ad 5) (ad 7) (va_up (va_up (va_up (va_up (fun _ => none) 0 (some (ad 27))) 1 (some (ad 37))) 2 (some (ad 47))) 3 (some (ad 57))) 0 (ad 27) y (by decide) rfl h2) ⟨Nat.le_of_ble_eq_true rfl, Nat.le_of_ble_eq_true rfl, Nat.le_refl _, Nat.le_refl _⟩ [0, 16] [1, 2, 3, 4, 5, 6, 7, 8, 9, 10, 11, 12, 13, 14, 15, 17, 18, 19, 20, 21, 22, 23, 24, 25, 26, 27, 28, 29, 30, 31, 32, 33, 34, 35, 36, 37, 38, 39, 40, 41, 42, 43, 44, 45, 46, 47, 48, 49, 50, 51, 52, 53, 54, 55, 56, 57, 58, 59, 60, 61, 62, 63, 64, 65, 66] 67 rfl (by decide) (by decide) (by decide) (by decide) (by decide) rfl
      · skip
        exact gFrX (c_X3_beginT2 l hT9 G sz x0 (ad 1) (ad 3) (ad 15) (ad 16) (ad 17) (ad 5) (ad 7) (va_up (va_up (va_up (va_up (fun _ => none) 0 (some (ad 27))) 1 (some (ad 37))) 2 (some (ad 47))) 3 (some (ad 57))) 1 (ad 37) y (by decide) rfl h2) ⟨Nat.le_of_ble_eq_true rfl, Nat.le_of_ble_eq_true rfl, Nat.le_refl _, Nat.le_refl _⟩ [0, 16] [1, 2, 3, 4, 5, 6, 7, 8, 9, 10, 11, 12, 13, 14, 15, 17, 18, 19, 20, 21, 22, 23, 24, 25, 26, 27, 28, 29, 30, 31, 32, 33, 34, 35, 36, 37, 38, 39, 40, 41, 42, 43, 44, 45, 46, 47, 48, 49, 50, 51, 52, 53, 54, 55, 56, 57, 58, 59, 60, 61, 62, 63, 64, 65, 66] 67 rfl (by decide) (by decide) (by decide) (by decide) (by decide) rfl
      · skip
        exact gFrX (c_X3_beginT2 l hT9 G sz x0 (ad 1) (ad 3) (ad 15) (ad 16) (ad 17) (ad 5) (ad 7) (va_up (va_up (va_up (va_up (fun _ => none) 0 (some (ad 27))) 1 (some (ad 37))) 2 (some (ad 47))) 3 (some (ad 57))) 2 (ad 47) y (by decide) rfl h2) ⟨Nat.le_of_ble_eq_true rfl, Nat.le_of_ble_eq_true rfl, Nat.le_refl _, Nat.le_refl _⟩ [0, 16] [1, 2, 3, 4, 5, 6, 7, 8, 9, 10, 11, 12, 13, 14, 15, 17, 18, 19, 20, 21, 22, 23, 24, 25, 26, 27, 28, 29, 30, 31, 32, 33, 34, 35, 36, 37, 38, 39, 40, 41, 42, 43, 44, 45, 46, 47, 48, 49, 50, 51, 52, 53, 54, 55, 56, 57, 58, 59, 60, 61, 62, 63, 64, 65, 66] 67 rfl (by decide) (by decide) (by decide) (by decide) (by decide) rfl
      · skip
        exact gFrX (c_X3_beginT2 l hT9 G sz x0 (ad 1) (ad 3) (ad 15) (ad 16) (ad 17) (ad 5) (ad 7) (va_up (va_up (va_up (va_up (fun _ => none) 0 (some (ad 27))) 1 (some (ad 37))) 2 (some (ad 47))) 3 (some (ad 57))) 3 (ad 57) y (by decide) rfl h2) ⟨Nat.le_of_ble_eq_true rfl, Nat.le_of_ble_eq_true rfl, Nat.le_refl _, Nat.le_refl _⟩ [0, 16] [1, 2, 3, 4, 5, 6, 7, 8, 9, 10, 11, 12, 13, 14, 15, 17, 18, 19, 20, 21, 22, 23, 24, 25, 26, 27, 28, 29, 30, 31, 32, 33, 34, 35, 36, 37, 38, 39, 40, 41, 42, 43, 44, 45, 46, 47, 48, 49, 50, 51, 52, 53, 54, 55, 56, 57, 58, 59, 60, 61, 62, 63, 64, 65, 66] 67 rfl (by decide) (by decide) (by decide) (by decide) (by decide) rfl
    · rw [if_neg h2] at hE
      obtain ⟨k, hk4, rfl, h4⟩ := nk_of h2
      rw [h4] at hE
      subst hE
      refine Or.inl (⟨rfl, fun sz => ?_⟩)
      rcases (show s = 0 ∨ s = 1 ∨ s = 2 ∨ s = 3 by omega) with rfl | rfl | rfl | rfl
      · skip
        refine gFr_v (c_X3_begin l G sz x0 (ad 1) (ad 3) (ad 15) (ad 16) (ad 17) (ad 5) (ad 7) (va_up (va_up (va_up (va_up (fun _ => none) 0 (some (ad 27))) 1 (some (ad 37))) 2 (some (ad 47))) 3 (some (ad 57))) 0 (ad 27) (ad 33) (ad 35) (ad 36) (ad 28) (ad 29) (ad 30) (ad 31) (ad 32) (J 8) (J 9) (K 3) (J 6) (J 7) (K 2) (J 5) k (L 4) (by decide) rfl hk4) ⟨Nat.le_of_ble_eq_true rfl, Nat.le_of_ble_eq_true rfl, Nat.le_refl _, Nat.le_refl _⟩ [0, 16, 27, 28, 29] [1, 2, 3, 4, 5, 6, 7, 8, 9, 10, 11, 12, 13, 14, 15, 17, 18, 19, 20, 21, 22, 23, 24, 25, 26, 30, 31, 32, 33, 34, 35, 36, 37, 38, 39, 40, 41, 42, 43, 44, 45, 46, 47, 48, 49, 50, 51, 52, 53, 54, 55, 56, 57, 58, 59, 60, 61, 62, 63, 64, 65, 66] [0, 16, 27, 28, 29] 67 rfl (by decide) (by decide) (by decide) (by decide) (by decide) (fun u9 h9 => ?_)
        obtain ⟨wf1, rfl⟩ : ∃ z, z = u9 := ⟨_, rfl⟩
        have hf := h9
        have hf : ∀ jq8, jq8 < 8 → wf1 jq8 = fstW k jq8 := hf
        exact ⟨(Z, F, (va_up L 4 wf1), (va_up (va_up (va_up (va_up (va_up J 5 (nI k)) 6 0) 7 0) 8 (nI k)) 9 (nI 0)), (va_up (va_up K 2 (lN 0)) 3 (lN 0))), ⟨hT, hO, hG, ⟨SX_begin hk4 hS9.1.1 hf, hS9.2.1, hS9.2.2.1, hS9.2.2.2⟩, hW9⟩, (by repeat (first | refine List.forall_mem_cons.mpr ⟨⟨_, rfl, rfl⟩, ?_⟩ | exact fun _ h => absurd h List.not_mem_nil)), rfl, rfl⟩
      · skip
        refine gFr_v (c_X3_begin l G sz x0 (ad 1) (ad 3) (ad 15) (ad 16) (ad 17) (ad 5) (ad 7) (va_up (va_up (va_up (va_up (fun _ => none) 0 (some (ad 27))) 1 (some (ad 37))) 2 (some (ad 47))) 3 (some (ad 57))) 1 (ad 37) (ad 43) (ad 45) (ad 46) (ad 38) (ad 39) (ad 40) (ad 41) (ad 42) (J 13) (J 14) (K 5) (J 11) (J 12) (K 4) (J 10) k (L 8) (by decide) rfl hk4) ⟨Nat.le_of_ble_eq_true rfl, Nat.le_of_ble_eq_true rfl, Nat.le_refl _, Nat.le_refl _⟩ [0, 16, 37, 38, 39] [1, 2, 3, 4, 5, 6, 7, 8, 9, 10, 11, 12, 13, 14, 15, 17, 18, 19, 20, 21, 22, 23, 24, 25, 26, 27, 28, 29, 30, 31, 32, 33, 34, 35, 36, 40, 41, 42, 43, 44, 45, 46, 47, 48, 49, 50, 51, 52, 53, 54, 55, 56, 57, 58, 59, 60, 61, 62, 63, 64, 65, 66] [0, 16, 37, 38, 39] 67 rfl (by decide) (by decide) (by decide) (by decide) (by decide) (fun u9 h9 => ?_)
        obtain ⟨wf1, rfl⟩ : ∃ z, z = u9 := ⟨_, rfl⟩
        have hf := h9
        have hf : ∀ jq8, jq8 < 8 → wf1 jq8 = fstW k jq8 := hf
        exact ⟨(Z, F, (va_up L 8 wf1), (va_up (va_up (va_up (va_up (va_up J 10 (nI k)) 11 0) 12 0) 13 (nI k)) 14 (nI 0)), (va_up (va_up K 4 (lN 0)) 5 (lN 0))), ⟨hT, hO, hG, ⟨hS9.1, SX_begin hk4 hS9.2.1.1 hf, hS9.2.2.1, hS9.2.2.2⟩, hW9⟩, (by repeat (first | refine List.forall_mem_cons.mpr ⟨⟨_, rfl, rfl⟩, ?_⟩ | exact fun _ h => absurd h List.not_mem_nil)), rfl, rfl⟩
      · skip
        refine gFr_v (c_X3_begin l G sz x0 (ad 1) (ad 3) (ad 15) (ad 16) (ad 17) (ad 5) (ad 7) (va_up (va_up (va_up (va_up (fun _ => none) 0 (some (ad 27))) 1 (some (ad 37))) 2 (some (ad 47))) 3 (some (ad 57))) 2 (ad 47) (ad 53) (ad 55) (ad 56) (ad 48) (ad 49) (ad 50) (ad 51) (ad 52) (J 18) (J 19) (K 7) (J 16) (J 17) (K 6) (J 15) k (L 12) (by decide) rfl hk4) ⟨Nat.le_of_ble_eq_true rfl, Nat.le_of_ble_eq_true rfl, Nat.le_refl _, Nat.le_refl _⟩ [0, 16, 47, 48, 49] [1, 2, 3, 4, 5, 6, 7, 8, 9, 10, 11, 12, 13, 14, 15, 17, 18, 19, 20, 21, 22, 23, 24, 25, 26, 27, 28, 29, 30, 31, 32, 33, 34, 35, 36, 37, 38, 39, 40, 41, 42, 43, 44, 45, 46, 50, 51, 52, 53, 54, 55, 56, 57, 58, 59, 60, 61, 62, 63, 64, 65, 66] [0, 16, 47, 48, 49] 67 rfl (by decide) (by decide) (by decide) (by decide) (by decide) (fun u9 h9 => ?_)
        obtain ⟨wf1, rfl⟩ : ∃ z, z = u9 := ⟨_, rfl⟩
        have hf := h9
        have hf : ∀ jq8, jq8 < 8 → wf1 jq8 = fstW k jq8 := hf
        exact ⟨(Z, F, (va_up L 12 wf1), (va_up (va_up (va_up (va_up (va_up J 15 (nI k)) 16 0) 17 0) 18 (nI k)) 19 (nI 0)), (va_up (va_up K 6 (lN 0)) 7 (lN 0))), ⟨hT, hO, hG, ⟨hS9.1, hS9.2.1, SX_begin hk4 hS9.2.2.1.1 hf, hS9.2.2.2⟩, hW9⟩, (by repeat (first | refine List.forall_mem_cons.mpr ⟨⟨_, rfl, rfl⟩, ?_⟩ | exact fun _ h => absurd h List.not_mem_nil)), rfl, rfl⟩
      · skip
        refine gFr_v (c_X3_begin l G sz x0 (ad 1) (ad 3) (ad 15) (ad 16) (ad 17) (ad 5) (ad 7) (va_up (va_up (va_up (va_up (fun _ => none) 0 (some (ad 27))) 1 (some (ad 37))) 2 (some (ad 47))) 3 (some (ad 57))) 3 (ad 57) (ad 63) (ad 65) (ad 66) (ad 58) (ad 59) (ad 60) (ad 61) (ad 62) (J 23) (J 24) (K 9) (J 21) (J 22) (K 8) (J 20) k (L 16) (by decide) rfl hk4) ⟨Nat.le_of_ble_eq_true rfl, Nat.le_of_ble_eq_true rfl, Nat.le_refl _, Nat.le_refl _⟩ [0, 16, 57, 58, 59] [1, 2, 3, 4, 5, 6, 7, 8, 9, 10, 11, 12, 13, 14, 15, 17, 18, 19, 20, 21, 22, 23, 24, 25, 26, 27, 28, 29, 30, 31, 32, 33, 34, 35, 36, 37, 38, 39, 40, 41, 42, 43, 44, 45, 46, 47, 48, 49, 50, 51, 52, 53, 54, 55, 56, 60, 61, 62, 63, 64, 65, 66] [0, 16, 57, 58, 59] 67 rfl (by decide) (by decide) (by decide) (by decide) (by decide) (fun u9 h9 => ?_)
        obtain ⟨wf1, rfl⟩ : ∃ z, z = u9 := ⟨_, rfl⟩
        have hf := h9
        have hf : ∀ jq8, jq8 < 8 → wf1 jq8 = fstW k jq8 := hf
        exact ⟨(Z, F, (va_up L 16 wf1), (va_up (va_up (va_up (va_up (va_up J 20 (nI k)) 21 0) 22 0) 23 (nI k)) 24 (nI 0)), (va_up (va_up K 8 (lN 0)) 9 (lN 0))), ⟨hT, hO, hG, ⟨hS9.1, hS9.2.1, hS9.2.2.1, SX_begin hk4 hS9.2.2.2.1 hf⟩, hW9⟩, (by repeat (first | refine List.forall_mem_cons.mpr ⟨⟨_, rfl, rfl⟩, ?_⟩ | exact fun _ h => absurd h List.not_mem_nil)), rfl, rfl⟩
set_option maxRecDepth 100000 in
set_option maxHeartbeats 4000000 in
theorem x_code (l : Launch) (hT9 : l.stackTraces = false) (G : GW) (x0 : Nat) (ad : Nat → Nat) (u : XU) (A : AS) (x : Int32) (y : Int32) (E : AO) (hR : XR u A) (hE : codeA A x y = E) : (E.1 = 0 ∧ ∀ sz : Nat, Met l yX3_code (Cond.code yX3_code cX3_code 5 (some FieldType.int) :: UW) ({ frames := 7, cells := 0, slots := 0, locals := 154 } : Room) (va_Pc [.ref x0, .int x, .int y] (gPre G (xW G x0 ad u) sz)) (va_Qi (fun r v => r.toInt64 = E.2.1 ∧ XR v E.2.2) (fun v => gPost G (va_A (xW G x0 ad u) sz) (xW G x0 ad v)) (va_A (xW G x0 ad u) sz)) 0 0 (va_A (xW G x0 ad u) sz)) ∨ (E = (1, 0, A) ∧ ∀ sz : Nat, vx_Met l yX3_code (Cond.code yX3_code cX3_code 5 (some FieldType.int) :: UW) ({ frames := 7, cells := 1, slots := 6, locals := 154 } : Room) (va_Pc [.ref x0, .int x, .int y] (gPre G (xW G x0 ad u) sz)) gNo (gXC G xIOB (va_A (xW G x0 ad u) sz) (xW G x0 ad u)) 1 6 (va_A (xW G x0 ad u) sz)) ∨ (E = (2, 0, A) ∧ ∀ sz : Nat, vx_Met l yX3_code (Cond.code yX3_code cX3_code 5 (some FieldType.int) :: UW) ({ frames := 7, cells := 1, slots := 6, locals := 154 } : Room) (va_Pc [.ref x0, .int x, .int y] (gPre G (xW G x0 ad u) sz)) gNo (gXC G xIAE (va_A (xW G x0 ad u) sz) (xW G x0 ad u)) 1 6 (va_A (xW G x0 ad u) sz)) := by
  obtain ⟨Z, F, L, J, K⟩ := u
  obtain ⟨hT, hO, hG, hS9, hW9⟩ := hR
  have hT : RowR 600 (F 0) (Z 0) A.1 := hT
  have hO : RowR 16320 (F 1) (Z 1) A.2.1 := hO
  have hG : RowR 600 (F 4) (Z 4) (A.2.2.1 0) ∧ RowR 600 (F 5) (Z 5) (A.2.2.1 1) ∧ RowR 600 (F 6) (Z 6) (A.2.2.1 2) := hG
  have hS9 : SX (F 13) (J 5) (J 6) (J 7) (K 2) (J 8) (J 9) (K 3) (L 4) (L 7) (A.2.2.2 0) ∧ SX (F 16) (J 10) (J 11) (J 12) (K 4) (J 13) (J 14) (K 5) (L 8) (L 11) (A.2.2.2 1) ∧ SX (F 19) (J 15) (J 16) (J 17) (K 6) (J 18) (J 19) (K 7) (L 12) (L 15) (A.2.2.2 2) ∧ SX (F 22) (J 20) (J 21) (J 22) (K 8) (J 23) (J 24) (K 9) (L 16) (L 19) (A.2.2.2 3) := hS9
  have hW9 : sb_Fit (F 10) := hW9
  unfold codeA at hE
  by_cases h1 : nsI x = 1
  · rw [if_pos h1] at hE
    subst hE
    refine Or.inr (Or.inl (⟨rfl, fun sz => ?_⟩))
    exact gFrX (c_X3_codeT l hT9 G sz x0 (ad 1) (ad 3) (ad 15) (ad 16) (ad 17) (ad 5) (ad 7) x y h1) ⟨Nat.le_of_ble_eq_true rfl, Nat.le_of_ble_eq_true rfl, Nat.le_refl _, Nat.le_refl _⟩ [0] [1, 2, 3, 4, 5, 6, 7, 8, 9, 10, 11, 12, 13, 14, 15, 16, 17, 18, 19, 20, 21, 22, 23, 24, 25, 26, 27, 28, 29, 30, 31, 32, 33, 34, 35, 36, 37, 38, 39, 40, 41, 42, 43, 44, 45, 46, 47, 48, 49, 50, 51, 52, 53, 54, 55, 56, 57, 58, 59, 60, 61, 62, 63, 64, 65, 66] 67 rfl (by decide) (by decide) (by decide) (by decide) (by decide) rfl
  · rw [if_neg h1] at hE
    obtain ⟨s, hs4, rfl, h3⟩ := ns_of h1
    rw [h3] at hE
    by_cases h2 : nkI y = 1
    · rw [if_pos h2] at hE
      subst hE
      refine Or.inr (Or.inr (⟨rfl, fun sz => ?_⟩))
      rcases (show s = 0 ∨ s = 1 ∨ s = 2 ∨ s = 3 by omega) with rfl | rfl | rfl | rfl
      · skip
        exact gFrX (c_X3_codeT2 l hT9 G sz x0 (ad 1) (ad 3) (ad 15) (ad 16) (ad 17) (ad 5) (ad 7) (va_up (va_up (va_up (va_up (fun _ => none) 0 (some (ad 27))) 1 (some (ad 37))) 2 (some (ad 47))) 3 (some (ad 57))) 0 (ad 27) y (by decide) rfl h2) ⟨Nat.le_of_ble_eq_true rfl, Nat.le_of_ble_eq_true rfl, Nat.le_refl _, Nat.le_refl _⟩ [0, 16] [1, 2, 3, 4, 5, 6, 7, 8, 9, 10, 11, 12, 13, 14, 15, 17, 18, 19, 20, 21, 22, 23, 24, 25, 26, 27, 28, 29, 30, 31, 32, 33, 34, 35, 36, 37, 38, 39, 40, 41, 42, 43, 44, 45, 46, 47, 48, 49, 50, 51, 52, 53, 54, 55, 56, 57, 58, 59, 60, 61, 62, 63, 64, 65, 66] 67 rfl (by decide) (by decide) (by decide) (by decide) (by decide) rfl
      · skip
        exact gFrX (c_X3_codeT2 l hT9 G sz x0 (ad 1) (ad 3) (ad 15) (ad 16) (ad 17) (ad 5) (ad 7) (va_up (va_up (va_up (va_up (fun _ => none) 0 (some (ad 27))) 1 (some (ad 37))) 2 (some (ad 47))) 3 (some (ad 57))) 1 (ad 37) y (by decide) rfl h2) ⟨Nat.le_of_ble_eq_true rfl, Nat.le_of_ble_eq_true rfl, Nat.le_refl _, Nat.le_refl _⟩ [0, 16] [1, 2, 3, 4, 5, 6, 7, 8, 9, 10, 11, 12, 13, 14, 15, 17, 18, 19, 20, 21, 22, 23, 24, 25, 26, 27, 28, 29, 30, 31, 32, 33, 34, 35, 36, 37, 38, 39, 40, 41, 42, 43, 44, 45, 46, 47, 48, 49, 50, 51, 52, 53, 54, 55, 56, 57, 58, 59, 60, 61, 62, 63, 64, 65, 66] 67 rfl (by decide) (by decide) (by decide) (by decide) (by decide) rfl
      · skip
        exact gFrX (c_X3_codeT2 l hT9 G sz x0 (ad 1) (ad 3) (ad 15) (ad 16) (ad 17) (ad 5) (ad 7) (va_up (va_up (va_up (va_up (fun _ => none) 0 (some (ad 27))) 1 (some (ad 37))) 2 (some (ad 47))) 3 (some (ad 57))) 2 (ad 47) y (by decide) rfl h2) ⟨Nat.le_of_ble_eq_true rfl, Nat.le_of_ble_eq_true rfl, Nat.le_refl _, Nat.le_refl _⟩ [0, 16] [1, 2, 3, 4, 5, 6, 7, 8, 9, 10, 11, 12, 13, 14, 15, 17, 18, 19, 20, 21, 22, 23, 24, 25, 26, 27, 28, 29, 30, 31, 32, 33, 34, 35, 36, 37, 38, 39, 40, 41, 42, 43, 44, 45, 46, 47, 48, 49, 50, 51, 52, 53, 54, 55, 56, 57, 58, 59, 60, 61, 62, 63, 64, 65, 66] 67 rfl (by decide) (by decide) (by decide) (by decide) (by decide) rfl
      · skip
        exact gFrX (c_X3_codeT2 l hT9 G sz x0 (ad 1) (ad 3) (ad 15) (ad 16) (ad 17) (ad 5) (ad 7) (va_up (va_up (va_up (va_up (fun _ => none) 0 (some (ad 27))) 1 (some (ad 37))) 2 (some (ad 47))) 3 (some (ad 57))) 3 (ad 57) y (by decide) rfl h2) ⟨Nat.le_of_ble_eq_true rfl, Nat.le_of_ble_eq_true rfl, Nat.le_refl _, Nat.le_refl _⟩ [0, 16] [1, 2, 3, 4, 5, 6, 7, 8, 9, 10, 11, 12, 13, 14, 15, 17, 18, 19, 20, 21, 22, 23, 24, 25, 26, 27, 28, 29, 30, 31, 32, 33, 34, 35, 36, 37, 38, 39, 40, 41, 42, 43, 44, 45, 46, 47, 48, 49, 50, 51, 52, 53, 54, 55, 56, 57, 58, 59, 60, 61, 62, 63, 64, 65, 66] 67 rfl (by decide) (by decide) (by decide) (by decide) (by decide) rfl
    · rw [if_neg h2] at hE
      obtain ⟨k, hk4, rfl, h4⟩ := nk_of h2
      rw [h4] at hE
      subst hE
      refine Or.inl (⟨rfl, fun sz => ?_⟩)
      rcases (show s = 0 ∨ s = 1 ∨ s = 2 ∨ s = 3 by omega) with rfl | rfl | rfl | rfl
      · skip
        refine gFr_i (c_X3_code l G sz x0 (ad 1) (ad 3) (ad 15) (ad 16) (ad 17) (ad 5) (ad 7) (va_up (va_up (va_up (va_up (fun _ => none) 0 (some (ad 27))) 1 (some (ad 37))) 2 (some (ad 47))) 3 (some (ad 57))) 0 (ad 27) (ad 33) (ad 35) (ad 36) (ad 28) (ad 29) (ad 30) (ad 31) (ad 32) (J 8) (J 9) (K 3) (J 6) (J 7) (K 2) (J 5) k (L 4) (F 13) (F 14) (L 5) (ad 34) (Z 11) (F 15) (L 6) (L 7) (ad 2) (F 0) (Z 0) A.1 (by decide) rfl hk4 hS9.1.1 hT) ⟨Nat.le_of_ble_eq_true rfl, Nat.le_of_ble_eq_true rfl, Nat.le_refl _, Nat.le_refl _⟩ [0, 16, 27, 28, 29, 30, 31, 32, 33, 34, 35, 36, 1, 2] [3, 4, 5, 6, 7, 8, 9, 10, 11, 12, 13, 14, 15, 17, 18, 19, 20, 21, 22, 23, 24, 25, 26, 37, 38, 39, 40, 41, 42, 43, 44, 45, 46, 47, 48, 49, 50, 51, 52, 53, 54, 55, 56, 57, 58, 59, 60, 61, 62, 63, 64, 65, 66] [0, 16, 27, 28, 29, 30, 31, 32, 33, 34, 35, 36, 1, 2] 67 rfl (by decide) (by decide) (by decide) (by decide) (by decide) (fun r9 u9 h9 => ?_)
        obtain ⟨z1, wf1, bf1, nf1, df1, zs1, fs1, si1, so1⟩ := u9
        obtain ⟨er, hf⟩ := h9
        subst er
        have hf : (HsR k z1 wf1 bf1 (kin k (keyQ k A.1) 54)) ∧ (∀ jq8, jq8 < 8 → si1 jq8 = (kin k (keyQ k A.1) 54).1 jq8) ∧ (∀ jq8, jq8 < 8 → so1 jq8 = (kin k (keyQ k A.1) 92).1 jq8) := hf
        exact ⟨((va_up (va_up Z 11 zs1) 0 0), (va_up (va_up (va_up F 13 bf1) 14 nf1) 15 fs1), (va_up (va_up (va_up (va_up L 4 wf1) 5 df1) 6 si1) 7 so1), (va_up (va_up (va_up (va_up (va_up J 5 (nI k)) 6 1) 7 0) 8 (nI k)) 9 (nI z1)), (va_up (va_up K 2 (lN 0)) 3 (lN (bs k)))), ⟨tp_ret hT, ⟨RowR.nil (by decide), hO, hG, ⟨SX_code hk4 hf, hS9.2.1, hS9.2.2.1, hS9.2.2.2⟩, hW9⟩⟩, (by repeat (first | refine List.forall_mem_cons.mpr ⟨⟨_, rfl, rfl⟩, ?_⟩ | exact fun _ h => absurd h List.not_mem_nil)), rfl, rfl⟩
      · skip
        refine gFr_i (c_X3_code l G sz x0 (ad 1) (ad 3) (ad 15) (ad 16) (ad 17) (ad 5) (ad 7) (va_up (va_up (va_up (va_up (fun _ => none) 0 (some (ad 27))) 1 (some (ad 37))) 2 (some (ad 47))) 3 (some (ad 57))) 1 (ad 37) (ad 43) (ad 45) (ad 46) (ad 38) (ad 39) (ad 40) (ad 41) (ad 42) (J 13) (J 14) (K 5) (J 11) (J 12) (K 4) (J 10) k (L 8) (F 16) (F 17) (L 9) (ad 44) (Z 12) (F 18) (L 10) (L 11) (ad 2) (F 0) (Z 0) A.1 (by decide) rfl hk4 hS9.2.1.1 hT) ⟨Nat.le_of_ble_eq_true rfl, Nat.le_of_ble_eq_true rfl, Nat.le_refl _, Nat.le_refl _⟩ [0, 16, 37, 38, 39, 40, 41, 42, 43, 44, 45, 46, 1, 2] [3, 4, 5, 6, 7, 8, 9, 10, 11, 12, 13, 14, 15, 17, 18, 19, 20, 21, 22, 23, 24, 25, 26, 27, 28, 29, 30, 31, 32, 33, 34, 35, 36, 47, 48, 49, 50, 51, 52, 53, 54, 55, 56, 57, 58, 59, 60, 61, 62, 63, 64, 65, 66] [0, 16, 37, 38, 39, 40, 41, 42, 43, 44, 45, 46, 1, 2] 67 rfl (by decide) (by decide) (by decide) (by decide) (by decide) (fun r9 u9 h9 => ?_)
        obtain ⟨z1, wf1, bf1, nf1, df1, zs1, fs1, si1, so1⟩ := u9
        obtain ⟨er, hf⟩ := h9
        subst er
        have hf : (HsR k z1 wf1 bf1 (kin k (keyQ k A.1) 54)) ∧ (∀ jq8, jq8 < 8 → si1 jq8 = (kin k (keyQ k A.1) 54).1 jq8) ∧ (∀ jq8, jq8 < 8 → so1 jq8 = (kin k (keyQ k A.1) 92).1 jq8) := hf
        exact ⟨((va_up (va_up Z 12 zs1) 0 0), (va_up (va_up (va_up F 16 bf1) 17 nf1) 18 fs1), (va_up (va_up (va_up (va_up L 8 wf1) 9 df1) 10 si1) 11 so1), (va_up (va_up (va_up (va_up (va_up J 10 (nI k)) 11 1) 12 0) 13 (nI k)) 14 (nI z1)), (va_up (va_up K 4 (lN 0)) 5 (lN (bs k)))), ⟨tp_ret hT, ⟨RowR.nil (by decide), hO, hG, ⟨hS9.1, SX_code hk4 hf, hS9.2.2.1, hS9.2.2.2⟩, hW9⟩⟩, (by repeat (first | refine List.forall_mem_cons.mpr ⟨⟨_, rfl, rfl⟩, ?_⟩ | exact fun _ h => absurd h List.not_mem_nil)), rfl, rfl⟩
      · skip
        refine gFr_i (c_X3_code l G sz x0 (ad 1) (ad 3) (ad 15) (ad 16) (ad 17) (ad 5) (ad 7) (va_up (va_up (va_up (va_up (fun _ => none) 0 (some (ad 27))) 1 (some (ad 37))) 2 (some (ad 47))) 3 (some (ad 57))) 2 (ad 47) (ad 53) (ad 55) (ad 56) (ad 48) (ad 49) (ad 50) (ad 51) (ad 52) (J 18) (J 19) (K 7) (J 16) (J 17) (K 6) (J 15) k (L 12) (F 19) (F 20) (L 13) (ad 54) (Z 13) (F 21) (L 14) (L 15) (ad 2) (F 0) (Z 0) A.1 (by decide) rfl hk4 hS9.2.2.1.1 hT) ⟨Nat.le_of_ble_eq_true rfl, Nat.le_of_ble_eq_true rfl, Nat.le_refl _, Nat.le_refl _⟩ [0, 16, 47, 48, 49, 50, 51, 52, 53, 54, 55, 56, 1, 2] [3, 4, 5, 6, 7, 8, 9, 10, 11, 12, 13, 14, 15, 17, 18, 19, 20, 21, 22, 23, 24, 25, 26, 27, 28, 29, 30, 31, 32, 33, 34, 35, 36, 37, 38, 39, 40, 41, 42, 43, 44, 45, 46, 57, 58, 59, 60, 61, 62, 63, 64, 65, 66] [0, 16, 47, 48, 49, 50, 51, 52, 53, 54, 55, 56, 1, 2] 67 rfl (by decide) (by decide) (by decide) (by decide) (by decide) (fun r9 u9 h9 => ?_)
        obtain ⟨z1, wf1, bf1, nf1, df1, zs1, fs1, si1, so1⟩ := u9
        obtain ⟨er, hf⟩ := h9
        subst er
        have hf : (HsR k z1 wf1 bf1 (kin k (keyQ k A.1) 54)) ∧ (∀ jq8, jq8 < 8 → si1 jq8 = (kin k (keyQ k A.1) 54).1 jq8) ∧ (∀ jq8, jq8 < 8 → so1 jq8 = (kin k (keyQ k A.1) 92).1 jq8) := hf
        exact ⟨((va_up (va_up Z 13 zs1) 0 0), (va_up (va_up (va_up F 19 bf1) 20 nf1) 21 fs1), (va_up (va_up (va_up (va_up L 12 wf1) 13 df1) 14 si1) 15 so1), (va_up (va_up (va_up (va_up (va_up J 15 (nI k)) 16 1) 17 0) 18 (nI k)) 19 (nI z1)), (va_up (va_up K 6 (lN 0)) 7 (lN (bs k)))), ⟨tp_ret hT, ⟨RowR.nil (by decide), hO, hG, ⟨hS9.1, hS9.2.1, SX_code hk4 hf, hS9.2.2.2⟩, hW9⟩⟩, (by repeat (first | refine List.forall_mem_cons.mpr ⟨⟨_, rfl, rfl⟩, ?_⟩ | exact fun _ h => absurd h List.not_mem_nil)), rfl, rfl⟩
      · skip
        refine gFr_i (c_X3_code l G sz x0 (ad 1) (ad 3) (ad 15) (ad 16) (ad 17) (ad 5) (ad 7) (va_up (va_up (va_up (va_up (fun _ => none) 0 (some (ad 27))) 1 (some (ad 37))) 2 (some (ad 47))) 3 (some (ad 57))) 3 (ad 57) (ad 63) (ad 65) (ad 66) (ad 58) (ad 59) (ad 60) (ad 61) (ad 62) (J 23) (J 24) (K 9) (J 21) (J 22) (K 8) (J 20) k (L 16) (F 22) (F 23) (L 17) (ad 64) (Z 14) (F 24) (L 18) (L 19) (ad 2) (F 0) (Z 0) A.1 (by decide) rfl hk4 hS9.2.2.2.1 hT) ⟨Nat.le_of_ble_eq_true rfl, Nat.le_of_ble_eq_true rfl, Nat.le_refl _, Nat.le_refl _⟩ [0, 16, 57, 58, 59, 60, 61, 62, 63, 64, 65, 66, 1, 2] [3, 4, 5, 6, 7, 8, 9, 10, 11, 12, 13, 14, 15, 17, 18, 19, 20, 21, 22, 23, 24, 25, 26, 27, 28, 29, 30, 31, 32, 33, 34, 35, 36, 37, 38, 39, 40, 41, 42, 43, 44, 45, 46, 47, 48, 49, 50, 51, 52, 53, 54, 55, 56] [0, 16, 57, 58, 59, 60, 61, 62, 63, 64, 65, 66, 1, 2] 67 rfl (by decide) (by decide) (by decide) (by decide) (by decide) (fun r9 u9 h9 => ?_)
        obtain ⟨z1, wf1, bf1, nf1, df1, zs1, fs1, si1, so1⟩ := u9
        obtain ⟨er, hf⟩ := h9
        subst er
        have hf : (HsR k z1 wf1 bf1 (kin k (keyQ k A.1) 54)) ∧ (∀ jq8, jq8 < 8 → si1 jq8 = (kin k (keyQ k A.1) 54).1 jq8) ∧ (∀ jq8, jq8 < 8 → so1 jq8 = (kin k (keyQ k A.1) 92).1 jq8) := hf
        exact ⟨((va_up (va_up Z 14 zs1) 0 0), (va_up (va_up (va_up F 22 bf1) 23 nf1) 24 fs1), (va_up (va_up (va_up (va_up L 16 wf1) 17 df1) 18 si1) 19 so1), (va_up (va_up (va_up (va_up (va_up J 20 (nI k)) 21 1) 22 0) 23 (nI k)) 24 (nI z1)), (va_up (va_up K 8 (lN 0)) 9 (lN (bs k)))), ⟨tp_ret hT, ⟨RowR.nil (by decide), hO, hG, ⟨hS9.1, hS9.2.1, hS9.2.2.1, SX_code hk4 hf⟩, hW9⟩⟩, (by repeat (first | refine List.forall_mem_cons.mpr ⟨⟨_, rfl, rfl⟩, ?_⟩ | exact fun _ h => absurd h List.not_mem_nil)), rfl, rfl⟩
theorem w_X3_update (l : Launch) (G : GW) (sz : Nat) (x0 : Nat) (tp0 : Nat) (rs0 : Nat) (rg : Nat) (sa : Nat) (wo : Nat) (lk0 : Nat) (sm0 : Nat) (sf : Nat → Option Nat) (sl : Nat) (s0 : Nat) (r0 : Nat) (i0 : Nat) (o0 : Nat) (a0 : Nat) (a1 : Nat) (a2 : Nat) (a3 : Nat) (a4 : Nat) (k : Nat) (z : Nat) (t : Nat) (cd : Int32) (tl : Nat) (wf : Nat → Int64) (bf : Nat → Int32) (nf : Nat → Int32) (df : Nat → Int64) (tp1 : Nat) (ftp : Nat → Int32) (ztp : Nat) (q : List Nat) (h : HS) (e90 : Int32) (e91 : Int32) (e92 : Int64) (e93 : Int32) (e94 : Int32) (e95 : Int64) (hs : sl < 4) (ha : sf sl = some s0) (hR : HsR k z wf bf h) (hQ : RowR 600 ftp ztp q) (he90 : e90 = nI k) (he91 : e91 = 0) (he92 : e92 = lN tl) (he93 : e93 = nI k) (he94 : e94 = nI z) (he95 : e95 = lN t) : Met l yX3_update (Cond.code yX3_update cX3_update 3 (some FieldType.long) :: UW) ({ frames := 5, cells := 0, slots := 0, locals := 131 } : Room) (va_Pc [.ref x0, .int (nI sl)] (gPre G [(x0, .inr (3, [.ref tp0, .ref rs0, .ref rg, .ref sa, .ref wo, .ref lk0, .ref sm0])), (sa, .inl (G.2.1 5, 4, .inr (.inr (.inr (.inr sf))))), (s0, .inr (2, [.ref a0, .ref r0, .ref i0, .ref o0, .int e90, .int cd, .int e91, .long e92])), (a0, .inr (0, [.ref a1, .ref a2, .ref a3, .ref a4, .int e93, .int e94, .long e95])), (a1, .inl (G.2.1 2, 8, .inr (.inl wf))), (a2, .inl (G.2.1 0, 128, .inl bf)), (a3, .inl (G.2.1 1, 64, .inl nf)), (a4, .inl (G.2.1 2, 80, .inr (.inl df))), (tp0, .inr (1, [.ref tp1, .int (nI ztp)])), (tp1, .inl (G.2.1 0, 600, .inl ftp))] sz)) (va_Ql (fun (r : Int64) (uq9 : Nat × (Nat → Int64) × (Nat → Int32) × (Nat → Int32) × (Nat → Int64)) => r = lN (tl + ztp) ∧ HsR k uq9.1 uq9.2.1 uq9.2.2.1 (plcs k h q)) (fun u => gPost G (va_A [(x0, .inr (3, [.ref tp0, .ref rs0, .ref rg, .ref sa, .ref wo, .ref lk0, .ref sm0])), (sa, .inl (G.2.1 5, 4, .inr (.inr (.inr (.inr sf))))), (s0, .inr (2, [.ref a0, .ref r0, .ref i0, .ref o0, .int e90, .int cd, .int e91, .long e92])), (a0, .inr (0, [.ref a1, .ref a2, .ref a3, .ref a4, .int e93, .int e94, .long e95])), (a1, .inl (G.2.1 2, 8, .inr (.inl wf))), (a2, .inl (G.2.1 0, 128, .inl bf)), (a3, .inl (G.2.1 1, 64, .inl nf)), (a4, .inl (G.2.1 2, 80, .inr (.inl df))), (tp0, .inr (1, [.ref tp1, .int (nI ztp)])), (tp1, .inl (G.2.1 0, 600, .inl ftp))] sz) ((fun (uq9 : Nat × (Nat → Int64) × (Nat → Int32) × (Nat → Int32) × (Nat → Int64)) => ([(x0, .inr (3, [.ref tp0, .ref rs0, .ref rg, .ref sa, .ref wo, .ref lk0, .ref sm0])), (sa, .inl (G.2.1 5, 4, .inr (.inr (.inr (.inr sf))))), (s0, .inr (2, [.ref a0, .ref r0, .ref i0, .ref o0, .int (nI k), .int cd, .int 0, .long (lN (tl + ztp))])), (a0, .inr (0, [.ref a1, .ref a2, .ref a3, .ref a4, .int (nI k), .int (nI uq9.1), .long (lN (t + ztp))])), (a1, .inl (G.2.1 2, 8, .inr (.inl uq9.2.1))), (a2, .inl (G.2.1 0, 128, .inl uq9.2.2.1)), (a3, .inl (G.2.1 1, 64, .inl uq9.2.2.2.1)), (a4, .inl (G.2.1 2, 80, .inr (.inl uq9.2.2.2.2))), (tp0, .inr (1, [.ref tp1, .int (nI 0)])), (tp1, .inl (G.2.1 0, 600, .inl ftp))] : va_W)) u)) (va_A [(x0, .inr (3, [.ref tp0, .ref rs0, .ref rg, .ref sa, .ref wo, .ref lk0, .ref sm0])), (sa, .inl (G.2.1 5, 4, .inr (.inr (.inr (.inr sf))))), (s0, .inr (2, [.ref a0, .ref r0, .ref i0, .ref o0, .int e90, .int cd, .int e91, .long e92])), (a0, .inr (0, [.ref a1, .ref a2, .ref a3, .ref a4, .int e93, .int e94, .long e95])), (a1, .inl (G.2.1 2, 8, .inr (.inl wf))), (a2, .inl (G.2.1 0, 128, .inl bf)), (a3, .inl (G.2.1 1, 64, .inl nf)), (a4, .inl (G.2.1 2, 80, .inr (.inl df))), (tp0, .inr (1, [.ref tp1, .int (nI ztp)])), (tp1, .inl (G.2.1 0, 600, .inl ftp))] sz)) 0 0 (va_A [(x0, .inr (3, [.ref tp0, .ref rs0, .ref rg, .ref sa, .ref wo, .ref lk0, .ref sm0])), (sa, .inl (G.2.1 5, 4, .inr (.inr (.inr (.inr sf))))), (s0, .inr (2, [.ref a0, .ref r0, .ref i0, .ref o0, .int e90, .int cd, .int e91, .long e92])), (a0, .inr (0, [.ref a1, .ref a2, .ref a3, .ref a4, .int e93, .int e94, .long e95])), (a1, .inl (G.2.1 2, 8, .inr (.inl wf))), (a2, .inl (G.2.1 0, 128, .inl bf)), (a3, .inl (G.2.1 1, 64, .inl nf)), (a4, .inl (G.2.1 2, 80, .inr (.inl df))), (tp0, .inr (1, [.ref tp1, .int (nI ztp)])), (tp1, .inl (G.2.1 0, 600, .inl ftp))] sz) := by
  subst he90 he91 he92 he93 he94 he95
  exact c_X3_update l G sz x0 tp0 rs0 rg sa wo lk0 sm0 sf sl s0 r0 i0 o0 a0 a1 a2 a3 a4 k z t cd tl wf bf nf df tp1 ftp ztp q h hs ha hR hQ
set_option maxRecDepth 100000 in
set_option maxHeartbeats 4000000 in
theorem x_update (l : Launch) (hT9 : l.stackTraces = false) (G : GW) (x0 : Nat) (ad : Nat → Nat) (u : XU) (A : AS) (x : Int32) (E : AO) (hR : XR u A) (hE : updateA A x = E) : (E.1 = 0 ∧ ∀ sz : Nat, Met l yX3_update (Cond.code yX3_update cX3_update 3 (some FieldType.long) :: UW) ({ frames := 8, cells := 0, slots := 0, locals := 131 } : Room) (va_Pc [.ref x0, .int x] (gPre G (xW G x0 ad u) sz)) (va_Ql (fun r v => r = E.2.1 ∧ XR v E.2.2) (fun v => gPost G (va_A (xW G x0 ad u) sz) (xW G x0 ad v)) (va_A (xW G x0 ad u) sz)) 0 0 (va_A (xW G x0 ad u) sz)) ∨ (E = (1, 0, A) ∧ ∀ sz : Nat, vx_Met l yX3_update (Cond.code yX3_update cX3_update 3 (some FieldType.long) :: UW) ({ frames := 8, cells := 1, slots := 6, locals := 131 } : Room) (va_Pc [.ref x0, .int x] (gPre G (xW G x0 ad u) sz)) gNo (gXC G xIOB (va_A (xW G x0 ad u) sz) (xW G x0 ad u)) 1 6 (va_A (xW G x0 ad u) sz)) ∨ (E = (2, 0, A) ∧ ∀ sz : Nat, vx_Met l yX3_update (Cond.code yX3_update cX3_update 3 (some FieldType.long) :: UW) ({ frames := 8, cells := 1, slots := 6, locals := 131 } : Room) (va_Pc [.ref x0, .int x] (gPre G (xW G x0 ad u) sz)) gNo (gXC G xISE (va_A (xW G x0 ad u) sz) (xW G x0 ad u)) 1 6 (va_A (xW G x0 ad u) sz)) := by
  obtain ⟨Z, F, L, J, K⟩ := u
  obtain ⟨hT, hO, hG, hS9, hW9⟩ := hR
  have hT : RowR 600 (F 0) (Z 0) A.1 := hT
  have hO : RowR 16320 (F 1) (Z 1) A.2.1 := hO
  have hG : RowR 600 (F 4) (Z 4) (A.2.2.1 0) ∧ RowR 600 (F 5) (Z 5) (A.2.2.1 1) ∧ RowR 600 (F 6) (Z 6) (A.2.2.1 2) := hG
  have hS9 : SX (F 13) (J 5) (J 6) (J 7) (K 2) (J 8) (J 9) (K 3) (L 4) (L 7) (A.2.2.2 0) ∧ SX (F 16) (J 10) (J 11) (J 12) (K 4) (J 13) (J 14) (K 5) (L 8) (L 11) (A.2.2.2 1) ∧ SX (F 19) (J 15) (J 16) (J 17) (K 6) (J 18) (J 19) (K 7) (L 12) (L 15) (A.2.2.2 2) ∧ SX (F 22) (J 20) (J 21) (J 22) (K 8) (J 23) (J 24) (K 9) (L 16) (L 19) (A.2.2.2 3) := hS9
  have hW9 : sb_Fit (F 10) := hW9
  unfold updateA at hE
  by_cases h1 : nsI x = 1
  · rw [if_pos h1] at hE
    subst hE
    refine Or.inr (Or.inl (⟨rfl, fun sz => ?_⟩))
    exact gFrX (c_X3_updateT l hT9 G sz x0 (ad 1) (ad 3) (ad 15) (ad 16) (ad 17) (ad 5) (ad 7) x h1) ⟨Nat.le_of_ble_eq_true rfl, Nat.le_of_ble_eq_true rfl, Nat.le_refl _, Nat.le_refl _⟩ [0] [1, 2, 3, 4, 5, 6, 7, 8, 9, 10, 11, 12, 13, 14, 15, 16, 17, 18, 19, 20, 21, 22, 23, 24, 25, 26, 27, 28, 29, 30, 31, 32, 33, 34, 35, 36, 37, 38, 39, 40, 41, 42, 43, 44, 45, 46, 47, 48, 49, 50, 51, 52, 53, 54, 55, 56, 57, 58, 59, 60, 61, 62, 63, 64, 65, 66] 67 rfl (by decide) (by decide) (by decide) (by decide) (by decide) rfl
  · rw [if_neg h1] at hE
    obtain ⟨s, hs4, rfl, h3⟩ := ns_of h1
    rw [h3] at hE
    cases hsh : shut (A.2.2.2 s) with
    | true =>
      unfold upd1 at hE
      rw [if_pos hsh] at hE
      subst hE
      refine Or.inr (Or.inr (⟨rfl, fun sz => ?_⟩))
      rcases (show s = 0 ∨ s = 1 ∨ s = 2 ∨ s = 3 by omega) with rfl | rfl | rfl | rfl
      · skip
        exact gFrX (c_X3_updateC l hT9 G sz x0 (ad 1) (ad 3) (ad 15) (ad 16) (ad 17) (ad 5) (ad 7) (va_up (va_up (va_up (va_up (fun _ => none) 0 (some (ad 27))) 1 (some (ad 37))) 2 (some (ad 47))) 3 (some (ad 57))) 0 (ad 27) (ad 33) (ad 35) (ad 36) (ad 28) (J 5) (J 6) (J 7) (K 2) (by decide) rfl (SX_shut hS9.1 hsh)) ⟨Nat.le_of_ble_eq_true rfl, Nat.le_of_ble_eq_true rfl, Nat.le_refl _, Nat.le_refl _⟩ [0, 16, 27] [1, 2, 3, 4, 5, 6, 7, 8, 9, 10, 11, 12, 13, 14, 15, 17, 18, 19, 20, 21, 22, 23, 24, 25, 26, 28, 29, 30, 31, 32, 33, 34, 35, 36, 37, 38, 39, 40, 41, 42, 43, 44, 45, 46, 47, 48, 49, 50, 51, 52, 53, 54, 55, 56, 57, 58, 59, 60, 61, 62, 63, 64, 65, 66] 67 rfl (by decide) (by decide) (by decide) (by decide) (by decide) rfl
      · skip
        exact gFrX (c_X3_updateC l hT9 G sz x0 (ad 1) (ad 3) (ad 15) (ad 16) (ad 17) (ad 5) (ad 7) (va_up (va_up (va_up (va_up (fun _ => none) 0 (some (ad 27))) 1 (some (ad 37))) 2 (some (ad 47))) 3 (some (ad 57))) 1 (ad 37) (ad 43) (ad 45) (ad 46) (ad 38) (J 10) (J 11) (J 12) (K 4) (by decide) rfl (SX_shut hS9.2.1 hsh)) ⟨Nat.le_of_ble_eq_true rfl, Nat.le_of_ble_eq_true rfl, Nat.le_refl _, Nat.le_refl _⟩ [0, 16, 37] [1, 2, 3, 4, 5, 6, 7, 8, 9, 10, 11, 12, 13, 14, 15, 17, 18, 19, 20, 21, 22, 23, 24, 25, 26, 27, 28, 29, 30, 31, 32, 33, 34, 35, 36, 38, 39, 40, 41, 42, 43, 44, 45, 46, 47, 48, 49, 50, 51, 52, 53, 54, 55, 56, 57, 58, 59, 60, 61, 62, 63, 64, 65, 66] 67 rfl (by decide) (by decide) (by decide) (by decide) (by decide) rfl
      · skip
        exact gFrX (c_X3_updateC l hT9 G sz x0 (ad 1) (ad 3) (ad 15) (ad 16) (ad 17) (ad 5) (ad 7) (va_up (va_up (va_up (va_up (fun _ => none) 0 (some (ad 27))) 1 (some (ad 37))) 2 (some (ad 47))) 3 (some (ad 57))) 2 (ad 47) (ad 53) (ad 55) (ad 56) (ad 48) (J 15) (J 16) (J 17) (K 6) (by decide) rfl (SX_shut hS9.2.2.1 hsh)) ⟨Nat.le_of_ble_eq_true rfl, Nat.le_of_ble_eq_true rfl, Nat.le_refl _, Nat.le_refl _⟩ [0, 16, 47] [1, 2, 3, 4, 5, 6, 7, 8, 9, 10, 11, 12, 13, 14, 15, 17, 18, 19, 20, 21, 22, 23, 24, 25, 26, 27, 28, 29, 30, 31, 32, 33, 34, 35, 36, 37, 38, 39, 40, 41, 42, 43, 44, 45, 46, 48, 49, 50, 51, 52, 53, 54, 55, 56, 57, 58, 59, 60, 61, 62, 63, 64, 65, 66] 67 rfl (by decide) (by decide) (by decide) (by decide) (by decide) rfl
      · skip
        exact gFrX (c_X3_updateC l hT9 G sz x0 (ad 1) (ad 3) (ad 15) (ad 16) (ad 17) (ad 5) (ad 7) (va_up (va_up (va_up (va_up (fun _ => none) 0 (some (ad 27))) 1 (some (ad 37))) 2 (some (ad 47))) 3 (some (ad 57))) 3 (ad 57) (ad 63) (ad 65) (ad 66) (ad 58) (J 20) (J 21) (J 22) (K 8) (by decide) rfl (SX_shut hS9.2.2.2 hsh)) ⟨Nat.le_of_ble_eq_true rfl, Nat.le_of_ble_eq_true rfl, Nat.le_refl _, Nat.le_refl _⟩ [0, 16, 57] [1, 2, 3, 4, 5, 6, 7, 8, 9, 10, 11, 12, 13, 14, 15, 17, 18, 19, 20, 21, 22, 23, 24, 25, 26, 27, 28, 29, 30, 31, 32, 33, 34, 35, 36, 37, 38, 39, 40, 41, 42, 43, 44, 45, 46, 47, 48, 49, 50, 51, 52, 53, 54, 55, 56, 58, 59, 60, 61, 62, 63, 64, 65, 66] 67 rfl (by decide) (by decide) (by decide) (by decide) (by decide) rfl
    | false =>
      obtain ⟨k, cd, T, h, kq, hst⟩ := shut_no hsh
      rw [hst] at hE
      subst hE
      refine Or.inl (⟨rfl, fun sz => ?_⟩)
      rcases (show s = 0 ∨ s = 1 ∨ s = 2 ∨ s = 3 by omega) with rfl | rfl | rfl | rfl
      · skip
        have hq := hS9.1
        rw [hst] at hq
        obtain ⟨hF, -, hq⟩ := hq
        obtain ⟨hk4, e1, e2, e3, e4, hq⟩ := hq rfl
        obtain ⟨e5, e6, ⟨z, e7, hH⟩, hso⟩ := hq rfl
        refine gFr_l (w_X3_update l G sz x0 (ad 1) (ad 3) (ad 15) (ad 16) (ad 17) (ad 5) (ad 7) (va_up (va_up (va_up (va_up (fun _ => none) 0 (some (ad 27))) 1 (some (ad 37))) 2 (some (ad 47))) 3 (some (ad 57))) 0 (ad 27) (ad 33) (ad 35) (ad 36) (ad 28) (ad 29) (ad 30) (ad 31) (ad 32) k z (cB k cd + T) (J 6) T (L 4) (F 13) (F 14) (L 5) (ad 2) (F 0) (Z 0) A.1 h (J 5) (J 7) (K 2) (J 8) (J 9) (K 3) (by decide) rfl hH hT e1 e3 e4 e5 e7 e6) ⟨Nat.le_of_ble_eq_true rfl, Nat.le_of_ble_eq_true rfl, Nat.le_refl _, Nat.le_refl _⟩ [0, 16, 27, 28, 29, 30, 31, 32, 1, 2] [3, 4, 5, 6, 7, 8, 9, 10, 11, 12, 13, 14, 15, 17, 18, 19, 20, 21, 22, 23, 24, 25, 26, 33, 34, 35, 36, 37, 38, 39, 40, 41, 42, 43, 44, 45, 46, 47, 48, 49, 50, 51, 52, 53, 54, 55, 56, 57, 58, 59, 60, 61, 62, 63, 64, 65, 66] [0, 16, 27, 28, 29, 30, 31, 32, 1, 2] 67 rfl (by decide) (by decide) (by decide) (by decide) (by decide) (fun r9 u9 h9 => ?_)
        obtain ⟨z1, wf1, bf1, nf1, df1⟩ := u9
        obtain ⟨er, hf⟩ := h9
        subst er
        have hf : HsR k z1 wf1 bf1 (plcs k h A.1) := hf
        exact ⟨((va_up Z 0 0), (va_up (va_up F 13 bf1) 14 nf1), (va_up (va_up L 4 wf1) 5 df1), (va_up (va_up (va_up (va_up J 5 (nI k)) 7 0) 8 (nI k)) 9 (nI z1)), (va_up (va_up K 2 (lN (T + (Z 0)))) 3 (lN ((cB k cd + T) + (Z 0))))), ⟨by rw [hT.1]; rfl, ⟨RowR.nil (by decide), hO, hG, ⟨SX_more hk4 e2 hf hso hT.1, hS9.2.1, hS9.2.2.1, hS9.2.2.2⟩, hW9⟩⟩, (by repeat (first | refine List.forall_mem_cons.mpr ⟨⟨_, rfl, rfl⟩, ?_⟩ | exact fun _ h => absurd h List.not_mem_nil)), rfl, rfl⟩
      · skip
        have hq := hS9.2.1
        rw [hst] at hq
        obtain ⟨hF, -, hq⟩ := hq
        obtain ⟨hk4, e1, e2, e3, e4, hq⟩ := hq rfl
        obtain ⟨e5, e6, ⟨z, e7, hH⟩, hso⟩ := hq rfl
        refine gFr_l (w_X3_update l G sz x0 (ad 1) (ad 3) (ad 15) (ad 16) (ad 17) (ad 5) (ad 7) (va_up (va_up (va_up (va_up (fun _ => none) 0 (some (ad 27))) 1 (some (ad 37))) 2 (some (ad 47))) 3 (some (ad 57))) 1 (ad 37) (ad 43) (ad 45) (ad 46) (ad 38) (ad 39) (ad 40) (ad 41) (ad 42) k z (cB k cd + T) (J 11) T (L 8) (F 16) (F 17) (L 9) (ad 2) (F 0) (Z 0) A.1 h (J 10) (J 12) (K 4) (J 13) (J 14) (K 5) (by decide) rfl hH hT e1 e3 e4 e5 e7 e6) ⟨Nat.le_of_ble_eq_true rfl, Nat.le_of_ble_eq_true rfl, Nat.le_refl _, Nat.le_refl _⟩ [0, 16, 37, 38, 39, 40, 41, 42, 1, 2] [3, 4, 5, 6, 7, 8, 9, 10, 11, 12, 13, 14, 15, 17, 18, 19, 20, 21, 22, 23, 24, 25, 26, 27, 28, 29, 30, 31, 32, 33, 34, 35, 36, 43, 44, 45, 46, 47, 48, 49, 50, 51, 52, 53, 54, 55, 56, 57, 58, 59, 60, 61, 62, 63, 64, 65, 66] [0, 16, 37, 38, 39, 40, 41, 42, 1, 2] 67 rfl (by decide) (by decide) (by decide) (by decide) (by decide) (fun r9 u9 h9 => ?_)
        obtain ⟨z1, wf1, bf1, nf1, df1⟩ := u9
        obtain ⟨er, hf⟩ := h9
        subst er
        have hf : HsR k z1 wf1 bf1 (plcs k h A.1) := hf
        exact ⟨((va_up Z 0 0), (va_up (va_up F 16 bf1) 17 nf1), (va_up (va_up L 8 wf1) 9 df1), (va_up (va_up (va_up (va_up J 10 (nI k)) 12 0) 13 (nI k)) 14 (nI z1)), (va_up (va_up K 4 (lN (T + (Z 0)))) 5 (lN ((cB k cd + T) + (Z 0))))), ⟨by rw [hT.1]; rfl, ⟨RowR.nil (by decide), hO, hG, ⟨hS9.1, SX_more hk4 e2 hf hso hT.1, hS9.2.2.1, hS9.2.2.2⟩, hW9⟩⟩, (by repeat (first | refine List.forall_mem_cons.mpr ⟨⟨_, rfl, rfl⟩, ?_⟩ | exact fun _ h => absurd h List.not_mem_nil)), rfl, rfl⟩
      · skip
        have hq := hS9.2.2.1
        rw [hst] at hq
        obtain ⟨hF, -, hq⟩ := hq
        obtain ⟨hk4, e1, e2, e3, e4, hq⟩ := hq rfl
        obtain ⟨e5, e6, ⟨z, e7, hH⟩, hso⟩ := hq rfl
        refine gFr_l (w_X3_update l G sz x0 (ad 1) (ad 3) (ad 15) (ad 16) (ad 17) (ad 5) (ad 7) (va_up (va_up (va_up (va_up (fun _ => none) 0 (some (ad 27))) 1 (some (ad 37))) 2 (some (ad 47))) 3 (some (ad 57))) 2 (ad 47) (ad 53) (ad 55) (ad 56) (ad 48) (ad 49) (ad 50) (ad 51) (ad 52) k z (cB k cd + T) (J 16) T (L 12) (F 19) (F 20) (L 13) (ad 2) (F 0) (Z 0) A.1 h (J 15) (J 17) (K 6) (J 18) (J 19) (K 7) (by decide) rfl hH hT e1 e3 e4 e5 e7 e6) ⟨Nat.le_of_ble_eq_true rfl, Nat.le_of_ble_eq_true rfl, Nat.le_refl _, Nat.le_refl _⟩ [0, 16, 47, 48, 49, 50, 51, 52, 1, 2] [3, 4, 5, 6, 7, 8, 9, 10, 11, 12, 13, 14, 15, 17, 18, 19, 20, 21, 22, 23, 24, 25, 26, 27, 28, 29, 30, 31, 32, 33, 34, 35, 36, 37, 38, 39, 40, 41, 42, 43, 44, 45, 46, 53, 54, 55, 56, 57, 58, 59, 60, 61, 62, 63, 64, 65, 66] [0, 16, 47, 48, 49, 50, 51, 52, 1, 2] 67 rfl (by decide) (by decide) (by decide) (by decide) (by decide) (fun r9 u9 h9 => ?_)
        obtain ⟨z1, wf1, bf1, nf1, df1⟩ := u9
        obtain ⟨er, hf⟩ := h9
        subst er
        have hf : HsR k z1 wf1 bf1 (plcs k h A.1) := hf
        exact ⟨((va_up Z 0 0), (va_up (va_up F 19 bf1) 20 nf1), (va_up (va_up L 12 wf1) 13 df1), (va_up (va_up (va_up (va_up J 15 (nI k)) 17 0) 18 (nI k)) 19 (nI z1)), (va_up (va_up K 6 (lN (T + (Z 0)))) 7 (lN ((cB k cd + T) + (Z 0))))), ⟨by rw [hT.1]; rfl, ⟨RowR.nil (by decide), hO, hG, ⟨hS9.1, hS9.2.1, SX_more hk4 e2 hf hso hT.1, hS9.2.2.2⟩, hW9⟩⟩, (by repeat (first | refine List.forall_mem_cons.mpr ⟨⟨_, rfl, rfl⟩, ?_⟩ | exact fun _ h => absurd h List.not_mem_nil)), rfl, rfl⟩
      · skip
        have hq := hS9.2.2.2
        rw [hst] at hq
        obtain ⟨hF, -, hq⟩ := hq
        obtain ⟨hk4, e1, e2, e3, e4, hq⟩ := hq rfl
        obtain ⟨e5, e6, ⟨z, e7, hH⟩, hso⟩ := hq rfl
        refine gFr_l (w_X3_update l G sz x0 (ad 1) (ad 3) (ad 15) (ad 16) (ad 17) (ad 5) (ad 7) (va_up (va_up (va_up (va_up (fun _ => none) 0 (some (ad 27))) 1 (some (ad 37))) 2 (some (ad 47))) 3 (some (ad 57))) 3 (ad 57) (ad 63) (ad 65) (ad 66) (ad 58) (ad 59) (ad 60) (ad 61) (ad 62) k z (cB k cd + T) (J 21) T (L 16) (F 22) (F 23) (L 17) (ad 2) (F 0) (Z 0) A.1 h (J 20) (J 22) (K 8) (J 23) (J 24) (K 9) (by decide) rfl hH hT e1 e3 e4 e5 e7 e6) ⟨Nat.le_of_ble_eq_true rfl, Nat.le_of_ble_eq_true rfl, Nat.le_refl _, Nat.le_refl _⟩ [0, 16, 57, 58, 59, 60, 61, 62, 1, 2] [3, 4, 5, 6, 7, 8, 9, 10, 11, 12, 13, 14, 15, 17, 18, 19, 20, 21, 22, 23, 24, 25, 26, 27, 28, 29, 30, 31, 32, 33, 34, 35, 36, 37, 38, 39, 40, 41, 42, 43, 44, 45, 46, 47, 48, 49, 50, 51, 52, 53, 54, 55, 56, 63, 64, 65, 66] [0, 16, 57, 58, 59, 60, 61, 62, 1, 2] 67 rfl (by decide) (by decide) (by decide) (by decide) (by decide) (fun r9 u9 h9 => ?_)
        obtain ⟨z1, wf1, bf1, nf1, df1⟩ := u9
        obtain ⟨er, hf⟩ := h9
        subst er
        have hf : HsR k z1 wf1 bf1 (plcs k h A.1) := hf
        exact ⟨((va_up Z 0 0), (va_up (va_up F 22 bf1) 23 nf1), (va_up (va_up L 16 wf1) 17 df1), (va_up (va_up (va_up (va_up J 20 (nI k)) 22 0) 23 (nI k)) 24 (nI z1)), (va_up (va_up K 8 (lN (T + (Z 0)))) 9 (lN ((cB k cd + T) + (Z 0))))), ⟨by rw [hT.1]; rfl, ⟨RowR.nil (by decide), hO, hG, ⟨hS9.1, hS9.2.1, hS9.2.2.1, SX_more hk4 e2 hf hso hT.1⟩, hW9⟩⟩, (by repeat (first | refine List.forall_mem_cons.mpr ⟨⟨_, rfl, rfl⟩, ?_⟩ | exact fun _ h => absurd h List.not_mem_nil)), rfl, rfl⟩
theorem w_X3_repeatT3 (l : Launch) (hT9 : l.stackTraces = false) (G : GW) (sz : Nat) (x0 : Nat) (tp0 : Nat) (rs0 : Nat) (rg : Nat) (sa : Nat) (wo : Nat) (lk0 : Nat) (sm0 : Nat) (sf : Nat → Option Nat) (sl : Nat) (s0 : Nat) (r0 : Nat) (i0 : Nat) (o0 : Nat) (a0 : Nat) (k : Nat) (cd : Int32) (ln : Int64) (v : Int32) (y : Int32) (e90 : Int32) (e91 : Int32) (hs : sl < 4) (ha : sf sl = some s0) (hk : k < 4) (hx9 : y < 0 ∨ 20000 < y) (he90 : e90 = nI k) (he91 : e91 = 0) : vx_Met l yX3_repeat (Cond.code yX3_repeat cX3_repeat 6 (some FieldType.long) :: UW) ({ frames := 6, cells := 1, slots := 6, locals := 82 } : Room) (va_Pc [.ref x0, .int (nI sl), .int v, .int y] (gPre G [(x0, .inr (3, [.ref tp0, .ref rs0, .ref rg, .ref sa, .ref wo, .ref lk0, .ref sm0])), (sa, .inl (G.2.1 5, 4, .inr (.inr (.inr (.inr sf))))), (s0, .inr (2, [.ref a0, .ref r0, .ref i0, .ref o0, .int e90, .int cd, .int e91, .long ln]))] sz)) gNo (gXC G xIAE (va_A [(x0, .inr (3, [.ref tp0, .ref rs0, .ref rg, .ref sa, .ref wo, .ref lk0, .ref sm0])), (sa, .inl (G.2.1 5, 4, .inr (.inr (.inr (.inr sf))))), (s0, .inr (2, [.ref a0, .ref r0, .ref i0, .ref o0, .int e90, .int cd, .int e91, .long ln]))] sz) [(x0, .inr (3, [.ref tp0, .ref rs0, .ref rg, .ref sa, .ref wo, .ref lk0, .ref sm0])), (sa, .inl (G.2.1 5, 4, .inr (.inr (.inr (.inr sf))))), (s0, .inr (2, [.ref a0, .ref r0, .ref i0, .ref o0, .int e90, .int cd, .int e91, .long ln]))]) 1 6 (va_A [(x0, .inr (3, [.ref tp0, .ref rs0, .ref rg, .ref sa, .ref wo, .ref lk0, .ref sm0])), (sa, .inl (G.2.1 5, 4, .inr (.inr (.inr (.inr sf))))), (s0, .inr (2, [.ref a0, .ref r0, .ref i0, .ref o0, .int e90, .int cd, .int e91, .long ln]))] sz) := by
  subst he90 he91
  exact c_X3_repeatT3 l hT9 G sz x0 tp0 rs0 rg sa wo lk0 sm0 sf sl s0 r0 i0 o0 a0 k cd ln v y hs ha hk hx9
theorem w_X3_repeat (l : Launch) (G : GW) (sz : Nat) (x0 : Nat) (tp0 : Nat) (rs0 : Nat) (rg : Nat) (sa : Nat) (wo : Nat) (lk0 : Nat) (sm0 : Nat) (sf : Nat → Option Nat) (sl : Nat) (s0 : Nat) (r0 : Nat) (i0 : Nat) (o0 : Nat) (a0 : Nat) (a1 : Nat) (a2 : Nat) (a3 : Nat) (a4 : Nat) (k : Nat) (z : Nat) (t : Nat) (cd : Int32) (tl : Nat) (wf : Nat → Int64) (bf : Nat → Int32) (nf : Nat → Int32) (df : Nat → Int64) (v : Int32) (n : Nat) (h : HS) (e90 : Int32) (e91 : Int32) (e92 : Int64) (e93 : Int32) (e94 : Int32) (e95 : Int64) (hs : sl < 4) (ha : sf sl = some s0) (hR : HsR k z wf bf h) (hn : n ≤ 20000) (he90 : e90 = nI k) (he91 : e91 = 0) (he92 : e92 = lN tl) (he93 : e93 = nI k) (he94 : e94 = nI z) (he95 : e95 = lN t) : Met l yX3_repeat (Cond.code yX3_repeat cX3_repeat 6 (some FieldType.long) :: UW) ({ frames := 5, cells := 0, slots := 0, locals := 130 } : Room) (va_Pc [.ref x0, .int (nI sl), .int v, .int (nI n)] (gPre G [(x0, .inr (3, [.ref tp0, .ref rs0, .ref rg, .ref sa, .ref wo, .ref lk0, .ref sm0])), (sa, .inl (G.2.1 5, 4, .inr (.inr (.inr (.inr sf))))), (s0, .inr (2, [.ref a0, .ref r0, .ref i0, .ref o0, .int e90, .int cd, .int e91, .long e92])), (a0, .inr (0, [.ref a1, .ref a2, .ref a3, .ref a4, .int e93, .int e94, .long e95])), (a1, .inl (G.2.1 2, 8, .inr (.inl wf))), (a2, .inl (G.2.1 0, 128, .inl bf)), (a3, .inl (G.2.1 1, 64, .inl nf)), (a4, .inl (G.2.1 2, 80, .inr (.inl df)))] sz)) (va_Ql (fun (r : Int64) (uq9 : Nat × (Nat → Int64) × (Nat → Int32) × (Nat → Int32) × (Nat → Int64)) => r = lN (tl + n) ∧ HsR k uq9.1 uq9.2.1 uq9.2.2.1 (plcs k h (List.replicate n (o8 v)))) (fun u => gPost G (va_A [(x0, .inr (3, [.ref tp0, .ref rs0, .ref rg, .ref sa, .ref wo, .ref lk0, .ref sm0])), (sa, .inl (G.2.1 5, 4, .inr (.inr (.inr (.inr sf))))), (s0, .inr (2, [.ref a0, .ref r0, .ref i0, .ref o0, .int e90, .int cd, .int e91, .long e92])), (a0, .inr (0, [.ref a1, .ref a2, .ref a3, .ref a4, .int e93, .int e94, .long e95])), (a1, .inl (G.2.1 2, 8, .inr (.inl wf))), (a2, .inl (G.2.1 0, 128, .inl bf)), (a3, .inl (G.2.1 1, 64, .inl nf)), (a4, .inl (G.2.1 2, 80, .inr (.inl df)))] sz) ((fun (uq9 : Nat × (Nat → Int64) × (Nat → Int32) × (Nat → Int32) × (Nat → Int64)) => ([(x0, .inr (3, [.ref tp0, .ref rs0, .ref rg, .ref sa, .ref wo, .ref lk0, .ref sm0])), (sa, .inl (G.2.1 5, 4, .inr (.inr (.inr (.inr sf))))), (s0, .inr (2, [.ref a0, .ref r0, .ref i0, .ref o0, .int (nI k), .int cd, .int 0, .long (lN (tl + n))])), (a0, .inr (0, [.ref a1, .ref a2, .ref a3, .ref a4, .int (nI k), .int (nI uq9.1), .long (lN (t + n))])), (a1, .inl (G.2.1 2, 8, .inr (.inl uq9.2.1))), (a2, .inl (G.2.1 0, 128, .inl uq9.2.2.1)), (a3, .inl (G.2.1 1, 64, .inl uq9.2.2.2.1)), (a4, .inl (G.2.1 2, 80, .inr (.inl uq9.2.2.2.2)))] : va_W)) u)) (va_A [(x0, .inr (3, [.ref tp0, .ref rs0, .ref rg, .ref sa, .ref wo, .ref lk0, .ref sm0])), (sa, .inl (G.2.1 5, 4, .inr (.inr (.inr (.inr sf))))), (s0, .inr (2, [.ref a0, .ref r0, .ref i0, .ref o0, .int e90, .int cd, .int e91, .long e92])), (a0, .inr (0, [.ref a1, .ref a2, .ref a3, .ref a4, .int e93, .int e94, .long e95])), (a1, .inl (G.2.1 2, 8, .inr (.inl wf))), (a2, .inl (G.2.1 0, 128, .inl bf)), (a3, .inl (G.2.1 1, 64, .inl nf)), (a4, .inl (G.2.1 2, 80, .inr (.inl df)))] sz)) 0 0 (va_A [(x0, .inr (3, [.ref tp0, .ref rs0, .ref rg, .ref sa, .ref wo, .ref lk0, .ref sm0])), (sa, .inl (G.2.1 5, 4, .inr (.inr (.inr (.inr sf))))), (s0, .inr (2, [.ref a0, .ref r0, .ref i0, .ref o0, .int e90, .int cd, .int e91, .long e92])), (a0, .inr (0, [.ref a1, .ref a2, .ref a3, .ref a4, .int e93, .int e94, .long e95])), (a1, .inl (G.2.1 2, 8, .inr (.inl wf))), (a2, .inl (G.2.1 0, 128, .inl bf)), (a3, .inl (G.2.1 1, 64, .inl nf)), (a4, .inl (G.2.1 2, 80, .inr (.inl df)))] sz) := by
  subst he90 he91 he92 he93 he94 he95
  exact c_X3_repeat l G sz x0 tp0 rs0 rg sa wo lk0 sm0 sf sl s0 r0 i0 o0 a0 a1 a2 a3 a4 k z t cd tl wf bf nf df v n h hs ha hR hn
set_option maxRecDepth 100000 in
set_option maxHeartbeats 4000000 in
theorem x_repeat (l : Launch) (hT9 : l.stackTraces = false) (G : GW) (x0 : Nat) (ad : Nat → Nat) (u : XU) (A : AS) (x : Int32) (w : Int32) (n : Int32) (E : AO) (hR : XR u A) (hE : repeatA A x w n = E) : (E.1 = 0 ∧ ∀ sz : Nat, Met l yX3_repeat (Cond.code yX3_repeat cX3_repeat 6 (some FieldType.long) :: UW) ({ frames := 8, cells := 0, slots := 0, locals := 130 } : Room) (va_Pc [.ref x0, .int x, .int w, .int n] (gPre G (xW G x0 ad u) sz)) (va_Ql (fun r v => r = E.2.1 ∧ XR v E.2.2) (fun v => gPost G (va_A (xW G x0 ad u) sz) (xW G x0 ad v)) (va_A (xW G x0 ad u) sz)) 0 0 (va_A (xW G x0 ad u) sz)) ∨ (E = (1, 0, A) ∧ ∀ sz : Nat, vx_Met l yX3_repeat (Cond.code yX3_repeat cX3_repeat 6 (some FieldType.long) :: UW) ({ frames := 8, cells := 1, slots := 6, locals := 130 } : Room) (va_Pc [.ref x0, .int x, .int w, .int n] (gPre G (xW G x0 ad u) sz)) gNo (gXC G xIOB (va_A (xW G x0 ad u) sz) (xW G x0 ad u)) 1 6 (va_A (xW G x0 ad u) sz)) ∨ (E = (2, 0, A) ∧ ∀ sz : Nat, vx_Met l yX3_repeat (Cond.code yX3_repeat cX3_repeat 6 (some FieldType.long) :: UW) ({ frames := 8, cells := 1, slots := 6, locals := 130 } : Room) (va_Pc [.ref x0, .int x, .int w, .int n] (gPre G (xW G x0 ad u) sz)) gNo (gXC G xISE (va_A (xW G x0 ad u) sz) (xW G x0 ad u)) 1 6 (va_A (xW G x0 ad u) sz)) ∨ (E = (3, 0, A) ∧ ∀ sz : Nat, vx_Met l yX3_repeat (Cond.code yX3_repeat cX3_repeat 6 (some FieldType.long) :: UW) ({ frames := 8, cells := 1, slots := 6, locals := 130 } : Room) (va_Pc [.ref x0, .int x, .int w, .int n] (gPre G (xW G x0 ad u) sz)) gNo (gXC G xIAE (va_A (xW G x0 ad u) sz) (xW G x0 ad u)) 1 6 (va_A (xW G x0 ad u) sz)) := by
  obtain ⟨Z, F, L, J, K⟩ := u
  obtain ⟨hT, hO, hG, hS9, hW9⟩ := hR
  have hT : RowR 600 (F 0) (Z 0) A.1 := hT
  have hO : RowR 16320 (F 1) (Z 1) A.2.1 := hO
  have hG : RowR 600 (F 4) (Z 4) (A.2.2.1 0) ∧ RowR 600 (F 5) (Z 5) (A.2.2.1 1) ∧ RowR 600 (F 6) (Z 6) (A.2.2.1 2) := hG
  have hS9 : SX (F 13) (J 5) (J 6) (J 7) (K 2) (J 8) (J 9) (K 3) (L 4) (L 7) (A.2.2.2 0) ∧ SX (F 16) (J 10) (J 11) (J 12) (K 4) (J 13) (J 14) (K 5) (L 8) (L 11) (A.2.2.2 1) ∧ SX (F 19) (J 15) (J 16) (J 17) (K 6) (J 18) (J 19) (K 7) (L 12) (L 15) (A.2.2.2 2) ∧ SX (F 22) (J 20) (J 21) (J 22) (K 8) (J 23) (J 24) (K 9) (L 16) (L 19) (A.2.2.2 3) := hS9
  have hW9 : sb_Fit (F 10) := hW9
  unfold repeatA at hE
  by_cases h1 : nsI x = 1
  · rw [if_pos h1] at hE
    subst hE
    refine Or.inr (Or.inl (⟨rfl, fun sz => ?_⟩))
    exact gFrX (c_X3_repeatT l hT9 G sz x0 (ad 1) (ad 3) (ad 15) (ad 16) (ad 17) (ad 5) (ad 7) x w n h1) ⟨Nat.le_of_ble_eq_true rfl, Nat.le_of_ble_eq_true rfl, Nat.le_refl _, Nat.le_refl _⟩ [0] [1, 2, 3, 4, 5, 6, 7, 8, 9, 10, 11, 12, 13, 14, 15, 16, 17, 18, 19, 20, 21, 22, 23, 24, 25, 26, 27, 28, 29, 30, 31, 32, 33, 34, 35, 36, 37, 38, 39, 40, 41, 42, 43, 44, 45, 46, 47, 48, 49, 50, 51, 52, 53, 54, 55, 56, 57, 58, 59, 60, 61, 62, 63, 64, 65, 66] 67 rfl (by decide) (by decide) (by decide) (by decide) (by decide) rfl
  · rw [if_neg h1] at hE
    obtain ⟨s, hs4, rfl, h3⟩ := ns_of h1
    rw [h3] at hE
    cases hsh : shut (A.2.2.2 s) with
    | true =>
      unfold rep1 at hE
      rw [if_pos hsh] at hE
      subst hE
      refine Or.inr (Or.inr (Or.inl (⟨rfl, fun sz => ?_⟩)))
      rcases (show s = 0 ∨ s = 1 ∨ s = 2 ∨ s = 3 by omega) with rfl | rfl | rfl | rfl
      · skip
        exact gFrX (c_X3_repeatC l hT9 G sz x0 (ad 1) (ad 3) (ad 15) (ad 16) (ad 17) (ad 5) (ad 7) (va_up (va_up (va_up (va_up (fun _ => none) 0 (some (ad 27))) 1 (some (ad 37))) 2 (some (ad 47))) 3 (some (ad 57))) 0 (ad 27) (ad 33) (ad 35) (ad 36) (ad 28) (J 5) (J 6) (J 7) (K 2) w n (by decide) rfl (SX_shut hS9.1 hsh)) ⟨Nat.le_of_ble_eq_true rfl, Nat.le_of_ble_eq_true rfl, Nat.le_refl _, Nat.le_refl _⟩ [0, 16, 27] [1, 2, 3, 4, 5, 6, 7, 8, 9, 10, 11, 12, 13, 14, 15, 17, 18, 19, 20, 21, 22, 23, 24, 25, 26, 28, 29, 30, 31, 32, 33, 34, 35, 36, 37, 38, 39, 40, 41, 42, 43, 44, 45, 46, 47, 48, 49, 50, 51, 52, 53, 54, 55, 56, 57, 58, 59, 60, 61, 62, 63, 64, 65, 66] 67 rfl (by decide) (by decide) (by decide) (by decide) (by decide) rfl
      · skip
        exact gFrX (c_X3_repeatC l hT9 G sz x0 (ad 1) (ad 3) (ad 15) (ad 16) (ad 17) (ad 5) (ad 7) (va_up (va_up (va_up (va_up (fun _ => none) 0 (some (ad 27))) 1 (some (ad 37))) 2 (some (ad 47))) 3 (some (ad 57))) 1 (ad 37) (ad 43) (ad 45) (ad 46) (ad 38) (J 10) (J 11) (J 12) (K 4) w n (by decide) rfl (SX_shut hS9.2.1 hsh)) ⟨Nat.le_of_ble_eq_true rfl, Nat.le_of_ble_eq_true rfl, Nat.le_refl _, Nat.le_refl _⟩ [0, 16, 37] [1, 2, 3, 4, 5, 6, 7, 8, 9, 10, 11, 12, 13, 14, 15, 17, 18, 19, 20, 21, 22, 23, 24, 25, 26, 27, 28, 29, 30, 31, 32, 33, 34, 35, 36, 38, 39, 40, 41, 42, 43, 44, 45, 46, 47, 48, 49, 50, 51, 52, 53, 54, 55, 56, 57, 58, 59, 60, 61, 62, 63, 64, 65, 66] 67 rfl (by decide) (by decide) (by decide) (by decide) (by decide) rfl
      · skip
        exact gFrX (c_X3_repeatC l hT9 G sz x0 (ad 1) (ad 3) (ad 15) (ad 16) (ad 17) (ad 5) (ad 7) (va_up (va_up (va_up (va_up (fun _ => none) 0 (some (ad 27))) 1 (some (ad 37))) 2 (some (ad 47))) 3 (some (ad 57))) 2 (ad 47) (ad 53) (ad 55) (ad 56) (ad 48) (J 15) (J 16) (J 17) (K 6) w n (by decide) rfl (SX_shut hS9.2.2.1 hsh)) ⟨Nat.le_of_ble_eq_true rfl, Nat.le_of_ble_eq_true rfl, Nat.le_refl _, Nat.le_refl _⟩ [0, 16, 47] [1, 2, 3, 4, 5, 6, 7, 8, 9, 10, 11, 12, 13, 14, 15, 17, 18, 19, 20, 21, 22, 23, 24, 25, 26, 27, 28, 29, 30, 31, 32, 33, 34, 35, 36, 37, 38, 39, 40, 41, 42, 43, 44, 45, 46, 48, 49, 50, 51, 52, 53, 54, 55, 56, 57, 58, 59, 60, 61, 62, 63, 64, 65, 66] 67 rfl (by decide) (by decide) (by decide) (by decide) (by decide) rfl
      · skip
        exact gFrX (c_X3_repeatC l hT9 G sz x0 (ad 1) (ad 3) (ad 15) (ad 16) (ad 17) (ad 5) (ad 7) (va_up (va_up (va_up (va_up (fun _ => none) 0 (some (ad 27))) 1 (some (ad 37))) 2 (some (ad 47))) 3 (some (ad 57))) 3 (ad 57) (ad 63) (ad 65) (ad 66) (ad 58) (J 20) (J 21) (J 22) (K 8) w n (by decide) rfl (SX_shut hS9.2.2.2 hsh)) ⟨Nat.le_of_ble_eq_true rfl, Nat.le_of_ble_eq_true rfl, Nat.le_refl _, Nat.le_refl _⟩ [0, 16, 57] [1, 2, 3, 4, 5, 6, 7, 8, 9, 10, 11, 12, 13, 14, 15, 17, 18, 19, 20, 21, 22, 23, 24, 25, 26, 27, 28, 29, 30, 31, 32, 33, 34, 35, 36, 37, 38, 39, 40, 41, 42, 43, 44, 45, 46, 47, 48, 49, 50, 51, 52, 53, 54, 55, 56, 58, 59, 60, 61, 62, 63, 64, 65, 66] 67 rfl (by decide) (by decide) (by decide) (by decide) (by decide) rfl
    | false =>
      obtain ⟨k, cd, T, h, kq, hst⟩ := shut_no hsh
      rw [hst] at hE
      by_cases h5 : n < 0 ∨ 20000 < n
      · have hE2 : E = (3, 0, A) := by rw [← hE]; exact if_pos h5
        subst hE2
        refine Or.inr (Or.inr (Or.inr (⟨rfl, fun sz => ?_⟩)))
        rcases (show s = 0 ∨ s = 1 ∨ s = 2 ∨ s = 3 by omega) with rfl | rfl | rfl | rfl
        · skip
          have hq := hS9.1
          rw [hst] at hq
          obtain ⟨hF, -, hq⟩ := hq
          obtain ⟨hk4, e1, e2, e3, e4, hq⟩ := hq rfl
          obtain ⟨e5, e6, ⟨z, e7, hH⟩, hso⟩ := hq rfl
          exact gFrX (w_X3_repeatT3 l hT9 G sz x0 (ad 1) (ad 3) (ad 15) (ad 16) (ad 17) (ad 5) (ad 7) (va_up (va_up (va_up (va_up (fun _ => none) 0 (some (ad 27))) 1 (some (ad 37))) 2 (some (ad 47))) 3 (some (ad 57))) 0 (ad 27) (ad 33) (ad 35) (ad 36) (ad 28) k (J 6) (K 2) w n (J 5) (J 7) (by decide) rfl hk4 h5 e1 e3) ⟨Nat.le_of_ble_eq_true rfl, Nat.le_of_ble_eq_true rfl, Nat.le_refl _, Nat.le_refl _⟩ [0, 16, 27] [1, 2, 3, 4, 5, 6, 7, 8, 9, 10, 11, 12, 13, 14, 15, 17, 18, 19, 20, 21, 22, 23, 24, 25, 26, 28, 29, 30, 31, 32, 33, 34, 35, 36, 37, 38, 39, 40, 41, 42, 43, 44, 45, 46, 47, 48, 49, 50, 51, 52, 53, 54, 55, 56, 57, 58, 59, 60, 61, 62, 63, 64, 65, 66] 67 rfl (by decide) (by decide) (by decide) (by decide) (by decide) rfl
        · skip
          have hq := hS9.2.1
          rw [hst] at hq
          obtain ⟨hF, -, hq⟩ := hq
          obtain ⟨hk4, e1, e2, e3, e4, hq⟩ := hq rfl
          obtain ⟨e5, e6, ⟨z, e7, hH⟩, hso⟩ := hq rfl
          exact gFrX (w_X3_repeatT3 l hT9 G sz x0 (ad 1) (ad 3) (ad 15) (ad 16) (ad 17) (ad 5) (ad 7) (va_up (va_up (va_up (va_up (fun _ => none) 0 (some (ad 27))) 1 (some (ad 37))) 2 (some (ad 47))) 3 (some (ad 57))) 1 (ad 37) (ad 43) (ad 45) (ad 46) (ad 38) k (J 11) (K 4) w n (J 10) (J 12) (by decide) rfl hk4 h5 e1 e3) ⟨Nat.le_of_ble_eq_true rfl, Nat.le_of_ble_eq_true rfl, Nat.le_refl _, Nat.le_refl _⟩ [0, 16, 37] [1, 2, 3, 4, 5, 6, 7, 8, 9, 10, 11, 12, 13, 14, 15, 17, 18, 19, 20, 21, 22, 23, 24, 25, 26, 27, 28, 29, 30, 31, 32, 33, 34, 35, 36, 38, 39, 40, 41, 42, 43, 44, 45, 46, 47, 48, 49, 50, 51, 52, 53, 54, 55, 56, 57, 58, 59, 60, 61, 62, 63, 64, 65, 66] 67 rfl (by decide) (by decide) (by decide) (by decide) (by decide) rfl
        · skip
          have hq := hS9.2.2.1
          rw [hst] at hq
          obtain ⟨hF, -, hq⟩ := hq
          obtain ⟨hk4, e1, e2, e3, e4, hq⟩ := hq rfl
          obtain ⟨e5, e6, ⟨z, e7, hH⟩, hso⟩ := hq rfl
          exact gFrX (w_X3_repeatT3 l hT9 G sz x0 (ad 1) (ad 3) (ad 15) (ad 16) (ad 17) (ad 5) (ad 7) (va_up (va_up (va_up (va_up (fun _ => none) 0 (some (ad 27))) 1 (some (ad 37))) 2 (some (ad 47))) 3 (some (ad 57))) 2 (ad 47) (ad 53) (ad 55) (ad 56) (ad 48) k (J 16) (K 6) w n (J 15) (J 17) (by decide) rfl hk4 h5 e1 e3) ⟨Nat.le_of_ble_eq_true rfl, Nat.le_of_ble_eq_true rfl, Nat.le_refl _, Nat.le_refl _⟩ [0, 16, 47] [1, 2, 3, 4, 5, 6, 7, 8, 9, 10, 11, 12, 13, 14, 15, 17, 18, 19, 20, 21, 22, 23, 24, 25, 26, 27, 28, 29, 30, 31, 32, 33, 34, 35, 36, 37, 38, 39, 40, 41, 42, 43, 44, 45, 46, 48, 49, 50, 51, 52, 53, 54, 55, 56, 57, 58, 59, 60, 61, 62, 63, 64, 65, 66] 67 rfl (by decide) (by decide) (by decide) (by decide) (by decide) rfl
        · skip
          have hq := hS9.2.2.2
          rw [hst] at hq
          obtain ⟨hF, -, hq⟩ := hq
          obtain ⟨hk4, e1, e2, e3, e4, hq⟩ := hq rfl
          obtain ⟨e5, e6, ⟨z, e7, hH⟩, hso⟩ := hq rfl
          exact gFrX (w_X3_repeatT3 l hT9 G sz x0 (ad 1) (ad 3) (ad 15) (ad 16) (ad 17) (ad 5) (ad 7) (va_up (va_up (va_up (va_up (fun _ => none) 0 (some (ad 27))) 1 (some (ad 37))) 2 (some (ad 47))) 3 (some (ad 57))) 3 (ad 57) (ad 63) (ad 65) (ad 66) (ad 58) k (J 21) (K 8) w n (J 20) (J 22) (by decide) rfl hk4 h5 e1 e3) ⟨Nat.le_of_ble_eq_true rfl, Nat.le_of_ble_eq_true rfl, Nat.le_refl _, Nat.le_refl _⟩ [0, 16, 57] [1, 2, 3, 4, 5, 6, 7, 8, 9, 10, 11, 12, 13, 14, 15, 17, 18, 19, 20, 21, 22, 23, 24, 25, 26, 27, 28, 29, 30, 31, 32, 33, 34, 35, 36, 37, 38, 39, 40, 41, 42, 43, 44, 45, 46, 47, 48, 49, 50, 51, 52, 53, 54, 55, 56, 58, 59, 60, 61, 62, 63, 64, 65, 66] 67 rfl (by decide) (by decide) (by decide) (by decide) (by decide) rfl
      · obtain ⟨j, hj, rfl, h6⟩ := rg_of (y := 20000) (n := 20000) (by decide) h5
        have hE2 : E = (0, lN (T + j), setS A s (true, k, cd, false, T + j, plcs k h (List.replicate j (o8 w)), kq)) := by
          rw [← hE]
          show (if nI j < 0 ∨ 20000 < nI j then ((3, 0, A) : AO) else (0, lN (T + cl (nI j)), setS A s (true, k, cd, false, T + cl (nI j), plcs k h (List.replicate (cl (nI j)) (o8 w)), kq))) = _
          rw [if_neg h5, h6]
        subst hE2
        refine Or.inl (⟨rfl, fun sz => ?_⟩)
        rcases (show s = 0 ∨ s = 1 ∨ s = 2 ∨ s = 3 by omega) with rfl | rfl | rfl | rfl
        · skip
          have hq := hS9.1
          rw [hst] at hq
          obtain ⟨hF, -, hq⟩ := hq
          obtain ⟨hk4, e1, e2, e3, e4, hq⟩ := hq rfl
          obtain ⟨e5, e6, ⟨z, e7, hH⟩, hso⟩ := hq rfl
          refine gFr_l (w_X3_repeat l G sz x0 (ad 1) (ad 3) (ad 15) (ad 16) (ad 17) (ad 5) (ad 7) (va_up (va_up (va_up (va_up (fun _ => none) 0 (some (ad 27))) 1 (some (ad 37))) 2 (some (ad 47))) 3 (some (ad 57))) 0 (ad 27) (ad 33) (ad 35) (ad 36) (ad 28) (ad 29) (ad 30) (ad 31) (ad 32) k z (cB k cd + T) (J 6) T (L 4) (F 13) (F 14) (L 5) w j h (J 5) (J 7) (K 2) (J 8) (J 9) (K 3) (by decide) rfl hH hj e1 e3 e4 e5 e7 e6) ⟨Nat.le_of_ble_eq_true rfl, Nat.le_of_ble_eq_true rfl, Nat.le_refl _, Nat.le_refl _⟩ [0, 16, 27, 28, 29, 30, 31, 32] [1, 2, 3, 4, 5, 6, 7, 8, 9, 10, 11, 12, 13, 14, 15, 17, 18, 19, 20, 21, 22, 23, 24, 25, 26, 33, 34, 35, 36, 37, 38, 39, 40, 41, 42, 43, 44, 45, 46, 47, 48, 49, 50, 51, 52, 53, 54, 55, 56, 57, 58, 59, 60, 61, 62, 63, 64, 65, 66] [0, 16, 27, 28, 29, 30, 31, 32] 67 rfl (by decide) (by decide) (by decide) (by decide) (by decide) (fun r9 u9 h9 => ?_)
          obtain ⟨z1, wf1, bf1, nf1, df1⟩ := u9
          obtain ⟨er, hf⟩ := h9
          subst er
          have hf : HsR k z1 wf1 bf1 (plcs k h (List.replicate j (o8 w))) := hf
          exact ⟨(Z, (va_up (va_up F 13 bf1) 14 nf1), (va_up (va_up L 4 wf1) 5 df1), (va_up (va_up (va_up (va_up J 5 (nI k)) 7 0) 8 (nI k)) 9 (nI z1)), (va_up (va_up K 2 (lN (T + j))) 3 (lN ((cB k cd + T) + j)))), ⟨rfl, ⟨hT, hO, hG, ⟨SX_more hk4 e2 hf hso rfl, hS9.2.1, hS9.2.2.1, hS9.2.2.2⟩, hW9⟩⟩, (by repeat (first | refine List.forall_mem_cons.mpr ⟨⟨_, rfl, rfl⟩, ?_⟩ | exact fun _ h => absurd h List.not_mem_nil)), rfl, rfl⟩
        · skip
          have hq := hS9.2.1
          rw [hst] at hq
          obtain ⟨hF, -, hq⟩ := hq
          obtain ⟨hk4, e1, e2, e3, e4, hq⟩ := hq rfl
          obtain ⟨e5, e6, ⟨z, e7, hH⟩, hso⟩ := hq rfl
          refine gFr_l (w_X3_repeat l G sz x0 (ad 1) (ad 3) (ad 15) (ad 16) (ad 17) (ad 5) (ad 7) (va_up (va_up (va_up (va_up (fun _ => none) 0 (some (ad 27))) 1 (some (ad 37))) 2 (some (ad 47))) 3 (some (ad 57))) 1 (ad 37) (ad 43) (ad 45) (ad 46) (ad 38) (ad 39) (ad 40) (ad 41) (ad 42) k z (cB k cd + T) (J 11) T (L 8) (F 16) (F 17) (L 9) w j h (J 10) (J 12) (K 4) (J 13) (J 14) (K 5) (by decide) rfl hH hj e1 e3 e4 e5 e7 e6) ⟨Nat.le_of_ble_eq_true rfl, Nat.le_of_ble_eq_true rfl, Nat.le_refl _, Nat.le_refl _⟩ [0, 16, 37, 38, 39, 40, 41, 42] [1, 2, 3, 4, 5, 6, 7, 8, 9, 10, 11, 12, 13, 14, 15, 17, 18, 19, 20, 21, 22, 23, 24, 25, 26, 27, 28, 29, 30, 31, 32, 33, 34, 35, 36, 43, 44, 45, 46, 47, 48, 49, 50, 51, 52, 53, 54, 55, 56, 57, 58, 59, 60, 61, 62, 63, 64, 65, 66] [0, 16, 37, 38, 39, 40, 41, 42] 67 rfl (by decide) (by decide) (by decide) (by decide) (by decide) (fun r9 u9 h9 => ?_)
          obtain ⟨z1, wf1, bf1, nf1, df1⟩ := u9
          obtain ⟨er, hf⟩ := h9
          subst er
          have hf : HsR k z1 wf1 bf1 (plcs k h (List.replicate j (o8 w))) := hf
          exact ⟨(Z, (va_up (va_up F 16 bf1) 17 nf1), (va_up (va_up L 8 wf1) 9 df1), (va_up (va_up (va_up (va_up J 10 (nI k)) 12 0) 13 (nI k)) 14 (nI z1)), (va_up (va_up K 4 (lN (T + j))) 5 (lN ((cB k cd + T) + j)))), ⟨rfl, ⟨hT, hO, hG, ⟨hS9.1, SX_more hk4 e2 hf hso rfl, hS9.2.2.1, hS9.2.2.2⟩, hW9⟩⟩, (by repeat (first | refine List.forall_mem_cons.mpr ⟨⟨_, rfl, rfl⟩, ?_⟩ | exact fun _ h => absurd h List.not_mem_nil)), rfl, rfl⟩
        · skip
          have hq := hS9.2.2.1
          rw [hst] at hq
          obtain ⟨hF, -, hq⟩ := hq
          obtain ⟨hk4, e1, e2, e3, e4, hq⟩ := hq rfl
          obtain ⟨e5, e6, ⟨z, e7, hH⟩, hso⟩ := hq rfl
          refine gFr_l (w_X3_repeat l G sz x0 (ad 1) (ad 3) (ad 15) (ad 16) (ad 17) (ad 5) (ad 7) (va_up (va_up (va_up (va_up (fun _ => none) 0 (some (ad 27))) 1 (some (ad 37))) 2 (some (ad 47))) 3 (some (ad 57))) 2 (ad 47) (ad 53) (ad 55) (ad 56) (ad 48) (ad 49) (ad 50) (ad 51) (ad 52) k z (cB k cd + T) (J 16) T (L 12) (F 19) (F 20) (L 13) w j h (J 15) (J 17) (K 6) (J 18) (J 19) (K 7) (by decide) rfl hH hj e1 e3 e4 e5 e7 e6) ⟨Nat.le_of_ble_eq_true rfl, Nat.le_of_ble_eq_true rfl, Nat.le_refl _, Nat.le_refl _⟩ [0, 16, 47, 48, 49, 50, 51, 52] [1, 2, 3, 4, 5, 6, 7, 8, 9, 10, 11, 12, 13, 14, 15, 17, 18, 19, 20, 21, 22, 23, 24, 25, 26, 27, 28, 29, 30, 31, 32, 33, 34, 35, 36, 37, 38, 39, 40, 41, 42, 43, 44, 45, 46, 53, 54, 55, 56, 57, 58, 59, 60, 61, 62, 63, 64, 65, 66] [0, 16, 47, 48, 49, 50, 51, 52] 67 rfl (by decide) (by decide) (by decide) (by decide) (by decide) (fun r9 u9 h9 => ?_)
          obtain ⟨z1, wf1, bf1, nf1, df1⟩ := u9
          obtain ⟨er, hf⟩ := h9
          subst er
          have hf : HsR k z1 wf1 bf1 (plcs k h (List.replicate j (o8 w))) := hf
          exact ⟨(Z, (va_up (va_up F 19 bf1) 20 nf1), (va_up (va_up L 12 wf1) 13 df1), (va_up (va_up (va_up (va_up J 15 (nI k)) 17 0) 18 (nI k)) 19 (nI z1)), (va_up (va_up K 6 (lN (T + j))) 7 (lN ((cB k cd + T) + j)))), ⟨rfl, ⟨hT, hO, hG, ⟨hS9.1, hS9.2.1, SX_more hk4 e2 hf hso rfl, hS9.2.2.2⟩, hW9⟩⟩, (by repeat (first | refine List.forall_mem_cons.mpr ⟨⟨_, rfl, rfl⟩, ?_⟩ | exact fun _ h => absurd h List.not_mem_nil)), rfl, rfl⟩
        · skip
          have hq := hS9.2.2.2
          rw [hst] at hq
          obtain ⟨hF, -, hq⟩ := hq
          obtain ⟨hk4, e1, e2, e3, e4, hq⟩ := hq rfl
          obtain ⟨e5, e6, ⟨z, e7, hH⟩, hso⟩ := hq rfl
          refine gFr_l (w_X3_repeat l G sz x0 (ad 1) (ad 3) (ad 15) (ad 16) (ad 17) (ad 5) (ad 7) (va_up (va_up (va_up (va_up (fun _ => none) 0 (some (ad 27))) 1 (some (ad 37))) 2 (some (ad 47))) 3 (some (ad 57))) 3 (ad 57) (ad 63) (ad 65) (ad 66) (ad 58) (ad 59) (ad 60) (ad 61) (ad 62) k z (cB k cd + T) (J 21) T (L 16) (F 22) (F 23) (L 17) w j h (J 20) (J 22) (K 8) (J 23) (J 24) (K 9) (by decide) rfl hH hj e1 e3 e4 e5 e7 e6) ⟨Nat.le_of_ble_eq_true rfl, Nat.le_of_ble_eq_true rfl, Nat.le_refl _, Nat.le_refl _⟩ [0, 16, 57, 58, 59, 60, 61, 62] [1, 2, 3, 4, 5, 6, 7, 8, 9, 10, 11, 12, 13, 14, 15, 17, 18, 19, 20, 21, 22, 23, 24, 25, 26, 27, 28, 29, 30, 31, 32, 33, 34, 35, 36, 37, 38, 39, 40, 41, 42, 43, 44, 45, 46, 47, 48, 49, 50, 51, 52, 53, 54, 55, 56, 63, 64, 65, 66] [0, 16, 57, 58, 59, 60, 61, 62] 67 rfl (by decide) (by decide) (by decide) (by decide) (by decide) (fun r9 u9 h9 => ?_)
          obtain ⟨z1, wf1, bf1, nf1, df1⟩ := u9
          obtain ⟨er, hf⟩ := h9
          subst er
          have hf : HsR k z1 wf1 bf1 (plcs k h (List.replicate j (o8 w))) := hf
          exact ⟨(Z, (va_up (va_up F 22 bf1) 23 nf1), (va_up (va_up L 16 wf1) 17 df1), (va_up (va_up (va_up (va_up J 20 (nI k)) 22 0) 23 (nI k)) 24 (nI z1)), (va_up (va_up K 8 (lN (T + j))) 9 (lN ((cB k cd + T) + j)))), ⟨rfl, ⟨hT, hO, hG, ⟨hS9.1, hS9.2.1, hS9.2.2.1, SX_more hk4 e2 hf hso rfl⟩, hW9⟩⟩, (by repeat (first | refine List.forall_mem_cons.mpr ⟨⟨_, rfl, rfl⟩, ?_⟩ | exact fun _ h => absurd h List.not_mem_nil)), rfl, rfl⟩
theorem w_X3_finish (l : Launch) (G : GW) (sz : Nat) (x0 : Nat) (tp0 : Nat) (rs0 : Nat) (rg : Nat) (sa : Nat) (wo : Nat) (lk0 : Nat) (sm0 : Nat) (sf : Nat → Option Nat) (sl : Nat) (s0 : Nat) (r0 : Nat) (i0 : Nat) (o0 : Nat) (a0 : Nat) (a1 : Nat) (a2 : Nat) (a3 : Nat) (a4 : Nat) (k : Nat) (z : Nat) (t : Nat) (cd : Int32) (ln : Int64) (wf : Nat → Int64) (bf : Nat → Int32) (nf : Nat → Int32) (df : Nat → Int64) (r1 : Nat) (zs : Nat) (fs : Nat → Int32) (so : Nat → Int64) (rs1 : Nat) (frs : Nat → Int32) (zrs : Nat) (h : HS) (e90 : Int32) (e91 : Int32) (e92 : Int32) (e93 : Int32) (e94 : Int64) (hs : sl < 4) (ha : sf sl = some s0) (hR : HsR k z wf bf h) (he90 : e90 = nI k) (he91 : e91 = 0) (he92 : e92 = nI k) (he93 : e93 = nI z) (he94 : e94 = lN t) : Met l yX3_finish (Cond.code yX3_finish cX3_finish 3 (some FieldType.int) :: UW) ({ frames := 5, cells := 0, slots := 0, locals := 134 } : Room) (va_Pc [.ref x0, .int (nI sl)] (gPre G [(x0, .inr (3, [.ref tp0, .ref rs0, .ref rg, .ref sa, .ref wo, .ref lk0, .ref sm0])), (sa, .inl (G.2.1 5, 4, .inr (.inr (.inr (.inr sf))))), (s0, .inr (2, [.ref a0, .ref r0, .ref i0, .ref o0, .int e90, .int cd, .int e91, .long ln])), (a0, .inr (0, [.ref a1, .ref a2, .ref a3, .ref a4, .int e92, .int e93, .long e94])), (a1, .inl (G.2.1 2, 8, .inr (.inl wf))), (a2, .inl (G.2.1 0, 128, .inl bf)), (a3, .inl (G.2.1 1, 64, .inl nf)), (a4, .inl (G.2.1 2, 80, .inr (.inl df))), (r0, .inr (1, [.ref r1, .int (nI zs)])), (r1, .inl (G.2.1 0, 128, .inl fs)), (o0, .inl (G.2.1 2, 8, .inr (.inl so))), (rs0, .inr (1, [.ref rs1, .int (nI zrs)])), (rs1, .inl (G.2.1 0, 16320, .inl frs))] sz)) (va_Qi (fun (r : Int32) (uq9 : Nat × (Nat → Int64) × (Nat → Int32) × (Nat → Int32) × (Nat → Int64) × Nat × Nat × (Nat → Int32) × Nat × (Nat → Int32)) => r = nI uq9.2.2.2.2.2.2.2.2.1 ∧ sb_Fit uq9.2.2.1 ∧ RowR 16320 uq9.2.2.2.2.2.2.2.2.2 uq9.2.2.2.2.2.2.2.2.1 (closeQ k cd h (lN t) so)) (fun u => gPost G (va_A [(x0, .inr (3, [.ref tp0, .ref rs0, .ref rg, .ref sa, .ref wo, .ref lk0, .ref sm0])), (sa, .inl (G.2.1 5, 4, .inr (.inr (.inr (.inr sf))))), (s0, .inr (2, [.ref a0, .ref r0, .ref i0, .ref o0, .int e90, .int cd, .int e91, .long ln])), (a0, .inr (0, [.ref a1, .ref a2, .ref a3, .ref a4, .int e92, .int e93, .long e94])), (a1, .inl (G.2.1 2, 8, .inr (.inl wf))), (a2, .inl (G.2.1 0, 128, .inl bf)), (a3, .inl (G.2.1 1, 64, .inl nf)), (a4, .inl (G.2.1 2, 80, .inr (.inl df))), (r0, .inr (1, [.ref r1, .int (nI zs)])), (r1, .inl (G.2.1 0, 128, .inl fs)), (o0, .inl (G.2.1 2, 8, .inr (.inl so))), (rs0, .inr (1, [.ref rs1, .int (nI zrs)])), (rs1, .inl (G.2.1 0, 16320, .inl frs))] sz) ((fun (uq9 : Nat × (Nat → Int64) × (Nat → Int32) × (Nat → Int32) × (Nat → Int64) × Nat × Nat × (Nat → Int32) × Nat × (Nat → Int32)) => ([(x0, .inr (3, [.ref tp0, .ref rs0, .ref rg, .ref sa, .ref wo, .ref lk0, .ref sm0])), (sa, .inl (G.2.1 5, 4, .inr (.inr (.inr (.inr sf))))), (s0, .inr (2, [.ref a0, .ref r0, .ref i0, .ref o0, .int (nI k), .int cd, .int 1, .long ln])), (a0, .inr (0, [.ref a1, .ref a2, .ref a3, .ref a4, .int (nI k), .int (nI uq9.1), .long (lN uq9.2.2.2.2.2.1)])), (a1, .inl (G.2.1 2, 8, .inr (.inl uq9.2.1))), (a2, .inl (G.2.1 0, 128, .inl uq9.2.2.1)), (a3, .inl (G.2.1 1, 64, .inl uq9.2.2.2.1)), (a4, .inl (G.2.1 2, 80, .inr (.inl uq9.2.2.2.2.1))), (r0, .inr (1, [.ref r1, .int (nI uq9.2.2.2.2.2.2.1)])), (r1, .inl (G.2.1 0, 128, .inl uq9.2.2.2.2.2.2.2.1)), (o0, .inl (G.2.1 2, 8, .inr (.inl so))), (rs0, .inr (1, [.ref rs1, .int (nI uq9.2.2.2.2.2.2.2.2.1)])), (rs1, .inl (G.2.1 0, 16320, .inl uq9.2.2.2.2.2.2.2.2.2))] : va_W)) u)) (va_A [(x0, .inr (3, [.ref tp0, .ref rs0, .ref rg, .ref sa, .ref wo, .ref lk0, .ref sm0])), (sa, .inl (G.2.1 5, 4, .inr (.inr (.inr (.inr sf))))), (s0, .inr (2, [.ref a0, .ref r0, .ref i0, .ref o0, .int e90, .int cd, .int e91, .long ln])), (a0, .inr (0, [.ref a1, .ref a2, .ref a3, .ref a4, .int e92, .int e93, .long e94])), (a1, .inl (G.2.1 2, 8, .inr (.inl wf))), (a2, .inl (G.2.1 0, 128, .inl bf)), (a3, .inl (G.2.1 1, 64, .inl nf)), (a4, .inl (G.2.1 2, 80, .inr (.inl df))), (r0, .inr (1, [.ref r1, .int (nI zs)])), (r1, .inl (G.2.1 0, 128, .inl fs)), (o0, .inl (G.2.1 2, 8, .inr (.inl so))), (rs0, .inr (1, [.ref rs1, .int (nI zrs)])), (rs1, .inl (G.2.1 0, 16320, .inl frs))] sz)) 0 0 (va_A [(x0, .inr (3, [.ref tp0, .ref rs0, .ref rg, .ref sa, .ref wo, .ref lk0, .ref sm0])), (sa, .inl (G.2.1 5, 4, .inr (.inr (.inr (.inr sf))))), (s0, .inr (2, [.ref a0, .ref r0, .ref i0, .ref o0, .int e90, .int cd, .int e91, .long ln])), (a0, .inr (0, [.ref a1, .ref a2, .ref a3, .ref a4, .int e92, .int e93, .long e94])), (a1, .inl (G.2.1 2, 8, .inr (.inl wf))), (a2, .inl (G.2.1 0, 128, .inl bf)), (a3, .inl (G.2.1 1, 64, .inl nf)), (a4, .inl (G.2.1 2, 80, .inr (.inl df))), (r0, .inr (1, [.ref r1, .int (nI zs)])), (r1, .inl (G.2.1 0, 128, .inl fs)), (o0, .inl (G.2.1 2, 8, .inr (.inl so))), (rs0, .inr (1, [.ref rs1, .int (nI zrs)])), (rs1, .inl (G.2.1 0, 16320, .inl frs))] sz) := by
  subst he90 he91 he92 he93 he94
  exact c_X3_finish l G sz x0 tp0 rs0 rg sa wo lk0 sm0 sf sl s0 r0 i0 o0 a0 a1 a2 a3 a4 k z t cd ln wf bf nf df r1 zs fs so rs1 frs zrs h hs ha hR
set_option maxRecDepth 100000 in
set_option maxHeartbeats 4000000 in
theorem x_finish (l : Launch) (hT9 : l.stackTraces = false) (G : GW) (x0 : Nat) (ad : Nat → Nat) (u : XU) (A : AS) (x : Int32) (E : AO) (hR : XR u A) (hE : finishA A x = E) : (E.1 = 0 ∧ ∀ sz : Nat, Met l yX3_finish (Cond.code yX3_finish cX3_finish 3 (some FieldType.int) :: UW) ({ frames := 8, cells := 0, slots := 0, locals := 134 } : Room) (va_Pc [.ref x0, .int x] (gPre G (xW G x0 ad u) sz)) (va_Qi (fun r v => r.toInt64 = E.2.1 ∧ XR v E.2.2) (fun v => gPost G (va_A (xW G x0 ad u) sz) (xW G x0 ad v)) (va_A (xW G x0 ad u) sz)) 0 0 (va_A (xW G x0 ad u) sz)) ∨ (E = (1, 0, A) ∧ ∀ sz : Nat, vx_Met l yX3_finish (Cond.code yX3_finish cX3_finish 3 (some FieldType.int) :: UW) ({ frames := 8, cells := 1, slots := 6, locals := 134 } : Room) (va_Pc [.ref x0, .int x] (gPre G (xW G x0 ad u) sz)) gNo (gXC G xIOB (va_A (xW G x0 ad u) sz) (xW G x0 ad u)) 1 6 (va_A (xW G x0 ad u) sz)) ∨ (E = (2, 0, A) ∧ ∀ sz : Nat, vx_Met l yX3_finish (Cond.code yX3_finish cX3_finish 3 (some FieldType.int) :: UW) ({ frames := 8, cells := 1, slots := 6, locals := 134 } : Room) (va_Pc [.ref x0, .int x] (gPre G (xW G x0 ad u) sz)) gNo (gXC G xISE (va_A (xW G x0 ad u) sz) (xW G x0 ad u)) 1 6 (va_A (xW G x0 ad u) sz)) := by
  obtain ⟨Z, F, L, J, K⟩ := u
  obtain ⟨hT, hO, hG, hS9, hW9⟩ := hR
  have hT : RowR 600 (F 0) (Z 0) A.1 := hT
  have hO : RowR 16320 (F 1) (Z 1) A.2.1 := hO
  have hG : RowR 600 (F 4) (Z 4) (A.2.2.1 0) ∧ RowR 600 (F 5) (Z 5) (A.2.2.1 1) ∧ RowR 600 (F 6) (Z 6) (A.2.2.1 2) := hG
  have hS9 : SX (F 13) (J 5) (J 6) (J 7) (K 2) (J 8) (J 9) (K 3) (L 4) (L 7) (A.2.2.2 0) ∧ SX (F 16) (J 10) (J 11) (J 12) (K 4) (J 13) (J 14) (K 5) (L 8) (L 11) (A.2.2.2 1) ∧ SX (F 19) (J 15) (J 16) (J 17) (K 6) (J 18) (J 19) (K 7) (L 12) (L 15) (A.2.2.2 2) ∧ SX (F 22) (J 20) (J 21) (J 22) (K 8) (J 23) (J 24) (K 9) (L 16) (L 19) (A.2.2.2 3) := hS9
  have hW9 : sb_Fit (F 10) := hW9
  unfold finishA at hE
  by_cases h1 : nsI x = 1
  · rw [if_pos h1] at hE
    subst hE
    refine Or.inr (Or.inl (⟨rfl, fun sz => ?_⟩))
    exact gFrX (c_X3_finishT l hT9 G sz x0 (ad 1) (ad 3) (ad 15) (ad 16) (ad 17) (ad 5) (ad 7) x h1) ⟨Nat.le_of_ble_eq_true rfl, Nat.le_of_ble_eq_true rfl, Nat.le_refl _, Nat.le_refl _⟩ [0] [1, 2, 3, 4, 5, 6, 7, 8, 9, 10, 11, 12, 13, 14, 15, 16, 17, 18, 19, 20, 21, 22, 23, 24, 25, 26, 27, 28, 29, 30, 31, 32, 33, 34, 35, 36, 37, 38, 39, 40, 41, 42, 43, 44, 45, 46, 47, 48, 49, 50, 51, 52, 53, 54, 55, 56, 57, 58, 59, 60, 61, 62, 63, 64, 65, 66] 67 rfl (by decide) (by decide) (by decide) (by decide) (by decide) rfl
  · rw [if_neg h1] at hE
    obtain ⟨s, hs4, rfl, h3⟩ := ns_of h1
    rw [h3] at hE
    cases hsh : shut (A.2.2.2 s) with
    | true =>
      unfold fin1 at hE
      rw [if_pos hsh] at hE
      subst hE
      refine Or.inr (Or.inr (⟨rfl, fun sz => ?_⟩))
      rcases (show s = 0 ∨ s = 1 ∨ s = 2 ∨ s = 3 by omega) with rfl | rfl | rfl | rfl
      · skip
        exact gFrX (c_X3_finishC l hT9 G sz x0 (ad 1) (ad 3) (ad 15) (ad 16) (ad 17) (ad 5) (ad 7) (va_up (va_up (va_up (va_up (fun _ => none) 0 (some (ad 27))) 1 (some (ad 37))) 2 (some (ad 47))) 3 (some (ad 57))) 0 (ad 27) (ad 33) (ad 35) (ad 36) (ad 28) (J 5) (J 6) (J 7) (K 2) (by decide) rfl (SX_shut hS9.1 hsh)) ⟨Nat.le_of_ble_eq_true rfl, Nat.le_of_ble_eq_true rfl, Nat.le_refl _, Nat.le_refl _⟩ [0, 16, 27] [1, 2, 3, 4, 5, 6, 7, 8, 9, 10, 11, 12, 13, 14, 15, 17, 18, 19, 20, 21, 22, 23, 24, 25, 26, 28, 29, 30, 31, 32, 33, 34, 35, 36, 37, 38, 39, 40, 41, 42, 43, 44, 45, 46, 47, 48, 49, 50, 51, 52, 53, 54, 55, 56, 57, 58, 59, 60, 61, 62, 63, 64, 65, 66] 67 rfl (by decide) (by decide) (by decide) (by decide) (by decide) rfl
      · skip
        exact gFrX (c_X3_finishC l hT9 G sz x0 (ad 1) (ad 3) (ad 15) (ad 16) (ad 17) (ad 5) (ad 7) (va_up (va_up (va_up (va_up (fun _ => none) 0 (some (ad 27))) 1 (some (ad 37))) 2 (some (ad 47))) 3 (some (ad 57))) 1 (ad 37) (ad 43) (ad 45) (ad 46) (ad 38) (J 10) (J 11) (J 12) (K 4) (by decide) rfl (SX_shut hS9.2.1 hsh)) ⟨Nat.le_of_ble_eq_true rfl, Nat.le_of_ble_eq_true rfl, Nat.le_refl _, Nat.le_refl _⟩ [0, 16, 37] [1, 2, 3, 4, 5, 6, 7, 8, 9, 10, 11, 12, 13, 14, 15, 17, 18, 19, 20, 21, 22, 23, 24, 25, 26, 27, 28, 29, 30, 31, 32, 33, 34, 35, 36, 38, 39, 40, 41, 42, 43, 44, 45, 46, 47, 48, 49, 50, 51, 52, 53, 54, 55, 56, 57, 58, 59, 60, 61, 62, 63, 64, 65, 66] 67 rfl (by decide) (by decide) (by decide) (by decide) (by decide) rfl
      · skip
        exact gFrX (c_X3_finishC l hT9 G sz x0 (ad 1) (ad 3) (ad 15) (ad 16) (ad 17) (ad 5) (ad 7) (va_up (va_up (va_up (va_up (fun _ => none) 0 (some (ad 27))) 1 (some (ad 37))) 2 (some (ad 47))) 3 (some (ad 57))) 2 (ad 47) (ad 53) (ad 55) (ad 56) (ad 48) (J 15) (J 16) (J 17) (K 6) (by decide) rfl (SX_shut hS9.2.2.1 hsh)) ⟨Nat.le_of_ble_eq_true rfl, Nat.le_of_ble_eq_true rfl, Nat.le_refl _, Nat.le_refl _⟩ [0, 16, 47] [1, 2, 3, 4, 5, 6, 7, 8, 9, 10, 11, 12, 13, 14, 15, 17, 18, 19, 20, 21, 22, 23, 24, 25, 26, 27, 28, 29, 30, 31, 32, 33, 34, 35, 36, 37, 38, 39, 40, 41, 42, 43, 44, 45, 46, 48, 49, 50, 51, 52, 53, 54, 55, 56, 57, 58, 59, 60, 61, 62, 63, 64, 65, 66] 67 rfl (by decide) (by decide) (by decide) (by decide) (by decide) rfl
      · skip
        exact gFrX (c_X3_finishC l hT9 G sz x0 (ad 1) (ad 3) (ad 15) (ad 16) (ad 17) (ad 5) (ad 7) (va_up (va_up (va_up (va_up (fun _ => none) 0 (some (ad 27))) 1 (some (ad 37))) 2 (some (ad 47))) 3 (some (ad 57))) 3 (ad 57) (ad 63) (ad 65) (ad 66) (ad 58) (J 20) (J 21) (J 22) (K 8) (by decide) rfl (SX_shut hS9.2.2.2 hsh)) ⟨Nat.le_of_ble_eq_true rfl, Nat.le_of_ble_eq_true rfl, Nat.le_refl _, Nat.le_refl _⟩ [0, 16, 57] [1, 2, 3, 4, 5, 6, 7, 8, 9, 10, 11, 12, 13, 14, 15, 17, 18, 19, 20, 21, 22, 23, 24, 25, 26, 27, 28, 29, 30, 31, 32, 33, 34, 35, 36, 37, 38, 39, 40, 41, 42, 43, 44, 45, 46, 47, 48, 49, 50, 51, 52, 53, 54, 55, 56, 58, 59, 60, 61, 62, 63, 64, 65, 66] 67 rfl (by decide) (by decide) (by decide) (by decide) (by decide) rfl
    | false =>
      obtain ⟨k, cd, T, h, kq, hst⟩ := shut_no hsh
      rw [hst] at hE
      subst hE
      refine Or.inl (⟨rfl, fun sz => ?_⟩)
      rcases (show s = 0 ∨ s = 1 ∨ s = 2 ∨ s = 3 by omega) with rfl | rfl | rfl | rfl
      · skip
        have hq := hS9.1
        rw [hst] at hq
        obtain ⟨hF, -, hq⟩ := hq
        obtain ⟨hk4, e1, e2, e3, e4, hq⟩ := hq rfl
        obtain ⟨e5, e6, ⟨z, e7, hH⟩, hso⟩ := hq rfl
        refine gFr_i (w_X3_finish l G sz x0 (ad 1) (ad 3) (ad 15) (ad 16) (ad 17) (ad 5) (ad 7) (va_up (va_up (va_up (va_up (fun _ => none) 0 (some (ad 27))) 1 (some (ad 37))) 2 (some (ad 47))) 3 (some (ad 57))) 0 (ad 27) (ad 33) (ad 35) (ad 36) (ad 28) (ad 29) (ad 30) (ad 31) (ad 32) k z (cB k cd + T) (J 6) (K 2) (L 4) (F 13) (F 14) (L 5) (ad 34) (Z 11) (F 15) (L 7) (ad 4) (F 1) (Z 1) h (J 5) (J 7) (J 8) (J 9) (K 3) (by decide) rfl hH e1 e3 e5 e7 e6) ⟨Nat.le_of_ble_eq_true rfl, Nat.le_of_ble_eq_true rfl, Nat.le_refl _, Nat.le_refl _⟩ [0, 16, 27, 28, 29, 30, 31, 32, 33, 34, 36, 3, 4] [1, 2, 5, 6, 7, 8, 9, 10, 11, 12, 13, 14, 15, 17, 18, 19, 20, 21, 22, 23, 24, 25, 26, 35, 37, 38, 39, 40, 41, 42, 43, 44, 45, 46, 47, 48, 49, 50, 51, 52, 53, 54, 55, 56, 57, 58, 59, 60, 61, 62, 63, 64, 65, 66] [0, 16, 27, 28, 29, 30, 31, 32, 33, 34, 36, 3, 4] 67 rfl (by decide) (by decide) (by decide) (by decide) (by decide) (fun r9 u9 h9 => ?_)
        obtain ⟨z1, wf1, bf1, nf1, df1, t1, zs1, fs1, zrs1, frs1⟩ := u9
        obtain ⟨er, hf⟩ := h9
        subst er
        have hf : (sb_Fit bf1) ∧ (RowR 16320 frs1 zrs1 (closeQ k (J 6) h (lN (cB k cd + T)) (L 7))) := hf
        exact ⟨((va_up (va_up Z 11 zs1) 1 zrs1), (va_up (va_up (va_up (va_up F 13 bf1) 14 nf1) 15 fs1) 1 frs1), (va_up (va_up L 4 wf1) 5 df1), (va_up (va_up (va_up (va_up J 5 (nI k)) 7 1) 8 (nI k)) 9 (nI z1)), (va_up K 3 (lN t1))), ⟨fin_ret e2 hso hf.2, ⟨hT, fin_row e2 hso hf.2, hG, ⟨SX_end hk4 e2 e4 hf.1, hS9.2.1, hS9.2.2.1, hS9.2.2.2⟩, hW9⟩⟩, (by repeat (first | refine List.forall_mem_cons.mpr ⟨⟨_, rfl, rfl⟩, ?_⟩ | exact fun _ h => absurd h List.not_mem_nil)), rfl, rfl⟩
      · skip
        have hq := hS9.2.1
        rw [hst] at hq
        obtain ⟨hF, -, hq⟩ := hq
        obtain ⟨hk4, e1, e2, e3, e4, hq⟩ := hq rfl
        obtain ⟨e5, e6, ⟨z, e7, hH⟩, hso⟩ := hq rfl
        refine gFr_i (w_X3_finish l G sz x0 (ad 1) (ad 3) (ad 15) (ad 16) (ad 17) (ad 5) (ad 7) (va_up (va_up (va_up (va_up (fun _ => none) 0 (some (ad 27))) 1 (some (ad 37))) 2 (some (ad 47))) 3 (some (ad 57))) 1 (ad 37) (ad 43) (ad 45) (ad 46) (ad 38) (ad 39) (ad 40) (ad 41) (ad 42) k z (cB k cd + T) (J 11) (K 4) (L 8) (F 16) (F 17) (L 9) (ad 44) (Z 12) (F 18) (L 11) (ad 4) (F 1) (Z 1) h (J 10) (J 12) (J 13) (J 14) (K 5) (by decide) rfl hH e1 e3 e5 e7 e6) ⟨Nat.le_of_ble_eq_true rfl, Nat.le_of_ble_eq_true rfl, Nat.le_refl _, Nat.le_refl _⟩ [0, 16, 37, 38, 39, 40, 41, 42, 43, 44, 46, 3, 4] [1, 2, 5, 6, 7, 8, 9, 10, 11, 12, 13, 14, 15, 17, 18, 19, 20, 21, 22, 23, 24, 25, 26, 27, 28, 29, 30, 31, 32, 33, 34, 35, 36, 45, 47, 48, 49, 50, 51, 52, 53, 54, 55, 56, 57, 58, 59, 60, 61, 62, 63, 64, 65, 66] [0, 16, 37, 38, 39, 40, 41, 42, 43, 44, 46, 3, 4] 67 rfl (by decide) (by decide) (by decide) (by decide) (by decide) (fun r9 u9 h9 => ?_)
        obtain ⟨z1, wf1, bf1, nf1, df1, t1, zs1, fs1, zrs1, frs1⟩ := u9
        obtain ⟨er, hf⟩ := h9
        subst er
        have hf : (sb_Fit bf1) ∧ (RowR 16320 frs1 zrs1 (closeQ k (J 11) h (lN (cB k cd + T)) (L 11))) := hf
        exact ⟨((va_up (va_up Z 12 zs1) 1 zrs1), (va_up (va_up (va_up (va_up F 16 bf1) 17 nf1) 18 fs1) 1 frs1), (va_up (va_up L 8 wf1) 9 df1), (va_up (va_up (va_up (va_up J 10 (nI k)) 12 1) 13 (nI k)) 14 (nI z1)), (va_up K 5 (lN t1))), ⟨fin_ret e2 hso hf.2, ⟨hT, fin_row e2 hso hf.2, hG, ⟨hS9.1, SX_end hk4 e2 e4 hf.1, hS9.2.2.1, hS9.2.2.2⟩, hW9⟩⟩, (by repeat (first | refine List.forall_mem_cons.mpr ⟨⟨_, rfl, rfl⟩, ?_⟩ | exact fun _ h => absurd h List.not_mem_nil)), rfl, rfl⟩
      · skip
        have hq := hS9.2.2.1
        rw [hst] at hq
        obtain ⟨hF, -, hq⟩ := hq
        obtain ⟨hk4, e1, e2, e3, e4, hq⟩ := hq rfl
        obtain ⟨e5, e6, ⟨z, e7, hH⟩, hso⟩ := hq rfl
        refine gFr_i (w_X3_finish l G sz x0 (ad 1) (ad 3) (ad 15) (ad 16) (ad 17) (ad 5) (ad 7) (va_up (va_up (va_up (va_up (fun _ => none) 0 (some (ad 27))) 1 (some (ad 37))) 2 (some (ad 47))) 3 (some (ad 57))) 2 (ad 47) (ad 53) (ad 55) (ad 56) (ad 48) (ad 49) (ad 50) (ad 51) (ad 52) k z (cB k cd + T) (J 16) (K 6) (L 12) (F 19) (F 20) (L 13) (ad 54) (Z 13) (F 21) (L 15) (ad 4) (F 1) (Z 1) h (J 15) (J 17) (J 18) (J 19) (K 7) (by decide) rfl hH e1 e3 e5 e7 e6) ⟨Nat.le_of_ble_eq_true rfl, Nat.le_of_ble_eq_true rfl, Nat.le_refl _, Nat.le_refl _⟩ [0, 16, 47, 48, 49, 50, 51, 52, 53, 54, 56, 3, 4] [1, 2, 5, 6, 7, 8, 9, 10, 11, 12, 13, 14, 15, 17, 18, 19, 20, 21, 22, 23, 24, 25, 26, 27, 28, 29, 30, 31, 32, 33, 34, 35, 36, 37, 38, 39, 40, 41, 42, 43, 44, 45, 46, 55, 57, 58, 59, 60, 61, 62, 63, 64, 65, 66] [0, 16, 47, 48, 49, 50, 51, 52, 53, 54, 56, 3, 4] 67 rfl (by decide) (by decide) (by decide) (by decide) (by decide) (fun r9 u9 h9 => ?_)
        obtain ⟨z1, wf1, bf1, nf1, df1, t1, zs1, fs1, zrs1, frs1⟩ := u9
        obtain ⟨er, hf⟩ := h9
        subst er
        have hf : (sb_Fit bf1) ∧ (RowR 16320 frs1 zrs1 (closeQ k (J 16) h (lN (cB k cd + T)) (L 15))) := hf
        exact ⟨((va_up (va_up Z 13 zs1) 1 zrs1), (va_up (va_up (va_up (va_up F 19 bf1) 20 nf1) 21 fs1) 1 frs1), (va_up (va_up L 12 wf1) 13 df1), (va_up (va_up (va_up (va_up J 15 (nI k)) 17 1) 18 (nI k)) 19 (nI z1)), (va_up K 7 (lN t1))), ⟨fin_ret e2 hso hf.2, ⟨hT, fin_row e2 hso hf.2, hG, ⟨hS9.1, hS9.2.1, SX_end hk4 e2 e4 hf.1, hS9.2.2.2⟩, hW9⟩⟩, (by repeat (first | refine List.forall_mem_cons.mpr ⟨⟨_, rfl, rfl⟩, ?_⟩ | exact fun _ h => absurd h List.not_mem_nil)), rfl, rfl⟩
      · skip
        have hq := hS9.2.2.2
        rw [hst] at hq
        obtain ⟨hF, -, hq⟩ := hq
        obtain ⟨hk4, e1, e2, e3, e4, hq⟩ := hq rfl
        obtain ⟨e5, e6, ⟨z, e7, hH⟩, hso⟩ := hq rfl
        refine gFr_i (w_X3_finish l G sz x0 (ad 1) (ad 3) (ad 15) (ad 16) (ad 17) (ad 5) (ad 7) (va_up (va_up (va_up (va_up (fun _ => none) 0 (some (ad 27))) 1 (some (ad 37))) 2 (some (ad 47))) 3 (some (ad 57))) 3 (ad 57) (ad 63) (ad 65) (ad 66) (ad 58) (ad 59) (ad 60) (ad 61) (ad 62) k z (cB k cd + T) (J 21) (K 8) (L 16) (F 22) (F 23) (L 17) (ad 64) (Z 14) (F 24) (L 19) (ad 4) (F 1) (Z 1) h (J 20) (J 22) (J 23) (J 24) (K 9) (by decide) rfl hH e1 e3 e5 e7 e6) ⟨Nat.le_of_ble_eq_true rfl, Nat.le_of_ble_eq_true rfl, Nat.le_refl _, Nat.le_refl _⟩ [0, 16, 57, 58, 59, 60, 61, 62, 63, 64, 66, 3, 4] [1, 2, 5, 6, 7, 8, 9, 10, 11, 12, 13, 14, 15, 17, 18, 19, 20, 21, 22, 23, 24, 25, 26, 27, 28, 29, 30, 31, 32, 33, 34, 35, 36, 37, 38, 39, 40, 41, 42, 43, 44, 45, 46, 47, 48, 49, 50, 51, 52, 53, 54, 55, 56, 65] [0, 16, 57, 58, 59, 60, 61, 62, 63, 64, 66, 3, 4] 67 rfl (by decide) (by decide) (by decide) (by decide) (by decide) (fun r9 u9 h9 => ?_)
        obtain ⟨z1, wf1, bf1, nf1, df1, t1, zs1, fs1, zrs1, frs1⟩ := u9
        obtain ⟨er, hf⟩ := h9
        subst er
        have hf : (sb_Fit bf1) ∧ (RowR 16320 frs1 zrs1 (closeQ k (J 21) h (lN (cB k cd + T)) (L 19))) := hf
        exact ⟨((va_up (va_up Z 14 zs1) 1 zrs1), (va_up (va_up (va_up (va_up F 22 bf1) 23 nf1) 24 fs1) 1 frs1), (va_up (va_up L 16 wf1) 17 df1), (va_up (va_up (va_up (va_up J 20 (nI k)) 22 1) 23 (nI k)) 24 (nI z1)), (va_up K 9 (lN t1))), ⟨fin_ret e2 hso hf.2, ⟨hT, fin_row e2 hso hf.2, hG, ⟨hS9.1, hS9.2.1, hS9.2.2.1, SX_end hk4 e2 e4 hf.1⟩, hW9⟩⟩, (by repeat (first | refine List.forall_mem_cons.mpr ⟨⟨_, rfl, rfl⟩, ?_⟩ | exact fun _ h => absurd h List.not_mem_nil)), rfl, rfl⟩
theorem w_X3_copyC (l : Launch) (hT9 : l.stackTraces = false) (G : GW) (sz : Nat) (x0 : Nat) (tp0 : Nat) (rs0 : Nat) (rg : Nat) (sa : Nat) (wo : Nat) (lk0 : Nat) (sm0 : Nat) (sf : Nat → Option Nat) (sl : Nat) (sl2 : Nat) (s1 : Nat) (s0 : Nat) (r0 : Nat) (i0 : Nat) (o0 : Nat) (a0 : Nat) (cd : Int32) (ed : Int32) (ln : Int64) (e90 : Int32) (hs : sl < 4) (ha : sf sl = some s0) (hs2 : sl2 < 4) (ha2 : sf sl2 = some s1) (he90 : e90 = (-1)) : vx_Met l yX3_copy (Cond.code yX3_copy cX3_copy 5 (none : Option FieldType) :: UW) ({ frames := 6, cells := 1, slots := 6, locals := 82 } : Room) (va_Pc [.ref x0, .int (nI sl2), .int (nI sl)] (gPre G [(x0, .inr (3, [.ref tp0, .ref rs0, .ref rg, .ref sa, .ref wo, .ref lk0, .ref sm0])), (sa, .inl (G.2.1 5, 4, .inr (.inr (.inr (.inr sf))))), (s0, .inr (2, [.ref a0, .ref r0, .ref i0, .ref o0, .int e90, .int cd, .int ed, .long ln]))] sz)) gNo (gXC G xISE (va_A [(x0, .inr (3, [.ref tp0, .ref rs0, .ref rg, .ref sa, .ref wo, .ref lk0, .ref sm0])), (sa, .inl (G.2.1 5, 4, .inr (.inr (.inr (.inr sf))))), (s0, .inr (2, [.ref a0, .ref r0, .ref i0, .ref o0, .int e90, .int cd, .int ed, .long ln]))] sz) [(x0, .inr (3, [.ref tp0, .ref rs0, .ref rg, .ref sa, .ref wo, .ref lk0, .ref sm0])), (sa, .inl (G.2.1 5, 4, .inr (.inr (.inr (.inr sf))))), (s0, .inr (2, [.ref a0, .ref r0, .ref i0, .ref o0, .int e90, .int cd, .int ed, .long ln]))]) 1 6 (va_A [(x0, .inr (3, [.ref tp0, .ref rs0, .ref rg, .ref sa, .ref wo, .ref lk0, .ref sm0])), (sa, .inl (G.2.1 5, 4, .inr (.inr (.inr (.inr sf))))), (s0, .inr (2, [.ref a0, .ref r0, .ref i0, .ref o0, .int e90, .int cd, .int ed, .long ln]))] sz) := by
  subst he90
  exact c_X3_copyC l hT9 G sz x0 tp0 rs0 rg sa wo lk0 sm0 sf sl sl2 s1 s0 r0 i0 o0 a0 cd ed ln hs ha hs2 ha2
set_option maxRecDepth 100000 in
set_option maxHeartbeats 4000000 in
theorem x_copy (l : Launch) (hT9 : l.stackTraces = false) (G : GW) (x0 : Nat) (ad : Nat → Nat) (u : XU) (A : AS) (x : Int32) (y : Int32) (E : AO) (hR : XR u A) (hE : copyA A x y = E) : (E.1 = 0 ∧ ∀ sz : Nat, Met l yX3_copy (Cond.code yX3_copy cX3_copy 5 (none : Option FieldType) :: UW) ({ frames := 7, cells := 0, slots := 0, locals := 103 } : Room) (va_Pc [.ref x0, .int x, .int y] (gPre G (xW G x0 ad u) sz)) (va_Qv (fun v => XR v E.2.2) (fun v => gPost G (va_A (xW G x0 ad u) sz) (xW G x0 ad v)) (va_A (xW G x0 ad u) sz)) 0 0 (va_A (xW G x0 ad u) sz)) ∨ (E = (1, 0, A) ∧ ∀ sz : Nat, vx_Met l yX3_copy (Cond.code yX3_copy cX3_copy 5 (none : Option FieldType) :: UW) ({ frames := 7, cells := 1, slots := 6, locals := 103 } : Room) (va_Pc [.ref x0, .int x, .int y] (gPre G (xW G x0 ad u) sz)) gNo (gXC G xIOB (va_A (xW G x0 ad u) sz) (xW G x0 ad u)) 1 6 (va_A (xW G x0 ad u) sz)) ∨ (E = (2, 0, A) ∧ ∀ sz : Nat, vx_Met l yX3_copy (Cond.code yX3_copy cX3_copy 5 (none : Option FieldType) :: UW) ({ frames := 7, cells := 1, slots := 6, locals := 103 } : Room) (va_Pc [.ref x0, .int x, .int y] (gPre G (xW G x0 ad u) sz)) gNo (gXC G xISE (va_A (xW G x0 ad u) sz) (xW G x0 ad u)) 1 6 (va_A (xW G x0 ad u) sz)) := by
  obtain ⟨Z, F, L, J, K⟩ := u
  obtain ⟨hT, hO, hG, hS9, hW9⟩ := hR
  have hT : RowR 600 (F 0) (Z 0) A.1 := hT
  have hO : RowR 16320 (F 1) (Z 1) A.2.1 := hO
  have hG : RowR 600 (F 4) (Z 4) (A.2.2.1 0) ∧ RowR 600 (F 5) (Z 5) (A.2.2.1 1) ∧ RowR 600 (F 6) (Z 6) (A.2.2.1 2) := hG
  have hS9 : SX (F 13) (J 5) (J 6) (J 7) (K 2) (J 8) (J 9) (K 3) (L 4) (L 7) (A.2.2.2 0) ∧ SX (F 16) (J 10) (J 11) (J 12) (K 4) (J 13) (J 14) (K 5) (L 8) (L 11) (A.2.2.2 1) ∧ SX (F 19) (J 15) (J 16) (J 17) (K 6) (J 18) (J 19) (K 7) (L 12) (L 15) (A.2.2.2 2) ∧ SX (F 22) (J 20) (J 21) (J 22) (K 8) (J 23) (J 24) (K 9) (L 16) (L 19) (A.2.2.2 3) := hS9
  have hW9 : sb_Fit (F 10) := hW9
  unfold copyA at hE
  by_cases h1 : nsI x = 1
  · rw [if_pos h1] at hE
    subst hE
    refine Or.inr (Or.inl (⟨rfl, fun sz => ?_⟩))
    exact gFrX (c_X3_copyT l hT9 G sz x0 (ad 1) (ad 3) (ad 15) (ad 16) (ad 17) (ad 5) (ad 7) x y h1) ⟨Nat.le_of_ble_eq_true rfl, Nat.le_of_ble_eq_true rfl, Nat.le_refl _, Nat.le_refl _⟩ [0] [1, 2, 3, 4, 5, 6, 7, 8, 9, 10, 11, 12, 13, 14, 15, 16, 17, 18, 19, 20, 21, 22, 23, 24, 25, 26, 27, 28, 29, 30, 31, 32, 33, 34, 35, 36, 37, 38, 39, 40, 41, 42, 43, 44, 45, 46, 47, 48, 49, 50, 51, 52, 53, 54, 55, 56, 57, 58, 59, 60, 61, 62, 63, 64, 65, 66] 67 rfl (by decide) (by decide) (by decide) (by decide) (by decide) rfl
  · rw [if_neg h1] at hE
    obtain ⟨s, hs4, rfl, h3⟩ := ns_of h1
    by_cases h2 : nsI y = 1
    · rw [if_pos h2] at hE
      subst hE
      refine Or.inr (Or.inl (⟨rfl, fun sz => ?_⟩))
      rcases (show s = 0 ∨ s = 1 ∨ s = 2 ∨ s = 3 by omega) with rfl | rfl | rfl | rfl
      · skip
        exact gFrX (c_X3_copyT1b l hT9 G sz x0 (ad 1) (ad 3) (ad 15) (ad 16) (ad 17) (ad 5) (ad 7) (va_up (va_up (va_up (va_up (fun _ => none) 0 (some (ad 27))) 1 (some (ad 37))) 2 (some (ad 47))) 3 (some (ad 57))) 0 (ad 27) y (by decide) rfl h2) ⟨Nat.le_of_ble_eq_true rfl, Nat.le_of_ble_eq_true rfl, Nat.le_refl _, Nat.le_refl _⟩ [0, 16] [1, 2, 3, 4, 5, 6, 7, 8, 9, 10, 11, 12, 13, 14, 15, 17, 18, 19, 20, 21, 22, 23, 24, 25, 26, 27, 28, 29, 30, 31, 32, 33, 34, 35, 36, 37, 38, 39, 40, 41, 42, 43, 44, 45, 46, 47, 48, 49, 50, 51, 52, 53, 54, 55, 56, 57, 58, 59, 60, 61, 62, 63, 64, 65, 66] 67 rfl (by decide) (by decide) (by decide) (by decide) (by decide) rfl
      · skip
        exact gFrX (c_X3_copyT1b l hT9 G sz x0 (ad 1) (ad 3) (ad 15) (ad 16) (ad 17) (ad 5) (ad 7) (va_up (va_up (va_up (va_up (fun _ => none) 0 (some (ad 27))) 1 (some (ad 37))) 2 (some (ad 47))) 3 (some (ad 57))) 1 (ad 37) y (by decide) rfl h2) ⟨Nat.le_of_ble_eq_true rfl, Nat.le_of_ble_eq_true rfl, Nat.le_refl _, Nat.le_refl _⟩ [0, 16] [1, 2, 3, 4, 5, 6, 7, 8, 9, 10, 11, 12, 13, 14, 15, 17, 18, 19, 20, 21, 22, 23, 24, 25, 26, 27, 28, 29, 30, 31, 32, 33, 34, 35, 36, 37, 38, 39, 40, 41, 42, 43, 44, 45, 46, 47, 48, 49, 50, 51, 52, 53, 54, 55, 56, 57, 58, 59, 60, 61, 62, 63, 64, 65, 66] 67 rfl (by decide) (by decide) (by decide) (by decide) (by decide) rfl
      · skip
        exact gFrX (c_X3_copyT1b l hT9 G sz x0 (ad 1) (ad 3) (ad 15) (ad 16) (ad 17) (ad 5) (ad 7) (va_up (va_up (va_up (va_up (fun _ => none) 0 (some (ad 27))) 1 (some (ad 37))) 2 (some (ad 47))) 3 (some (ad 57))) 2 (ad 47) y (by decide) rfl h2) ⟨Nat.le_of_ble_eq_true rfl, Nat.le_of_ble_eq_true rfl, Nat.le_refl _, Nat.le_refl _⟩ [0, 16] [1, 2, 3, 4, 5, 6, 7, 8, 9, 10, 11, 12, 13, 14, 15, 17, 18, 19, 20, 21, 22, 23, 24, 25, 26, 27, 28, 29, 30, 31, 32, 33, 34, 35, 36, 37, 38, 39, 40, 41, 42, 43, 44, 45, 46, 47, 48, 49, 50, 51, 52, 53, 54, 55, 56, 57, 58, 59, 60, 61, 62, 63, 64, 65, 66] 67 rfl (by decide) (by decide) (by decide) (by decide) (by decide) rfl
      · skip
        exact gFrX (c_X3_copyT1b l hT9 G sz x0 (ad 1) (ad 3) (ad 15) (ad 16) (ad 17) (ad 5) (ad 7) (va_up (va_up (va_up (va_up (fun _ => none) 0 (some (ad 27))) 1 (some (ad 37))) 2 (some (ad 47))) 3 (some (ad 57))) 3 (ad 57) y (by decide) rfl h2) ⟨Nat.le_of_ble_eq_true rfl, Nat.le_of_ble_eq_true rfl, Nat.le_refl _, Nat.le_refl _⟩ [0, 16] [1, 2, 3, 4, 5, 6, 7, 8, 9, 10, 11, 12, 13, 14, 15, 17, 18, 19, 20, 21, 22, 23, 24, 25, 26, 27, 28, 29, 30, 31, 32, 33, 34, 35, 36, 37, 38, 39, 40, 41, 42, 43, 44, 45, 46, 47, 48, 49, 50, 51, 52, 53, 54, 55, 56, 57, 58, 59, 60, 61, 62, 63, 64, 65, 66] 67 rfl (by decide) (by decide) (by decide) (by decide) (by decide) rfl
    · rw [if_neg h2] at hE
      obtain ⟨b, hb4, rfl, h4⟩ := ns_of h2
      rw [h4, h3] at hE
      cases hbb : (A.2.2.2 b).1 with
      | false =>
        have hE2 : E = (2, 0, A) := by rw [← hE]; unfold cop1; rw [hbb]; rfl
        subst hE2
        refine Or.inr (Or.inr (⟨rfl, fun sz => ?_⟩))
        rcases (show b = 0 ∨ b = 1 ∨ b = 2 ∨ b = 3 by omega) with rfl | rfl | rfl | rfl
        · skip
          rcases (show s = 0 ∨ s = 1 ∨ s = 2 ∨ s = 3 by omega) with rfl | rfl | rfl | rfl
          · skip
            exact gFrX (w_X3_copyC l hT9 G sz x0 (ad 1) (ad 3) (ad 15) (ad 16) (ad 17) (ad 5) (ad 7) (va_up (va_up (va_up (va_up (fun _ => none) 0 (some (ad 27))) 1 (some (ad 37))) 2 (some (ad 47))) 3 (some (ad 57))) 0 0 (ad 27) (ad 27) (ad 33) (ad 35) (ad 36) (ad 28) (J 6) (J 7) (K 2) (J 5) (by decide) rfl (by decide) rfl ((hS9.1.2.1 hbb).1)) ⟨Nat.le_of_ble_eq_true rfl, Nat.le_of_ble_eq_true rfl, Nat.le_refl _, Nat.le_refl _⟩ [0, 16, 27] [1, 2, 3, 4, 5, 6, 7, 8, 9, 10, 11, 12, 13, 14, 15, 17, 18, 19, 20, 21, 22, 23, 24, 25, 26, 28, 29, 30, 31, 32, 33, 34, 35, 36, 37, 38, 39, 40, 41, 42, 43, 44, 45, 46, 47, 48, 49, 50, 51, 52, 53, 54, 55, 56, 57, 58, 59, 60, 61, 62, 63, 64, 65, 66] 67 rfl (by decide) (by decide) (by decide) (by decide) (by decide) rfl
          · skip
            exact gFrX (w_X3_copyC l hT9 G sz x0 (ad 1) (ad 3) (ad 15) (ad 16) (ad 17) (ad 5) (ad 7) (va_up (va_up (va_up (va_up (fun _ => none) 0 (some (ad 27))) 1 (some (ad 37))) 2 (some (ad 47))) 3 (some (ad 57))) 0 1 (ad 37) (ad 27) (ad 33) (ad 35) (ad 36) (ad 28) (J 6) (J 7) (K 2) (J 5) (by decide) rfl (by decide) rfl ((hS9.1.2.1 hbb).1)) ⟨Nat.le_of_ble_eq_true rfl, Nat.le_of_ble_eq_true rfl, Nat.le_refl _, Nat.le_refl _⟩ [0, 16, 27] [1, 2, 3, 4, 5, 6, 7, 8, 9, 10, 11, 12, 13, 14, 15, 17, 18, 19, 20, 21, 22, 23, 24, 25, 26, 28, 29, 30, 31, 32, 33, 34, 35, 36, 37, 38, 39, 40, 41, 42, 43, 44, 45, 46, 47, 48, 49, 50, 51, 52, 53, 54, 55, 56, 57, 58, 59, 60, 61, 62, 63, 64, 65, 66] 67 rfl (by decide) (by decide) (by decide) (by decide) (by decide) rfl
          · skip
            exact gFrX (w_X3_copyC l hT9 G sz x0 (ad 1) (ad 3) (ad 15) (ad 16) (ad 17) (ad 5) (ad 7) (va_up (va_up (va_up (va_up (fun _ => none) 0 (some (ad 27))) 1 (some (ad 37))) 2 (some (ad 47))) 3 (some (ad 57))) 0 2 (ad 47) (ad 27) (ad 33) (ad 35) (ad 36) (ad 28) (J 6) (J 7) (K 2) (J 5) (by decide) rfl (by decide) rfl ((hS9.1.2.1 hbb).1)) ⟨Nat.le_of_ble_eq_true rfl, Nat.le_of_ble_eq_true rfl, Nat.le_refl _, Nat.le_refl _⟩ [0, 16, 27] [1, 2, 3, 4, 5, 6, 7, 8, 9, 10, 11, 12, 13, 14, 15, 17, 18, 19, 20, 21, 22, 23, 24, 25, 26, 28, 29, 30, 31, 32, 33, 34, 35, 36, 37, 38, 39, 40, 41, 42, 43, 44, 45, 46, 47, 48, 49, 50, 51, 52, 53, 54, 55, 56, 57, 58, 59, 60, 61, 62, 63, 64, 65, 66] 67 rfl (by decide) (by decide) (by decide) (by decide) (by decide) rfl
          · skip
            exact gFrX (w_X3_copyC l hT9 G sz x0 (ad 1) (ad 3) (ad 15) (ad 16) (ad 17) (ad 5) (ad 7) (va_up (va_up (va_up (va_up (fun _ => none) 0 (some (ad 27))) 1 (some (ad 37))) 2 (some (ad 47))) 3 (some (ad 57))) 0 3 (ad 57) (ad 27) (ad 33) (ad 35) (ad 36) (ad 28) (J 6) (J 7) (K 2) (J 5) (by decide) rfl (by decide) rfl ((hS9.1.2.1 hbb).1)) ⟨Nat.le_of_ble_eq_true rfl, Nat.le_of_ble_eq_true rfl, Nat.le_refl _, Nat.le_refl _⟩ [0, 16, 27] [1, 2, 3, 4, 5, 6, 7, 8, 9, 10, 11, 12, 13, 14, 15, 17, 18, 19, 20, 21, 22, 23, 24, 25, 26, 28, 29, 30, 31, 32, 33, 34, 35, 36, 37, 38, 39, 40, 41, 42, 43, 44, 45, 46, 47, 48, 49, 50, 51, 52, 53, 54, 55, 56, 57, 58, 59, 60, 61, 62, 63, 64, 65, 66] 67 rfl (by decide) (by decide) (by decide) (by decide) (by decide) rfl
        · skip
          rcases (show s = 0 ∨ s = 1 ∨ s = 2 ∨ s = 3 by omega) with rfl | rfl | rfl | rfl
          · skip
            exact gFrX (w_X3_copyC l hT9 G sz x0 (ad 1) (ad 3) (ad 15) (ad 16) (ad 17) (ad 5) (ad 7) (va_up (va_up (va_up (va_up (fun _ => none) 0 (some (ad 27))) 1 (some (ad 37))) 2 (some (ad 47))) 3 (some (ad 57))) 1 0 (ad 27) (ad 37) (ad 43) (ad 45) (ad 46) (ad 38) (J 11) (J 12) (K 4) (J 10) (by decide) rfl (by decide) rfl ((hS9.2.1.2.1 hbb).1)) ⟨Nat.le_of_ble_eq_true rfl, Nat.le_of_ble_eq_true rfl, Nat.le_refl _, Nat.le_refl _⟩ [0, 16, 37] [1, 2, 3, 4, 5, 6, 7, 8, 9, 10, 11, 12, 13, 14, 15, 17, 18, 19, 20, 21, 22, 23, 24, 25, 26, 27, 28, 29, 30, 31, 32, 33, 34, 35, 36, 38, 39, 40, 41, 42, 43, 44, 45, 46, 47, 48, 49, 50, 51, 52, 53, 54, 55, 56, 57, 58, 59, 60, 61, 62, 63, 64, 65, 66] 67 rfl (by decide) (by decide) (by decide) (by decide) (by decide) rfl
          · skip
            exact gFrX (w_X3_copyC l hT9 G sz x0 (ad 1) (ad 3) (ad 15) (ad 16) (ad 17) (ad 5) (ad 7) (va_up (va_up (va_up (va_up (fun _ => none) 0 (some (ad 27))) 1 (some (ad 37))) 2 (some (ad 47))) 3 (some (ad 57))) 1 1 (ad 37) (ad 37) (ad 43) (ad 45) (ad 46) (ad 38) (J 11) (J 12) (K 4) (J 10) (by decide) rfl (by decide) rfl ((hS9.2.1.2.1 hbb).1)) ⟨Nat.le_of_ble_eq_true rfl, Nat.le_of_ble_eq_true rfl, Nat.le_refl _, Nat.le_refl _⟩ [0, 16, 37] [1, 2, 3, 4, 5, 6, 7, 8, 9, 10, 11, 12, 13, 14, 15, 17, 18, 19, 20, 21, 22, 23, 24, 25, 26, 27, 28, 29, 30, 31, 32, 33, 34, 35, 36, 38, 39, 40, 41, 42, 43, 44, 45, 46, 47, 48, 49, 50, 51, 52, 53, 54, 55, 56, 57, 58, 59, 60, 61, 62, 63, 64, 65, 66] 67 rfl (by decide) (by decide) (by decide) (by decide) (by decide) rfl
          · skip
            exact gFrX (w_X3_copyC l hT9 G sz x0 (ad 1) (ad 3) (ad 15) (ad 16) (ad 17) (ad 5) (ad 7) (va_up (va_up (va_up (va_up (fun _ => none) 0 (some (ad 27))) 1 (some (ad 37))) 2 (some (ad 47))) 3 (some (ad 57))) 1 2 (ad 47) (ad 37) (ad 43) (ad 45) (ad 46) (ad 38) (J 11) (J 12) (K 4) (J 10) (by decide) rfl (by decide) rfl ((hS9.2.1.2.1 hbb).1)) ⟨Nat.le_of_ble_eq_true rfl, Nat.le_of_ble_eq_true rfl, Nat.le_refl _, Nat.le_refl _⟩ [0, 16, 37] [1, 2, 3, 4, 5, 6, 7, 8, 9, 10, 11, 12, 13, 14, 15, 17, 18, 19, 20, 21, 22, 23, 24, 25, 26, 27, 28, 29, 30, 31, 32, 33, 34, 35, 36, 38, 39, 40, 41, 42, 43, 44, 45, 46, 47, 48, 49, 50, 51, 52, 53, 54, 55, 56, 57, 58, 59, 60, 61, 62, 63, 64, 65, 66] 67 rfl (by decide) (by decide) (by decide) (by decide) (by decide) rfl
          · skip
            exact gFrX (w_X3_copyC l hT9 G sz x0 (ad 1) (ad 3) (ad 15) (ad 16) (ad 17) (ad 5) (ad 7) (va_up (va_up (va_up (va_up (fun _ => none) 0 (some (ad 27))) 1 (some (ad 37))) 2 (some (ad 47))) 3 (some (ad 57))) 1 3 (ad 57) (ad 37) (ad 43) (ad 45) (ad 46) (ad 38) (J 11) (J 12) (K 4) (J 10) (by decide) rfl (by decide) rfl ((hS9.2.1.2.1 hbb).1)) ⟨Nat.le_of_ble_eq_true rfl, Nat.le_of_ble_eq_true rfl, Nat.le_refl _, Nat.le_refl _⟩ [0, 16, 37] [1, 2, 3, 4, 5, 6, 7, 8, 9, 10, 11, 12, 13, 14, 15, 17, 18, 19, 20, 21, 22, 23, 24, 25, 26, 27, 28, 29, 30, 31, 32, 33, 34, 35, 36, 38, 39, 40, 41, 42, 43, 44, 45, 46, 47, 48, 49, 50, 51, 52, 53, 54, 55, 56, 57, 58, 59, 60, 61, 62, 63, 64, 65, 66] 67 rfl (by decide) (by decide) (by decide) (by decide) (by decide) rfl
        · skip
          rcases (show s = 0 ∨ s = 1 ∨ s = 2 ∨ s = 3 by omega) with rfl | rfl | rfl | rfl
          · skip
            exact gFrX (w_X3_copyC l hT9 G sz x0 (ad 1) (ad 3) (ad 15) (ad 16) (ad 17) (ad 5) (ad 7) (va_up (va_up (va_up (va_up (fun _ => none) 0 (some (ad 27))) 1 (some (ad 37))) 2 (some (ad 47))) 3 (some (ad 57))) 2 0 (ad 27) (ad 47) (ad 53) (ad 55) (ad 56) (ad 48) (J 16) (J 17) (K 6) (J 15) (by decide) rfl (by decide) rfl ((hS9.2.2.1.2.1 hbb).1)) ⟨Nat.le_of_ble_eq_true rfl, Nat.le_of_ble_eq_true rfl, Nat.le_refl _, Nat.le_refl _⟩ [0, 16, 47] [1, 2, 3, 4, 5, 6, 7, 8, 9, 10, 11, 12, 13, 14, 15, 17, 18, 19, 20, 21, 22, 23, 24, 25, 26, 27, 28, 29, 30, 31, 32, 33, 34, 35, 36, 37, 38, 39, 40, 41, 42, 43, 44, 45, 46, 48, 49, 50, 51, 52, 53, 54, 55, 56, 57, 58, 59, 60, 61, 62, 63, 64, 65, 66] 67 rfl (by decide) (by decide) (by decide) (by decide) (by decide) rfl
          · skip
            exact gFrX (w_X3_copyC l hT9 G sz x0 (ad 1) (ad 3) (ad 15) (ad 16) (ad 17) (ad 5) (ad 7) (va_up (va_up (va_up (va_up (fun _ => none) 0 (some (ad 27))) 1 (some (ad 37))) 2 (some (ad 47))) 3 (some (ad 57))) 2 1 (ad 37) (ad 47) (ad 53) (ad 55) (ad 56) (ad 48) (J 16) (J 17) (K 6) (J 15) (by decide) rfl (by decide) rfl ((hS9.2.2.1.2.1 hbb).1)) ⟨Nat.le_of_ble_eq_true rfl, Nat.le_of_ble_eq_true rfl, Nat.le_refl _, Nat.le_refl _⟩ [0, 16, 47] [1, 2, 3, 4, 5, 6, 7, 8, 9, 10, 11, 12, 13, 14, 15, 17, 18, 19, 20, 21, 22, 23, 24, 25, 26, 27, 28, 29, 30, 31, 32, 33, 34, 35, 36, 37, 38, 39, 40, 41, 42, 43, 44, 45, 46, 48, 49, 50, 51, 52, 53, 54, 55, 56, 57, 58, 59, 60, 61, 62, 63, 64, 65, 66] 67 rfl (by decide) (by decide) (by decide) (by decide) (by decide) rfl
          · skip
            exact gFrX (w_X3_copyC l hT9 G sz x0 (ad 1) (ad 3) (ad 15) (ad 16) (ad 17) (ad 5) (ad 7) (va_up (va_up (va_up (va_up (fun _ => none) 0 (some (ad 27))) 1 (some (ad 37))) 2 (some (ad 47))) 3 (some (ad 57))) 2 2 (ad 47) (ad 47) (ad 53) (ad 55) (ad 56) (ad 48) (J 16) (J 17) (K 6) (J 15) (by decide) rfl (by decide) rfl ((hS9.2.2.1.2.1 hbb).1)) ⟨Nat.le_of_ble_eq_true rfl, Nat.le_of_ble_eq_true rfl, Nat.le_refl _, Nat.le_refl _⟩ [0, 16, 47] [1, 2, 3, 4, 5, 6, 7, 8, 9, 10, 11, 12, 13, 14, 15, 17, 18, 19, 20, 21, 22, 23, 24, 25, 26, 27, 28, 29, 30, 31, 32, 33, 34, 35, 36, 37, 38, 39, 40, 41, 42, 43, 44, 45, 46, 48, 49, 50, 51, 52, 53, 54, 55, 56, 57, 58, 59, 60, 61, 62, 63, 64, 65, 66] 67 rfl (by decide) (by decide) (by decide) (by decide) (by decide) rfl
          · skip
            exact gFrX (w_X3_copyC l hT9 G sz x0 (ad 1) (ad 3) (ad 15) (ad 16) (ad 17) (ad 5) (ad 7) (va_up (va_up (va_up (va_up (fun _ => none) 0 (some (ad 27))) 1 (some (ad 37))) 2 (some (ad 47))) 3 (some (ad 57))) 2 3 (ad 57) (ad 47) (ad 53) (ad 55) (ad 56) (ad 48) (J 16) (J 17) (K 6) (J 15) (by decide) rfl (by decide) rfl ((hS9.2.2.1.2.1 hbb).1)) ⟨Nat.le_of_ble_eq_true rfl, Nat.le_of_ble_eq_true rfl, Nat.le_refl _, Nat.le_refl _⟩ [0, 16, 47] [1, 2, 3, 4, 5, 6, 7, 8, 9, 10, 11, 12, 13, 14, 15, 17, 18, 19, 20, 21, 22, 23, 24, 25, 26, 27, 28, 29, 30, 31, 32, 33, 34, 35, 36, 37, 38, 39, 40, 41, 42, 43, 44, 45, 46, 48, 49, 50, 51, 52, 53, 54, 55, 56, 57, 58, 59, 60, 61, 62, 63, 64, 65, 66] 67 rfl (by decide) (by decide) (by decide) (by decide) (by decide) rfl
        · skip
          rcases (show s = 0 ∨ s = 1 ∨ s = 2 ∨ s = 3 by omega) with rfl | rfl | rfl | rfl
          · skip
            exact gFrX (w_X3_copyC l hT9 G sz x0 (ad 1) (ad 3) (ad 15) (ad 16) (ad 17) (ad 5) (ad 7) (va_up (va_up (va_up (va_up (fun _ => none) 0 (some (ad 27))) 1 (some (ad 37))) 2 (some (ad 47))) 3 (some (ad 57))) 3 0 (ad 27) (ad 57) (ad 63) (ad 65) (ad 66) (ad 58) (J 21) (J 22) (K 8) (J 20) (by decide) rfl (by decide) rfl ((hS9.2.2.2.2.1 hbb).1)) ⟨Nat.le_of_ble_eq_true rfl, Nat.le_of_ble_eq_true rfl, Nat.le_refl _, Nat.le_refl _⟩ [0, 16, 57] [1, 2, 3, 4, 5, 6, 7, 8, 9, 10, 11, 12, 13, 14, 15, 17, 18, 19, 20, 21, 22, 23, 24, 25, 26, 27, 28, 29, 30, 31, 32, 33, 34, 35, 36, 37, 38, 39, 40, 41, 42, 43, 44, 45, 46, 47, 48, 49, 50, 51, 52, 53, 54, 55, 56, 58, 59, 60, 61, 62, 63, 64, 65, 66] 67 rfl (by decide) (by decide) (by decide) (by decide) (by decide) rfl
          · skip
            exact gFrX (w_X3_copyC l hT9 G sz x0 (ad 1) (ad 3) (ad 15) (ad 16) (ad 17) (ad 5) (ad 7) (va_up (va_up (va_up (va_up (fun _ => none) 0 (some (ad 27))) 1 (some (ad 37))) 2 (some (ad 47))) 3 (some (ad 57))) 3 1 (ad 37) (ad 57) (ad 63) (ad 65) (ad 66) (ad 58) (J 21) (J 22) (K 8) (J 20) (by decide) rfl (by decide) rfl ((hS9.2.2.2.2.1 hbb).1)) ⟨Nat.le_of_ble_eq_true rfl, Nat.le_of_ble_eq_true rfl, Nat.le_refl _, Nat.le_refl _⟩ [0, 16, 57] [1, 2, 3, 4, 5, 6, 7, 8, 9, 10, 11, 12, 13, 14, 15, 17, 18, 19, 20, 21, 22, 23, 24, 25, 26, 27, 28, 29, 30, 31, 32, 33, 34, 35, 36, 37, 38, 39, 40, 41, 42, 43, 44, 45, 46, 47, 48, 49, 50, 51, 52, 53, 54, 55, 56, 58, 59, 60, 61, 62, 63, 64, 65, 66] 67 rfl (by decide) (by decide) (by decide) (by decide) (by decide) rfl
          · skip
            exact gFrX (w_X3_copyC l hT9 G sz x0 (ad 1) (ad 3) (ad 15) (ad 16) (ad 17) (ad 5) (ad 7) (va_up (va_up (va_up (va_up (fun _ => none) 0 (some (ad 27))) 1 (some (ad 37))) 2 (some (ad 47))) 3 (some (ad 57))) 3 2 (ad 47) (ad 57) (ad 63) (ad 65) (ad 66) (ad 58) (J 21) (J 22) (K 8) (J 20) (by decide) rfl (by decide) rfl ((hS9.2.2.2.2.1 hbb).1)) ⟨Nat.le_of_ble_eq_true rfl, Nat.le_of_ble_eq_true rfl, Nat.le_refl _, Nat.le_refl _⟩ [0, 16, 57] [1, 2, 3, 4, 5, 6, 7, 8, 9, 10, 11, 12, 13, 14, 15, 17, 18, 19, 20, 21, 22, 23, 24, 25, 26, 27, 28, 29, 30, 31, 32, 33, 34, 35, 36, 37, 38, 39, 40, 41, 42, 43, 44, 45, 46, 47, 48, 49, 50, 51, 52, 53, 54, 55, 56, 58, 59, 60, 61, 62, 63, 64, 65, 66] 67 rfl (by decide) (by decide) (by decide) (by decide) (by decide) rfl
          · skip
            exact gFrX (w_X3_copyC l hT9 G sz x0 (ad 1) (ad 3) (ad 15) (ad 16) (ad 17) (ad 5) (ad 7) (va_up (va_up (va_up (va_up (fun _ => none) 0 (some (ad 27))) 1 (some (ad 37))) 2 (some (ad 47))) 3 (some (ad 57))) 3 3 (ad 57) (ad 57) (ad 63) (ad 65) (ad 66) (ad 58) (J 21) (J 22) (K 8) (J 20) (by decide) rfl (by decide) rfl ((hS9.2.2.2.2.1 hbb).1)) ⟨Nat.le_of_ble_eq_true rfl, Nat.le_of_ble_eq_true rfl, Nat.le_refl _, Nat.le_refl _⟩ [0, 16, 57] [1, 2, 3, 4, 5, 6, 7, 8, 9, 10, 11, 12, 13, 14, 15, 17, 18, 19, 20, 21, 22, 23, 24, 25, 26, 27, 28, 29, 30, 31, 32, 33, 34, 35, 36, 37, 38, 39, 40, 41, 42, 43, 44, 45, 46, 47, 48, 49, 50, 51, 52, 53, 54, 55, 56, 58, 59, 60, 61, 62, 63, 64, 65, 66] 67 rfl (by decide) (by decide) (by decide) (by decide) (by decide) rfl
      | true =>
        have hE2 : E = (0, 0, setS A s (A.2.2.2 b)) := by rw [← hE]; unfold cop1; rw [hbb]; rfl
        subst hE2
        refine Or.inl (⟨rfl, fun sz => ?_⟩)
        rcases (show s = 0 ∨ s = 1 ∨ s = 2 ∨ s = 3 by omega) with rfl | rfl | rfl | rfl
        · skip
          rcases (show b = 0 ∨ b = 1 ∨ b = 2 ∨ b = 3 by omega) with rfl | rfl | rfl | rfl
          · skip
            refine gFr_v (c_X3_copyS l G sz x0 (ad 1) (ad 3) (ad 15) (ad 16) (ad 17) (ad 5) (ad 7) (va_up (va_up (va_up (va_up (fun _ => none) 0 (some (ad 27))) 1 (some (ad 37))) 2 (some (ad 47))) 3 (some (ad 57))) 0 (ad 27) (ad 33) (ad 35) (ad 36) (ad 28) (ad 29) (ad 30) (ad 31) (ad 32) (J 5) (J 6) (J 7) (K 2) (J 8) (J 9) (K 3) (L 4) (F 13) (L 6) (L 7) (by decide) rfl (SX_kd hS9.1 hbb) hS9.1.1 (SX_cd hS9.1) (SX_ed hS9.1)) ⟨Nat.le_of_ble_eq_true rfl, Nat.le_of_ble_eq_true rfl, Nat.le_refl _, Nat.le_refl _⟩ [0, 16, 27, 28, 29, 30, 35, 36] [1, 2, 3, 4, 5, 6, 7, 8, 9, 10, 11, 12, 13, 14, 15, 17, 18, 19, 20, 21, 22, 23, 24, 25, 26, 31, 32, 33, 34, 37, 38, 39, 40, 41, 42, 43, 44, 45, 46, 47, 48, 49, 50, 51, 52, 53, 54, 55, 56, 57, 58, 59, 60, 61, 62, 63, 64, 65, 66] [0, 16, 27, 28, 29, 30, 35, 36] 67 rfl (by decide) (by decide) (by decide) (by decide) (by decide) (fun u9 h9 => ?_)
            obtain ⟨wf1, bf1, si1, so1⟩ := u9
            have hf := h9
            have hf : (∀ jq8, jq8 < 8 → wf1 jq8 = (L 4) jq8) ∧ (sb_Fit bf1) ∧ (∀ jq8, jq8 < 128 → bf1 jq8 = (F 13) jq8) ∧ (∀ jq8, jq8 < 8 → si1 jq8 = (L 6) jq8) ∧ (∀ jq8, jq8 < 8 → so1 jq8 = (L 7) jq8) := hf
            exact ⟨(Z, (va_up F 13 bf1), (va_up (va_up (va_up L 4 wf1) 6 si1) 7 so1), J, K), ⟨hT, hO, hG, ⟨SX_copy hS9.1 hf.1 hf.2.1 hf.2.2.1 hf.2.2.2.2, hS9.2.1, hS9.2.2.1, hS9.2.2.2⟩, hW9⟩, (by repeat (first | refine List.forall_mem_cons.mpr ⟨⟨_, rfl, rfl⟩, ?_⟩ | exact fun _ h => absurd h List.not_mem_nil)), rfl, rfl⟩
          · skip
            refine gFr_v (c_X3_copy l G sz x0 (ad 1) (ad 3) (ad 15) (ad 16) (ad 17) (ad 5) (ad 7) (va_up (va_up (va_up (va_up (fun _ => none) 0 (some (ad 27))) 1 (some (ad 37))) 2 (some (ad 47))) 3 (some (ad 57))) 0 1 (ad 27) (ad 33) (ad 35) (ad 36) (ad 28) (ad 29) (ad 30) (ad 31) (ad 32) (J 5) (J 6) (J 7) (K 2) (J 8) (J 9) (K 3) (L 4) (F 13) (L 6) (L 7) (ad 37) (ad 43) (ad 45) (ad 46) (J 10) (J 11) (J 12) (K 4) (L 10) (L 11) (ad 38) (ad 39) (ad 40) (ad 41) (ad 42) (J 13) (J 14) (K 5) (L 8) (F 16) (by decide) rfl (by decide) rfl (SX_kd hS9.2.1 hbb) hS9.2.1.1 hS9.1.1 (SX_cd hS9.2.1) (SX_ed hS9.2.1)) ⟨Nat.le_of_ble_eq_true rfl, Nat.le_of_ble_eq_true rfl, Nat.le_refl _, Nat.le_refl _⟩ [0, 16, 27, 28, 29, 30, 35, 36, 37, 38, 39, 40, 45, 46] [1, 2, 3, 4, 5, 6, 7, 8, 9, 10, 11, 12, 13, 14, 15, 17, 18, 19, 20, 21, 22, 23, 24, 25, 26, 31, 32, 33, 34, 41, 42, 43, 44, 47, 48, 49, 50, 51, 52, 53, 54, 55, 56, 57, 58, 59, 60, 61, 62, 63, 64, 65, 66] [0, 16, 27, 28, 29, 30, 35, 36, 37, 38, 39, 40, 45, 46] 67 rfl (by decide) (by decide) (by decide) (by decide) (by decide) (fun u9 h9 => ?_)
            obtain ⟨wf1, bf1, si1, so1⟩ := u9
            have hf := h9
            have hf : (∀ jq8, jq8 < 8 → wf1 jq8 = (L 8) jq8) ∧ (sb_Fit bf1) ∧ (∀ jq8, jq8 < 128 → bf1 jq8 = (F 16) jq8) ∧ (∀ jq8, jq8 < 8 → si1 jq8 = (L 10) jq8) ∧ (∀ jq8, jq8 < 8 → so1 jq8 = (L 11) jq8) := hf
            exact ⟨(Z, (va_up F 13 bf1), (va_up (va_up (va_up L 4 wf1) 6 si1) 7 so1), (va_up (va_up (va_up (va_up (va_up J 5 (J 10)) 6 (J 11)) 7 (J 12)) 8 (J 13)) 9 (J 14)), (va_up (va_up K 2 (K 4)) 3 (K 5))), ⟨hT, hO, hG, ⟨SX_copy hS9.2.1 hf.1 hf.2.1 hf.2.2.1 hf.2.2.2.2, hS9.2.1, hS9.2.2.1, hS9.2.2.2⟩, hW9⟩, (by repeat (first | refine List.forall_mem_cons.mpr ⟨⟨_, rfl, rfl⟩, ?_⟩ | exact fun _ h => absurd h List.not_mem_nil)), rfl, rfl⟩
          · skip
            refine gFr_v (c_X3_copy l G sz x0 (ad 1) (ad 3) (ad 15) (ad 16) (ad 17) (ad 5) (ad 7) (va_up (va_up (va_up (va_up (fun _ => none) 0 (some (ad 27))) 1 (some (ad 37))) 2 (some (ad 47))) 3 (some (ad 57))) 0 2 (ad 27) (ad 33) (ad 35) (ad 36) (ad 28) (ad 29) (ad 30) (ad 31) (ad 32) (J 5) (J 6) (J 7) (K 2) (J 8) (J 9) (K 3) (L 4) (F 13) (L 6) (L 7) (ad 47) (ad 53) (ad 55) (ad 56) (J 15) (J 16) (J 17) (K 6) (L 14) (L 15) (ad 48) (ad 49) (ad 50) (ad 51) (ad 52) (J 18) (J 19) (K 7) (L 12) (F 19) (by decide) rfl (by decide) rfl (SX_kd hS9.2.2.1 hbb) hS9.2.2.1.1 hS9.1.1 (SX_cd hS9.2.2.1) (SX_ed hS9.2.2.1)) ⟨Nat.le_of_ble_eq_true rfl, Nat.le_of_ble_eq_true rfl, Nat.le_refl _, Nat.le_refl _⟩ [0, 16, 27, 28, 29, 30, 35, 36, 47, 48, 49, 50, 55, 56] [1, 2, 3, 4, 5, 6, 7, 8, 9, 10, 11, 12, 13, 14, 15, 17, 18, 19, 20, 21, 22, 23, 24, 25, 26, 31, 32, 33, 34, 37, 38, 39, 40, 41, 42, 43, 44, 45, 46, 51, 52, 53, 54, 57, 58, 59, 60, 61, 62, 63, 64, 65, 66] [0, 16, 27, 28, 29, 30, 35, 36, 47, 48, 49, 50, 55, 56] 67 rfl (by decide) (by decide) (by decide) (by decide) (by decide) (fun u9 h9 => ?_)
            obtain ⟨wf1, bf1, si1, so1⟩ := u9
            have hf := h9
            have hf : (∀ jq8, jq8 < 8 → wf1 jq8 = (L 12) jq8) ∧ (sb_Fit bf1) ∧ (∀ jq8, jq8 < 128 → bf1 jq8 = (F 19) jq8) ∧ (∀ jq8, jq8 < 8 → si1 jq8 = (L 14) jq8) ∧ (∀ jq8, jq8 < 8 → so1 jq8 = (L 15) jq8) := hf
            exact ⟨(Z, (va_up F 13 bf1), (va_up (va_up (va_up L 4 wf1) 6 si1) 7 so1), (va_up (va_up (va_up (va_up (va_up J 5 (J 15)) 6 (J 16)) 7 (J 17)) 8 (J 18)) 9 (J 19)), (va_up (va_up K 2 (K 6)) 3 (K 7))), ⟨hT, hO, hG, ⟨SX_copy hS9.2.2.1 hf.1 hf.2.1 hf.2.2.1 hf.2.2.2.2, hS9.2.1, hS9.2.2.1, hS9.2.2.2⟩, hW9⟩, (by repeat (first | refine List.forall_mem_cons.mpr ⟨⟨_, rfl, rfl⟩, ?_⟩ | exact fun _ h => absurd h List.not_mem_nil)), rfl, rfl⟩
          · skip
            refine gFr_v (c_X3_copy l G sz x0 (ad 1) (ad 3) (ad 15) (ad 16) (ad 17) (ad 5) (ad 7) (va_up (va_up (va_up (va_up (fun _ => none) 0 (some (ad 27))) 1 (some (ad 37))) 2 (some (ad 47))) 3 (some (ad 57))) 0 3 (ad 27) (ad 33) (ad 35) (ad 36) (ad 28) (ad 29) (ad 30) (ad 31) (ad 32) (J 5) (J 6) (J 7) (K 2) (J 8) (J 9) (K 3) (L 4) (F 13) (L 6) (L 7) (ad 57) (ad 63) (ad 65) (ad 66) (J 20) (J 21) (J 22) (K 8) (L 18) (L 19) (ad 58) (ad 59) (ad 60) (ad 61) (ad 62) (J 23) (J 24) (K 9) (L 16) (F 22) (by decide) rfl (by decide) rfl (SX_kd hS9.2.2.2 hbb) hS9.2.2.2.1 hS9.1.1 (SX_cd hS9.2.2.2) (SX_ed hS9.2.2.2)) ⟨Nat.le_of_ble_eq_true rfl, Nat.le_of_ble_eq_true rfl, Nat.le_refl _, Nat.le_refl _⟩ [0, 16, 27, 28, 29, 30, 35, 36, 57, 58, 59, 60, 65, 66] [1, 2, 3, 4, 5, 6, 7, 8, 9, 10, 11, 12, 13, 14, 15, 17, 18, 19, 20, 21, 22, 23, 24, 25, 26, 31, 32, 33, 34, 37, 38, 39, 40, 41, 42, 43, 44, 45, 46, 47, 48, 49, 50, 51, 52, 53, 54, 55, 56, 61, 62, 63, 64] [0, 16, 27, 28, 29, 30, 35, 36, 57, 58, 59, 60, 65, 66] 67 rfl (by decide) (by decide) (by decide) (by decide) (by decide) (fun u9 h9 => ?_)
            obtain ⟨wf1, bf1, si1, so1⟩ := u9
            have hf := h9
            have hf : (∀ jq8, jq8 < 8 → wf1 jq8 = (L 16) jq8) ∧ (sb_Fit bf1) ∧ (∀ jq8, jq8 < 128 → bf1 jq8 = (F 22) jq8) ∧ (∀ jq8, jq8 < 8 → si1 jq8 = (L 18) jq8) ∧ (∀ jq8, jq8 < 8 → so1 jq8 = (L 19) jq8) := hf
            exact ⟨(Z, (va_up F 13 bf1), (va_up (va_up (va_up L 4 wf1) 6 si1) 7 so1), (va_up (va_up (va_up (va_up (va_up J 5 (J 20)) 6 (J 21)) 7 (J 22)) 8 (J 23)) 9 (J 24)), (va_up (va_up K 2 (K 8)) 3 (K 9))), ⟨hT, hO, hG, ⟨SX_copy hS9.2.2.2 hf.1 hf.2.1 hf.2.2.1 hf.2.2.2.2, hS9.2.1, hS9.2.2.1, hS9.2.2.2⟩, hW9⟩, (by repeat (first | refine List.forall_mem_cons.mpr ⟨⟨_, rfl, rfl⟩, ?_⟩ | exact fun _ h => absurd h List.not_mem_nil)), rfl, rfl⟩
        · skip
          rcases (show b = 0 ∨ b = 1 ∨ b = 2 ∨ b = 3 by omega) with rfl | rfl | rfl | rfl
          · skip
            refine gFr_v (c_X3_copy l G sz x0 (ad 1) (ad 3) (ad 15) (ad 16) (ad 17) (ad 5) (ad 7) (va_up (va_up (va_up (va_up (fun _ => none) 0 (some (ad 27))) 1 (some (ad 37))) 2 (some (ad 47))) 3 (some (ad 57))) 1 0 (ad 37) (ad 43) (ad 45) (ad 46) (ad 38) (ad 39) (ad 40) (ad 41) (ad 42) (J 10) (J 11) (J 12) (K 4) (J 13) (J 14) (K 5) (L 8) (F 16) (L 10) (L 11) (ad 27) (ad 33) (ad 35) (ad 36) (J 5) (J 6) (J 7) (K 2) (L 6) (L 7) (ad 28) (ad 29) (ad 30) (ad 31) (ad 32) (J 8) (J 9) (K 3) (L 4) (F 13) (by decide) rfl (by decide) rfl (SX_kd hS9.1 hbb) hS9.1.1 hS9.2.1.1 (SX_cd hS9.1) (SX_ed hS9.1)) ⟨Nat.le_of_ble_eq_true rfl, Nat.le_of_ble_eq_true rfl, Nat.le_refl _, Nat.le_refl _⟩ [0, 16, 37, 38, 39, 40, 45, 46, 27, 28, 29, 30, 35, 36] [1, 2, 3, 4, 5, 6, 7, 8, 9, 10, 11, 12, 13, 14, 15, 17, 18, 19, 20, 21, 22, 23, 24, 25, 26, 31, 32, 33, 34, 41, 42, 43, 44, 47, 48, 49, 50, 51, 52, 53, 54, 55, 56, 57, 58, 59, 60, 61, 62, 63, 64, 65, 66] [0, 16, 37, 38, 39, 40, 45, 46, 27, 28, 29, 30, 35, 36] 67 rfl (by decide) (by decide) (by decide) (by decide) (by decide) (fun u9 h9 => ?_)
            obtain ⟨wf1, bf1, si1, so1⟩ := u9
            have hf := h9
            have hf : (∀ jq8, jq8 < 8 → wf1 jq8 = (L 4) jq8) ∧ (sb_Fit bf1) ∧ (∀ jq8, jq8 < 128 → bf1 jq8 = (F 13) jq8) ∧ (∀ jq8, jq8 < 8 → si1 jq8 = (L 6) jq8) ∧ (∀ jq8, jq8 < 8 → so1 jq8 = (L 7) jq8) := hf
            exact ⟨(Z, (va_up F 16 bf1), (va_up (va_up (va_up L 8 wf1) 10 si1) 11 so1), (va_up (va_up (va_up (va_up (va_up J 10 (J 5)) 11 (J 6)) 12 (J 7)) 13 (J 8)) 14 (J 9)), (va_up (va_up K 4 (K 2)) 5 (K 3))), ⟨hT, hO, hG, ⟨hS9.1, SX_copy hS9.1 hf.1 hf.2.1 hf.2.2.1 hf.2.2.2.2, hS9.2.2.1, hS9.2.2.2⟩, hW9⟩, (by repeat (first | refine List.forall_mem_cons.mpr ⟨⟨_, rfl, rfl⟩, ?_⟩ | exact fun _ h => absurd h List.not_mem_nil)), rfl, rfl⟩
          · skip
            refine gFr_v (c_X3_copyS l G sz x0 (ad 1) (ad 3) (ad 15) (ad 16) (ad 17) (ad 5) (ad 7) (va_up (va_up (va_up (va_up (fun _ => none) 0 (some (ad 27))) 1 (some (ad 37))) 2 (some (ad 47))) 3 (some (ad 57))) 1 (ad 37) (ad 43) (ad 45) (ad 46) (ad 38) (ad 39) (ad 40) (ad 41) (ad 42) (J 10) (J 11) (J 12) (K 4) (J 13) (J 14) (K 5) (L 8) (F 16) (L 10) (L 11) (by decide) rfl (SX_kd hS9.2.1 hbb) hS9.2.1.1 (SX_cd hS9.2.1) (SX_ed hS9.2.1)) ⟨Nat.le_of_ble_eq_true rfl, Nat.le_of_ble_eq_true rfl, Nat.le_refl _, Nat.le_refl _⟩ [0, 16, 37, 38, 39, 40, 45, 46] [1, 2, 3, 4, 5, 6, 7, 8, 9, 10, 11, 12, 13, 14, 15, 17, 18, 19, 20, 21, 22, 23, 24, 25, 26, 27, 28, 29, 30, 31, 32, 33, 34, 35, 36, 41, 42, 43, 44, 47, 48, 49, 50, 51, 52, 53, 54, 55, 56, 57, 58, 59, 60, 61, 62, 63, 64, 65, 66] [0, 16, 37, 38, 39, 40, 45, 46] 67 rfl (by decide) (by decide) (by decide) (by decide) (by decide) (fun u9 h9 => ?_)
            obtain ⟨wf1, bf1, si1, so1⟩ := u9
            have hf := h9
            have hf : (∀ jq8, jq8 < 8 → wf1 jq8 = (L 8) jq8) ∧ (sb_Fit bf1) ∧ (∀ jq8, jq8 < 128 → bf1 jq8 = (F 16) jq8) ∧ (∀ jq8, jq8 < 8 → si1 jq8 = (L 10) jq8) ∧ (∀ jq8, jq8 < 8 → so1 jq8 = (L 11) jq8) := hf
            exact ⟨(Z, (va_up F 16 bf1), (va_up (va_up (va_up L 8 wf1) 10 si1) 11 so1), J, K), ⟨hT, hO, hG, ⟨hS9.1, SX_copy hS9.2.1 hf.1 hf.2.1 hf.2.2.1 hf.2.2.2.2, hS9.2.2.1, hS9.2.2.2⟩, hW9⟩, (by repeat (first | refine List.forall_mem_cons.mpr ⟨⟨_, rfl, rfl⟩, ?_⟩ | exact fun _ h => absurd h List.not_mem_nil)), rfl, rfl⟩
          · skip
            refine gFr_v (c_X3_copy l G sz x0 (ad 1) (ad 3) (ad 15) (ad 16) (ad 17) (ad 5) (ad 7) (va_up (va_up (va_up (va_up (fun _ => none) 0 (some (ad 27))) 1 (some (ad 37))) 2 (some (ad 47))) 3 (some (ad 57))) 1 2 (ad 37) (ad 43) (ad 45) (ad 46) (ad 38) (ad 39) (ad 40) (ad 41) (ad 42) (J 10) (J 11) (J 12) (K 4) (J 13) (J 14) (K 5) (L 8) (F 16) (L 10) (L 11) (ad 47) (ad 53) (ad 55) (ad 56) (J 15) (J 16) (J 17) (K 6) (L 14) (L 15) (ad 48) (ad 49) (ad 50) (ad 51) (ad 52) (J 18) (J 19) (K 7) (L 12) (F 19) (by decide) rfl (by decide) rfl (SX_kd hS9.2.2.1 hbb) hS9.2.2.1.1 hS9.2.1.1 (SX_cd hS9.2.2.1) (SX_ed hS9.2.2.1)) ⟨Nat.le_of_ble_eq_true rfl, Nat.le_of_ble_eq_true rfl, Nat.le_refl _, Nat.le_refl _⟩ [0, 16, 37, 38, 39, 40, 45, 46, 47, 48, 49, 50, 55, 56] [1, 2, 3, 4, 5, 6, 7, 8, 9, 10, 11, 12, 13, 14, 15, 17, 18, 19, 20, 21, 22, 23, 24, 25, 26, 27, 28, 29, 30, 31, 32, 33, 34, 35, 36, 41, 42, 43, 44, 51, 52, 53, 54, 57, 58, 59, 60, 61, 62, 63, 64, 65, 66] [0, 16, 37, 38, 39, 40, 45, 46, 47, 48, 49, 50, 55, 56] 67 rfl (by decide) (by decide) (by decide) (by decide) (by decide) (fun u9 h9 => ?_)
            obtain ⟨wf1, bf1, si1, so1⟩ := u9
            have hf := h9
            have hf : (∀ jq8, jq8 < 8 → wf1 jq8 = (L 12) jq8) ∧ (sb_Fit bf1) ∧ (∀ jq8, jq8 < 128 → bf1 jq8 = (F 19) jq8) ∧ (∀ jq8, jq8 < 8 → si1 jq8 = (L 14) jq8) ∧ (∀ jq8, jq8 < 8 → so1 jq8 = (L 15) jq8) := hf
            exact ⟨(Z, (va_up F 16 bf1), (va_up (va_up (va_up L 8 wf1) 10 si1) 11 so1), (va_up (va_up (va_up (va_up (va_up J 10 (J 15)) 11 (J 16)) 12 (J 17)) 13 (J 18)) 14 (J 19)), (va_up (va_up K 4 (K 6)) 5 (K 7))), ⟨hT, hO, hG, ⟨hS9.1, SX_copy hS9.2.2.1 hf.1 hf.2.1 hf.2.2.1 hf.2.2.2.2, hS9.2.2.1, hS9.2.2.2⟩, hW9⟩, (by repeat (first | refine List.forall_mem_cons.mpr ⟨⟨_, rfl, rfl⟩, ?_⟩ | exact fun _ h => absurd h List.not_mem_nil)), rfl, rfl⟩
          · skip
            refine gFr_v (c_X3_copy l G sz x0 (ad 1) (ad 3) (ad 15) (ad 16) (ad 17) (ad 5) (ad 7) (va_up (va_up (va_up (va_up (fun _ => none) 0 (some (ad 27))) 1 (some (ad 37))) 2 (some (ad 47))) 3 (some (ad 57))) 1 3 (ad 37) (ad 43) (ad 45) (ad 46) (ad 38) (ad 39) (ad 40) (ad 41) (ad 42) (J 10) (J 11) (J 12) (K 4) (J 13) (J 14) (K 5) (L 8) (F 16) (L 10) (L 11) (ad 57) (ad 63) (ad 65) (ad 66) (J 20) (J 21) (J 22) (K 8) (L 18) (L 19) (ad 58) (ad 59) (ad 60) (ad 61) (ad 62) (J 23) (J 24) (K 9) (L 16) (F 22) (by decide) rfl (by decide) rfl (SX_kd hS9.2.2.2 hbb) hS9.2.2.2.1 hS9.2.1.1 (SX_cd hS9.2.2.2) (SX_ed hS9.2.2.2)) ⟨Nat.le_of_ble_eq_true rfl, Nat.le_of_ble_eq_true rfl, Nat.le_refl _, Nat.le_refl _⟩ [0, 16, 37, 38, 39, 40, 45, 46, 57, 58, 59, 60, 65, 66] [1, 2, 3, 4, 5, 6, 7, 8, 9, 10, 11, 12, 13, 14, 15, 17, 18, 19, 20, 21, 22, 23, 24, 25, 26, 27, 28, 29, 30, 31, 32, 33, 34, 35, 36, 41, 42, 43, 44, 47, 48, 49, 50, 51, 52, 53, 54, 55, 56, 61, 62, 63, 64] [0, 16, 37, 38, 39, 40, 45, 46, 57, 58, 59, 60, 65, 66] 67 rfl (by decide) (by decide) (by decide) (by decide) (by decide) (fun u9 h9 => ?_)
            obtain ⟨wf1, bf1, si1, so1⟩ := u9
            have hf := h9
            have hf : (∀ jq8, jq8 < 8 → wf1 jq8 = (L 16) jq8) ∧ (sb_Fit bf1) ∧ (∀ jq8, jq8 < 128 → bf1 jq8 = (F 22) jq8) ∧ (∀ jq8, jq8 < 8 → si1 jq8 = (L 18) jq8) ∧ (∀ jq8, jq8 < 8 → so1 jq8 = (L 19) jq8) := hf
            exact ⟨(Z, (va_up F 16 bf1), (va_up (va_up (va_up L 8 wf1) 10 si1) 11 so1), (va_up (va_up (va_up (va_up (va_up J 10 (J 20)) 11 (J 21)) 12 (J 22)) 13 (J 23)) 14 (J 24)), (va_up (va_up K 4 (K 8)) 5 (K 9))), ⟨hT, hO, hG, ⟨hS9.1, SX_copy hS9.2.2.2 hf.1 hf.2.1 hf.2.2.1 hf.2.2.2.2, hS9.2.2.1, hS9.2.2.2⟩, hW9⟩, (by repeat (first | refine List.forall_mem_cons.mpr ⟨⟨_, rfl, rfl⟩, ?_⟩ | exact fun _ h => absurd h List.not_mem_nil)), rfl, rfl⟩
        · skip
          rcases (show b = 0 ∨ b = 1 ∨ b = 2 ∨ b = 3 by omega) with rfl | rfl | rfl | rfl
          · skip
            refine gFr_v (c_X3_copy l G sz x0 (ad 1) (ad 3) (ad 15) (ad 16) (ad 17) (ad 5) (ad 7) (va_up (va_up (va_up (va_up (fun _ => none) 0 (some (ad 27))) 1 (some (ad 37))) 2 (some (ad 47))) 3 (some (ad 57))) 2 0 (ad 47) (ad 53) (ad 55) (ad 56) (ad 48) (ad 49) (ad 50) (ad 51) (ad 52) (J 15) (J 16) (J 17) (K 6) (J 18) (J 19) (K 7) (L 12) (F 19) (L 14) (L 15) (ad 27) (ad 33) (ad 35) (ad 36) (J 5) (J 6) (J 7) (K 2) (L 6) (L 7) (ad 28) (ad 29) (ad 30) (ad 31) (ad 32) (J 8) (J 9) (K 3) (L 4) (F 13) (by decide) rfl (by decide) rfl (SX_kd hS9.1 hbb) hS9.1.1 hS9.2.2.1.1 (SX_cd hS9.1) (SX_ed hS9.1)) ⟨Nat.le_of_ble_eq_true rfl, Nat.le_of_ble_eq_true rfl, Nat.le_refl _, Nat.le_refl _⟩ [0, 16, 47, 48, 49, 50, 55, 56, 27, 28, 29, 30, 35, 36] [1, 2, 3, 4, 5, 6, 7, 8, 9, 10, 11, 12, 13, 14, 15, 17, 18, 19, 20, 21, 22, 23, 24, 25, 26, 31, 32, 33, 34, 37, 38, 39, 40, 41, 42, 43, 44, 45, 46, 51, 52, 53, 54, 57, 58, 59, 60, 61, 62, 63, 64, 65, 66] [0, 16, 47, 48, 49, 50, 55, 56, 27, 28, 29, 30, 35, 36] 67 rfl (by decide) (by decide) (by decide) (by decide) (by decide) (fun u9 h9 => ?_)
            obtain ⟨wf1, bf1, si1, so1⟩ := u9
            have hf := h9
            have hf : (∀ jq8, jq8 < 8 → wf1 jq8 = (L 4) jq8) ∧ (sb_Fit bf1) ∧ (∀ jq8, jq8 < 128 → bf1 jq8 = (F 13) jq8) ∧ (∀ jq8, jq8 < 8 → si1 jq8 = (L 6) jq8) ∧ (∀ jq8, jq8 < 8 → so1 jq8 = (L 7) jq8) := hf
            exact ⟨(Z, (va_up F 19 bf1), (va_up (va_up (va_up L 12 wf1) 14 si1) 15 so1), (va_up (va_up (va_up (va_up (va_up J 15 (J 5)) 16 (J 6)) 17 (J 7)) 18 (J 8)) 19 (J 9)), (va_up (va_up K 6 (K 2)) 7 (K 3))), ⟨hT, hO, hG, ⟨hS9.1, hS9.2.1, SX_copy hS9.1 hf.1 hf.2.1 hf.2.2.1 hf.2.2.2.2, hS9.2.2.2⟩, hW9⟩, (by repeat (first | refine List.forall_mem_cons.mpr ⟨⟨_, rfl, rfl⟩, ?_⟩ | exact fun _ h => absurd h List.not_mem_nil)), rfl, rfl⟩
          · skip
            refine gFr_v (c_X3_copy l G sz x0 (ad 1) (ad 3) (ad 15) (ad 16) (ad 17) (ad 5) (ad 7) (va_up (va_up (va_up (va_up (fun _ => none) 0 (some (ad 27))) 1 (some (ad 37))) 2 (some (ad 47))) 3 (some (ad 57))) 2 1 (ad 47) (ad 53) (ad 55) (ad 56) (ad 48) (ad 49) (ad 50) (ad 51) (ad 52) (J 15) (J 16) (J 17) (K 6) (J 18) (J 19) (K 7) (L 12) (F 19) (L 14) (L 15) (ad 37) (ad 43) (ad 45) (ad 46) (J 10) (J 11) (J 12) (K 4) (L 10) (L 11) (ad 38) (ad 39) (ad 40) (ad 41) (ad 42) (J 13) (J 14) (K 5) (L 8) (F 16) (by decide) rfl (by decide) rfl (SX_kd hS9.2.1 hbb) hS9.2.1.1 hS9.2.2.1.1 (SX_cd hS9.2.1) (SX_ed hS9.2.1)) ⟨Nat.le_of_ble_eq_true rfl, Nat.le_of_ble_eq_true rfl, Nat.le_refl _, Nat.le_refl _⟩ [0, 16, 47, 48, 49, 50, 55, 56, 37, 38, 39, 40, 45, 46] [1, 2, 3, 4, 5, 6, 7, 8, 9, 10, 11, 12, 13, 14, 15, 17, 18, 19, 20, 21, 22, 23, 24, 25, 26, 27, 28, 29, 30, 31, 32, 33, 34, 35, 36, 41, 42, 43, 44, 51, 52, 53, 54, 57, 58, 59, 60, 61, 62, 63, 64, 65, 66] [0, 16, 47, 48, 49, 50, 55, 56, 37, 38, 39, 40, 45, 46] 67 rfl (by decide) (by decide) (by decide) (by decide) (by decide) (fun u9 h9 => ?_)
            obtain ⟨wf1, bf1, si1, so1⟩ := u9
            have hf := h9
            have hf : (∀ jq8, jq8 < 8 → wf1 jq8 = (L 8) jq8) ∧ (sb_Fit bf1) ∧ (∀ jq8, jq8 < 128 → bf1 jq8 = (F 16) jq8) ∧ (∀ jq8, jq8 < 8 → si1 jq8 = (L 10) jq8) ∧ (∀ jq8, jq8 < 8 → so1 jq8 = (L 11) jq8) := hf
            exact ⟨(Z, (va_up F 19 bf1), (va_up (va_up (va_up L 12 wf1) 14 si1) 15 so1), (va_up (va_up (va_up (va_up (va_up J 15 (J 10)) 16 (J 11)) 17 (J 12)) 18 (J 13)) 19 (J 14)), (va_up (va_up K 6 (K 4)) 7 (K 5))), ⟨hT, hO, hG, ⟨hS9.1, hS9.2.1, SX_copy hS9.2.1 hf.1 hf.2.1 hf.2.2.1 hf.2.2.2.2, hS9.2.2.2⟩, hW9⟩, (by repeat (first | refine List.forall_mem_cons.mpr ⟨⟨_, rfl, rfl⟩, ?_⟩ | exact fun _ h => absurd h List.not_mem_nil)), rfl, rfl⟩
          · skip
            refine gFr_v (c_X3_copyS l G sz x0 (ad 1) (ad 3) (ad 15) (ad 16) (ad 17) (ad 5) (ad 7) (va_up (va_up (va_up (va_up (fun _ => none) 0 (some (ad 27))) 1 (some (ad 37))) 2 (some (ad 47))) 3 (some (ad 57))) 2 (ad 47) (ad 53) (ad 55) (ad 56) (ad 48) (ad 49) (ad 50) (ad 51) (ad 52) (J 15) (J 16) (J 17) (K 6) (J 18) (J 19) (K 7) (L 12) (F 19) (L 14) (L 15) (by decide) rfl (SX_kd hS9.2.2.1 hbb) hS9.2.2.1.1 (SX_cd hS9.2.2.1) (SX_ed hS9.2.2.1)) ⟨Nat.le_of_ble_eq_true rfl, Nat.le_of_ble_eq_true rfl, Nat.le_refl _, Nat.le_refl _⟩ [0, 16, 47, 48, 49, 50, 55, 56] [1, 2, 3, 4, 5, 6, 7, 8, 9, 10, 11, 12, 13, 14, 15, 17, 18, 19, 20, 21, 22, 23, 24, 25, 26, 27, 28, 29, 30, 31, 32, 33, 34, 35, 36, 37, 38, 39, 40, 41, 42, 43, 44, 45, 46, 51, 52, 53, 54, 57, 58, 59, 60, 61, 62, 63, 64, 65, 66] [0, 16, 47, 48, 49, 50, 55, 56] 67 rfl (by decide) (by decide) (by decide) (by decide) (by decide) (fun u9 h9 => ?_)
            obtain ⟨wf1, bf1, si1, so1⟩ := u9
            have hf := h9
            have hf : (∀ jq8, jq8 < 8 → wf1 jq8 = (L 12) jq8) ∧ (sb_Fit bf1) ∧ (∀ jq8, jq8 < 128 → bf1 jq8 = (F 19) jq8) ∧ (∀ jq8, jq8 < 8 → si1 jq8 = (L 14) jq8) ∧ (∀ jq8, jq8 < 8 → so1 jq8 = (L 15) jq8) := hf
            exact ⟨(Z, (va_up F 19 bf1), (va_up (va_up (va_up L 12 wf1) 14 si1) 15 so1), J, K), ⟨hT, hO, hG, ⟨hS9.1, hS9.2.1, SX_copy hS9.2.2.1 hf.1 hf.2.1 hf.2.2.1 hf.2.2.2.2, hS9.2.2.2⟩, hW9⟩, (by repeat (first | refine List.forall_mem_cons.mpr ⟨⟨_, rfl, rfl⟩, ?_⟩ | exact fun _ h => absurd h List.not_mem_nil)), rfl, rfl⟩
          · skip
            refine gFr_v (c_X3_copy l G sz x0 (ad 1) (ad 3) (ad 15) (ad 16) (ad 17) (ad 5) (ad 7) (va_up (va_up (va_up (va_up (fun _ => none) 0 (some (ad 27))) 1 (some (ad 37))) 2 (some (ad 47))) 3 (some (ad 57))) 2 3 (ad 47) (ad 53) (ad 55) (ad 56) (ad 48) (ad 49) (ad 50) (ad 51) (ad 52) (J 15) (J 16) (J 17) (K 6) (J 18) (J 19) (K 7) (L 12) (F 19) (L 14) (L 15) (ad 57) (ad 63) (ad 65) (ad 66) (J 20) (J 21) (J 22) (K 8) (L 18) (L 19) (ad 58) (ad 59) (ad 60) (ad 61) (ad 62) (J 23) (J 24) (K 9) (L 16) (F 22) (by decide) rfl (by decide) rfl (SX_kd hS9.2.2.2 hbb) hS9.2.2.2.1 hS9.2.2.1.1 (SX_cd hS9.2.2.2) (SX_ed hS9.2.2.2)) ⟨Nat.le_of_ble_eq_true rfl, Nat.le_of_ble_eq_true rfl, Nat.le_refl _, Nat.le_refl _⟩ [0, 16, 47, 48, 49, 50, 55, 56, 57, 58, 59, 60, 65, 66] [1, 2, 3, 4, 5, 6, 7, 8, 9, 10, 11, 12, 13, 14, 15, 17, 18, 19, 20, 21, 22, 23, 24, 25, 26, 27, 28, 29, 30, 31, 32, 33, 34, 35, 36, 37, 38, 39, 40, 41, 42, 43, 44, 45, 46, 51, 52, 53, 54, 61, 62, 63, 64] [0, 16, 47, 48, 49, 50, 55, 56, 57, 58, 59, 60, 65, 66] 67 rfl (by decide) (by decide) (by decide) (by decide) (by decide) (fun u9 h9 => ?_)
            obtain ⟨wf1, bf1, si1, so1⟩ := u9
            have hf := h9
            have hf : (∀ jq8, jq8 < 8 → wf1 jq8 = (L 16) jq8) ∧ (sb_Fit bf1) ∧ (∀ jq8, jq8 < 128 → bf1 jq8 = (F 22) jq8) ∧ (∀ jq8, jq8 < 8 → si1 jq8 = (L 18) jq8) ∧ (∀ jq8, jq8 < 8 → so1 jq8 = (L 19) jq8) := hf
            exact ⟨(Z, (va_up F 19 bf1), (va_up (va_up (va_up L 12 wf1) 14 si1) 15 so1), (va_up (va_up (va_up (va_up (va_up J 15 (J 20)) 16 (J 21)) 17 (J 22)) 18 (J 23)) 19 (J 24)), (va_up (va_up K 6 (K 8)) 7 (K 9))), ⟨hT, hO, hG, ⟨hS9.1, hS9.2.1, SX_copy hS9.2.2.2 hf.1 hf.2.1 hf.2.2.1 hf.2.2.2.2, hS9.2.2.2⟩, hW9⟩, (by repeat (first | refine List.forall_mem_cons.mpr ⟨⟨_, rfl, rfl⟩, ?_⟩ | exact fun _ h => absurd h List.not_mem_nil)), rfl, rfl⟩
        · skip
          rcases (show b = 0 ∨ b = 1 ∨ b = 2 ∨ b = 3 by omega) with rfl | rfl | rfl | rfl
          · skip
            refine gFr_v (c_X3_copy l G sz x0 (ad 1) (ad 3) (ad 15) (ad 16) (ad 17) (ad 5) (ad 7) (va_up (va_up (va_up (va_up (fun _ => none) 0 (some (ad 27))) 1 (some (ad 37))) 2 (some (ad 47))) 3 (some (ad 57))) 3 0 (ad 57) (ad 63) (ad 65) (ad 66) (ad 58) (ad 59) (ad 60) (ad 61) (ad 62) (J 20) (J 21) (J 22) (K 8) (J 23) (J 24) (K 9) (L 16) (F 22) (L 18) (L 19) (ad 27) (ad 33) (ad 35) (ad 36) (J 5) (J 6) (J 7) (K 2) (L 6) (L 7) (ad 28) (ad 29) (ad 30) (ad 31) (ad 32) (J 8) (J 9) (K 3) (L 4) (F 13) (by decide) rfl (by decide) rfl (SX_kd hS9.1 hbb) hS9.1.1 hS9.2.2.2.1 (SX_cd hS9.1) (SX_ed hS9.1)) ⟨Nat.le_of_ble_eq_true rfl, Nat.le_of_ble_eq_true rfl, Nat.le_refl _, Nat.le_refl _⟩ [0, 16, 57, 58, 59, 60, 65, 66, 27, 28, 29, 30, 35, 36] [1, 2, 3, 4, 5, 6, 7, 8, 9, 10, 11, 12, 13, 14, 15, 17, 18, 19, 20, 21, 22, 23, 24, 25, 26, 31, 32, 33, 34, 37, 38, 39, 40, 41, 42, 43, 44, 45, 46, 47, 48, 49, 50, 51, 52, 53, 54, 55, 56, 61, 62, 63, 64] [0, 16, 57, 58, 59, 60, 65, 66, 27, 28, 29, 30, 35, 36] 67 rfl (by decide) (by decide) (by decide) (by decide) (by decide) (fun u9 h9 => ?_)
            obtain ⟨wf1, bf1, si1, so1⟩ := u9
            have hf := h9
            have hf : (∀ jq8, jq8 < 8 → wf1 jq8 = (L 4) jq8) ∧ (sb_Fit bf1) ∧ (∀ jq8, jq8 < 128 → bf1 jq8 = (F 13) jq8) ∧ (∀ jq8, jq8 < 8 → si1 jq8 = (L 6) jq8) ∧ (∀ jq8, jq8 < 8 → so1 jq8 = (L 7) jq8) := hf
            exact ⟨(Z, (va_up F 22 bf1), (va_up (va_up (va_up L 16 wf1) 18 si1) 19 so1), (va_up (va_up (va_up (va_up (va_up J 20 (J 5)) 21 (J 6)) 22 (J 7)) 23 (J 8)) 24 (J 9)), (va_up (va_up K 8 (K 2)) 9 (K 3))), ⟨hT, hO, hG, ⟨hS9.1, hS9.2.1, hS9.2.2.1, SX_copy hS9.1 hf.1 hf.2.1 hf.2.2.1 hf.2.2.2.2⟩, hW9⟩, (by repeat (first | refine List.forall_mem_cons.mpr ⟨⟨_, rfl, rfl⟩, ?_⟩ | exact fun _ h => absurd h List.not_mem_nil)), rfl, rfl⟩
          · skip
            refine gFr_v (c_X3_copy l G sz x0 (ad 1) (ad 3) (ad 15) (ad 16) (ad 17) (ad 5) (ad 7) (va_up (va_up (va_up (va_up (fun _ => none) 0 (some (ad 27))) 1 (some (ad 37))) 2 (some (ad 47))) 3 (some (ad 57))) 3 1 (ad 57) (ad 63) (ad 65) (ad 66) (ad 58) (ad 59) (ad 60) (ad 61) (ad 62) (J 20) (J 21) (J 22) (K 8) (J 23) (J 24) (K 9) (L 16) (F 22) (L 18) (L 19) (ad 37) (ad 43) (ad 45) (ad 46) (J 10) (J 11) (J 12) (K 4) (L 10) (L 11) (ad 38) (ad 39) (ad 40) (ad 41) (ad 42) (J 13) (J 14) (K 5) (L 8) (F 16) (by decide) rfl (by decide) rfl (SX_kd hS9.2.1 hbb) hS9.2.1.1 hS9.2.2.2.1 (SX_cd hS9.2.1) (SX_ed hS9.2.1)) ⟨Nat.le_of_ble_eq_true rfl, Nat.le_of_ble_eq_true rfl, Nat.le_refl _, Nat.le_refl _⟩ [0, 16, 57, 58, 59, 60, 65, 66, 37, 38, 39, 40, 45, 46] [1, 2, 3, 4, 5, 6, 7, 8, 9, 10, 11, 12, 13, 14, 15, 17, 18, 19, 20, 21, 22, 23, 24, 25, 26, 27, 28, 29, 30, 31, 32, 33, 34, 35, 36, 41, 42, 43, 44, 47, 48, 49, 50, 51, 52, 53, 54, 55, 56, 61, 62, 63, 64] [0, 16, 57, 58, 59, 60, 65, 66, 37, 38, 39, 40, 45, 46] 67 rfl (by decide) (by decide) (by decide) (by decide) (by decide) (fun u9 h9 => ?_)
            obtain ⟨wf1, bf1, si1, so1⟩ := u9
            have hf := h9
            have hf : (∀ jq8, jq8 < 8 → wf1 jq8 = (L 8) jq8) ∧ (sb_Fit bf1) ∧ (∀ jq8, jq8 < 128 → bf1 jq8 = (F 16) jq8) ∧ (∀ jq8, jq8 < 8 → si1 jq8 = (L 10) jq8) ∧ (∀ jq8, jq8 < 8 → so1 jq8 = (L 11) jq8) := hf
            exact ⟨(Z, (va_up F 22 bf1), (va_up (va_up (va_up L 16 wf1) 18 si1) 19 so1), (va_up (va_up (va_up (va_up (va_up J 20 (J 10)) 21 (J 11)) 22 (J 12)) 23 (J 13)) 24 (J 14)), (va_up (va_up K 8 (K 4)) 9 (K 5))), ⟨hT, hO, hG, ⟨hS9.1, hS9.2.1, hS9.2.2.1, SX_copy hS9.2.1 hf.1 hf.2.1 hf.2.2.1 hf.2.2.2.2⟩, hW9⟩, (by repeat (first | refine List.forall_mem_cons.mpr ⟨⟨_, rfl, rfl⟩, ?_⟩ | exact fun _ h => absurd h List.not_mem_nil)), rfl, rfl⟩
          · skip
            refine gFr_v (c_X3_copy l G sz x0 (ad 1) (ad 3) (ad 15) (ad 16) (ad 17) (ad 5) (ad 7) (va_up (va_up (va_up (va_up (fun _ => none) 0 (some (ad 27))) 1 (some (ad 37))) 2 (some (ad 47))) 3 (some (ad 57))) 3 2 (ad 57) (ad 63) (ad 65) (ad 66) (ad 58) (ad 59) (ad 60) (ad 61) (ad 62) (J 20) (J 21) (J 22) (K 8) (J 23) (J 24) (K 9) (L 16) (F 22) (L 18) (L 19) (ad 47) (ad 53) (ad 55) (ad 56) (J 15) (J 16) (J 17) (K 6) (L 14) (L 15) (ad 48) (ad 49) (ad 50) (ad 51) (ad 52) (J 18) (J 19) (K 7) (L 12) (F 19) (by decide) rfl (by decide) rfl (SX_kd hS9.2.2.1 hbb) hS9.2.2.1.1 hS9.2.2.2.1 (SX_cd hS9.2.2.1) (SX_ed hS9.2.2.1)) ⟨Nat.le_of_ble_eq_true rfl, Nat.le_of_ble_eq_true rfl, Nat.le_refl _, Nat.le_refl _⟩ [0, 16, 57, 58, 59, 60, 65, 66, 47, 48, 49, 50, 55, 56] [1, 2, 3, 4, 5, 6, 7, 8, 9, 10, 11, 12, 13, 14, 15, 17, 18, 19, 20, 21, 22, 23, 24, 25, 26, 27, 28, 29, 30, 31, 32, 33, 34, 35, 36, 37, 38, 39, 40, 41, 42, 43, 44, 45, 46, 51, 52, 53, 54, 61, 62, 63, 64] [0, 16, 57, 58, 59, 60, 65, 66, 47, 48, 49, 50, 55, 56] 67 rfl (by decide) (by decide) (by decide) (by decide) (by decide) (fun u9 h9 => ?_)
            obtain ⟨wf1, bf1, si1, so1⟩ := u9
            have hf := h9
            have hf : (∀ jq8, jq8 < 8 → wf1 jq8 = (L 12) jq8) ∧ (sb_Fit bf1) ∧ (∀ jq8, jq8 < 128 → bf1 jq8 = (F 19) jq8) ∧ (∀ jq8, jq8 < 8 → si1 jq8 = (L 14) jq8) ∧ (∀ jq8, jq8 < 8 → so1 jq8 = (L 15) jq8) := hf
            exact ⟨(Z, (va_up F 22 bf1), (va_up (va_up (va_up L 16 wf1) 18 si1) 19 so1), (va_up (va_up (va_up (va_up (va_up J 20 (J 15)) 21 (J 16)) 22 (J 17)) 23 (J 18)) 24 (J 19)), (va_up (va_up K 8 (K 6)) 9 (K 7))), ⟨hT, hO, hG, ⟨hS9.1, hS9.2.1, hS9.2.2.1, SX_copy hS9.2.2.1 hf.1 hf.2.1 hf.2.2.1 hf.2.2.2.2⟩, hW9⟩, (by repeat (first | refine List.forall_mem_cons.mpr ⟨⟨_, rfl, rfl⟩, ?_⟩ | exact fun _ h => absurd h List.not_mem_nil)), rfl, rfl⟩
          · skip
            refine gFr_v (c_X3_copyS l G sz x0 (ad 1) (ad 3) (ad 15) (ad 16) (ad 17) (ad 5) (ad 7) (va_up (va_up (va_up (va_up (fun _ => none) 0 (some (ad 27))) 1 (some (ad 37))) 2 (some (ad 47))) 3 (some (ad 57))) 3 (ad 57) (ad 63) (ad 65) (ad 66) (ad 58) (ad 59) (ad 60) (ad 61) (ad 62) (J 20) (J 21) (J 22) (K 8) (J 23) (J 24) (K 9) (L 16) (F 22) (L 18) (L 19) (by decide) rfl (SX_kd hS9.2.2.2 hbb) hS9.2.2.2.1 (SX_cd hS9.2.2.2) (SX_ed hS9.2.2.2)) ⟨Nat.le_of_ble_eq_true rfl, Nat.le_of_ble_eq_true rfl, Nat.le_refl _, Nat.le_refl _⟩ [0, 16, 57, 58, 59, 60, 65, 66] [1, 2, 3, 4, 5, 6, 7, 8, 9, 10, 11, 12, 13, 14, 15, 17, 18, 19, 20, 21, 22, 23, 24, 25, 26, 27, 28, 29, 30, 31, 32, 33, 34, 35, 36, 37, 38, 39, 40, 41, 42, 43, 44, 45, 46, 47, 48, 49, 50, 51, 52, 53, 54, 55, 56, 61, 62, 63, 64] [0, 16, 57, 58, 59, 60, 65, 66] 67 rfl (by decide) (by decide) (by decide) (by decide) (by decide) (fun u9 h9 => ?_)
            obtain ⟨wf1, bf1, si1, so1⟩ := u9
            have hf := h9
            have hf : (∀ jq8, jq8 < 8 → wf1 jq8 = (L 16) jq8) ∧ (sb_Fit bf1) ∧ (∀ jq8, jq8 < 128 → bf1 jq8 = (F 22) jq8) ∧ (∀ jq8, jq8 < 8 → si1 jq8 = (L 18) jq8) ∧ (∀ jq8, jq8 < 8 → so1 jq8 = (L 19) jq8) := hf
            exact ⟨(Z, (va_up F 22 bf1), (va_up (va_up (va_up L 16 wf1) 18 si1) 19 so1), J, K), ⟨hT, hO, hG, ⟨hS9.1, hS9.2.1, hS9.2.2.1, SX_copy hS9.2.2.2 hf.1 hf.2.1 hf.2.2.1 hf.2.2.2.2⟩, hW9⟩, (by repeat (first | refine List.forall_mem_cons.mpr ⟨⟨_, rfl, rfl⟩, ?_⟩ | exact fun _ h => absurd h List.not_mem_nil)), rfl, rfl⟩
set_option maxRecDepth 100000 in
set_option maxHeartbeats 4000000 in
theorem x_about (l : Launch) (hT9 : l.stackTraces = false) (G : GW) (x0 : Nat) (ad : Nat → Nat) (u : XU) (A : AS) (x : Int32) (y : Int32) (E : AO) (hR : XR u A) (hE : aboutA A x y = E) : (E.1 = 0 ∧ ∀ sz : Nat, Met l yX3_about (Cond.code yX3_about cX3_about 4 (some FieldType.int) :: UW) ({ frames := 7, cells := 0, slots := 0, locals := 103 } : Room) (va_Pc [.ref x0, .int x, .int y] (gPre G (xW G x0 ad u) sz)) (va_Qi (fun r v => r.toInt64 = E.2.1 ∧ XR v E.2.2) (fun v => gPost G (va_A (xW G x0 ad u) sz) (xW G x0 ad v)) (va_A (xW G x0 ad u) sz)) 0 0 (va_A (xW G x0 ad u) sz)) ∨ (E = (1, 0, A) ∧ ∀ sz : Nat, vx_Met l yX3_about (Cond.code yX3_about cX3_about 4 (some FieldType.int) :: UW) ({ frames := 7, cells := 1, slots := 6, locals := 103 } : Room) (va_Pc [.ref x0, .int x, .int y] (gPre G (xW G x0 ad u) sz)) gNo (gXC G xIOB (va_A (xW G x0 ad u) sz) (xW G x0 ad u)) 1 6 (va_A (xW G x0 ad u) sz)) := by
  obtain ⟨Z, F, L, J, K⟩ := u
  obtain ⟨hT, hO, hG, hS9, hW9⟩ := hR
  have hT : RowR 600 (F 0) (Z 0) A.1 := hT
  have hO : RowR 16320 (F 1) (Z 1) A.2.1 := hO
  have hG : RowR 600 (F 4) (Z 4) (A.2.2.1 0) ∧ RowR 600 (F 5) (Z 5) (A.2.2.1 1) ∧ RowR 600 (F 6) (Z 6) (A.2.2.1 2) := hG
  have hS9 : SX (F 13) (J 5) (J 6) (J 7) (K 2) (J 8) (J 9) (K 3) (L 4) (L 7) (A.2.2.2 0) ∧ SX (F 16) (J 10) (J 11) (J 12) (K 4) (J 13) (J 14) (K 5) (L 8) (L 11) (A.2.2.2 1) ∧ SX (F 19) (J 15) (J 16) (J 17) (K 6) (J 18) (J 19) (K 7) (L 12) (L 15) (A.2.2.2 2) ∧ SX (F 22) (J 20) (J 21) (J 22) (K 8) (J 23) (J 24) (K 9) (L 16) (L 19) (A.2.2.2 3) := hS9
  have hW9 : sb_Fit (F 10) := hW9
  unfold aboutA at hE
  by_cases h1 : nsI x = 1
  · rw [if_pos h1] at hE
    subst hE
    refine Or.inr (⟨rfl, fun sz => ?_⟩)
    exact gFrX (c_X3_aboutT l hT9 G sz x0 (ad 1) (ad 3) (ad 15) (ad 16) (ad 17) (ad 5) (ad 7) x y h1) ⟨Nat.le_of_ble_eq_true rfl, Nat.le_of_ble_eq_true rfl, Nat.le_refl _, Nat.le_refl _⟩ [0] [1, 2, 3, 4, 5, 6, 7, 8, 9, 10, 11, 12, 13, 14, 15, 16, 17, 18, 19, 20, 21, 22, 23, 24, 25, 26, 27, 28, 29, 30, 31, 32, 33, 34, 35, 36, 37, 38, 39, 40, 41, 42, 43, 44, 45, 46, 47, 48, 49, 50, 51, 52, 53, 54, 55, 56, 57, 58, 59, 60, 61, 62, 63, 64, 65, 66] 67 rfl (by decide) (by decide) (by decide) (by decide) (by decide) rfl
  · rw [if_neg h1] at hE
    obtain ⟨s, hs4, rfl, h3⟩ := ns_of h1
    rw [h3] at hE
    by_cases h2 : y < 0 ∨ 3 < y
    · rw [if_pos h2] at hE
      subst hE
      refine Or.inr (⟨rfl, fun sz => ?_⟩)
      rcases (show s = 0 ∨ s = 1 ∨ s = 2 ∨ s = 3 by omega) with rfl | rfl | rfl | rfl
      · skip
        exact gFrX (c_X3_aboutT1b l hT9 G sz x0 (ad 1) (ad 3) (ad 15) (ad 16) (ad 17) (ad 5) (ad 7) (va_up (va_up (va_up (va_up (fun _ => none) 0 (some (ad 27))) 1 (some (ad 37))) 2 (some (ad 47))) 3 (some (ad 57))) 0 (ad 27) y (by decide) rfl h2) ⟨Nat.le_of_ble_eq_true rfl, Nat.le_of_ble_eq_true rfl, Nat.le_refl _, Nat.le_refl _⟩ [0, 16] [1, 2, 3, 4, 5, 6, 7, 8, 9, 10, 11, 12, 13, 14, 15, 17, 18, 19, 20, 21, 22, 23, 24, 25, 26, 27, 28, 29, 30, 31, 32, 33, 34, 35, 36, 37, 38, 39, 40, 41, 42, 43, 44, 45, 46, 47, 48, 49, 50, 51, 52, 53, 54, 55, 56, 57, 58, 59, 60, 61, 62, 63, 64, 65, 66] 67 rfl (by decide) (by decide) (by decide) (by decide) (by decide) rfl
      · skip
        exact gFrX (c_X3_aboutT1b l hT9 G sz x0 (ad 1) (ad 3) (ad 15) (ad 16) (ad 17) (ad 5) (ad 7) (va_up (va_up (va_up (va_up (fun _ => none) 0 (some (ad 27))) 1 (some (ad 37))) 2 (some (ad 47))) 3 (some (ad 57))) 1 (ad 37) y (by decide) rfl h2) ⟨Nat.le_of_ble_eq_true rfl, Nat.le_of_ble_eq_true rfl, Nat.le_refl _, Nat.le_refl _⟩ [0, 16] [1, 2, 3, 4, 5, 6, 7, 8, 9, 10, 11, 12, 13, 14, 15, 17, 18, 19, 20, 21, 22, 23, 24, 25, 26, 27, 28, 29, 30, 31, 32, 33, 34, 35, 36, 37, 38, 39, 40, 41, 42, 43, 44, 45, 46, 47, 48, 49, 50, 51, 52, 53, 54, 55, 56, 57, 58, 59, 60, 61, 62, 63, 64, 65, 66] 67 rfl (by decide) (by decide) (by decide) (by decide) (by decide) rfl
      · skip
        exact gFrX (c_X3_aboutT1b l hT9 G sz x0 (ad 1) (ad 3) (ad 15) (ad 16) (ad 17) (ad 5) (ad 7) (va_up (va_up (va_up (va_up (fun _ => none) 0 (some (ad 27))) 1 (some (ad 37))) 2 (some (ad 47))) 3 (some (ad 57))) 2 (ad 47) y (by decide) rfl h2) ⟨Nat.le_of_ble_eq_true rfl, Nat.le_of_ble_eq_true rfl, Nat.le_refl _, Nat.le_refl _⟩ [0, 16] [1, 2, 3, 4, 5, 6, 7, 8, 9, 10, 11, 12, 13, 14, 15, 17, 18, 19, 20, 21, 22, 23, 24, 25, 26, 27, 28, 29, 30, 31, 32, 33, 34, 35, 36, 37, 38, 39, 40, 41, 42, 43, 44, 45, 46, 47, 48, 49, 50, 51, 52, 53, 54, 55, 56, 57, 58, 59, 60, 61, 62, 63, 64, 65, 66] 67 rfl (by decide) (by decide) (by decide) (by decide) (by decide) rfl
      · skip
        exact gFrX (c_X3_aboutT1b l hT9 G sz x0 (ad 1) (ad 3) (ad 15) (ad 16) (ad 17) (ad 5) (ad 7) (va_up (va_up (va_up (va_up (fun _ => none) 0 (some (ad 27))) 1 (some (ad 37))) 2 (some (ad 47))) 3 (some (ad 57))) 3 (ad 57) y (by decide) rfl h2) ⟨Nat.le_of_ble_eq_true rfl, Nat.le_of_ble_eq_true rfl, Nat.le_refl _, Nat.le_refl _⟩ [0, 16] [1, 2, 3, 4, 5, 6, 7, 8, 9, 10, 11, 12, 13, 14, 15, 17, 18, 19, 20, 21, 22, 23, 24, 25, 26, 27, 28, 29, 30, 31, 32, 33, 34, 35, 36, 37, 38, 39, 40, 41, 42, 43, 44, 45, 46, 47, 48, 49, 50, 51, 52, 53, 54, 55, 56, 57, 58, 59, 60, 61, 62, 63, 64, 65, 66] 67 rfl (by decide) (by decide) (by decide) (by decide) (by decide) rfl
    · rw [if_neg h2] at hE
      obtain ⟨j, hj, rfl, h4⟩ := rg_of (y := 3) (n := 3) (by decide) h2
      rw [h4] at hE
      subst hE
      refine Or.inl (⟨rfl, fun sz => ?_⟩)
      rcases (show j = 0 ∨ j = 1 ∨ j = 2 ∨ j = 3 by omega) with rfl | rfl | rfl | rfl
      · skip
        rcases (show s = 0 ∨ s = 1 ∨ s = 2 ∨ s = 3 by omega) with rfl | rfl | rfl | rfl
        · skip
          refine gFr_i (c_X3_about0 l G sz x0 (ad 1) (ad 3) (ad 15) (ad 16) (ad 17) (ad 5) (ad 7) (va_up (va_up (va_up (va_up (fun _ => none) 0 (some (ad 27))) 1 (some (ad 37))) 2 (some (ad 47))) 3 (some (ad 57))) 0 (ad 27) (ad 33) (ad 35) (ad 36) (ad 28) (J 5) (J 6) (J 7) (K 2) (by decide) rfl) ⟨Nat.le_of_ble_eq_true rfl, Nat.le_of_ble_eq_true rfl, Nat.le_refl _, Nat.le_refl _⟩ [0, 16, 27] [1, 2, 3, 4, 5, 6, 7, 8, 9, 10, 11, 12, 13, 14, 15, 17, 18, 19, 20, 21, 22, 23, 24, 25, 26, 28, 29, 30, 31, 32, 33, 34, 35, 36, 37, 38, 39, 40, 41, 42, 43, 44, 45, 46, 47, 48, 49, 50, 51, 52, 53, 54, 55, 56, 57, 58, 59, 60, 61, 62, 63, 64, 65, 66] [0, 16, 27] 67 rfl (by decide) (by decide) (by decide) (by decide) (by decide) (fun r9 u9 h9 => ?_)
          have er := h9
          subst er
          exact ⟨(Z, F, L, J, K), ⟨congrArg Int32.toInt64 (SX_ab0 hS9.1), ⟨hT, hO, hG, hS9, hW9⟩⟩, (by repeat (first | refine List.forall_mem_cons.mpr ⟨⟨_, rfl, rfl⟩, ?_⟩ | exact fun _ h => absurd h List.not_mem_nil)), rfl, rfl⟩
        · skip
          refine gFr_i (c_X3_about0 l G sz x0 (ad 1) (ad 3) (ad 15) (ad 16) (ad 17) (ad 5) (ad 7) (va_up (va_up (va_up (va_up (fun _ => none) 0 (some (ad 27))) 1 (some (ad 37))) 2 (some (ad 47))) 3 (some (ad 57))) 1 (ad 37) (ad 43) (ad 45) (ad 46) (ad 38) (J 10) (J 11) (J 12) (K 4) (by decide) rfl) ⟨Nat.le_of_ble_eq_true rfl, Nat.le_of_ble_eq_true rfl, Nat.le_refl _, Nat.le_refl _⟩ [0, 16, 37] [1, 2, 3, 4, 5, 6, 7, 8, 9, 10, 11, 12, 13, 14, 15, 17, 18, 19, 20, 21, 22, 23, 24, 25, 26, 27, 28, 29, 30, 31, 32, 33, 34, 35, 36, 38, 39, 40, 41, 42, 43, 44, 45, 46, 47, 48, 49, 50, 51, 52, 53, 54, 55, 56, 57, 58, 59, 60, 61, 62, 63, 64, 65, 66] [0, 16, 37] 67 rfl (by decide) (by decide) (by decide) (by decide) (by decide) (fun r9 u9 h9 => ?_)
          have er := h9
          subst er
          exact ⟨(Z, F, L, J, K), ⟨congrArg Int32.toInt64 (SX_ab0 hS9.2.1), ⟨hT, hO, hG, hS9, hW9⟩⟩, (by repeat (first | refine List.forall_mem_cons.mpr ⟨⟨_, rfl, rfl⟩, ?_⟩ | exact fun _ h => absurd h List.not_mem_nil)), rfl, rfl⟩
        · skip
          refine gFr_i (c_X3_about0 l G sz x0 (ad 1) (ad 3) (ad 15) (ad 16) (ad 17) (ad 5) (ad 7) (va_up (va_up (va_up (va_up (fun _ => none) 0 (some (ad 27))) 1 (some (ad 37))) 2 (some (ad 47))) 3 (some (ad 57))) 2 (ad 47) (ad 53) (ad 55) (ad 56) (ad 48) (J 15) (J 16) (J 17) (K 6) (by decide) rfl) ⟨Nat.le_of_ble_eq_true rfl, Nat.le_of_ble_eq_true rfl, Nat.le_refl _, Nat.le_refl _⟩ [0, 16, 47] [1, 2, 3, 4, 5, 6, 7, 8, 9, 10, 11, 12, 13, 14, 15, 17, 18, 19, 20, 21, 22, 23, 24, 25, 26, 27, 28, 29, 30, 31, 32, 33, 34, 35, 36, 37, 38, 39, 40, 41, 42, 43, 44, 45, 46, 48, 49, 50, 51, 52, 53, 54, 55, 56, 57, 58, 59, 60, 61, 62, 63, 64, 65, 66] [0, 16, 47] 67 rfl (by decide) (by decide) (by decide) (by decide) (by decide) (fun r9 u9 h9 => ?_)
          have er := h9
          subst er
          exact ⟨(Z, F, L, J, K), ⟨congrArg Int32.toInt64 (SX_ab0 hS9.2.2.1), ⟨hT, hO, hG, hS9, hW9⟩⟩, (by repeat (first | refine List.forall_mem_cons.mpr ⟨⟨_, rfl, rfl⟩, ?_⟩ | exact fun _ h => absurd h List.not_mem_nil)), rfl, rfl⟩
        · skip
          refine gFr_i (c_X3_about0 l G sz x0 (ad 1) (ad 3) (ad 15) (ad 16) (ad 17) (ad 5) (ad 7) (va_up (va_up (va_up (va_up (fun _ => none) 0 (some (ad 27))) 1 (some (ad 37))) 2 (some (ad 47))) 3 (some (ad 57))) 3 (ad 57) (ad 63) (ad 65) (ad 66) (ad 58) (J 20) (J 21) (J 22) (K 8) (by decide) rfl) ⟨Nat.le_of_ble_eq_true rfl, Nat.le_of_ble_eq_true rfl, Nat.le_refl _, Nat.le_refl _⟩ [0, 16, 57] [1, 2, 3, 4, 5, 6, 7, 8, 9, 10, 11, 12, 13, 14, 15, 17, 18, 19, 20, 21, 22, 23, 24, 25, 26, 27, 28, 29, 30, 31, 32, 33, 34, 35, 36, 37, 38, 39, 40, 41, 42, 43, 44, 45, 46, 47, 48, 49, 50, 51, 52, 53, 54, 55, 56, 58, 59, 60, 61, 62, 63, 64, 65, 66] [0, 16, 57] 67 rfl (by decide) (by decide) (by decide) (by decide) (by decide) (fun r9 u9 h9 => ?_)
          have er := h9
          subst er
          exact ⟨(Z, F, L, J, K), ⟨congrArg Int32.toInt64 (SX_ab0 hS9.2.2.2), ⟨hT, hO, hG, hS9, hW9⟩⟩, (by repeat (first | refine List.forall_mem_cons.mpr ⟨⟨_, rfl, rfl⟩, ?_⟩ | exact fun _ h => absurd h List.not_mem_nil)), rfl, rfl⟩
      · skip
        rcases (show s = 0 ∨ s = 1 ∨ s = 2 ∨ s = 3 by omega) with rfl | rfl | rfl | rfl
        · skip
          refine gFr_i (c_X3_about1 l G sz x0 (ad 1) (ad 3) (ad 15) (ad 16) (ad 17) (ad 5) (ad 7) (va_up (va_up (va_up (va_up (fun _ => none) 0 (some (ad 27))) 1 (some (ad 37))) 2 (some (ad 47))) 3 (some (ad 57))) 0 (ad 27) (ad 33) (ad 35) (ad 36) (ad 28) (J 5) (J 6) (J 7) (K 2) (by decide) rfl (SX_cd hS9.1)) ⟨Nat.le_of_ble_eq_true rfl, Nat.le_of_ble_eq_true rfl, Nat.le_refl _, Nat.le_refl _⟩ [0, 16, 27] [1, 2, 3, 4, 5, 6, 7, 8, 9, 10, 11, 12, 13, 14, 15, 17, 18, 19, 20, 21, 22, 23, 24, 25, 26, 28, 29, 30, 31, 32, 33, 34, 35, 36, 37, 38, 39, 40, 41, 42, 43, 44, 45, 46, 47, 48, 49, 50, 51, 52, 53, 54, 55, 56, 57, 58, 59, 60, 61, 62, 63, 64, 65, 66] [0, 16, 27] 67 rfl (by decide) (by decide) (by decide) (by decide) (by decide) (fun r9 u9 h9 => ?_)
          have er := h9
          subst er
          exact ⟨(Z, F, L, J, K), ⟨congrArg Int32.toInt64 (SX_ab1 hS9.1), ⟨hT, hO, hG, hS9, hW9⟩⟩, (by repeat (first | refine List.forall_mem_cons.mpr ⟨⟨_, rfl, rfl⟩, ?_⟩ | exact fun _ h => absurd h List.not_mem_nil)), rfl, rfl⟩
        · skip
          refine gFr_i (c_X3_about1 l G sz x0 (ad 1) (ad 3) (ad 15) (ad 16) (ad 17) (ad 5) (ad 7) (va_up (va_up (va_up (va_up (fun _ => none) 0 (some (ad 27))) 1 (some (ad 37))) 2 (some (ad 47))) 3 (some (ad 57))) 1 (ad 37) (ad 43) (ad 45) (ad 46) (ad 38) (J 10) (J 11) (J 12) (K 4) (by decide) rfl (SX_cd hS9.2.1)) ⟨Nat.le_of_ble_eq_true rfl, Nat.le_of_ble_eq_true rfl, Nat.le_refl _, Nat.le_refl _⟩ [0, 16, 37] [1, 2, 3, 4, 5, 6, 7, 8, 9, 10, 11, 12, 13, 14, 15, 17, 18, 19, 20, 21, 22, 23, 24, 25, 26, 27, 28, 29, 30, 31, 32, 33, 34, 35, 36, 38, 39, 40, 41, 42, 43, 44, 45, 46, 47, 48, 49, 50, 51, 52, 53, 54, 55, 56, 57, 58, 59, 60, 61, 62, 63, 64, 65, 66] [0, 16, 37] 67 rfl (by decide) (by decide) (by decide) (by decide) (by decide) (fun r9 u9 h9 => ?_)
          have er := h9
          subst er
          exact ⟨(Z, F, L, J, K), ⟨congrArg Int32.toInt64 (SX_ab1 hS9.2.1), ⟨hT, hO, hG, hS9, hW9⟩⟩, (by repeat (first | refine List.forall_mem_cons.mpr ⟨⟨_, rfl, rfl⟩, ?_⟩ | exact fun _ h => absurd h List.not_mem_nil)), rfl, rfl⟩
        · skip
          refine gFr_i (c_X3_about1 l G sz x0 (ad 1) (ad 3) (ad 15) (ad 16) (ad 17) (ad 5) (ad 7) (va_up (va_up (va_up (va_up (fun _ => none) 0 (some (ad 27))) 1 (some (ad 37))) 2 (some (ad 47))) 3 (some (ad 57))) 2 (ad 47) (ad 53) (ad 55) (ad 56) (ad 48) (J 15) (J 16) (J 17) (K 6) (by decide) rfl (SX_cd hS9.2.2.1)) ⟨Nat.le_of_ble_eq_true rfl, Nat.le_of_ble_eq_true rfl, Nat.le_refl _, Nat.le_refl _⟩ [0, 16, 47] [1, 2, 3, 4, 5, 6, 7, 8, 9, 10, 11, 12, 13, 14, 15, 17, 18, 19, 20, 21, 22, 23, 24, 25, 26, 27, 28, 29, 30, 31, 32, 33, 34, 35, 36, 37, 38, 39, 40, 41, 42, 43, 44, 45, 46, 48, 49, 50, 51, 52, 53, 54, 55, 56, 57, 58, 59, 60, 61, 62, 63, 64, 65, 66] [0, 16, 47] 67 rfl (by decide) (by decide) (by decide) (by decide) (by decide) (fun r9 u9 h9 => ?_)
          have er := h9
          subst er
          exact ⟨(Z, F, L, J, K), ⟨congrArg Int32.toInt64 (SX_ab1 hS9.2.2.1), ⟨hT, hO, hG, hS9, hW9⟩⟩, (by repeat (first | refine List.forall_mem_cons.mpr ⟨⟨_, rfl, rfl⟩, ?_⟩ | exact fun _ h => absurd h List.not_mem_nil)), rfl, rfl⟩
        · skip
          refine gFr_i (c_X3_about1 l G sz x0 (ad 1) (ad 3) (ad 15) (ad 16) (ad 17) (ad 5) (ad 7) (va_up (va_up (va_up (va_up (fun _ => none) 0 (some (ad 27))) 1 (some (ad 37))) 2 (some (ad 47))) 3 (some (ad 57))) 3 (ad 57) (ad 63) (ad 65) (ad 66) (ad 58) (J 20) (J 21) (J 22) (K 8) (by decide) rfl (SX_cd hS9.2.2.2)) ⟨Nat.le_of_ble_eq_true rfl, Nat.le_of_ble_eq_true rfl, Nat.le_refl _, Nat.le_refl _⟩ [0, 16, 57] [1, 2, 3, 4, 5, 6, 7, 8, 9, 10, 11, 12, 13, 14, 15, 17, 18, 19, 20, 21, 22, 23, 24, 25, 26, 27, 28, 29, 30, 31, 32, 33, 34, 35, 36, 37, 38, 39, 40, 41, 42, 43, 44, 45, 46, 47, 48, 49, 50, 51, 52, 53, 54, 55, 56, 58, 59, 60, 61, 62, 63, 64, 65, 66] [0, 16, 57] 67 rfl (by decide) (by decide) (by decide) (by decide) (by decide) (fun r9 u9 h9 => ?_)
          have er := h9
          subst er
          exact ⟨(Z, F, L, J, K), ⟨congrArg Int32.toInt64 (SX_ab1 hS9.2.2.2), ⟨hT, hO, hG, hS9, hW9⟩⟩, (by repeat (first | refine List.forall_mem_cons.mpr ⟨⟨_, rfl, rfl⟩, ?_⟩ | exact fun _ h => absurd h List.not_mem_nil)), rfl, rfl⟩
      · skip
        rcases (show s = 0 ∨ s = 1 ∨ s = 2 ∨ s = 3 by omega) with rfl | rfl | rfl | rfl
        · skip
          refine gFr_i (c_X3_about2 l G sz x0 (ad 1) (ad 3) (ad 15) (ad 16) (ad 17) (ad 5) (ad 7) (va_up (va_up (va_up (va_up (fun _ => none) 0 (some (ad 27))) 1 (some (ad 37))) 2 (some (ad 47))) 3 (some (ad 57))) 0 (ad 27) (ad 33) (ad 35) (ad 36) (ad 28) (J 5) (J 6) (J 7) (K 2) (by decide) rfl (SX_ed hS9.1)) ⟨Nat.le_of_ble_eq_true rfl, Nat.le_of_ble_eq_true rfl, Nat.le_refl _, Nat.le_refl _⟩ [0, 16, 27] [1, 2, 3, 4, 5, 6, 7, 8, 9, 10, 11, 12, 13, 14, 15, 17, 18, 19, 20, 21, 22, 23, 24, 25, 26, 28, 29, 30, 31, 32, 33, 34, 35, 36, 37, 38, 39, 40, 41, 42, 43, 44, 45, 46, 47, 48, 49, 50, 51, 52, 53, 54, 55, 56, 57, 58, 59, 60, 61, 62, 63, 64, 65, 66] [0, 16, 27] 67 rfl (by decide) (by decide) (by decide) (by decide) (by decide) (fun r9 u9 h9 => ?_)
          have er := h9
          subst er
          exact ⟨(Z, F, L, J, K), ⟨congrArg Int32.toInt64 (SX_ab2 hS9.1), ⟨hT, hO, hG, hS9, hW9⟩⟩, (by repeat (first | refine List.forall_mem_cons.mpr ⟨⟨_, rfl, rfl⟩, ?_⟩ | exact fun _ h => absurd h List.not_mem_nil)), rfl, rfl⟩
        · skip
          refine gFr_i (c_X3_about2 l G sz x0 (ad 1) (ad 3) (ad 15) (ad 16) (ad 17) (ad 5) (ad 7) (va_up (va_up (va_up (va_up (fun _ => none) 0 (some (ad 27))) 1 (some (ad 37))) 2 (some (ad 47))) 3 (some (ad 57))) 1 (ad 37) (ad 43) (ad 45) (ad 46) (ad 38) (J 10) (J 11) (J 12) (K 4) (by decide) rfl (SX_ed hS9.2.1)) ⟨Nat.le_of_ble_eq_true rfl, Nat.le_of_ble_eq_true rfl, Nat.le_refl _, Nat.le_refl _⟩ [0, 16, 37] [1, 2, 3, 4, 5, 6, 7, 8, 9, 10, 11, 12, 13, 14, 15, 17, 18, 19, 20, 21, 22, 23, 24, 25, 26, 27, 28, 29, 30, 31, 32, 33, 34, 35, 36, 38, 39, 40, 41, 42, 43, 44, 45, 46, 47, 48, 49, 50, 51, 52, 53, 54, 55, 56, 57, 58, 59, 60, 61, 62, 63, 64, 65, 66] [0, 16, 37] 67 rfl (by decide) (by decide) (by decide) (by decide) (by decide) (fun r9 u9 h9 => ?_)
          have er := h9
          subst er
          exact ⟨(Z, F, L, J, K), ⟨congrArg Int32.toInt64 (SX_ab2 hS9.2.1), ⟨hT, hO, hG, hS9, hW9⟩⟩, (by repeat (first | refine List.forall_mem_cons.mpr ⟨⟨_, rfl, rfl⟩, ?_⟩ | exact fun _ h => absurd h List.not_mem_nil)), rfl, rfl⟩
        · skip
          refine gFr_i (c_X3_about2 l G sz x0 (ad 1) (ad 3) (ad 15) (ad 16) (ad 17) (ad 5) (ad 7) (va_up (va_up (va_up (va_up (fun _ => none) 0 (some (ad 27))) 1 (some (ad 37))) 2 (some (ad 47))) 3 (some (ad 57))) 2 (ad 47) (ad 53) (ad 55) (ad 56) (ad 48) (J 15) (J 16) (J 17) (K 6) (by decide) rfl (SX_ed hS9.2.2.1)) ⟨Nat.le_of_ble_eq_true rfl, Nat.le_of_ble_eq_true rfl, Nat.le_refl _, Nat.le_refl _⟩ [0, 16, 47] [1, 2, 3, 4, 5, 6, 7, 8, 9, 10, 11, 12, 13, 14, 15, 17, 18, 19, 20, 21, 22, 23, 24, 25, 26, 27, 28, 29, 30, 31, 32, 33, 34, 35, 36, 37, 38, 39, 40, 41, 42, 43, 44, 45, 46, 48, 49, 50, 51, 52, 53, 54, 55, 56, 57, 58, 59, 60, 61, 62, 63, 64, 65, 66] [0, 16, 47] 67 rfl (by decide) (by decide) (by decide) (by decide) (by decide) (fun r9 u9 h9 => ?_)
          have er := h9
          subst er
          exact ⟨(Z, F, L, J, K), ⟨congrArg Int32.toInt64 (SX_ab2 hS9.2.2.1), ⟨hT, hO, hG, hS9, hW9⟩⟩, (by repeat (first | refine List.forall_mem_cons.mpr ⟨⟨_, rfl, rfl⟩, ?_⟩ | exact fun _ h => absurd h List.not_mem_nil)), rfl, rfl⟩
        · skip
          refine gFr_i (c_X3_about2 l G sz x0 (ad 1) (ad 3) (ad 15) (ad 16) (ad 17) (ad 5) (ad 7) (va_up (va_up (va_up (va_up (fun _ => none) 0 (some (ad 27))) 1 (some (ad 37))) 2 (some (ad 47))) 3 (some (ad 57))) 3 (ad 57) (ad 63) (ad 65) (ad 66) (ad 58) (J 20) (J 21) (J 22) (K 8) (by decide) rfl (SX_ed hS9.2.2.2)) ⟨Nat.le_of_ble_eq_true rfl, Nat.le_of_ble_eq_true rfl, Nat.le_refl _, Nat.le_refl _⟩ [0, 16, 57] [1, 2, 3, 4, 5, 6, 7, 8, 9, 10, 11, 12, 13, 14, 15, 17, 18, 19, 20, 21, 22, 23, 24, 25, 26, 27, 28, 29, 30, 31, 32, 33, 34, 35, 36, 37, 38, 39, 40, 41, 42, 43, 44, 45, 46, 47, 48, 49, 50, 51, 52, 53, 54, 55, 56, 58, 59, 60, 61, 62, 63, 64, 65, 66] [0, 16, 57] 67 rfl (by decide) (by decide) (by decide) (by decide) (by decide) (fun r9 u9 h9 => ?_)
          have er := h9
          subst er
          exact ⟨(Z, F, L, J, K), ⟨congrArg Int32.toInt64 (SX_ab2 hS9.2.2.2), ⟨hT, hO, hG, hS9, hW9⟩⟩, (by repeat (first | refine List.forall_mem_cons.mpr ⟨⟨_, rfl, rfl⟩, ?_⟩ | exact fun _ h => absurd h List.not_mem_nil)), rfl, rfl⟩
      · skip
        rcases (show s = 0 ∨ s = 1 ∨ s = 2 ∨ s = 3 by omega) with rfl | rfl | rfl | rfl
        · skip
          refine gFr_i (c_X3_about3 l G sz x0 (ad 1) (ad 3) (ad 15) (ad 16) (ad 17) (ad 5) (ad 7) (va_up (va_up (va_up (va_up (fun _ => none) 0 (some (ad 27))) 1 (some (ad 37))) 2 (some (ad 47))) 3 (some (ad 57))) 0 (ad 27) (ad 33) (ad 35) (ad 36) (ad 28) (J 5) (J 6) (J 7) (K 2) (by decide) rfl) ⟨Nat.le_of_ble_eq_true rfl, Nat.le_of_ble_eq_true rfl, Nat.le_refl _, Nat.le_refl _⟩ [0, 16, 27] [1, 2, 3, 4, 5, 6, 7, 8, 9, 10, 11, 12, 13, 14, 15, 17, 18, 19, 20, 21, 22, 23, 24, 25, 26, 28, 29, 30, 31, 32, 33, 34, 35, 36, 37, 38, 39, 40, 41, 42, 43, 44, 45, 46, 47, 48, 49, 50, 51, 52, 53, 54, 55, 56, 57, 58, 59, 60, 61, 62, 63, 64, 65, 66] [0, 16, 27] 67 rfl (by decide) (by decide) (by decide) (by decide) (by decide) (fun r9 u9 h9 => ?_)
          have er := h9
          subst er
          exact ⟨(Z, F, L, J, K), ⟨congrArg Int32.toInt64 (SX_ab3 hS9.1), ⟨hT, hO, hG, hS9, hW9⟩⟩, (by repeat (first | refine List.forall_mem_cons.mpr ⟨⟨_, rfl, rfl⟩, ?_⟩ | exact fun _ h => absurd h List.not_mem_nil)), rfl, rfl⟩
        · skip
          refine gFr_i (c_X3_about3 l G sz x0 (ad 1) (ad 3) (ad 15) (ad 16) (ad 17) (ad 5) (ad 7) (va_up (va_up (va_up (va_up (fun _ => none) 0 (some (ad 27))) 1 (some (ad 37))) 2 (some (ad 47))) 3 (some (ad 57))) 1 (ad 37) (ad 43) (ad 45) (ad 46) (ad 38) (J 10) (J 11) (J 12) (K 4) (by decide) rfl) ⟨Nat.le_of_ble_eq_true rfl, Nat.le_of_ble_eq_true rfl, Nat.le_refl _, Nat.le_refl _⟩ [0, 16, 37] [1, 2, 3, 4, 5, 6, 7, 8, 9, 10, 11, 12, 13, 14, 15, 17, 18, 19, 20, 21, 22, 23, 24, 25, 26, 27, 28, 29, 30, 31, 32, 33, 34, 35, 36, 38, 39, 40, 41, 42, 43, 44, 45, 46, 47, 48, 49, 50, 51, 52, 53, 54, 55, 56, 57, 58, 59, 60, 61, 62, 63, 64, 65, 66] [0, 16, 37] 67 rfl (by decide) (by decide) (by decide) (by decide) (by decide) (fun r9 u9 h9 => ?_)
          have er := h9
          subst er
          exact ⟨(Z, F, L, J, K), ⟨congrArg Int32.toInt64 (SX_ab3 hS9.2.1), ⟨hT, hO, hG, hS9, hW9⟩⟩, (by repeat (first | refine List.forall_mem_cons.mpr ⟨⟨_, rfl, rfl⟩, ?_⟩ | exact fun _ h => absurd h List.not_mem_nil)), rfl, rfl⟩
        · skip
          refine gFr_i (c_X3_about3 l G sz x0 (ad 1) (ad 3) (ad 15) (ad 16) (ad 17) (ad 5) (ad 7) (va_up (va_up (va_up (va_up (fun _ => none) 0 (some (ad 27))) 1 (some (ad 37))) 2 (some (ad 47))) 3 (some (ad 57))) 2 (ad 47) (ad 53) (ad 55) (ad 56) (ad 48) (J 15) (J 16) (J 17) (K 6) (by decide) rfl) ⟨Nat.le_of_ble_eq_true rfl, Nat.le_of_ble_eq_true rfl, Nat.le_refl _, Nat.le_refl _⟩ [0, 16, 47] [1, 2, 3, 4, 5, 6, 7, 8, 9, 10, 11, 12, 13, 14, 15, 17, 18, 19, 20, 21, 22, 23, 24, 25, 26, 27, 28, 29, 30, 31, 32, 33, 34, 35, 36, 37, 38, 39, 40, 41, 42, 43, 44, 45, 46, 48, 49, 50, 51, 52, 53, 54, 55, 56, 57, 58, 59, 60, 61, 62, 63, 64, 65, 66] [0, 16, 47] 67 rfl (by decide) (by decide) (by decide) (by decide) (by decide) (fun r9 u9 h9 => ?_)
          have er := h9
          subst er
          exact ⟨(Z, F, L, J, K), ⟨congrArg Int32.toInt64 (SX_ab3 hS9.2.2.1), ⟨hT, hO, hG, hS9, hW9⟩⟩, (by repeat (first | refine List.forall_mem_cons.mpr ⟨⟨_, rfl, rfl⟩, ?_⟩ | exact fun _ h => absurd h List.not_mem_nil)), rfl, rfl⟩
        · skip
          refine gFr_i (c_X3_about3 l G sz x0 (ad 1) (ad 3) (ad 15) (ad 16) (ad 17) (ad 5) (ad 7) (va_up (va_up (va_up (va_up (fun _ => none) 0 (some (ad 27))) 1 (some (ad 37))) 2 (some (ad 47))) 3 (some (ad 57))) 3 (ad 57) (ad 63) (ad 65) (ad 66) (ad 58) (J 20) (J 21) (J 22) (K 8) (by decide) rfl) ⟨Nat.le_of_ble_eq_true rfl, Nat.le_of_ble_eq_true rfl, Nat.le_refl _, Nat.le_refl _⟩ [0, 16, 57] [1, 2, 3, 4, 5, 6, 7, 8, 9, 10, 11, 12, 13, 14, 15, 17, 18, 19, 20, 21, 22, 23, 24, 25, 26, 27, 28, 29, 30, 31, 32, 33, 34, 35, 36, 37, 38, 39, 40, 41, 42, 43, 44, 45, 46, 47, 48, 49, 50, 51, 52, 53, 54, 55, 56, 58, 59, 60, 61, 62, 63, 64, 65, 66] [0, 16, 57] 67 rfl (by decide) (by decide) (by decide) (by decide) (by decide) (fun r9 u9 h9 => ?_)
          have er := h9
          subst er
          exact ⟨(Z, F, L, J, K), ⟨congrArg Int32.toInt64 (SX_ab3 hS9.2.2.2), ⟨hT, hO, hG, hS9, hW9⟩⟩, (by repeat (first | refine List.forall_mem_cons.mpr ⟨⟨_, rfl, rfl⟩, ?_⟩ | exact fun _ h => absurd h List.not_mem_nil)), rfl, rfl⟩
set_option maxRecDepth 100000 in
set_option maxHeartbeats 4000000 in
theorem x_hold (l : Launch) (hT9 : l.stackTraces = false) (G : GW) (x0 : Nat) (ad : Nat → Nat) (u : XU) (A : AS) (x : Int32) (E : AO) (hR : XR u A) (hE : holdA A x = E) : (E.1 = 0 ∧ ∀ sz : Nat, Met l yX3_hold (Cond.code yX3_hold cX3_hold 3 (some FieldType.int) :: UW) ({ frames := 7, cells := 0, slots := 0, locals := 103 } : Room) (va_Pc [.ref x0, .int x] (gPre G (xW G x0 ad u) sz)) (va_Qi (fun r v => r.toInt64 = E.2.1 ∧ XR v E.2.2) (fun v => gPost G (va_A (xW G x0 ad u) sz) (xW G x0 ad v)) (va_A (xW G x0 ad u) sz)) 0 0 (va_A (xW G x0 ad u) sz)) ∨ (E = (1, 0, A) ∧ ∀ sz : Nat, vx_Met l yX3_hold (Cond.code yX3_hold cX3_hold 3 (some FieldType.int) :: UW) ({ frames := 7, cells := 1, slots := 6, locals := 103 } : Room) (va_Pc [.ref x0, .int x] (gPre G (xW G x0 ad u) sz)) gNo (gXC G xIOB (va_A (xW G x0 ad u) sz) (xW G x0 ad u)) 1 6 (va_A (xW G x0 ad u) sz)) := by
  obtain ⟨Z, F, L, J, K⟩ := u
  obtain ⟨hT, hO, hG, hS9, hW9⟩ := hR
  have hT : RowR 600 (F 0) (Z 0) A.1 := hT
  have hO : RowR 16320 (F 1) (Z 1) A.2.1 := hO
  have hG : RowR 600 (F 4) (Z 4) (A.2.2.1 0) ∧ RowR 600 (F 5) (Z 5) (A.2.2.1 1) ∧ RowR 600 (F 6) (Z 6) (A.2.2.1 2) := hG
  have hS9 : SX (F 13) (J 5) (J 6) (J 7) (K 2) (J 8) (J 9) (K 3) (L 4) (L 7) (A.2.2.2 0) ∧ SX (F 16) (J 10) (J 11) (J 12) (K 4) (J 13) (J 14) (K 5) (L 8) (L 11) (A.2.2.2 1) ∧ SX (F 19) (J 15) (J 16) (J 17) (K 6) (J 18) (J 19) (K 7) (L 12) (L 15) (A.2.2.2 2) ∧ SX (F 22) (J 20) (J 21) (J 22) (K 8) (J 23) (J 24) (K 9) (L 16) (L 19) (A.2.2.2 3) := hS9
  have hW9 : sb_Fit (F 10) := hW9
  unfold holdA at hE
  by_cases h1 : x < 0 ∨ 2 < x
  · rw [if_pos h1] at hE
    subst hE
    refine Or.inr (⟨rfl, fun sz => ?_⟩)
    exact gFrX (c_X3_holdT l hT9 G sz x0 (ad 1) (ad 3) (ad 15) (ad 16) (ad 17) (ad 5) (ad 7) x h1) ⟨Nat.le_of_ble_eq_true rfl, Nat.le_of_ble_eq_true rfl, Nat.le_refl _, Nat.le_refl _⟩ [0] [1, 2, 3, 4, 5, 6, 7, 8, 9, 10, 11, 12, 13, 14, 15, 16, 17, 18, 19, 20, 21, 22, 23, 24, 25, 26, 27, 28, 29, 30, 31, 32, 33, 34, 35, 36, 37, 38, 39, 40, 41, 42, 43, 44, 45, 46, 47, 48, 49, 50, 51, 52, 53, 54, 55, 56, 57, 58, 59, 60, 61, 62, 63, 64, 65, 66] 67 rfl (by decide) (by decide) (by decide) (by decide) (by decide) rfl
  · rw [if_neg h1] at hE
    obtain ⟨s, hj, rfl, h4⟩ := rg_of (y := 2) (n := 2) (by decide) h1
    rw [h4] at hE
    subst hE
    refine Or.inl (⟨rfl, fun sz => ?_⟩)
    rcases (show s = 0 ∨ s = 1 ∨ s = 2 by omega) with rfl | rfl | rfl
    · skip
      refine gFr_i (c_X3_hold l G sz x0 (ad 1) (ad 3) (ad 15) (ad 16) (ad 17) (ad 5) (ad 7) (va_up (va_up (va_up (fun _ => none) 0 (some (ad 9))) 1 (some (ad 11))) 2 (some (ad 13))) 0 (ad 9) (ad 10) (F 4) (Z 4) (ad 2) (F 0) (Z 0) A.1 (by decide) rfl hT) ⟨Nat.le_of_ble_eq_true rfl, Nat.le_of_ble_eq_true rfl, Nat.le_refl _, Nat.le_refl _⟩ [0, 15, 9, 10, 1, 2] [3, 4, 5, 6, 7, 8, 11, 12, 13, 14, 16, 17, 18, 19, 20, 21, 22, 23, 24, 25, 26, 27, 28, 29, 30, 31, 32, 33, 34, 35, 36, 37, 38, 39, 40, 41, 42, 43, 44, 45, 46, 47, 48, 49, 50, 51, 52, 53, 54, 55, 56, 57, 58, 59, 60, 61, 62, 63, 64, 65, 66] [0, 15, 9, 10, 1, 2] 67 rfl (by decide) (by decide) (by decide) (by decide) (by decide) (fun r9 u9 h9 => ?_)
      obtain ⟨fg1, zg1⟩ := u9
      obtain ⟨er, hf⟩ := h9
      subst er
      have hf : RowR 600 fg1 zg1 A.1 := hf
      exact ⟨((va_up (va_up Z 4 zg1) 0 0), (va_up F 4 fg1), L, J, K), ⟨row_ret hf, ⟨RowR.nil (by decide), hO, ⟨hf, hG.2.1, hG.2.2⟩, hS9, hW9⟩⟩, (by repeat (first | refine List.forall_mem_cons.mpr ⟨⟨_, rfl, rfl⟩, ?_⟩ | exact fun _ h => absurd h List.not_mem_nil)), rfl, rfl⟩
    · skip
      refine gFr_i (c_X3_hold l G sz x0 (ad 1) (ad 3) (ad 15) (ad 16) (ad 17) (ad 5) (ad 7) (va_up (va_up (va_up (fun _ => none) 0 (some (ad 9))) 1 (some (ad 11))) 2 (some (ad 13))) 1 (ad 11) (ad 12) (F 5) (Z 5) (ad 2) (F 0) (Z 0) A.1 (by decide) rfl hT) ⟨Nat.le_of_ble_eq_true rfl, Nat.le_of_ble_eq_true rfl, Nat.le_refl _, Nat.le_refl _⟩ [0, 15, 11, 12, 1, 2] [3, 4, 5, 6, 7, 8, 9, 10, 13, 14, 16, 17, 18, 19, 20, 21, 22, 23, 24, 25, 26, 27, 28, 29, 30, 31, 32, 33, 34, 35, 36, 37, 38, 39, 40, 41, 42, 43, 44, 45, 46, 47, 48, 49, 50, 51, 52, 53, 54, 55, 56, 57, 58, 59, 60, 61, 62, 63, 64, 65, 66] [0, 15, 11, 12, 1, 2] 67 rfl (by decide) (by decide) (by decide) (by decide) (by decide) (fun r9 u9 h9 => ?_)
      obtain ⟨fg1, zg1⟩ := u9
      obtain ⟨er, hf⟩ := h9
      subst er
      have hf : RowR 600 fg1 zg1 A.1 := hf
      exact ⟨((va_up (va_up Z 5 zg1) 0 0), (va_up F 5 fg1), L, J, K), ⟨row_ret hf, ⟨RowR.nil (by decide), hO, ⟨hG.1, hf, hG.2.2⟩, hS9, hW9⟩⟩, (by repeat (first | refine List.forall_mem_cons.mpr ⟨⟨_, rfl, rfl⟩, ?_⟩ | exact fun _ h => absurd h List.not_mem_nil)), rfl, rfl⟩
    · skip
      refine gFr_i (c_X3_hold l G sz x0 (ad 1) (ad 3) (ad 15) (ad 16) (ad 17) (ad 5) (ad 7) (va_up (va_up (va_up (fun _ => none) 0 (some (ad 9))) 1 (some (ad 11))) 2 (some (ad 13))) 2 (ad 13) (ad 14) (F 6) (Z 6) (ad 2) (F 0) (Z 0) A.1 (by decide) rfl hT) ⟨Nat.le_of_ble_eq_true rfl, Nat.le_of_ble_eq_true rfl, Nat.le_refl _, Nat.le_refl _⟩ [0, 15, 13, 14, 1, 2] [3, 4, 5, 6, 7, 8, 9, 10, 11, 12, 16, 17, 18, 19, 20, 21, 22, 23, 24, 25, 26, 27, 28, 29, 30, 31, 32, 33, 34, 35, 36, 37, 38, 39, 40, 41, 42, 43, 44, 45, 46, 47, 48, 49, 50, 51, 52, 53, 54, 55, 56, 57, 58, 59, 60, 61, 62, 63, 64, 65, 66] [0, 15, 13, 14, 1, 2] 67 rfl (by decide) (by decide) (by decide) (by decide) (by decide) (fun r9 u9 h9 => ?_)
      obtain ⟨fg1, zg1⟩ := u9
      obtain ⟨er, hf⟩ := h9
      subst er
      have hf : RowR 600 fg1 zg1 A.1 := hf
      exact ⟨((va_up (va_up Z 6 zg1) 0 0), (va_up F 6 fg1), L, J, K), ⟨row_ret hf, ⟨RowR.nil (by decide), hO, ⟨hG.1, hG.2.1, hf⟩, hS9, hW9⟩⟩, (by repeat (first | refine List.forall_mem_cons.mpr ⟨⟨_, rfl, rfl⟩, ?_⟩ | exact fun _ h => absurd h List.not_mem_nil)), rfl, rfl⟩
set_option maxRecDepth 100000 in
set_option maxHeartbeats 4000000 in
theorem x_keep (l : Launch) (hT9 : l.stackTraces = false) (G : GW) (x0 : Nat) (ad : Nat → Nat) (u : XU) (A : AS) (x : Int32) (E : AO) (hR : XR u A) (hE : keepA A x = E) : (E.1 = 0 ∧ ∀ sz : Nat, Met l yX3_keep (Cond.code yX3_keep cX3_keep 3 (some FieldType.int) :: UW) ({ frames := 7, cells := 0, slots := 0, locals := 103 } : Room) (va_Pc [.ref x0, .int x] (gPre G (xW G x0 ad u) sz)) (va_Qi (fun r v => r.toInt64 = E.2.1 ∧ XR v E.2.2) (fun v => gPost G (va_A (xW G x0 ad u) sz) (xW G x0 ad v)) (va_A (xW G x0 ad u) sz)) 0 0 (va_A (xW G x0 ad u) sz)) ∨ (E = (1, 0, A) ∧ ∀ sz : Nat, vx_Met l yX3_keep (Cond.code yX3_keep cX3_keep 3 (some FieldType.int) :: UW) ({ frames := 7, cells := 1, slots := 6, locals := 103 } : Room) (va_Pc [.ref x0, .int x] (gPre G (xW G x0 ad u) sz)) gNo (gXC G xIOB (va_A (xW G x0 ad u) sz) (xW G x0 ad u)) 1 6 (va_A (xW G x0 ad u) sz)) := by
  obtain ⟨Z, F, L, J, K⟩ := u
  obtain ⟨hT, hO, hG, hS9, hW9⟩ := hR
  have hT : RowR 600 (F 0) (Z 0) A.1 := hT
  have hO : RowR 16320 (F 1) (Z 1) A.2.1 := hO
  have hG : RowR 600 (F 4) (Z 4) (A.2.2.1 0) ∧ RowR 600 (F 5) (Z 5) (A.2.2.1 1) ∧ RowR 600 (F 6) (Z 6) (A.2.2.1 2) := hG
  have hS9 : SX (F 13) (J 5) (J 6) (J 7) (K 2) (J 8) (J 9) (K 3) (L 4) (L 7) (A.2.2.2 0) ∧ SX (F 16) (J 10) (J 11) (J 12) (K 4) (J 13) (J 14) (K 5) (L 8) (L 11) (A.2.2.2 1) ∧ SX (F 19) (J 15) (J 16) (J 17) (K 6) (J 18) (J 19) (K 7) (L 12) (L 15) (A.2.2.2 2) ∧ SX (F 22) (J 20) (J 21) (J 22) (K 8) (J 23) (J 24) (K 9) (L 16) (L 19) (A.2.2.2 3) := hS9
  have hW9 : sb_Fit (F 10) := hW9
  unfold keepA at hE
  by_cases h1 : x < 0 ∨ 2 < x
  · rw [if_pos h1] at hE
    subst hE
    refine Or.inr (⟨rfl, fun sz => ?_⟩)
    exact gFrX (c_X3_keepT l hT9 G sz x0 (ad 1) (ad 3) (ad 15) (ad 16) (ad 17) (ad 5) (ad 7) x h1) ⟨Nat.le_of_ble_eq_true rfl, Nat.le_of_ble_eq_true rfl, Nat.le_refl _, Nat.le_refl _⟩ [0] [1, 2, 3, 4, 5, 6, 7, 8, 9, 10, 11, 12, 13, 14, 15, 16, 17, 18, 19, 20, 21, 22, 23, 24, 25, 26, 27, 28, 29, 30, 31, 32, 33, 34, 35, 36, 37, 38, 39, 40, 41, 42, 43, 44, 45, 46, 47, 48, 49, 50, 51, 52, 53, 54, 55, 56, 57, 58, 59, 60, 61, 62, 63, 64, 65, 66] 67 rfl (by decide) (by decide) (by decide) (by decide) (by decide) rfl
  · rw [if_neg h1] at hE
    obtain ⟨s, hj, rfl, h4⟩ := rg_of (y := 2) (n := 2) (by decide) h1
    rw [h4] at hE
    by_cases h5 : 600 < A.2.1.length
    · rw [if_pos h5] at hE
      subst hE
      refine Or.inl (⟨rfl, fun sz => ?_⟩)
      rcases (show s = 0 ∨ s = 1 ∨ s = 2 by omega) with rfl | rfl | rfl
      · skip
        refine gFr_i (c_X3_keepN l G sz x0 (ad 1) (ad 3) (ad 15) (ad 16) (ad 17) (ad 5) (ad 7) (va_up (va_up (va_up (fun _ => none) 0 (some (ad 9))) 1 (some (ad 11))) 2 (some (ad 13))) 0 (ad 9) (ad 10) (F 4) (Z 4) (ad 4) (F 1) (Z 1) (by decide) rfl (by rw [hO.1]; exact h5) hO.z31) ⟨Nat.le_of_ble_eq_true rfl, Nat.le_of_ble_eq_true rfl, Nat.le_refl _, Nat.le_refl _⟩ [0, 15, 9, 10, 3, 4] [1, 2, 5, 6, 7, 8, 11, 12, 13, 14, 16, 17, 18, 19, 20, 21, 22, 23, 24, 25, 26, 27, 28, 29, 30, 31, 32, 33, 34, 35, 36, 37, 38, 39, 40, 41, 42, 43, 44, 45, 46, 47, 48, 49, 50, 51, 52, 53, 54, 55, 56, 57, 58, 59, 60, 61, 62, 63, 64, 65, 66] [0, 15, 9, 10, 3, 4] 67 rfl (by decide) (by decide) (by decide) (by decide) (by decide) (fun r9 u9 h9 => ?_)
        have er := h9
        subst er
        exact ⟨(Z, F, L, J, K), ⟨rfl, ⟨hT, hO, hG, hS9, hW9⟩⟩, (by repeat (first | refine List.forall_mem_cons.mpr ⟨⟨_, rfl, rfl⟩, ?_⟩ | exact fun _ h => absurd h List.not_mem_nil)), rfl, rfl⟩
      · skip
        refine gFr_i (c_X3_keepN l G sz x0 (ad 1) (ad 3) (ad 15) (ad 16) (ad 17) (ad 5) (ad 7) (va_up (va_up (va_up (fun _ => none) 0 (some (ad 9))) 1 (some (ad 11))) 2 (some (ad 13))) 1 (ad 11) (ad 12) (F 5) (Z 5) (ad 4) (F 1) (Z 1) (by decide) rfl (by rw [hO.1]; exact h5) hO.z31) ⟨Nat.le_of_ble_eq_true rfl, Nat.le_of_ble_eq_true rfl, Nat.le_refl _, Nat.le_refl _⟩ [0, 15, 11, 12, 3, 4] [1, 2, 5, 6, 7, 8, 9, 10, 13, 14, 16, 17, 18, 19, 20, 21, 22, 23, 24, 25, 26, 27, 28, 29, 30, 31, 32, 33, 34, 35, 36, 37, 38, 39, 40, 41, 42, 43, 44, 45, 46, 47, 48, 49, 50, 51, 52, 53, 54, 55, 56, 57, 58, 59, 60, 61, 62, 63, 64, 65, 66] [0, 15, 11, 12, 3, 4] 67 rfl (by decide) (by decide) (by decide) (by decide) (by decide) (fun r9 u9 h9 => ?_)
        have er := h9
        subst er
        exact ⟨(Z, F, L, J, K), ⟨rfl, ⟨hT, hO, hG, hS9, hW9⟩⟩, (by repeat (first | refine List.forall_mem_cons.mpr ⟨⟨_, rfl, rfl⟩, ?_⟩ | exact fun _ h => absurd h List.not_mem_nil)), rfl, rfl⟩
      · skip
        refine gFr_i (c_X3_keepN l G sz x0 (ad 1) (ad 3) (ad 15) (ad 16) (ad 17) (ad 5) (ad 7) (va_up (va_up (va_up (fun _ => none) 0 (some (ad 9))) 1 (some (ad 11))) 2 (some (ad 13))) 2 (ad 13) (ad 14) (F 6) (Z 6) (ad 4) (F 1) (Z 1) (by decide) rfl (by rw [hO.1]; exact h5) hO.z31) ⟨Nat.le_of_ble_eq_true rfl, Nat.le_of_ble_eq_true rfl, Nat.le_refl _, Nat.le_refl _⟩ [0, 15, 13, 14, 3, 4] [1, 2, 5, 6, 7, 8, 9, 10, 11, 12, 16, 17, 18, 19, 20, 21, 22, 23, 24, 25, 26, 27, 28, 29, 30, 31, 32, 33, 34, 35, 36, 37, 38, 39, 40, 41, 42, 43, 44, 45, 46, 47, 48, 49, 50, 51, 52, 53, 54, 55, 56, 57, 58, 59, 60, 61, 62, 63, 64, 65, 66] [0, 15, 13, 14, 3, 4] 67 rfl (by decide) (by decide) (by decide) (by decide) (by decide) (fun r9 u9 h9 => ?_)
        have er := h9
        subst er
        exact ⟨(Z, F, L, J, K), ⟨rfl, ⟨hT, hO, hG, hS9, hW9⟩⟩, (by repeat (first | refine List.forall_mem_cons.mpr ⟨⟨_, rfl, rfl⟩, ?_⟩ | exact fun _ h => absurd h List.not_mem_nil)), rfl, rfl⟩
    · rw [if_neg h5] at hE
      subst hE
      refine Or.inl (⟨rfl, fun sz => ?_⟩)
      rcases (show s = 0 ∨ s = 1 ∨ s = 2 by omega) with rfl | rfl | rfl
      · skip
        refine gFr_i (c_X3_keep l G sz x0 (ad 1) (ad 3) (ad 15) (ad 16) (ad 17) (ad 5) (ad 7) (va_up (va_up (va_up (fun _ => none) 0 (some (ad 9))) 1 (some (ad 11))) 2 (some (ad 13))) 0 (ad 9) (ad 10) (F 4) (Z 4) (ad 4) (F 1) (Z 1) A.2.1 (by decide) rfl hO (by rw [hO.1]; omega)) ⟨Nat.le_of_ble_eq_true rfl, Nat.le_of_ble_eq_true rfl, Nat.le_refl _, Nat.le_refl _⟩ [0, 15, 9, 10, 3, 4] [1, 2, 5, 6, 7, 8, 11, 12, 13, 14, 16, 17, 18, 19, 20, 21, 22, 23, 24, 25, 26, 27, 28, 29, 30, 31, 32, 33, 34, 35, 36, 37, 38, 39, 40, 41, 42, 43, 44, 45, 46, 47, 48, 49, 50, 51, 52, 53, 54, 55, 56, 57, 58, 59, 60, 61, 62, 63, 64, 65, 66] [0, 15, 9, 10, 3, 4] 67 rfl (by decide) (by decide) (by decide) (by decide) (by decide) (fun r9 u9 h9 => ?_)
        obtain ⟨fg1, zg1⟩ := u9
        obtain ⟨er, hf⟩ := h9
        subst er
        have hf : RowR 600 fg1 zg1 A.2.1 := hf
        exact ⟨((va_up Z 4 zg1), (va_up F 4 fg1), L, J, K), ⟨row_ret hf, ⟨hT, hO, ⟨hf, hG.2.1, hG.2.2⟩, hS9, hW9⟩⟩, (by repeat (first | refine List.forall_mem_cons.mpr ⟨⟨_, rfl, rfl⟩, ?_⟩ | exact fun _ h => absurd h List.not_mem_nil)), rfl, rfl⟩
      · skip
        refine gFr_i (c_X3_keep l G sz x0 (ad 1) (ad 3) (ad 15) (ad 16) (ad 17) (ad 5) (ad 7) (va_up (va_up (va_up (fun _ => none) 0 (some (ad 9))) 1 (some (ad 11))) 2 (some (ad 13))) 1 (ad 11) (ad 12) (F 5) (Z 5) (ad 4) (F 1) (Z 1) A.2.1 (by decide) rfl hO (by rw [hO.1]; omega)) ⟨Nat.le_of_ble_eq_true rfl, Nat.le_of_ble_eq_true rfl, Nat.le_refl _, Nat.le_refl _⟩ [0, 15, 11, 12, 3, 4] [1, 2, 5, 6, 7, 8, 9, 10, 13, 14, 16, 17, 18, 19, 20, 21, 22, 23, 24, 25, 26, 27, 28, 29, 30, 31, 32, 33, 34, 35, 36, 37, 38, 39, 40, 41, 42, 43, 44, 45, 46, 47, 48, 49, 50, 51, 52, 53, 54, 55, 56, 57, 58, 59, 60, 61, 62, 63, 64, 65, 66] [0, 15, 11, 12, 3, 4] 67 rfl (by decide) (by decide) (by decide) (by decide) (by decide) (fun r9 u9 h9 => ?_)
        obtain ⟨fg1, zg1⟩ := u9
        obtain ⟨er, hf⟩ := h9
        subst er
        have hf : RowR 600 fg1 zg1 A.2.1 := hf
        exact ⟨((va_up Z 5 zg1), (va_up F 5 fg1), L, J, K), ⟨row_ret hf, ⟨hT, hO, ⟨hG.1, hf, hG.2.2⟩, hS9, hW9⟩⟩, (by repeat (first | refine List.forall_mem_cons.mpr ⟨⟨_, rfl, rfl⟩, ?_⟩ | exact fun _ h => absurd h List.not_mem_nil)), rfl, rfl⟩
      · skip
        refine gFr_i (c_X3_keep l G sz x0 (ad 1) (ad 3) (ad 15) (ad 16) (ad 17) (ad 5) (ad 7) (va_up (va_up (va_up (fun _ => none) 0 (some (ad 9))) 1 (some (ad 11))) 2 (some (ad 13))) 2 (ad 13) (ad 14) (F 6) (Z 6) (ad 4) (F 1) (Z 1) A.2.1 (by decide) rfl hO (by rw [hO.1]; omega)) ⟨Nat.le_of_ble_eq_true rfl, Nat.le_of_ble_eq_true rfl, Nat.le_refl _, Nat.le_refl _⟩ [0, 15, 13, 14, 3, 4] [1, 2, 5, 6, 7, 8, 9, 10, 11, 12, 16, 17, 18, 19, 20, 21, 22, 23, 24, 25, 26, 27, 28, 29, 30, 31, 32, 33, 34, 35, 36, 37, 38, 39, 40, 41, 42, 43, 44, 45, 46, 47, 48, 49, 50, 51, 52, 53, 54, 55, 56, 57, 58, 59, 60, 61, 62, 63, 64, 65, 66] [0, 15, 13, 14, 3, 4] 67 rfl (by decide) (by decide) (by decide) (by decide) (by decide) (fun r9 u9 h9 => ?_)
        obtain ⟨fg1, zg1⟩ := u9
        obtain ⟨er, hf⟩ := h9
        subst er
        have hf : RowR 600 fg1 zg1 A.2.1 := hf
        exact ⟨((va_up Z 6 zg1), (va_up F 6 fg1), L, J, K), ⟨row_ret hf, ⟨hT, hO, ⟨hG.1, hG.2.1, hf⟩, hS9, hW9⟩⟩, (by repeat (first | refine List.forall_mem_cons.mpr ⟨⟨_, rfl, rfl⟩, ?_⟩ | exact fun _ h => absurd h List.not_mem_nil)), rfl, rfl⟩
set_option maxRecDepth 100000 in
set_option maxHeartbeats 4000000 in
theorem x_draw (l : Launch) (hT9 : l.stackTraces = false) (G : GW) (x0 : Nat) (ad : Nat → Nat) (u : XU) (A : AS) (x : Int32) (E : AO) (hR : XR u A) (hE : drawA A x = E) : (E.1 = 0 ∧ ∀ sz : Nat, Met l yX3_draw (Cond.code yX3_draw cX3_draw 2 (some FieldType.int) :: UW) ({ frames := 7, cells := 0, slots := 0, locals := 154 } : Room) (va_Pc [.ref x0, .int x] (gPre G (xW G x0 ad u) sz)) (va_Qi (fun r v => r.toInt64 = E.2.1 ∧ XR v E.2.2) (fun v => gPost G (va_A (xW G x0 ad u) sz) (xW G x0 ad v)) (va_A (xW G x0 ad u) sz)) 0 0 (va_A (xW G x0 ad u) sz)) ∨ (E = (1, 0, A) ∧ ∀ sz : Nat, vx_Met l yX3_draw (Cond.code yX3_draw cX3_draw 2 (some FieldType.int) :: UW) ({ frames := 7, cells := 1, slots := 6, locals := 154 } : Room) (va_Pc [.ref x0, .int x] (gPre G (xW G x0 ad u) sz)) gNo (gXC G xIAE (va_A (xW G x0 ad u) sz) (xW G x0 ad u)) 1 6 (va_A (xW G x0 ad u) sz)) := by
  obtain ⟨Z, F, L, J, K⟩ := u
  obtain ⟨hT, hO, hG, hS9, hW9⟩ := hR
  have hT : RowR 600 (F 0) (Z 0) A.1 := hT
  have hO : RowR 16320 (F 1) (Z 1) A.2.1 := hO
  have hG : RowR 600 (F 4) (Z 4) (A.2.2.1 0) ∧ RowR 600 (F 5) (Z 5) (A.2.2.1 1) ∧ RowR 600 (F 6) (Z 6) (A.2.2.1 2) := hG
  have hS9 : SX (F 13) (J 5) (J 6) (J 7) (K 2) (J 8) (J 9) (K 3) (L 4) (L 7) (A.2.2.2 0) ∧ SX (F 16) (J 10) (J 11) (J 12) (K 4) (J 13) (J 14) (K 5) (L 8) (L 11) (A.2.2.2 1) ∧ SX (F 19) (J 15) (J 16) (J 17) (K 6) (J 18) (J 19) (K 7) (L 12) (L 15) (A.2.2.2 2) ∧ SX (F 22) (J 20) (J 21) (J 22) (K 8) (J 23) (J 24) (K 9) (L 16) (L 19) (A.2.2.2 3) := hS9
  have hW9 : sb_Fit (F 10) := hW9
  unfold drawA at hE
  by_cases h1 : nkI x = 1
  · rw [if_pos h1] at hE
    subst hE
    refine Or.inr (⟨rfl, fun sz => ?_⟩)
    exact gFrX (c_X3_drawT l hT9 G sz x0 (ad 1) (ad 3) (ad 15) (ad 16) (ad 17) (ad 5) (ad 7) x h1) ⟨Nat.le_of_ble_eq_true rfl, Nat.le_of_ble_eq_true rfl, Nat.le_refl _, Nat.le_refl _⟩ [0] [1, 2, 3, 4, 5, 6, 7, 8, 9, 10, 11, 12, 13, 14, 15, 16, 17, 18, 19, 20, 21, 22, 23, 24, 25, 26, 27, 28, 29, 30, 31, 32, 33, 34, 35, 36, 37, 38, 39, 40, 41, 42, 43, 44, 45, 46, 47, 48, 49, 50, 51, 52, 53, 54, 55, 56, 57, 58, 59, 60, 61, 62, 63, 64, 65, 66] 67 rfl (by decide) (by decide) (by decide) (by decide) (by decide) rfl
  · rw [if_neg h1] at hE
    obtain ⟨k, hk4, rfl, h4⟩ := nk_of h1
    rw [h4] at hE
    subst hE
    refine Or.inl (⟨rfl, fun sz => ?_⟩)
    refine gFr_i (c_X3_draw l G sz x0 (ad 1) (ad 3) (ad 15) (ad 16) (ad 5) (ad 7) (va_up (va_up (va_up (fun _ => none) 0 (some (ad 9))) 1 (some (ad 11))) 2 (some (ad 13))) (ad 17) (ad 23) (ad 25) (ad 26) (ad 18) (ad 19) (ad 20) (ad 21) (ad 22) (J 3) (J 4) (K 1) (J 1) (J 2) (K 0) (J 0) (L 0) (F 10) (F 11) (L 1) (ad 24) (Z 10) (F 12) (L 2) (L 3) k (ad 9) (ad 10) (F 4) (Z 4) (ad 11) (ad 12) (F 5) (Z 5) (ad 4) (F 1) (Z 1) (A.2.2.1 0) (A.2.2.1 1) hk4 hW9 rfl rfl hG.1 hG.2.1) ⟨Nat.le_of_ble_eq_true rfl, Nat.le_of_ble_eq_true rfl, Nat.le_refl _, Nat.le_refl _⟩ [0, 15, 17, 18, 19, 20, 21, 22, 23, 24, 25, 26, 9, 10, 11, 12, 3, 4] [1, 2, 5, 6, 7, 8, 13, 14, 16, 27, 28, 29, 30, 31, 32, 33, 34, 35, 36, 37, 38, 39, 40, 41, 42, 43, 44, 45, 46, 47, 48, 49, 50, 51, 52, 53, 54, 55, 56, 57, 58, 59, 60, 61, 62, 63, 64, 65, 66] [0, 15, 17, 18, 19, 20, 21, 22, 23, 24, 25, 26, 9, 10, 11, 12, 3, 4] 67 rfl (by decide) (by decide) (by decide) (by decide) (by decide) (fun r9 u9 h9 => ?_)
    obtain ⟨z1, wf1, bf1, nf1, df1, t1, zs1, fs1, si1, so1, zrs1, frs1⟩ := u9
    obtain ⟨er, hf⟩ := h9
    subst er
    have hf : (sb_Fit bf1) ∧ (RowR 16320 frs1 zrs1 (codeQ k (keyQ k (A.2.2.1 1)) (A.2.2.1 0))) := hf
    exact ⟨((va_up (va_up Z 10 zs1) 1 zrs1), (va_up (va_up (va_up (va_up F 10 bf1) 11 nf1) 12 fs1) 1 frs1), (va_up (va_up (va_up (va_up L 0 wf1) 1 df1) 2 si1) 3 so1), (va_up (va_up (va_up (va_up (va_up J 0 (nI k)) 1 1) 2 1) 3 (nI k)) 4 (nI z1)), (va_up (va_up K 0 (lN (Z 4))) 1 (lN t1))), ⟨drw_ret hf.2, ⟨hT, hf.2, hG, hS9, hf.1⟩⟩, (by repeat (first | refine List.forall_mem_cons.mpr ⟨⟨_, rfl, rfl⟩, ?_⟩ | exact fun _ h => absurd h List.not_mem_nil)), rfl, rfl⟩
set_option maxRecDepth 100000 in
set_option maxHeartbeats 4000000 in
theorem x_spread (l : Launch) (hT9 : l.stackTraces = false) (G : GW) (x0 : Nat) (ad : Nat → Nat) (u : XU) (A : AS) (x : Int32) (n : Int32) (E : AO) (hR : XR u A) (hE : spreadA A x n = E) : (E.1 = 0 ∧ ∀ sz : Nat, Met l yX3_spread (Cond.code yX3_spread cX3_spread 4 (some FieldType.int) :: UW) ({ frames := 7, cells := 0, slots := 0, locals := 155 } : Room) (va_Pc [.ref x0, .int x, .int n] (gPre G (xW G x0 ad u) sz)) (va_Qi (fun r v => r.toInt64 = E.2.1 ∧ XR v E.2.2) (fun v => gPost G (va_A (xW G x0 ad u) sz) (xW G x0 ad v)) (va_A (xW G x0 ad u) sz)) 0 0 (va_A (xW G x0 ad u) sz)) ∨ (E = (1, 0, A) ∧ ∀ sz : Nat, vx_Met l yX3_spread (Cond.code yX3_spread cX3_spread 4 (some FieldType.int) :: UW) ({ frames := 7, cells := 1, slots := 6, locals := 155 } : Room) (va_Pc [.ref x0, .int x, .int n] (gPre G (xW G x0 ad u) sz)) gNo (gXC G xIAE (va_A (xW G x0 ad u) sz) (xW G x0 ad u)) 1 6 (va_A (xW G x0 ad u) sz)) := by
  obtain ⟨Z, F, L, J, K⟩ := u
  obtain ⟨hT, hO, hG, hS9, hW9⟩ := hR
  have hT : RowR 600 (F 0) (Z 0) A.1 := hT
  have hO : RowR 16320 (F 1) (Z 1) A.2.1 := hO
  have hG : RowR 600 (F 4) (Z 4) (A.2.2.1 0) ∧ RowR 600 (F 5) (Z 5) (A.2.2.1 1) ∧ RowR 600 (F 6) (Z 6) (A.2.2.1 2) := hG
  have hS9 : SX (F 13) (J 5) (J 6) (J 7) (K 2) (J 8) (J 9) (K 3) (L 4) (L 7) (A.2.2.2 0) ∧ SX (F 16) (J 10) (J 11) (J 12) (K 4) (J 13) (J 14) (K 5) (L 8) (L 11) (A.2.2.2 1) ∧ SX (F 19) (J 15) (J 16) (J 17) (K 6) (J 18) (J 19) (K 7) (L 12) (L 15) (A.2.2.2 2) ∧ SX (F 22) (J 20) (J 21) (J 22) (K 8) (J 23) (J 24) (K 9) (L 16) (L 19) (A.2.2.2 3) := hS9
  have hW9 : sb_Fit (F 10) := hW9
  unfold spreadA at hE
  by_cases h1 : nkI x = 1
  · rw [if_pos h1] at hE
    subst hE
    refine Or.inr (⟨rfl, fun sz => ?_⟩)
    exact gFrX (c_X3_spreadT l hT9 G sz x0 (ad 1) (ad 3) (ad 15) (ad 16) (ad 17) (ad 5) (ad 7) x n h1) ⟨Nat.le_of_ble_eq_true rfl, Nat.le_of_ble_eq_true rfl, Nat.le_refl _, Nat.le_refl _⟩ [0] [1, 2, 3, 4, 5, 6, 7, 8, 9, 10, 11, 12, 13, 14, 15, 16, 17, 18, 19, 20, 21, 22, 23, 24, 25, 26, 27, 28, 29, 30, 31, 32, 33, 34, 35, 36, 37, 38, 39, 40, 41, 42, 43, 44, 45, 46, 47, 48, 49, 50, 51, 52, 53, 54, 55, 56, 57, 58, 59, 60, 61, 62, 63, 64, 65, 66] 67 rfl (by decide) (by decide) (by decide) (by decide) (by decide) rfl
  · rw [if_neg h1] at hE
    obtain ⟨k, hk4, rfl, h4⟩ := nk_of h1
    rw [h4] at hE
    by_cases h2 : n < 0 ∨ 16320 < n
    · rw [if_pos h2] at hE
      subst hE
      refine Or.inr (⟨rfl, fun sz => ?_⟩)
      exact gFrX (c_X3_spreadT1b l hT9 G sz x0 (ad 1) (ad 3) (ad 15) (ad 16) (ad 17) (ad 5) (ad 7) k n hk4 h2) ⟨Nat.le_of_ble_eq_true rfl, Nat.le_of_ble_eq_true rfl, Nat.le_refl _, Nat.le_refl _⟩ [0] [1, 2, 3, 4, 5, 6, 7, 8, 9, 10, 11, 12, 13, 14, 15, 16, 17, 18, 19, 20, 21, 22, 23, 24, 25, 26, 27, 28, 29, 30, 31, 32, 33, 34, 35, 36, 37, 38, 39, 40, 41, 42, 43, 44, 45, 46, 47, 48, 49, 50, 51, 52, 53, 54, 55, 56, 57, 58, 59, 60, 61, 62, 63, 64, 65, 66] 67 rfl (by decide) (by decide) (by decide) (by decide) (by decide) rfl
    · rw [if_neg h2] at hE
      obtain ⟨j, hj, rfl, h5⟩ := rg_of (y := 16320) (n := 16320) (by decide) h2
      rw [h5] at hE
      by_cases h6 : 255 * ds k < j
      · rw [if_pos h6] at hE
        subst hE
        refine Or.inl (⟨rfl, fun sz => ?_⟩)
        refine gFr_i (c_X3_spreadN l G sz x0 (ad 1) (ad 3) (ad 15) (ad 16) (ad 17) (ad 5) (ad 7) k j hk4 hj h6) ⟨Nat.le_of_ble_eq_true rfl, Nat.le_of_ble_eq_true rfl, Nat.le_refl _, Nat.le_refl _⟩ [0] [1, 2, 3, 4, 5, 6, 7, 8, 9, 10, 11, 12, 13, 14, 15, 16, 17, 18, 19, 20, 21, 22, 23, 24, 25, 26, 27, 28, 29, 30, 31, 32, 33, 34, 35, 36, 37, 38, 39, 40, 41, 42, 43, 44, 45, 46, 47, 48, 49, 50, 51, 52, 53, 54, 55, 56, 57, 58, 59, 60, 61, 62, 63, 64, 65, 66] [0] 67 rfl (by decide) (by decide) (by decide) (by decide) (by decide) (fun r9 u9 h9 => ?_)
        have er := h9
        subst er
        exact ⟨(Z, F, L, J, K), ⟨rfl, ⟨hT, hO, hG, hS9, hW9⟩⟩, (by repeat (first | refine List.forall_mem_cons.mpr ⟨⟨_, rfl, rfl⟩, ?_⟩ | exact fun _ h => absurd h List.not_mem_nil)), rfl, rfl⟩
      · rw [if_neg h6] at hE
        subst hE
        refine Or.inl (⟨rfl, fun sz => ?_⟩)
        refine gFr_i (c_X3_spread l G sz x0 (ad 1) (ad 3) (ad 15) (ad 16) (ad 5) (ad 7) (va_up (va_up (va_up (fun _ => none) 0 (some (ad 9))) 1 (some (ad 11))) 2 (some (ad 13))) (ad 17) (ad 23) (ad 25) (ad 26) (ad 18) (ad 19) (ad 20) (ad 21) (ad 22) (J 3) (J 4) (K 1) (J 1) (J 2) (K 0) (J 0) (L 0) (F 10) (F 11) (L 1) (ad 24) (Z 10) (F 12) (L 2) (L 3) k j (ad 6) (F 2) (Z 2) (ad 9) (ad 10) (F 4) (Z 4) (ad 13) (ad 14) (F 6) (Z 6) (ad 4) (F 1) (Z 1) (A.2.2.1 0) (A.2.2.1 2) hk4 hW9 hj (by omega) rfl rfl hG.1 hG.2.2) ⟨Nat.le_of_ble_eq_true rfl, Nat.le_of_ble_eq_true rfl, Nat.le_refl _, Nat.le_refl _⟩ [0, 15, 17, 18, 19, 20, 21, 22, 23, 24, 25, 26, 5, 6, 9, 10, 13, 14, 3, 4] [1, 2, 7, 8, 11, 12, 16, 27, 28, 29, 30, 31, 32, 33, 34, 35, 36, 37, 38, 39, 40, 41, 42, 43, 44, 45, 46, 47, 48, 49, 50, 51, 52, 53, 54, 55, 56, 57, 58, 59, 60, 61, 62, 63, 64, 65, 66] [0, 15, 17, 18, 19, 20, 21, 22, 23, 24, 25, 26, 5, 6, 9, 10, 13, 14, 3, 4] 67 rfl (by decide) (by decide) (by decide) (by decide) (by decide) (fun r9 u9 h9 => ?_)
        obtain ⟨z1, wf1, bf1, nf1, df1, t1, zs1, fs1, ln1, ed1, zlk1, flk1, zrs1, frs1, si1, so1⟩ := u9
        obtain ⟨er, hf⟩ := h9
        subst er
        have hf : (sb_Fit bf1) ∧ (RowR 16320 frs1 zrs1 (spE (ds k) j (lnk k (keyQ k (A.2.2.1 0)) (A.2.2.1 2)))) := hf
        exact ⟨((va_up (va_up (va_up Z 10 zs1) 2 zlk1) 1 zrs1), (va_up (va_up (va_up (va_up (va_up F 10 bf1) 11 nf1) 12 fs1) 2 flk1) 1 frs1), (va_up (va_up (va_up (va_up L 0 wf1) 1 df1) 2 si1) 3 so1), (va_up (va_up (va_up (va_up (va_up J 0 (nI k)) 1 1) 2 ed1) 3 (nI k)) 4 (nI z1)), (va_up (va_up K 0 (lN ln1)) 1 (lN t1))), ⟨nI_l (by omega), ⟨hT, hf.2, hG, hS9, hf.1⟩⟩, (by repeat (first | refine List.forall_mem_cons.mpr ⟨⟨_, rfl, rfl⟩, ?_⟩ | exact fun _ h => absurd h List.not_mem_nil)), rfl, rfl⟩
set_option maxRecDepth 100000 in
set_option maxHeartbeats 4000000 in
theorem x_stretch (l : Launch) (hT9 : l.stackTraces = false) (G : GW) (x0 : Nat) (ad : Nat → Nat) (u : XU) (A : AS) (x : Int32) (t : Int32) (n : Int32) (E : AO) (hR : XR u A) (hE : stretchA A x t n = E) : (E.1 = 0 ∧ ∀ sz : Nat, Met l yX3_stretch (Cond.code yX3_stretch cX3_stretch 5 (some FieldType.int) :: UW) ({ frames := 7, cells := 0, slots := 0, locals := 157 } : Room) (va_Pc [.ref x0, .int x, .int t, .int n] (gPre G (xW G x0 ad u) sz)) (va_Qi (fun r v => r.toInt64 = E.2.1 ∧ XR v E.2.2) (fun v => gPost G (va_A (xW G x0 ad u) sz) (xW G x0 ad v)) (va_A (xW G x0 ad u) sz)) 0 0 (va_A (xW G x0 ad u) sz)) ∨ (E = (1, 0, A) ∧ ∀ sz : Nat, vx_Met l yX3_stretch (Cond.code yX3_stretch cX3_stretch 5 (some FieldType.int) :: UW) ({ frames := 7, cells := 1, slots := 6, locals := 157 } : Room) (va_Pc [.ref x0, .int x, .int t, .int n] (gPre G (xW G x0 ad u) sz)) gNo (gXC G xIAE (va_A (xW G x0 ad u) sz) (xW G x0 ad u)) 1 6 (va_A (xW G x0 ad u) sz)) := by
  obtain ⟨Z, F, L, J, K⟩ := u
  obtain ⟨hT, hO, hG, hS9, hW9⟩ := hR
  have hT : RowR 600 (F 0) (Z 0) A.1 := hT
  have hO : RowR 16320 (F 1) (Z 1) A.2.1 := hO
  have hG : RowR 600 (F 4) (Z 4) (A.2.2.1 0) ∧ RowR 600 (F 5) (Z 5) (A.2.2.1 1) ∧ RowR 600 (F 6) (Z 6) (A.2.2.1 2) := hG
  have hS9 : SX (F 13) (J 5) (J 6) (J 7) (K 2) (J 8) (J 9) (K 3) (L 4) (L 7) (A.2.2.2 0) ∧ SX (F 16) (J 10) (J 11) (J 12) (K 4) (J 13) (J 14) (K 5) (L 8) (L 11) (A.2.2.2 1) ∧ SX (F 19) (J 15) (J 16) (J 17) (K 6) (J 18) (J 19) (K 7) (L 12) (L 15) (A.2.2.2 2) ∧ SX (F 22) (J 20) (J 21) (J 22) (K 8) (J 23) (J 24) (K 9) (L 16) (L 19) (A.2.2.2 3) := hS9
  have hW9 : sb_Fit (F 10) := hW9
  unfold stretchA at hE
  by_cases h1 : nkI x = 1
  · rw [if_pos h1] at hE
    subst hE
    refine Or.inr (⟨rfl, fun sz => ?_⟩)
    exact gFrX (c_X3_stretchT l hT9 G sz x0 (ad 1) (ad 3) (ad 15) (ad 16) (ad 17) (ad 5) (ad 7) x t n h1) ⟨Nat.le_of_ble_eq_true rfl, Nat.le_of_ble_eq_true rfl, Nat.le_refl _, Nat.le_refl _⟩ [0] [1, 2, 3, 4, 5, 6, 7, 8, 9, 10, 11, 12, 13, 14, 15, 16, 17, 18, 19, 20, 21, 22, 23, 24, 25, 26, 27, 28, 29, 30, 31, 32, 33, 34, 35, 36, 37, 38, 39, 40, 41, 42, 43, 44, 45, 46, 47, 48, 49, 50, 51, 52, 53, 54, 55, 56, 57, 58, 59, 60, 61, 62, 63, 64, 65, 66] 67 rfl (by decide) (by decide) (by decide) (by decide) (by decide) rfl
  · rw [if_neg h1] at hE
    obtain ⟨k, hk4, rfl, h4⟩ := nk_of h1
    rw [h4] at hE
    by_cases h2 : t < 1 ∨ 500 < t ∨ n < 0 ∨ 400 < n
    · rw [if_pos h2] at hE
      subst hE
      refine Or.inr (⟨rfl, fun sz => ?_⟩)
      exact gFrX (c_X3_stretchT1b l hT9 G sz x0 (ad 1) (ad 3) (ad 15) (ad 16) (ad 17) (ad 5) (ad 7) k t n hk4 h2) ⟨Nat.le_of_ble_eq_true rfl, Nat.le_of_ble_eq_true rfl, Nat.le_refl _, Nat.le_refl _⟩ [0] [1, 2, 3, 4, 5, 6, 7, 8, 9, 10, 11, 12, 13, 14, 15, 16, 17, 18, 19, 20, 21, 22, 23, 24, 25, 26, 27, 28, 29, 30, 31, 32, 33, 34, 35, 36, 37, 38, 39, 40, 41, 42, 43, 44, 45, 46, 47, 48, 49, 50, 51, 52, 53, 54, 55, 56, 57, 58, 59, 60, 61, 62, 63, 64, 65, 66] 67 rfl (by decide) (by decide) (by decide) (by decide) (by decide) rfl
    · rw [if_neg h2] at hE
      obtain ⟨j, hj, rfl, h5⟩ := rg_of (x := n) (y := 400) (n := 400) (by decide) (fun c => h2 (Or.inr (Or.inr c)))
      obtain ⟨tn, ht, rfl, h6⟩ := str_of h2
      rw [h5, h6] at hE
      subst hE
      refine Or.inl (⟨rfl, fun sz => ?_⟩)
      refine gFr_i (c_X3_stretch l G sz x0 (ad 1) (ad 3) (ad 15) (ad 16) (ad 5) (ad 7) (va_up (va_up (va_up (fun _ => none) 0 (some (ad 9))) 1 (some (ad 11))) 2 (some (ad 13))) (ad 17) (ad 23) (ad 25) (ad 26) (ad 18) (ad 19) (ad 20) (ad 21) (ad 22) (J 3) (J 4) (K 1) (J 1) (J 2) (K 0) (J 0) (L 0) (F 10) (F 11) (L 1) (ad 24) (Z 10) (F 12) (L 2) (L 3) k tn j (ad 6) (F 2) (Z 2) (ad 8) (F 3) (Z 3) (ad 9) (ad 10) (F 4) (Z 4) (ad 11) (ad 12) (F 5) (Z 5) (ad 4) (F 1) (Z 1) (A.2.2.1 0) (A.2.2.1 1) hk4 hW9 ht hj rfl rfl hG.1 hG.2.1) ⟨Nat.le_of_ble_eq_true rfl, Nat.le_of_ble_eq_true rfl, Nat.le_refl _, Nat.le_refl _⟩ [0, 15, 17, 18, 19, 20, 21, 22, 23, 24, 25, 26, 5, 6, 7, 8, 9, 10, 11, 12, 3, 4] [1, 2, 13, 14, 16, 27, 28, 29, 30, 31, 32, 33, 34, 35, 36, 37, 38, 39, 40, 41, 42, 43, 44, 45, 46, 47, 48, 49, 50, 51, 52, 53, 54, 55, 56, 57, 58, 59, 60, 61, 62, 63, 64, 65, 66] [0, 15, 17, 18, 19, 20, 21, 22, 23, 24, 25, 26, 5, 6, 7, 8, 9, 10, 11, 12, 3, 4] 67 rfl (by decide) (by decide) (by decide) (by decide) (by decide) (fun r9 u9 h9 => ?_)
      obtain ⟨z1, wf1, bf1, nf1, df1, t1, zs1, fs1, ln1, ed1, zlk1, flk1, zrs1, frs1, si1, so1, zsm1, fsm1⟩ := u9
      obtain ⟨er, hf⟩ := h9
      subst er
      have hf : (sb_Fit bf1) ∧ (RowR 16320 frs1 zrs1 (spE (ds k) j (xSf k (keyQ k (A.2.2.1 0)) (A.2.2.1 1) tn))) := hf
      exact ⟨((va_up (va_up (va_up (va_up Z 10 zs1) 2 zlk1) 3 zsm1) 1 zrs1), (va_up (va_up (va_up (va_up (va_up (va_up F 10 bf1) 11 nf1) 12 fs1) 2 flk1) 3 fsm1) 1 frs1), (va_up (va_up (va_up (va_up L 0 wf1) 1 df1) 2 si1) 3 so1), (va_up (va_up (va_up (va_up (va_up J 0 (nI k)) 1 1) 2 ed1) 3 (nI k)) 4 (nI z1)), (va_up (va_up K 0 (lN ln1)) 1 (lN t1))), ⟨nI_l (by omega), ⟨hT, hf.2, hG, hS9, hf.1⟩⟩, (by repeat (first | refine List.forall_mem_cons.mpr ⟨⟨_, rfl, rfl⟩, ?_⟩ | exact fun _ h => absurd h List.not_mem_nil)), rfl, rfl⟩
set_option maxRecDepth 100000 in
set_option maxHeartbeats 4000000 in
theorem x_out (l : Launch) (hT9 : l.stackTraces = false) (G : GW) (x0 : Nat) (ad : Nat → Nat) (u : XU) (A : AS) (i : Int32) (E : AO) (hR : XR u A) (hE : ((0, (rowAt A.2.1 i).toInt64, A) : AO) = E) : (E.1 = 0 ∧ ∀ sz : Nat, Met l yX3_out (Cond.code yX3_out cX3_out 2 (some FieldType.int) :: UW) ({ frames := 1, cells := 0, slots := 0, locals := 21 } : Room) (va_Pc [.ref x0, .int i] (gPre G (xW G x0 ad u) sz)) (va_Qi (fun r v => r.toInt64 = E.2.1 ∧ XR v E.2.2) (fun v => gPost G (va_A (xW G x0 ad u) sz) (xW G x0 ad v)) (va_A (xW G x0 ad u) sz)) 0 0 (va_A (xW G x0 ad u) sz)) := by
  obtain ⟨Z, F, L, J, K⟩ := u
  obtain ⟨hT, hO, hG, hS9, hW9⟩ := hR
  have hT : RowR 600 (F 0) (Z 0) A.1 := hT
  have hO : RowR 16320 (F 1) (Z 1) A.2.1 := hO
  have hG : RowR 600 (F 4) (Z 4) (A.2.2.1 0) ∧ RowR 600 (F 5) (Z 5) (A.2.2.1 1) ∧ RowR 600 (F 6) (Z 6) (A.2.2.1 2) := hG
  have hS9 : SX (F 13) (J 5) (J 6) (J 7) (K 2) (J 8) (J 9) (K 3) (L 4) (L 7) (A.2.2.2 0) ∧ SX (F 16) (J 10) (J 11) (J 12) (K 4) (J 13) (J 14) (K 5) (L 8) (L 11) (A.2.2.2 1) ∧ SX (F 19) (J 15) (J 16) (J 17) (K 6) (J 18) (J 19) (K 7) (L 12) (L 15) (A.2.2.2 2) ∧ SX (F 22) (J 20) (J 21) (J 22) (K 8) (J 23) (J 24) (K 9) (L 16) (L 19) (A.2.2.2 3) := hS9
  have hW9 : sb_Fit (F 10) := hW9
  subst hE
  refine ⟨rfl, fun sz => ?_⟩
  refine gFr_i (c_X3_out l G sz x0 (ad 1) (ad 3) (ad 15) (ad 16) (ad 17) (ad 5) (ad 7) (ad 4) (F 1) (Z 1) i A.2.1 hO) ⟨Nat.le_of_ble_eq_true rfl, Nat.le_of_ble_eq_true rfl, Nat.le_refl _, Nat.le_refl _⟩ [0, 3, 4] [1, 2, 5, 6, 7, 8, 9, 10, 11, 12, 13, 14, 15, 16, 17, 18, 19, 20, 21, 22, 23, 24, 25, 26, 27, 28, 29, 30, 31, 32, 33, 34, 35, 36, 37, 38, 39, 40, 41, 42, 43, 44, 45, 46, 47, 48, 49, 50, 51, 52, 53, 54, 55, 56, 57, 58, 59, 60, 61, 62, 63, 64, 65, 66] [0, 3, 4] 67 rfl (by decide) (by decide) (by decide) (by decide) (by decide) (fun r9 u9 h9 => ?_)
  have er := h9
  subst er
  exact ⟨(Z, F, L, J, K), ⟨rfl, ⟨hT, hO, hG, hS9, hW9⟩⟩, (by repeat (first | refine List.forall_mem_cons.mpr ⟨⟨_, rfl, rfl⟩, ?_⟩ | exact fun _ h => absurd h List.not_mem_nil)), rfl, rfl⟩
set_option maxRecDepth 100000 in
set_option maxHeartbeats 4000000 in
theorem x_outs (l : Launch) (hT9 : l.stackTraces = false) (G : GW) (x0 : Nat) (ad : Nat → Nat) (u : XU) (A : AS) (i : Int32) (E : AO) (hR : XR u A) (hE : ((0, outsQ A.2.1 i 8, A) : AO) = E) : (E.1 = 0 ∧ ∀ sz : Nat, Met l yX3_outs (Cond.code yX3_outs cX3_outs 5 (some FieldType.long) :: UW) ({ frames := 2, cells := 0, slots := 0, locals := 42 } : Room) (va_Pc [.ref x0, .int i] (gPre G (xW G x0 ad u) sz)) (va_Ql (fun r v => r = E.2.1 ∧ XR v E.2.2) (fun v => gPost G (va_A (xW G x0 ad u) sz) (xW G x0 ad v)) (va_A (xW G x0 ad u) sz)) 0 0 (va_A (xW G x0 ad u) sz)) := by
  obtain ⟨Z, F, L, J, K⟩ := u
  obtain ⟨hT, hO, hG, hS9, hW9⟩ := hR
  have hT : RowR 600 (F 0) (Z 0) A.1 := hT
  have hO : RowR 16320 (F 1) (Z 1) A.2.1 := hO
  have hG : RowR 600 (F 4) (Z 4) (A.2.2.1 0) ∧ RowR 600 (F 5) (Z 5) (A.2.2.1 1) ∧ RowR 600 (F 6) (Z 6) (A.2.2.1 2) := hG
  have hS9 : SX (F 13) (J 5) (J 6) (J 7) (K 2) (J 8) (J 9) (K 3) (L 4) (L 7) (A.2.2.2 0) ∧ SX (F 16) (J 10) (J 11) (J 12) (K 4) (J 13) (J 14) (K 5) (L 8) (L 11) (A.2.2.2 1) ∧ SX (F 19) (J 15) (J 16) (J 17) (K 6) (J 18) (J 19) (K 7) (L 12) (L 15) (A.2.2.2 2) ∧ SX (F 22) (J 20) (J 21) (J 22) (K 8) (J 23) (J 24) (K 9) (L 16) (L 19) (A.2.2.2 3) := hS9
  have hW9 : sb_Fit (F 10) := hW9
  subst hE
  refine ⟨rfl, fun sz => ?_⟩
  refine gFr_l (c_X3_outs l G sz x0 (ad 1) (ad 3) (ad 15) (ad 16) (ad 17) (ad 5) (ad 7) (ad 4) (F 1) (Z 1) i A.2.1 hO) ⟨Nat.le_of_ble_eq_true rfl, Nat.le_of_ble_eq_true rfl, Nat.le_refl _, Nat.le_refl _⟩ [0, 3, 4] [1, 2, 5, 6, 7, 8, 9, 10, 11, 12, 13, 14, 15, 16, 17, 18, 19, 20, 21, 22, 23, 24, 25, 26, 27, 28, 29, 30, 31, 32, 33, 34, 35, 36, 37, 38, 39, 40, 41, 42, 43, 44, 45, 46, 47, 48, 49, 50, 51, 52, 53, 54, 55, 56, 57, 58, 59, 60, 61, 62, 63, 64, 65, 66] [0, 3, 4] 67 rfl (by decide) (by decide) (by decide) (by decide) (by decide) (fun r9 u9 h9 => ?_)
  have er := h9
  subst er
  exact ⟨(Z, F, L, J, K), ⟨rfl, ⟨hT, hO, hG, hS9, hW9⟩⟩, (by repeat (first | refine List.forall_mem_cons.mpr ⟨⟨_, rfl, rfl⟩, ?_⟩ | exact fun _ h => absurd h List.not_mem_nil)), rfl, rfl⟩
set_option maxRecDepth 100000 in
set_option maxHeartbeats 4000000 in
theorem x_constant (l : Launch) (hT9 : l.stackTraces = false) (G : GW) (x0 : Nat) (ad : Nat → Nat) (u : XU) (A : AS) (i : Int32) (E : AO) (hR : XR u A) (hE : ((0, constQ i, A) : AO) = E) : (E.1 = 0 ∧ ∀ sz : Nat, Met l yX3_constant (Cond.code yX3_constant cX3_constant 2 (some FieldType.long) :: UW) ({ frames := 0, cells := 0, slots := 0, locals := 0 } : Room) (va_Pc [.ref x0, .int i] (gPre G (xW G x0 ad u) sz)) (va_Ql (fun r v => r = E.2.1 ∧ XR v E.2.2) (fun v => gPost G (va_A (xW G x0 ad u) sz) (xW G x0 ad v)) (va_A (xW G x0 ad u) sz)) 0 0 (va_A (xW G x0 ad u) sz)) := by
  obtain ⟨Z, F, L, J, K⟩ := u
  obtain ⟨hT, hO, hG, hS9, hW9⟩ := hR
  have hT : RowR 600 (F 0) (Z 0) A.1 := hT
  have hO : RowR 16320 (F 1) (Z 1) A.2.1 := hO
  have hG : RowR 600 (F 4) (Z 4) (A.2.2.1 0) ∧ RowR 600 (F 5) (Z 5) (A.2.2.1 1) ∧ RowR 600 (F 6) (Z 6) (A.2.2.1 2) := hG
  have hS9 : SX (F 13) (J 5) (J 6) (J 7) (K 2) (J 8) (J 9) (K 3) (L 4) (L 7) (A.2.2.2 0) ∧ SX (F 16) (J 10) (J 11) (J 12) (K 4) (J 13) (J 14) (K 5) (L 8) (L 11) (A.2.2.2 1) ∧ SX (F 19) (J 15) (J 16) (J 17) (K 6) (J 18) (J 19) (K 7) (L 12) (L 15) (A.2.2.2 2) ∧ SX (F 22) (J 20) (J 21) (J 22) (K 8) (J 23) (J 24) (K 9) (L 16) (L 19) (A.2.2.2 3) := hS9
  have hW9 : sb_Fit (F 10) := hW9
  subst hE
  refine ⟨rfl, fun sz => ?_⟩
  refine gFr_l (c_X3_constant l G sz x0 (ad 1) (ad 3) (ad 15) (ad 16) (ad 17) (ad 5) (ad 7) i ) ⟨Nat.le_of_ble_eq_true rfl, Nat.le_of_ble_eq_true rfl, Nat.le_refl _, Nat.le_refl _⟩ [0] [1, 2, 3, 4, 5, 6, 7, 8, 9, 10, 11, 12, 13, 14, 15, 16, 17, 18, 19, 20, 21, 22, 23, 24, 25, 26, 27, 28, 29, 30, 31, 32, 33, 34, 35, 36, 37, 38, 39, 40, 41, 42, 43, 44, 45, 46, 47, 48, 49, 50, 51, 52, 53, 54, 55, 56, 57, 58, 59, 60, 61, 62, 63, 64, 65, 66] [0] 67 rfl (by decide) (by decide) (by decide) (by decide) (by decide) (fun r9 u9 h9 => ?_)
  have er := h9
  subst er
  exact ⟨(Z, F, L, J, K), ⟨rfl, ⟨hT, hO, hG, hS9, hW9⟩⟩, (by repeat (first | refine List.forall_mem_cons.mpr ⟨⟨_, rfl, rfl⟩, ?_⟩ | exact fun _ h => absurd h List.not_mem_nil)), rfl, rfl⟩
set_option maxRecDepth 100000 in
set_option maxHeartbeats 4000000 in
theorem x_isOut (l : Launch) (hT9 : l.stackTraces = false) (G : GW) (x0 : Nat) (ad : Nat → Nat) (u : XU) (A : AS)  (E : AO) (hR : XR u A) (hE : isOutA A = E) : (E.1 = 0 ∧ ∀ sz : Nat, Met l yX3_isOut (Cond.code yX3_isOut cX3_isOut 2 (some FieldType.boolean) :: UW) ({ frames := 2, cells := 0, slots := 0, locals := 43 } : Room) (va_Pc [.ref x0] (gPre G (xW G x0 ad u) sz)) (va_Qi (fun r v => r.toInt64 = E.2.1 ∧ XR v E.2.2) (fun v => gPost G (va_A (xW G x0 ad u) sz) (xW G x0 ad v)) (va_A (xW G x0 ad u) sz)) 0 0 (va_A (xW G x0 ad u) sz)) := by
  obtain ⟨Z, F, L, J, K⟩ := u
  obtain ⟨hT, hO, hG, hS9, hW9⟩ := hR
  have hT : RowR 600 (F 0) (Z 0) A.1 := hT
  have hO : RowR 16320 (F 1) (Z 1) A.2.1 := hO
  have hG : RowR 600 (F 4) (Z 4) (A.2.2.1 0) ∧ RowR 600 (F 5) (Z 5) (A.2.2.1 1) ∧ RowR 600 (F 6) (Z 6) (A.2.2.1 2) := hG
  have hS9 : SX (F 13) (J 5) (J 6) (J 7) (K 2) (J 8) (J 9) (K 3) (L 4) (L 7) (A.2.2.2 0) ∧ SX (F 16) (J 10) (J 11) (J 12) (K 4) (J 13) (J 14) (K 5) (L 8) (L 11) (A.2.2.2 1) ∧ SX (F 19) (J 15) (J 16) (J 17) (K 6) (J 18) (J 19) (K 7) (L 12) (L 15) (A.2.2.2 2) ∧ SX (F 22) (J 20) (J 21) (J 22) (K 8) (J 23) (J 24) (K 9) (L 16) (L 19) (A.2.2.2 3) := hS9
  have hW9 : sb_Fit (F 10) := hW9
  unfold isOutA at hE
  subst hE
  refine ⟨rfl, fun sz => ?_⟩
  refine gFr_i (c_X3_isOut l G sz x0 (ad 1) (ad 3) (ad 15) (ad 16) (ad 17) (ad 5) (ad 7) (ad 4) (F 1) (Z 1) (ad 2) (F 0) (Z 0) A.2.1 A.1 hO hT) ⟨Nat.le_of_ble_eq_true rfl, Nat.le_of_ble_eq_true rfl, Nat.le_refl _, Nat.le_refl _⟩ [0, 3, 4, 1, 2] [5, 6, 7, 8, 9, 10, 11, 12, 13, 14, 15, 16, 17, 18, 19, 20, 21, 22, 23, 24, 25, 26, 27, 28, 29, 30, 31, 32, 33, 34, 35, 36, 37, 38, 39, 40, 41, 42, 43, 44, 45, 46, 47, 48, 49, 50, 51, 52, 53, 54, 55, 56, 57, 58, 59, 60, 61, 62, 63, 64, 65, 66] [0, 3, 4, 1, 2] 67 rfl (by decide) (by decide) (by decide) (by decide) (by decide) (fun r9 u9 h9 => ?_)
  have er := h9
  subst er
  exact ⟨((va_up Z 0 0), F, L, J, K), ⟨io_ret, ⟨RowR.nil (by decide), hO, hG, hS9, hW9⟩⟩, (by repeat (first | refine List.forall_mem_cons.mpr ⟨⟨_, rfl, rfl⟩, ?_⟩ | exact fun _ h => absurd h List.not_mem_nil)), rfl, rfl⟩
