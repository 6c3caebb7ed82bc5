/-! the law's own methods -/
theorem gML_of {l : Launch} {y : MethodName} {cc : ByteArray} {nL : Nat} {ret : Option FieldType} {hh : List (Nat × Nat × Nat × Nat)} {rm : Room} {G : GW} {av : List Value} {ws : va_W} {sz : Nat} {Qf : (Nat → Prop) → Array Value → State → Outcome → State → Prop} {mc ms : Nat}
    (hy : plainName y.cls = true) (hlen : (lg_sl av).length ≤ nL)
    (body : ∀ (p : Program) (e : Env) (s : State) (m : MethodId) (below : List Frame) (meth : Method) (c : Code) (A : Nat → Prop) (ls : Array Slot), p.tables.exec = Jvm.exec → c.code = cc → c.maxLocals = nL → meth.sig.returnType = ret → s.vm.findClass y.cls = some m.cls →
      (∀ w ∈ UW, w.before av.toArray s = true) → meth.locks = false → c.exceptionTable.toList = tableOf hh → (∀ q : Nat, s.heap.size ≤ q → A q) → va_P G.1 vwCl ws s.heap → va_D A ws → va_S A s.heap s.heap [] → gK G s → gZ G A s s.heap → lv_has ls nL (lv_args 0 av) →
      W p l e rm s m av.toArray below meth c s.heap [] 0 0 (MQ below (Qf A) av.toArray s mc ms A) (F0 m 0 ls [])) :
    Met l y (Cond.codeWith y cc nL ret hh :: UW) rm (va_Pc av (gPre G ws sz)) (Qf (va_A ws sz)) mc ms (va_A ws sz) := by
  have hv : vx_Met l y (Cond.codeWith y cc nL ret hh :: UW) rm (va_Pc av (gPre G ws sz)) (Qf (va_A ws sz)) (fun _ _ _ => False) mc ms (va_A ws sz) := by
    refine vx_ofWH (cc := cc) (maxL := nL) (ret := ret) (hh := hh) hy rfl ?_
    intro p e s m args below meth c s₁ B hml hv
    obtain ⟨rfl, hsz, hP, hK, hD0, hZ⟩ := hv
    have hts := atoms_spec (ws := Cond.codeWith y cc nL ret hh :: UW) B.pre
    have htab := vx_table (x := y) B (hts _ List.mem_cons_self)
    subst hsz
    have hl := lv_entry av (n := nL) hlen
    rw [lg_entry_eq]
    exact vx_ret (body p e s m below meth c (va_A ws s.heap.size) _ B.exec B.bytes hml B.returns (findClass_of_methodNamed B.named) (fun w h => hts w (List.mem_cons_of_mem _ h)) B.notSynchronized htab (fun q h => Or.inr h) hP hD0.self va_S.rf hK hZ hl)
  refine MetFree.mono hv (fun _ _ h => h) (fun _ _ _ _ _ h => h) ?_
  intro a st o t hp hq
  rcases hq with h | ⟨q, _, E, ce, L, hF, _⟩
  · exact h
  · exact False.elim hF
theorem gMono_i {l : Launch} {y : MethodName} {cw : List Cond} {rm : Room} {Pc : Array Value → State → Prop} {G : GW} {A : Nat → Prop} {mc ms : Nat} {S S' : Type} {w1 : S → va_W} {W1 : S' → va_W} {post : Int32 → S → Prop} {post' : Int32 → S' → Prop} (hM : Met l y cw rm Pc (va_Qi post (fun u => gPost G A (w1 u)) A) mc ms A)
    (k : ∀ r u, post r u → ∃ u', post' r u' ∧ W1 u' = w1 u) : Met l y cw rm Pc (va_Qi post' (fun u => gPost G A (W1 u)) A) mc ms A := by
  refine MetFree.mono hM (fun _ _ h => h) (fun _ _ _ _ _ h => h) ?_
  intro a st o t hp hq
  obtain ⟨⟨⟨r, u, ho, h1, h2⟩, h3⟩, h4⟩ := hq
  obtain ⟨u', k1, k2⟩ := k r u h1
  exact ⟨⟨⟨r, u', ho, k1, by show gPost G A (W1 u') t; rw [k2]; exact h2⟩, h3⟩, h4⟩
set_option maxRecDepth 20000 in
theorem uW_L_feed : Cond.codeWith yL_feed cL_feed 6 (some .int) [(0, 11, 14, 13)] ∈ UW := mem_UW (in_t1 (List.mem_of_getElem? (i := 172) rfl)) rfl
set_option maxHeartbeats 4000000 in
set_option maxRecDepth 100000 in
theorem L_feed_ok (l : Launch) (G : GW) (sz x0 o1 : Nat) (fs : List Value) (wt : va_W) (ov : Nat → Int64) (x : Int32) (v : Int64) {S : Type} {post : Int32 → S → Prop} {w1 : S → va_W} (hM : ∀ sz : Nat, Met l yX3_feed (Cond.code yX3_feed cX3_feed 5 (some FieldType.int) :: UW) ({ frames := 6, cells := 0, slots := 0, locals := 82 } : Room) (va_Pc [.ref x0, .int x, .long v] (gPre G ((x0, .inr (3, fs)) :: wt) sz)) (va_Qi post (fun v => gPost G (va_A ((x0, .inr (3, fs)) :: wt) sz) (w1 v)) (va_A ((x0, .inr (3, fs)) :: wt) sz)) 0 0 (va_A ((x0, .inr (3, fs)) :: wt) sz)) : Met l yL_feed (Cond.codeWith yL_feed cL_feed 6 (some .int) [(0, 11, 14, 13)] :: UW) ({ frames := 7, cells := 1, slots := 6, locals := 106 } : Room) (va_Pc [.ref x0, .int x, .long v, .ref o1] (gPre G ((o1, .inl (G.2.1 2, 1, .inr (.inl ov))) :: ((x0, .inr (3, fs)) :: wt)) sz)) (va_Qi (fun r (v : S × (Nat → Int64)) => r = 0 ∧ ∃ r9, post r9 v.1 ∧ v.2 0 = r9.toInt64) (fun v => gPost G (va_A ((o1, .inl (G.2.1 2, 1, .inr (.inl ov))) :: ((x0, .inr (3, fs)) :: wt)) sz) ((o1, .inl (G.2.1 2, 1, .inr (.inl v.2))) :: w1 v.1)) (va_A ((o1, .inl (G.2.1 2, 1, .inr (.inl ov))) :: ((x0, .inr (3, fs)) :: wt)) sz)) 1 6 (va_A ((o1, .inl (G.2.1 2, 1, .inr (.inl ov))) :: ((x0, .inr (3, fs)) :: wt)) sz) := by
  refine gML_of (Qf := fun A => va_Qi (fun r (v : S × (Nat → Int64)) => r = 0 ∧ ∃ r9, post r9 v.1 ∧ v.2 0 = r9.toInt64) (fun v => gPost G A ((o1, .inl (G.2.1 2, 1, .inr (.inl v.2))) :: w1 v.1)) A) (by decide) (Nat.le_of_ble_eq_true rfl) ?_
  intro p e s m below meth c A ls hx hb hml hr hown htu hlk htab hA hP hD hS hK hZ hl
  have hown : s.vm.findClass RL = some m.cls := hown
  have hl : lv_has ls 6 [(0, .ref x0), (1, .int x), (2, .long v), (4, .ref o1)] := hl
  refine lv_aload hx hb dL_feed_0 (lv_at hl 3 rfl) ?_
  refine lv_iconst (v := nI 0) hx hb dL_feed_2 (by decide) ?_
  refine lv_aload_n hx hb dL_feed_3 rfl (lv_at hl 0 rfl) ?_
  refine lv_iload_n hx hb dL_feed_4 rfl (lv_at hl 1 rfl) ?_
  refine lv_lload_n hx hb dL_feed_5 rfl (lv_at hl 2 rfl) ?_
  have hPn : va_P G.1 vwCl (([(o1, .inl (G.2.1 2, 1, .inr (.inl ov)))] ++ ((x0, .inr (3, fs)) :: wt)) ++ []) s.heap := by rw [List.append_nil]; exact hP
  have hDn : va_D A (([(o1, .inl (G.2.1 2, 1, .inr (.inl ov)))] ++ ((x0, .inr (3, fs)) :: wt)) ++ []) := by rw [List.append_nil]; exact hD
  refine b_calli (P := [(o1, .inl (G.2.1 2, 1, .inr (.inl ov)))]) (B := ((x0, .inr (3, fs)) :: wt)) (T := []) (g_runV (As := [.int x, .long v]) (rest := [.int (nI 0), .ref o1]) ⟨hx, hb, hml, hown, htu⟩ (hM _) uM_L_7 ok_X3_feed in_X3_feed rfl rfl ⟨Nat.le_of_ble_eq_true rfl, Nat.le_of_ble_eq_true rfl⟩ hK hPn hDn hS hA hZ (List.range' [(o1, .inl (G.2.1 2, 1, .inr (.inl ov)))].length ((x0, .inr (3, fs)) :: wt).length) (blkC [(o1, .inl (G.2.1 2, 1, .inr (.inl ov)))] ((x0, .inr (3, fs)) :: wt) []) (va_nd_of List.nodup_range') 1 rfl rfl rfl rfl hl.1 rfl (Nat.le_of_ble_eq_true rfl) dL_feed_6 ⟨Nat.le_of_ble_eq_true rfl, Nat.le_of_ble_eq_true rfl⟩) hPn hDn hS hA (fun r u H locs hw hP hD hS => ?_)
  rw [List.append_nil] at hP hD
  have hP : va_P G.1 vwCl ((o1, .inl (G.2.1 2, 1, .inr (.inl ov))) :: w1 u) H := hP
  have hD : va_D A ((o1, .inl (G.2.1 2, 1, .inr (.inl ov))) :: w1 u) := hD
  refine lv_i2l (v := Int32.toInt64 r) hx hb dL_feed_9 rfl ?_
  refine lv_topl (fun v_1 ev_1 => ?_)
  refine g_last hx hb hK.1 hP hD hS 0 2 rfl rfl ⟨by decide, by decide⟩ dL_feed_10 (fun H locs hP hD hS => ?_)
  obtain ⟨g_2, eg_2⟩ : ∃ gq9 : Nat → Int64, gq9 = vp_updL ov 0 v_1 := ⟨_, rfl⟩
  rw [← eg_2] at hP hD
  have hP : va_P G.1 vwCl ((o1, .inl (G.2.1 2, 1, .inr (.inl g_2))) :: w1 u) H := hP
  have hD : va_D A ((o1, .inl (G.2.1 2, 1, .inr (.inl g_2))) :: w1 u) := hD
  refine lv_goto (tgt := 18) hx hb dL_feed_11 (by decide) ?_
  refine lv_iconst (v := 0) hx hb dL_feed_18 (by decide) ?_
  refine W.widen (k := 1) (n := 6) (by decide) (by decide) ?_
  exact gret_i hx hb hr hlk dL_feed_19 hS (u, g_2) hP hD (⟨rfl, r, hw, by show g_2 0 = _; rw [eg_2, pk_uLs, ev_1]⟩)
set_option maxHeartbeats 4000000 in
set_option maxRecDepth 100000 in
theorem L_feed_1 (l : Launch) (G : GW) (sz x0 o1 : Nat) (fs : List Value) (wt : va_W) (ov : Nat → Int64) (x : Int32) (v : Int64) (hM : ∀ sz : Nat, vx_Met l yX3_feed (Cond.code yX3_feed cX3_feed 5 (some FieldType.int) :: UW) ({ frames := 6, cells := 1, slots := 6, locals := 82 } : Room) (va_Pc [.ref x0, .int x, .long v] (gPre G ((x0, .inr (3, fs)) :: wt) sz)) gNo (gXC G xIAE (va_A ((x0, .inr (3, fs)) :: wt) sz) ((x0, .inr (3, fs)) :: wt)) 1 6 (va_A ((x0, .inr (3, fs)) :: wt) sz)) : Met l yL_feed (Cond.codeWith yL_feed cL_feed 6 (some .int) [(0, 11, 14, 13)] :: UW) ({ frames := 7, cells := 1, slots := 6, locals := 106 } : Room) (va_Pc [.ref x0, .int x, .long v, .ref o1] (gPre G ((o1, .inl (G.2.1 2, 1, .inr (.inl ov))) :: ((x0, .inr (3, fs)) :: wt)) sz)) (va_Qi (fun r (_ : Unit) => r = 1) (fun _ => gPost G (va_A ((o1, .inl (G.2.1 2, 1, .inr (.inl ov))) :: ((x0, .inr (3, fs)) :: wt)) sz) ((o1, .inl (G.2.1 2, 1, .inr (.inl ov))) :: ((x0, .inr (3, fs)) :: wt))) (va_A ((o1, .inl (G.2.1 2, 1, .inr (.inl ov))) :: ((x0, .inr (3, fs)) :: wt)) sz)) 1 6 (va_A ((o1, .inl (G.2.1 2, 1, .inr (.inl ov))) :: ((x0, .inr (3, fs)) :: wt)) sz) := by
  refine gML_of (Qf := fun A => va_Qi (fun r (_ : Unit) => r = 1) (fun _ => gPost G A ((o1, .inl (G.2.1 2, 1, .inr (.inl ov))) :: ((x0, .inr (3, fs)) :: wt))) A) (by decide) (Nat.le_of_ble_eq_true rfl) ?_
  intro p e s m below meth c A ls hx hb hml hr hown htu hlk htab hA hP hD hS hK hZ hl
  have hown : s.vm.findClass RL = some m.cls := hown
  have hl : lv_has ls 6 [(0, .ref x0), (1, .int x), (2, .long v), (4, .ref o1)] := hl
  refine lv_aload hx hb dL_feed_0 (lv_at hl 3 rfl) ?_
  refine lv_iconst (v := nI 0) hx hb dL_feed_2 (by decide) ?_
  refine lv_aload_n hx hb dL_feed_3 rfl (lv_at hl 0 rfl) ?_
  refine lv_iload_n hx hb dL_feed_4 rfl (lv_at hl 1 rfl) ?_
  refine lv_lload_n hx hb dL_feed_5 rfl (lv_at hl 2 rfl) ?_
  have hPn : va_P G.1 vwCl (([(o1, .inl (G.2.1 2, 1, .inr (.inl ov)))] ++ ((x0, .inr (3, fs)) :: wt)) ++ []) s.heap := by rw [List.append_nil]; exact hP
  have hDn : va_D A (([(o1, .inl (G.2.1 2, 1, .inr (.inl ov)))] ++ ((x0, .inr (3, fs)) :: wt)) ++ []) := by rw [List.append_nil]; exact hD
  refine b_xcall (P := [(o1, .inl (G.2.1 2, 1, .inr (.inl ov)))]) (B := ((x0, .inr (3, fs)) :: wt)) (T := []) (g_xrunV (As := [.int x, .long v]) (rest := [.int (nI 0), .ref o1]) ⟨hx, hb, hml, hown, htu⟩ (hM _) uM_L_7 ok_X3_feed in_X3_feed rfl rfl ⟨Nat.le_of_ble_eq_true rfl, Nat.le_of_ble_eq_true rfl⟩ hK hPn hDn hS hA hZ (List.range' [(o1, .inl (G.2.1 2, 1, .inr (.inl ov)))].length ((x0, .inr (3, fs)) :: wt).length) (blkC [(o1, .inl (G.2.1 2, 1, .inr (.inl ov)))] ((x0, .inr (3, fs)) :: wt) []) (va_nd_of List.nodup_range') 1 rfl rfl rfl rfl hl.1 rfl (Nat.le_of_ble_eq_true rfl) dL_feed_6 ⟨Nat.le_of_ble_eq_true rfl, Nat.le_of_ble_eq_true rfl⟩) hPn hDn hS hA (fun ce q9 H locs hP hS hce hcv hcl => ?_)
  rw [List.append_nil] at hP
  have hP : va_P G.1 vwCl ((o1, .inl (G.2.1 2, 1, .inr (.inl ov))) :: ((x0, .inr (3, fs)) :: wt)) H := hP
  have hD : va_D A ((o1, .inl (G.2.1 2, 1, .inr (.inl ov))) :: ((x0, .inr (3, fs)) :: wt)) := hD
  refine vx_catch (own := RL) (name := xIAE) hown [] ⟨0, 11, 14, 13⟩ [] (htab.trans rfl) (fun _ h => absurd h List.not_mem_nil) (by decide) (by decide) (htu _ uK_L_13) (va_Nw.use rfl (hK.2.2.2.1 _ (List.mem_of_getElem? (i := 0) rfl))) hce hcv hcl ?_
  refine lv_astore (lv' := [(5, .ref q9), (0, .ref x0), (1, .int x), (2, .long v), (4, .ref o1)]) hx hb dL_feed_14 hl (by decide) rfl (fun ls hl => ?_)
  refine lv_iconst (v := 1) hx hb dL_feed_16 (by decide) ?_
  refine W.widen (k := 1) (n := 6) (by decide) (by decide) ?_
  exact gret_i hx hb hr hlk dL_feed_17 hS () hP hD (rfl)
set_option maxRecDepth 100000 in
theorem l_feed (l : Launch) (hT9 : l.stackTraces = false) (G : GW) (sz x0 o1 : Nat) (ad : Nat → Nat) (ov : Nat → Int64) (u : XU) (A : AS) (x : Int32) (v : Int64) (E : AO) (hR : XR u A) (hE : feedA A x v = E) : Met l yL_feed (Cond.codeWith yL_feed cL_feed 6 (some .int) [(0, 11, 14, 13)] :: UW) ({ frames := 7, cells := 1, slots := 6, locals := 106 } : Room) (va_Pc [.ref x0, .int x, .long v, .ref o1] (gPre G ((o1, .inl (G.2.1 2, 1, .inr (.inl ov))) :: xW G x0 ad u) sz)) (va_Qi (fun r (v : XU × (Nat → Int64)) => r = nI E.1 ∧ XR v.1 E.2.2 ∧ (E.1 = 0 → v.2 0 = E.2.1)) (fun v => gPost G (va_A ((o1, .inl (G.2.1 2, 1, .inr (.inl ov))) :: xW G x0 ad u) sz) ((o1, .inl (G.2.1 2, 1, .inr (.inl v.2))) :: xW G x0 ad v.1)) (va_A ((o1, .inl (G.2.1 2, 1, .inr (.inl ov))) :: xW G x0 ad u) sz)) 1 6 (va_A ((o1, .inl (G.2.1 2, 1, .inr (.inl ov))) :: xW G x0 ad u) sz) := by
  rcases x_feed l hT9 G x0 ad u A x v E hR hE with ⟨h0, hM⟩ | ⟨h0, hM⟩
  · refine gMono_i (L_feed_ok l G sz x0 o1 _ _ ov x v hM) (fun r v h => ?_)
    obtain ⟨h1, r9, h2, h3⟩ := h
    exact ⟨v, ⟨by rw [h1, h0]; rfl, h2.2, fun _ => by rw [h3, h2.1]⟩, rfl⟩
  · subst h0
    refine gMono_i (L_feed_1 l G sz x0 o1 _ _ ov x v hM) (fun r v h => ?_)
    exact ⟨(u, ov), ⟨h.trans rfl, hR, fun h9 => absurd h9 (Nat.succ_ne_zero _)⟩, rfl⟩
set_option maxRecDepth 20000 in
theorem uW_L_begin : Cond.codeWith yL_begin cL_begin 4 (some .int) [(0, 6, 9, 19), (0, 6, 12, 13)] ∈ UW := mem_UW (in_t2 (List.mem_of_getElem? (i := 12) rfl)) rfl
set_option maxHeartbeats 4000000 in
set_option maxRecDepth 100000 in
theorem L_begin_ok (l : Launch) (G : GW) (sz x0 o1 : Nat) (fs : List Value) (wt : va_W) (ov : Nat → Int64) (x : Int32) (y : Int32) {S : Type} {post : S → Prop} {w1 : S → va_W} (hM : ∀ sz : Nat, Met l yX3_begin (Cond.code yX3_begin cX3_begin 4 (none : Option FieldType) :: UW) ({ frames := 7, cells := 0, slots := 0, locals := 103 } : Room) (va_Pc [.ref x0, .int x, .int y] (gPre G ((x0, .inr (3, fs)) :: wt) sz)) (va_Qv post (fun v => gPost G (va_A ((x0, .inr (3, fs)) :: wt) sz) (w1 v)) (va_A ((x0, .inr (3, fs)) :: wt) sz)) 0 0 (va_A ((x0, .inr (3, fs)) :: wt) sz)) : Met l yL_begin (Cond.codeWith yL_begin cL_begin 4 (some .int) [(0, 6, 9, 19), (0, 6, 12, 13)] :: UW) ({ frames := 8, cells := 1, slots := 6, locals := 126 } : Room) (va_Pc [.ref x0, .int x, .int y] (gPre G ((x0, .inr (3, fs)) :: wt) sz)) (va_Qi (fun r (v : S) => r = 0 ∧ post v) (fun v => gPost G (va_A ((x0, .inr (3, fs)) :: wt) sz) (w1 v)) (va_A ((x0, .inr (3, fs)) :: wt) sz)) 1 6 (va_A ((x0, .inr (3, fs)) :: wt) sz) := by
  refine gML_of (Qf := fun A => va_Qi (fun r (v : S) => r = 0 ∧ post v) (fun v => gPost G A (w1 v)) A) (by decide) (Nat.le_of_ble_eq_true rfl) ?_
  intro p e s m below meth c A ls hx hb hml hr hown htu hlk htab hA hP hD hS hK hZ hl
  have hown : s.vm.findClass RL = some m.cls := hown
  have hl : lv_has ls 4 [(0, .ref x0), (1, .int x), (2, .int y)] := hl
  refine lv_aload_n hx hb dL_begin_0 rfl (lv_at hl 0 rfl) ?_
  refine lv_iload_n hx hb dL_begin_1 rfl (lv_at hl 1 rfl) ?_
  refine lv_iload_n hx hb dL_begin_2 rfl (lv_at hl 2 rfl) ?_
  have hPn : va_P G.1 vwCl ((([] : va_W) ++ ((x0, .inr (3, fs)) :: wt)) ++ []) s.heap := by rw [List.append_nil]; exact hP
  have hDn : va_D A ((([] : va_W) ++ ((x0, .inr (3, fs)) :: wt)) ++ []) := by rw [List.append_nil]; exact hD
  refine b_callv (P := ([] : va_W)) (B := ((x0, .inr (3, fs)) :: wt)) (T := []) (g_runV (As := [.int x, .int y]) (rest := []) ⟨hx, hb, hml, hown, htu⟩ (hM _) uM_L_15 ok_X3_begin in_X3_begin rfl rfl ⟨Nat.le_of_ble_eq_true rfl, Nat.le_of_ble_eq_true rfl⟩ hK hPn hDn hS hA hZ (List.range' ([] : va_W).length ((x0, .inr (3, fs)) :: wt).length) (blkC ([] : va_W) ((x0, .inr (3, fs)) :: wt) []) (va_nd_of List.nodup_range') 0 rfl rfl rfl rfl hl.1 rfl (Nat.le_of_ble_eq_true rfl) dL_begin_3 ⟨Nat.le_of_ble_eq_true rfl, Nat.le_of_ble_eq_true rfl⟩) hPn hDn hS hA (fun u H locs hw hP hD hS => ?_)
  rw [List.append_nil] at hP hD
  have hP : va_P G.1 vwCl (w1 u) H := hP
  have hD : va_D A (w1 u) := hD
  refine lv_goto (tgt := 15) hx hb dL_begin_6 (by decide) ?_
  refine lv_iconst (v := 0) hx hb dL_begin_15 (by decide) ?_
  refine W.widen (k := 1) (n := 6) (by decide) (by decide) ?_
  exact gret_i hx hb hr hlk dL_begin_16 hS u hP hD (⟨rfl, hw⟩)
set_option maxHeartbeats 4000000 in
set_option maxRecDepth 100000 in
theorem L_begin_1 (l : Launch) (G : GW) (sz x0 o1 : Nat) (fs : List Value) (wt : va_W) (ov : Nat → Int64) (x : Int32) (y : Int32) (hM : ∀ sz : Nat, vx_Met l yX3_begin (Cond.code yX3_begin cX3_begin 4 (none : Option FieldType) :: UW) ({ frames := 7, cells := 1, slots := 6, locals := 103 } : Room) (va_Pc [.ref x0, .int x, .int y] (gPre G ((x0, .inr (3, fs)) :: wt) sz)) gNo (gXC G xIOB (va_A ((x0, .inr (3, fs)) :: wt) sz) ((x0, .inr (3, fs)) :: wt)) 1 6 (va_A ((x0, .inr (3, fs)) :: wt) sz)) : Met l yL_begin (Cond.codeWith yL_begin cL_begin 4 (some .int) [(0, 6, 9, 19), (0, 6, 12, 13)] :: UW) ({ frames := 8, cells := 1, slots := 6, locals := 126 } : Room) (va_Pc [.ref x0, .int x, .int y] (gPre G ((x0, .inr (3, fs)) :: wt) sz)) (va_Qi (fun r (_ : Unit) => r = 1) (fun _ => gPost G (va_A ((x0, .inr (3, fs)) :: wt) sz) ((x0, .inr (3, fs)) :: wt)) (va_A ((x0, .inr (3, fs)) :: wt) sz)) 1 6 (va_A ((x0, .inr (3, fs)) :: wt) sz) := by
  refine gML_of (Qf := fun A => va_Qi (fun r (_ : Unit) => r = 1) (fun _ => gPost G A ((x0, .inr (3, fs)) :: wt)) A) (by decide) (Nat.le_of_ble_eq_true rfl) ?_
  intro p e s m below meth c A ls hx hb hml hr hown htu hlk htab hA hP hD hS hK hZ hl
  have hown : s.vm.findClass RL = some m.cls := hown
  have hl : lv_has ls 4 [(0, .ref x0), (1, .int x), (2, .int y)] := hl
  refine lv_aload_n hx hb dL_begin_0 rfl (lv_at hl 0 rfl) ?_
  refine lv_iload_n hx hb dL_begin_1 rfl (lv_at hl 1 rfl) ?_
  refine lv_iload_n hx hb dL_begin_2 rfl (lv_at hl 2 rfl) ?_
  have hPn : va_P G.1 vwCl ((([] : va_W) ++ ((x0, .inr (3, fs)) :: wt)) ++ []) s.heap := by rw [List.append_nil]; exact hP
  have hDn : va_D A ((([] : va_W) ++ ((x0, .inr (3, fs)) :: wt)) ++ []) := by rw [List.append_nil]; exact hD
  refine b_xcall (P := ([] : va_W)) (B := ((x0, .inr (3, fs)) :: wt)) (T := []) (g_xrunV (As := [.int x, .int y]) (rest := []) ⟨hx, hb, hml, hown, htu⟩ (hM _) uM_L_15 ok_X3_begin in_X3_begin rfl rfl ⟨Nat.le_of_ble_eq_true rfl, Nat.le_of_ble_eq_true rfl⟩ hK hPn hDn hS hA hZ (List.range' ([] : va_W).length ((x0, .inr (3, fs)) :: wt).length) (blkC ([] : va_W) ((x0, .inr (3, fs)) :: wt) []) (va_nd_of List.nodup_range') 0 rfl rfl rfl rfl hl.1 rfl (Nat.le_of_ble_eq_true rfl) dL_begin_3 ⟨Nat.le_of_ble_eq_true rfl, Nat.le_of_ble_eq_true rfl⟩) hPn hDn hS hA (fun ce q9 H locs hP hS hce hcv hcl => ?_)
  rw [List.append_nil] at hP
  have hP : va_P G.1 vwCl ((x0, .inr (3, fs)) :: wt) H := hP
  have hD : va_D A ((x0, .inr (3, fs)) :: wt) := hD
  refine vx_catch (own := RL) (name := xIOB) hown [] ⟨0, 6, 9, 19⟩ [⟨0, 6, 12, 13⟩] (htab.trans rfl) (fun _ h => absurd h List.not_mem_nil) (by decide) (by decide) (htu _ uK_L_19) (va_Nw.use rfl (hK.2.2.2.1 _ (List.mem_of_getElem? (i := 1) rfl))) hce hcv hcl ?_
  refine lv_astore_n (lv' := [(3, .ref q9), (0, .ref x0), (1, .int x), (2, .int y)]) hx hb dL_begin_9 rfl hl (by decide) rfl (fun ls hl => ?_)
  refine lv_iconst (v := 1) hx hb dL_begin_10 (by decide) ?_
  refine W.widen (k := 1) (n := 6) (by decide) (by decide) ?_
  exact gret_i hx hb hr hlk dL_begin_11 hS () hP hD (rfl)
set_option maxHeartbeats 4000000 in
set_option maxRecDepth 100000 in
theorem L_begin_2 (l : Launch) (G : GW) (sz x0 o1 : Nat) (fs : List Value) (wt : va_W) (ov : Nat → Int64) (x : Int32) (y : Int32) (hM : ∀ sz : Nat, vx_Met l yX3_begin (Cond.code yX3_begin cX3_begin 4 (none : Option FieldType) :: UW) ({ frames := 7, cells := 1, slots := 6, locals := 103 } : Room) (va_Pc [.ref x0, .int x, .int y] (gPre G ((x0, .inr (3, fs)) :: wt) sz)) gNo (gXC G xIAE (va_A ((x0, .inr (3, fs)) :: wt) sz) ((x0, .inr (3, fs)) :: wt)) 1 6 (va_A ((x0, .inr (3, fs)) :: wt) sz)) : Met l yL_begin (Cond.codeWith yL_begin cL_begin 4 (some .int) [(0, 6, 9, 19), (0, 6, 12, 13)] :: UW) ({ frames := 8, cells := 1, slots := 6, locals := 126 } : Room) (va_Pc [.ref x0, .int x, .int y] (gPre G ((x0, .inr (3, fs)) :: wt) sz)) (va_Qi (fun r (_ : Unit) => r = 2) (fun _ => gPost G (va_A ((x0, .inr (3, fs)) :: wt) sz) ((x0, .inr (3, fs)) :: wt)) (va_A ((x0, .inr (3, fs)) :: wt) sz)) 1 6 (va_A ((x0, .inr (3, fs)) :: wt) sz) := by
  refine gML_of (Qf := fun A => va_Qi (fun r (_ : Unit) => r = 2) (fun _ => gPost G A ((x0, .inr (3, fs)) :: wt)) A) (by decide) (Nat.le_of_ble_eq_true rfl) ?_
  intro p e s m below meth c A ls hx hb hml hr hown htu hlk htab hA hP hD hS hK hZ hl
  have hown : s.vm.findClass RL = some m.cls := hown
  have hl : lv_has ls 4 [(0, .ref x0), (1, .int x), (2, .int y)] := hl
  refine lv_aload_n hx hb dL_begin_0 rfl (lv_at hl 0 rfl) ?_
  refine lv_iload_n hx hb dL_begin_1 rfl (lv_at hl 1 rfl) ?_
  refine lv_iload_n hx hb dL_begin_2 rfl (lv_at hl 2 rfl) ?_
  have hPn : va_P G.1 vwCl ((([] : va_W) ++ ((x0, .inr (3, fs)) :: wt)) ++ []) s.heap := by rw [List.append_nil]; exact hP
  have hDn : va_D A ((([] : va_W) ++ ((x0, .inr (3, fs)) :: wt)) ++ []) := by rw [List.append_nil]; exact hD
  refine b_xcall (P := ([] : va_W)) (B := ((x0, .inr (3, fs)) :: wt)) (T := []) (g_xrunV (As := [.int x, .int y]) (rest := []) ⟨hx, hb, hml, hown, htu⟩ (hM _) uM_L_15 ok_X3_begin in_X3_begin rfl rfl ⟨Nat.le_of_ble_eq_true rfl, Nat.le_of_ble_eq_true rfl⟩ hK hPn hDn hS hA hZ (List.range' ([] : va_W).length ((x0, .inr (3, fs)) :: wt).length) (blkC ([] : va_W) ((x0, .inr (3, fs)) :: wt) []) (va_nd_of List.nodup_range') 0 rfl rfl rfl rfl hl.1 rfl (Nat.le_of_ble_eq_true rfl) dL_begin_3 ⟨Nat.le_of_ble_eq_true rfl, Nat.le_of_ble_eq_true rfl⟩) hPn hDn hS hA (fun ce q9 H locs hP hS hce hcv hcl => ?_)
  rw [List.append_nil] at hP
  have hP : va_P G.1 vwCl ((x0, .inr (3, fs)) :: wt) H := hP
  have hD : va_D A ((x0, .inr (3, fs)) :: wt) := hD
  refine vx_catch (own := RL) (name := xIAE) hown [⟨0, 6, 9, 19⟩] ⟨0, 6, 12, 13⟩ [] (htab.trans rfl) (List.forall_mem_cons.mpr ⟨Or.inr ⟨by decide, xIOB, htu _ uK_L_19, hK.2.2.2.2.1⟩, fun _ h => absurd h List.not_mem_nil⟩) (by decide) (by decide) (htu _ uK_L_13) (va_Nw.use rfl (hK.2.2.2.1 _ (List.mem_of_getElem? (i := 0) rfl))) hce hcv hcl ?_
  refine lv_astore_n (lv' := [(3, .ref q9), (0, .ref x0), (1, .int x), (2, .int y)]) hx hb dL_begin_12 rfl hl (by decide) rfl (fun ls hl => ?_)
  refine lv_iconst (v := 2) hx hb dL_begin_13 (by decide) ?_
  refine W.widen (k := 1) (n := 6) (by decide) (by decide) ?_
  exact gret_i hx hb hr hlk dL_begin_14 hS () hP hD (rfl)
set_option maxRecDepth 100000 in
theorem l_begin (l : Launch) (hT9 : l.stackTraces = false) (G : GW) (sz x0 o1 : Nat) (ad : Nat → Nat) (ov : Nat → Int64) (u : XU) (A : AS) (x : Int32) (y : Int32) (E : AO) (hR : XR u A) (hE : beginA A x y = E) : Met l yL_begin (Cond.codeWith yL_begin cL_begin 4 (some .int) [(0, 6, 9, 19), (0, 6, 12, 13)] :: UW) ({ frames := 8, cells := 1, slots := 6, locals := 126 } : Room) (va_Pc [.ref x0, .int x, .int y] (gPre G (xW G x0 ad u) sz)) (va_Qi (fun r (v : XU) => r = nI E.1 ∧ XR v E.2.2) (fun v => gPost G (va_A (xW G x0 ad u) sz) (xW G x0 ad v)) (va_A (xW G x0 ad u) sz)) 1 6 (va_A (xW G x0 ad u) sz) := by
  rcases x_begin l hT9 G x0 ad u A x y E hR hE with ⟨h0, hM⟩ | ⟨h0, hM⟩ | ⟨h0, hM⟩
  · refine gMono_i (L_begin_ok l G sz x0 o1 _ _ ov x y hM) (fun r v h => ?_)
    exact ⟨v, ⟨by rw [h.1, h0]; rfl, h.2⟩, rfl⟩
  · subst h0
    refine gMono_i (L_begin_1 l G sz x0 o1 _ _ ov x y hM) (fun r v h => ?_)
    exact ⟨u, ⟨h.trans rfl, hR⟩, rfl⟩
  · subst h0
    refine gMono_i (L_begin_2 l G sz x0 o1 _ _ ov x y hM) (fun r v h => ?_)
    exact ⟨u, ⟨h.trans rfl, hR⟩, rfl⟩
set_option maxRecDepth 20000 in
theorem uW_L_code : Cond.codeWith yL_code cL_code 5 (some .int) [(0, 10, 13, 19), (0, 10, 17, 13)] ∈ UW := mem_UW (in_t2 (List.mem_of_getElem? (i := 60) rfl)) rfl
set_option maxHeartbeats 4000000 in
set_option maxRecDepth 100000 in
theorem L_code_ok (l : Launch) (G : GW) (sz x0 o1 : Nat) (fs : List Value) (wt : va_W) (ov : Nat → Int64) (x : Int32) (y : Int32) {S : Type} {post : Int32 → S → Prop} {w1 : S → va_W} (hM : ∀ sz : Nat, Met l yX3_code (Cond.code yX3_code cX3_code 5 (some FieldType.int) :: UW) ({ frames := 7, cells := 0, slots := 0, locals := 154 } : Room) (va_Pc [.ref x0, .int x, .int y] (gPre G ((x0, .inr (3, fs)) :: wt) sz)) (va_Qi post (fun v => gPost G (va_A ((x0, .inr (3, fs)) :: wt) sz) (w1 v)) (va_A ((x0, .inr (3, fs)) :: wt) sz)) 0 0 (va_A ((x0, .inr (3, fs)) :: wt) sz)) : Met l yL_code (Cond.codeWith yL_code cL_code 5 (some .int) [(0, 10, 13, 19), (0, 10, 17, 13)] :: UW) ({ frames := 8, cells := 1, slots := 6, locals := 178 } : Room) (va_Pc [.ref x0, .int x, .int y, .ref o1] (gPre G ((o1, .inl (G.2.1 2, 1, .inr (.inl ov))) :: ((x0, .inr (3, fs)) :: wt)) sz)) (va_Qi (fun r (v : S × (Nat → Int64)) => r = 0 ∧ ∃ r9, post r9 v.1 ∧ v.2 0 = r9.toInt64) (fun v => gPost G (va_A ((o1, .inl (G.2.1 2, 1, .inr (.inl ov))) :: ((x0, .inr (3, fs)) :: wt)) sz) ((o1, .inl (G.2.1 2, 1, .inr (.inl v.2))) :: w1 v.1)) (va_A ((o1, .inl (G.2.1 2, 1, .inr (.inl ov))) :: ((x0, .inr (3, fs)) :: wt)) sz)) 1 6 (va_A ((o1, .inl (G.2.1 2, 1, .inr (.inl ov))) :: ((x0, .inr (3, fs)) :: wt)) sz) := by
  refine gML_of (Qf := fun A => va_Qi (fun r (v : S × (Nat → Int64)) => r = 0 ∧ ∃ r9, post r9 v.1 ∧ v.2 0 = r9.toInt64) (fun v => gPost G A ((o1, .inl (G.2.1 2, 1, .inr (.inl v.2))) :: w1 v.1)) A) (by decide) (Nat.le_of_ble_eq_true rfl) ?_
  intro p e s m below meth c A ls hx hb hml hr hown htu hlk htab hA hP hD hS hK hZ hl
  have hown : s.vm.findClass RL = some m.cls := hown
  have hl : lv_has ls 5 [(0, .ref x0), (1, .int x), (2, .int y), (3, .ref o1)] := hl
  refine lv_aload_n hx hb dL_code_0 rfl (lv_at hl 3 rfl) ?_
  refine lv_iconst (v := nI 0) hx hb dL_code_1 (by decide) ?_
  refine lv_aload_n hx hb dL_code_2 rfl (lv_at hl 0 rfl) ?_
  refine lv_iload_n hx hb dL_code_3 rfl (lv_at hl 1 rfl) ?_
  refine lv_iload_n hx hb dL_code_4 rfl (lv_at hl 2 rfl) ?_
  have hPn : va_P G.1 vwCl (([(o1, .inl (G.2.1 2, 1, .inr (.inl ov)))] ++ ((x0, .inr (3, fs)) :: wt)) ++ []) s.heap := by rw [List.append_nil]; exact hP
  have hDn : va_D A (([(o1, .inl (G.2.1 2, 1, .inr (.inl ov)))] ++ ((x0, .inr (3, fs)) :: wt)) ++ []) := by rw [List.append_nil]; exact hD
  refine b_calli (P := [(o1, .inl (G.2.1 2, 1, .inr (.inl ov)))]) (B := ((x0, .inr (3, fs)) :: wt)) (T := []) (g_runV (As := [.int x, .int y]) (rest := [.int (nI 0), .ref o1]) ⟨hx, hb, hml, hown, htu⟩ (hM _) uM_L_21 ok_X3_code in_X3_code rfl rfl ⟨Nat.le_of_ble_eq_true rfl, Nat.le_of_ble_eq_true rfl⟩ hK hPn hDn hS hA hZ (List.range' [(o1, .inl (G.2.1 2, 1, .inr (.inl ov)))].length ((x0, .inr (3, fs)) :: wt).length) (blkC [(o1, .inl (G.2.1 2, 1, .inr (.inl ov)))] ((x0, .inr (3, fs)) :: wt) []) (va_nd_of List.nodup_range') 1 rfl rfl rfl rfl hl.1 rfl (Nat.le_of_ble_eq_true rfl) dL_code_5 ⟨Nat.le_of_ble_eq_true rfl, Nat.le_of_ble_eq_true rfl⟩) hPn hDn hS hA (fun r u H locs hw hP hD hS => ?_)
  rw [List.append_nil] at hP hD
  have hP : va_P G.1 vwCl ((o1, .inl (G.2.1 2, 1, .inr (.inl ov))) :: w1 u) H := hP
  have hD : va_D A ((o1, .inl (G.2.1 2, 1, .inr (.inl ov))) :: w1 u) := hD
  refine lv_i2l (v := Int32.toInt64 r) hx hb dL_code_8 rfl ?_
  refine lv_topl (fun v_1 ev_1 => ?_)
  refine g_last hx hb hK.1 hP hD hS 0 2 rfl rfl ⟨by decide, by decide⟩ dL_code_9 (fun H locs hP hD hS => ?_)
  obtain ⟨g_2, eg_2⟩ : ∃ gq9 : Nat → Int64, gq9 = vp_updL ov 0 v_1 := ⟨_, rfl⟩
  rw [← eg_2] at hP hD
  have hP : va_P G.1 vwCl ((o1, .inl (G.2.1 2, 1, .inr (.inl g_2))) :: w1 u) H := hP
  have hD : va_D A ((o1, .inl (G.2.1 2, 1, .inr (.inl g_2))) :: w1 u) := hD
  refine lv_goto (tgt := 21) hx hb dL_code_10 (by decide) ?_
  refine lv_iconst (v := 0) hx hb dL_code_21 (by decide) ?_
  refine W.widen (k := 1) (n := 6) (by decide) (by decide) ?_
  exact gret_i hx hb hr hlk dL_code_22 hS (u, g_2) hP hD (⟨rfl, r, hw, by show g_2 0 = _; rw [eg_2, pk_uLs, ev_1]⟩)
set_option maxHeartbeats 4000000 in
set_option maxRecDepth 100000 in
theorem L_code_1 (l : Launch) (G : GW) (sz x0 o1 : Nat) (fs : List Value) (wt : va_W) (ov : Nat → Int64) (x : Int32) (y : Int32) (hM : ∀ sz : Nat, vx_Met l yX3_code (Cond.code yX3_code cX3_code 5 (some FieldType.int) :: UW) ({ frames := 7, cells := 1, slots := 6, locals := 154 } : Room) (va_Pc [.ref x0, .int x, .int y] (gPre G ((x0, .inr (3, fs)) :: wt) sz)) gNo (gXC G xIOB (va_A ((x0, .inr (3, fs)) :: wt) sz) ((x0, .inr (3, fs)) :: wt)) 1 6 (va_A ((x0, .inr (3, fs)) :: wt) sz)) : Met l yL_code (Cond.codeWith yL_code cL_code 5 (some .int) [(0, 10, 13, 19), (0, 10, 17, 13)] :: UW) ({ frames := 8, cells := 1, slots := 6, locals := 178 } : Room) (va_Pc [.ref x0, .int x, .int y, .ref o1] (gPre G ((o1, .inl (G.2.1 2, 1, .inr (.inl ov))) :: ((x0, .inr (3, fs)) :: wt)) sz)) (va_Qi (fun r (_ : Unit) => r = 1) (fun _ => gPost G (va_A ((o1, .inl (G.2.1 2, 1, .inr (.inl ov))) :: ((x0, .inr (3, fs)) :: wt)) sz) ((o1, .inl (G.2.1 2, 1, .inr (.inl ov))) :: ((x0, .inr (3, fs)) :: wt))) (va_A ((o1, .inl (G.2.1 2, 1, .inr (.inl ov))) :: ((x0, .inr (3, fs)) :: wt)) sz)) 1 6 (va_A ((o1, .inl (G.2.1 2, 1, .inr (.inl ov))) :: ((x0, .inr (3, fs)) :: wt)) sz) := by
  refine gML_of (Qf := fun A => va_Qi (fun r (_ : Unit) => r = 1) (fun _ => gPost G A ((o1, .inl (G.2.1 2, 1, .inr (.inl ov))) :: ((x0, .inr (3, fs)) :: wt))) A) (by decide) (Nat.le_of_ble_eq_true rfl) ?_
  intro p e s m below meth c A ls hx hb hml hr hown htu hlk htab hA hP hD hS hK hZ hl
  have hown : s.vm.findClass RL = some m.cls := hown
  have hl : lv_has ls 5 [(0, .ref x0), (1, .int x), (2, .int y), (3, .ref o1)] := hl
  refine lv_aload_n hx hb dL_code_0 rfl (lv_at hl 3 rfl) ?_
  refine lv_iconst (v := nI 0) hx hb dL_code_1 (by decide) ?_
  refine lv_aload_n hx hb dL_code_2 rfl (lv_at hl 0 rfl) ?_
  refine lv_iload_n hx hb dL_code_3 rfl (lv_at hl 1 rfl) ?_
  refine lv_iload_n hx hb dL_code_4 rfl (lv_at hl 2 rfl) ?_
  have hPn : va_P G.1 vwCl (([(o1, .inl (G.2.1 2, 1, .inr (.inl ov)))] ++ ((x0, .inr (3, fs)) :: wt)) ++ []) s.heap := by rw [List.append_nil]; exact hP
  have hDn : va_D A (([(o1, .inl (G.2.1 2, 1, .inr (.inl ov)))] ++ ((x0, .inr (3, fs)) :: wt)) ++ []) := by rw [List.append_nil]; exact hD
  refine b_xcall (P := [(o1, .inl (G.2.1 2, 1, .inr (.inl ov)))]) (B := ((x0, .inr (3, fs)) :: wt)) (T := []) (g_xrunV (As := [.int x, .int y]) (rest := [.int (nI 0), .ref o1]) ⟨hx, hb, hml, hown, htu⟩ (hM _) uM_L_21 ok_X3_code in_X3_code rfl rfl ⟨Nat.le_of_ble_eq_true rfl, Nat.le_of_ble_eq_true rfl⟩ hK hPn hDn hS hA hZ (List.range' [(o1, .inl (G.2.1 2, 1, .inr (.inl ov)))].length ((x0, .inr (3, fs)) :: wt).length) (blkC [(o1, .inl (G.2.1 2, 1, .inr (.inl ov)))] ((x0, .inr (3, fs)) :: wt) []) (va_nd_of List.nodup_range') 1 rfl rfl rfl rfl hl.1 rfl (Nat.le_of_ble_eq_true rfl) dL_code_5 ⟨Nat.le_of_ble_eq_true rfl, Nat.le_of_ble_eq_true rfl⟩) hPn hDn hS hA (fun ce q9 H locs hP hS hce hcv hcl => ?_)
  rw [List.append_nil] at hP
  have hP : va_P G.1 vwCl ((o1, .inl (G.2.1 2, 1, .inr (.inl ov))) :: ((x0, .inr (3, fs)) :: wt)) H := hP
  have hD : va_D A ((o1, .inl (G.2.1 2, 1, .inr (.inl ov))) :: ((x0, .inr (3, fs)) :: wt)) := hD
  refine vx_catch (own := RL) (name := xIOB) hown [] ⟨0, 10, 13, 19⟩ [⟨0, 10, 17, 13⟩] (htab.trans rfl) (fun _ h => absurd h List.not_mem_nil) (by decide) (by decide) (htu _ uK_L_19) (va_Nw.use rfl (hK.2.2.2.1 _ (List.mem_of_getElem? (i := 1) rfl))) hce hcv hcl ?_
  refine lv_astore (lv' := [(4, .ref q9), (0, .ref x0), (1, .int x), (2, .int y), (3, .ref o1)]) hx hb dL_code_13 hl (by decide) rfl (fun ls hl => ?_)
  refine lv_iconst (v := 1) hx hb dL_code_15 (by decide) ?_
  refine W.widen (k := 1) (n := 6) (by decide) (by decide) ?_
  exact gret_i hx hb hr hlk dL_code_16 hS () hP hD (rfl)
set_option maxHeartbeats 4000000 in
set_option maxRecDepth 100000 in
theorem L_code_2 (l : Launch) (G : GW) (sz x0 o1 : Nat) (fs : List Value) (wt : va_W) (ov : Nat → Int64) (x : Int32) (y : Int32) (hM : ∀ sz : Nat, vx_Met l yX3_code (Cond.code yX3_code cX3_code 5 (some FieldType.int) :: UW) ({ frames := 7, cells := 1, slots := 6, locals := 154 } : Room) (va_Pc [.ref x0, .int x, .int y] (gPre G ((x0, .inr (3, fs)) :: wt) sz)) gNo (gXC G xIAE (va_A ((x0, .inr (3, fs)) :: wt) sz) ((x0, .inr (3, fs)) :: wt)) 1 6 (va_A ((x0, .inr (3, fs)) :: wt) sz)) : Met l yL_code (Cond.codeWith yL_code cL_code 5 (some .int) [(0, 10, 13, 19), (0, 10, 17, 13)] :: UW) ({ frames := 8, cells := 1, slots := 6, locals := 178 } : Room) (va_Pc [.ref x0, .int x, .int y, .ref o1] (gPre G ((o1, .inl (G.2.1 2, 1, .inr (.inl ov))) :: ((x0, .inr (3, fs)) :: wt)) sz)) (va_Qi (fun r (_ : Unit) => r = 2) (fun _ => gPost G (va_A ((o1, .inl (G.2.1 2, 1, .inr (.inl ov))) :: ((x0, .inr (3, fs)) :: wt)) sz) ((o1, .inl (G.2.1 2, 1, .inr (.inl ov))) :: ((x0, .inr (3, fs)) :: wt))) (va_A ((o1, .inl (G.2.1 2, 1, .inr (.inl ov))) :: ((x0, .inr (3, fs)) :: wt)) sz)) 1 6 (va_A ((o1, .inl (G.2.1 2, 1, .inr (.inl ov))) :: ((x0, .inr (3, fs)) :: wt)) sz) := by
  refine gML_of (Qf := fun A => va_Qi (fun r (_ : Unit) => r = 2) (fun _ => gPost G A ((o1, .inl (G.2.1 2, 1, .inr (.inl ov))) :: ((x0, .inr (3, fs)) :: wt))) A) (by decide) (Nat.le_of_ble_eq_true rfl) ?_
  intro p e s m below meth c A ls hx hb hml hr hown htu hlk htab hA hP hD hS hK hZ hl
  have hown : s.vm.findClass RL = some m.cls := hown
  have hl : lv_has ls 5 [(0, .ref x0), (1, .int x), (2, .int y), (3, .ref o1)] := hl
  refine lv_aload_n hx hb dL_code_0 rfl (lv_at hl 3 rfl) ?_
  refine lv_iconst (v := nI 0) hx hb dL_code_1 (by decide) ?_
  refine lv_aload_n hx hb dL_code_2 rfl (lv_at hl 0 rfl) ?_
  refine lv_iload_n hx hb dL_code_3 rfl (lv_at hl 1 rfl) ?_
  refine lv_iload_n hx hb dL_code_4 rfl (lv_at hl 2 rfl) ?_
  have hPn : va_P G.1 vwCl (([(o1, .inl (G.2.1 2, 1, .inr (.inl ov)))] ++ ((x0, .inr (3, fs)) :: wt)) ++ []) s.heap := by rw [List.append_nil]; exact hP
  have hDn : va_D A (([(o1, .inl (G.2.1 2, 1, .inr (.inl ov)))] ++ ((x0, .inr (3, fs)) :: wt)) ++ []) := by rw [List.append_nil]; exact hD
  refine b_xcall (P := [(o1, .inl (G.2.1 2, 1, .inr (.inl ov)))]) (B := ((x0, .inr (3, fs)) :: wt)) (T := []) (g_xrunV (As := [.int x, .int y]) (rest := [.int (nI 0), .ref o1]) ⟨hx, hb, hml, hown, htu⟩ (hM _) uM_L_21 ok_X3_code in_X3_code rfl rfl ⟨Nat.le_of_ble_eq_true rfl, Nat.le_of_ble_eq_true rfl⟩ hK hPn hDn hS hA hZ (List.range' [(o1, .inl (G.2.1 2, 1, .inr (.inl ov)))].length ((x0, .inr (3, fs)) :: wt).length) (blkC [(o1, .inl (G.2.1 2, 1, .inr (.inl ov)))] ((x0, .inr (3, fs)) :: wt) []) (va_nd_of List.nodup_range') 1 rfl rfl rfl rfl hl.1 rfl (Nat.le_of_ble_eq_true rfl) dL_code_5 ⟨Nat.le_of_ble_eq_true rfl, Nat.le_of_ble_eq_true rfl⟩) hPn hDn hS hA (fun ce q9 H locs hP hS hce hcv hcl => ?_)
  rw [List.append_nil] at hP
  have hP : va_P G.1 vwCl ((o1, .inl (G.2.1 2, 1, .inr (.inl ov))) :: ((x0, .inr (3, fs)) :: wt)) H := hP
  have hD : va_D A ((o1, .inl (G.2.1 2, 1, .inr (.inl ov))) :: ((x0, .inr (3, fs)) :: wt)) := hD
  refine vx_catch (own := RL) (name := xIAE) hown [⟨0, 10, 13, 19⟩] ⟨0, 10, 17, 13⟩ [] (htab.trans rfl) (List.forall_mem_cons.mpr ⟨Or.inr ⟨by decide, xIOB, htu _ uK_L_19, hK.2.2.2.2.1⟩, fun _ h => absurd h List.not_mem_nil⟩) (by decide) (by decide) (htu _ uK_L_13) (va_Nw.use rfl (hK.2.2.2.1 _ (List.mem_of_getElem? (i := 0) rfl))) hce hcv hcl ?_
  refine lv_astore (lv' := [(4, .ref q9), (0, .ref x0), (1, .int x), (2, .int y), (3, .ref o1)]) hx hb dL_code_17 hl (by decide) rfl (fun ls hl => ?_)
  refine lv_iconst (v := 2) hx hb dL_code_19 (by decide) ?_
  refine W.widen (k := 1) (n := 6) (by decide) (by decide) ?_
  exact gret_i hx hb hr hlk dL_code_20 hS () hP hD (rfl)
set_option maxRecDepth 100000 in
theorem l_code (l : Launch) (hT9 : l.stackTraces = false) (G : GW) (sz x0 o1 : Nat) (ad : Nat → Nat) (ov : Nat → Int64) (u : XU) (A : AS) (x : Int32) (y : Int32) (E : AO) (hR : XR u A) (hE : codeA A x y = E) : Met l yL_code (Cond.codeWith yL_code cL_code 5 (some .int) [(0, 10, 13, 19), (0, 10, 17, 13)] :: UW) ({ frames := 8, cells := 1, slots := 6, locals := 178 } : Room) (va_Pc [.ref x0, .int x, .int y, .ref o1] (gPre G ((o1, .inl (G.2.1 2, 1, .inr (.inl ov))) :: xW G x0 ad u) sz)) (va_Qi (fun r (v : XU × (Nat → Int64)) => r = nI E.1 ∧ XR v.1 E.2.2 ∧ (E.1 = 0 → v.2 0 = E.2.1)) (fun v => gPost G (va_A ((o1, .inl (G.2.1 2, 1, .inr (.inl ov))) :: xW G x0 ad u) sz) ((o1, .inl (G.2.1 2, 1, .inr (.inl v.2))) :: xW G x0 ad v.1)) (va_A ((o1, .inl (G.2.1 2, 1, .inr (.inl ov))) :: xW G x0 ad u) sz)) 1 6 (va_A ((o1, .inl (G.2.1 2, 1, .inr (.inl ov))) :: xW G x0 ad u) sz) := by
  rcases x_code l hT9 G x0 ad u A x y E hR hE with ⟨h0, hM⟩ | ⟨h0, hM⟩ | ⟨h0, hM⟩
  · refine gMono_i (L_code_ok l G sz x0 o1 _ _ ov x y hM) (fun r v h => ?_)
    obtain ⟨h1, r9, h2, h3⟩ := h
    exact ⟨v, ⟨by rw [h1, h0]; rfl, h2.2, fun _ => by rw [h3, h2.1]⟩, rfl⟩
  · subst h0
    refine gMono_i (L_code_1 l G sz x0 o1 _ _ ov x y hM) (fun r v h => ?_)
    exact ⟨(u, ov), ⟨h.trans rfl, hR, fun h9 => absurd h9 (Nat.succ_ne_zero _)⟩, rfl⟩
  · subst h0
    refine gMono_i (L_code_2 l G sz x0 o1 _ _ ov x y hM) (fun r v h => ?_)
    exact ⟨(u, ov), ⟨h.trans rfl, hR, fun h9 => absurd h9 (Nat.succ_ne_zero _)⟩, rfl⟩
set_option maxRecDepth 20000 in
theorem uW_L_update : Cond.codeWith yL_update cL_update 4 (some .int) [(0, 8, 11, 19), (0, 8, 14, 29)] ∈ UW := mem_UW (in_t2 (List.mem_of_getElem? (i := 165) rfl)) rfl
set_option maxHeartbeats 4000000 in
set_option maxRecDepth 100000 in
theorem L_update_ok (l : Launch) (G : GW) (sz x0 o1 : Nat) (fs : List Value) (wt : va_W) (ov : Nat → Int64) (x : Int32) {S : Type} {post : Int64 → S → Prop} {w1 : S → va_W} (hM : ∀ sz : Nat, Met l yX3_update (Cond.code yX3_update cX3_update 3 (some FieldType.long) :: UW) ({ frames := 8, cells := 0, slots := 0, locals := 131 } : Room) (va_Pc [.ref x0, .int x] (gPre G ((x0, .inr (3, fs)) :: wt) sz)) (va_Ql post (fun v => gPost G (va_A ((x0, .inr (3, fs)) :: wt) sz) (w1 v)) (va_A ((x0, .inr (3, fs)) :: wt) sz)) 0 0 (va_A ((x0, .inr (3, fs)) :: wt) sz)) : Met l yL_update (Cond.codeWith yL_update cL_update 4 (some .int) [(0, 8, 11, 19), (0, 8, 14, 29)] :: UW) ({ frames := 9, cells := 1, slots := 6, locals := 153 } : Room) (va_Pc [.ref x0, .int x, .ref o1] (gPre G ((o1, .inl (G.2.1 2, 1, .inr (.inl ov))) :: ((x0, .inr (3, fs)) :: wt)) sz)) (va_Qi (fun r (v : S × (Nat → Int64)) => r = 0 ∧ ∃ r9, post r9 v.1 ∧ v.2 0 = r9) (fun v => gPost G (va_A ((o1, .inl (G.2.1 2, 1, .inr (.inl ov))) :: ((x0, .inr (3, fs)) :: wt)) sz) ((o1, .inl (G.2.1 2, 1, .inr (.inl v.2))) :: w1 v.1)) (va_A ((o1, .inl (G.2.1 2, 1, .inr (.inl ov))) :: ((x0, .inr (3, fs)) :: wt)) sz)) 1 6 (va_A ((o1, .inl (G.2.1 2, 1, .inr (.inl ov))) :: ((x0, .inr (3, fs)) :: wt)) sz) := by
  refine gML_of (Qf := fun A => va_Qi (fun r (v : S × (Nat → Int64)) => r = 0 ∧ ∃ r9, post r9 v.1 ∧ v.2 0 = r9) (fun v => gPost G A ((o1, .inl (G.2.1 2, 1, .inr (.inl v.2))) :: w1 v.1)) A) (by decide) (Nat.le_of_ble_eq_true rfl) ?_
  intro p e s m below meth c A ls hx hb hml hr hown htu hlk htab hA hP hD hS hK hZ hl
  have hown : s.vm.findClass RL = some m.cls := hown
  have hl : lv_has ls 4 [(0, .ref x0), (1, .int x), (2, .ref o1)] := hl
  refine lv_aload_n hx hb dL_update_0 rfl (lv_at hl 2 rfl) ?_
  refine lv_iconst (v := nI 0) hx hb dL_update_1 (by decide) ?_
  refine lv_aload_n hx hb dL_update_2 rfl (lv_at hl 0 rfl) ?_
  refine lv_iload_n hx hb dL_update_3 rfl (lv_at hl 1 rfl) ?_
  have hPn : va_P G.1 vwCl (([(o1, .inl (G.2.1 2, 1, .inr (.inl ov)))] ++ ((x0, .inr (3, fs)) :: wt)) ++ []) s.heap := by rw [List.append_nil]; exact hP
  have hDn : va_D A (([(o1, .inl (G.2.1 2, 1, .inr (.inl ov)))] ++ ((x0, .inr (3, fs)) :: wt)) ++ []) := by rw [List.append_nil]; exact hD
  refine b_calll (P := [(o1, .inl (G.2.1 2, 1, .inr (.inl ov)))]) (B := ((x0, .inr (3, fs)) :: wt)) (T := []) (g_runV (As := [.int x]) (rest := [.int (nI 0), .ref o1]) ⟨hx, hb, hml, hown, htu⟩ (hM _) uM_L_25 ok_X3_update in_X3_update rfl rfl ⟨Nat.le_of_ble_eq_true rfl, Nat.le_of_ble_eq_true rfl⟩ hK hPn hDn hS hA hZ (List.range' [(o1, .inl (G.2.1 2, 1, .inr (.inl ov)))].length ((x0, .inr (3, fs)) :: wt).length) (blkC [(o1, .inl (G.2.1 2, 1, .inr (.inl ov)))] ((x0, .inr (3, fs)) :: wt) []) (va_nd_of List.nodup_range') 1 rfl rfl rfl rfl hl.1 rfl (Nat.le_of_ble_eq_true rfl) dL_update_4 ⟨Nat.le_of_ble_eq_true rfl, Nat.le_of_ble_eq_true rfl⟩) hPn hDn hS hA (fun r u H locs hw hP hD hS => ?_)
  rw [List.append_nil] at hP hD
  have hP : va_P G.1 vwCl ((o1, .inl (G.2.1 2, 1, .inr (.inl ov))) :: w1 u) H := hP
  have hD : va_D A ((o1, .inl (G.2.1 2, 1, .inr (.inl ov))) :: w1 u) := hD
  refine g_last hx hb hK.1 hP hD hS 0 2 rfl rfl ⟨by decide, by decide⟩ dL_update_7 (fun H locs hP hD hS => ?_)
  obtain ⟨g_1, eg_1⟩ : ∃ gq9 : Nat → Int64, gq9 = vp_updL ov 0 r := ⟨_, rfl⟩
  rw [← eg_1] at hP hD
  have hP : va_P G.1 vwCl ((o1, .inl (G.2.1 2, 1, .inr (.inl g_1))) :: w1 u) H := hP
  have hD : va_D A ((o1, .inl (G.2.1 2, 1, .inr (.inl g_1))) :: w1 u) := hD
  refine lv_goto (tgt := 17) hx hb dL_update_8 (by decide) ?_
  refine lv_iconst (v := 0) hx hb dL_update_17 (by decide) ?_
  refine W.widen (k := 1) (n := 6) (by decide) (by decide) ?_
  exact gret_i hx hb hr hlk dL_update_18 hS (u, g_1) hP hD (⟨rfl, r, hw, by show g_1 0 = _; rw [eg_1, pk_uLs]⟩)
set_option maxHeartbeats 4000000 in
set_option maxRecDepth 100000 in
theorem L_update_1 (l : Launch) (G : GW) (sz x0 o1 : Nat) (fs : List Value) (wt : va_W) (ov : Nat → Int64) (x : Int32) (hM : ∀ sz : Nat, vx_Met l yX3_update (Cond.code yX3_update cX3_update 3 (some FieldType.long) :: UW) ({ frames := 8, cells := 1, slots := 6, locals := 131 } : Room) (va_Pc [.ref x0, .int x] (gPre G ((x0, .inr (3, fs)) :: wt) sz)) gNo (gXC G xIOB (va_A ((x0, .inr (3, fs)) :: wt) sz) ((x0, .inr (3, fs)) :: wt)) 1 6 (va_A ((x0, .inr (3, fs)) :: wt) sz)) : Met l yL_update (Cond.codeWith yL_update cL_update 4 (some .int) [(0, 8, 11, 19), (0, 8, 14, 29)] :: UW) ({ frames := 9, cells := 1, slots := 6, locals := 153 } : Room) (va_Pc [.ref x0, .int x, .ref o1] (gPre G ((o1, .inl (G.2.1 2, 1, .inr (.inl ov))) :: ((x0, .inr (3, fs)) :: wt)) sz)) (va_Qi (fun r (_ : Unit) => r = 1) (fun _ => gPost G (va_A ((o1, .inl (G.2.1 2, 1, .inr (.inl ov))) :: ((x0, .inr (3, fs)) :: wt)) sz) ((o1, .inl (G.2.1 2, 1, .inr (.inl ov))) :: ((x0, .inr (3, fs)) :: wt))) (va_A ((o1, .inl (G.2.1 2, 1, .inr (.inl ov))) :: ((x0, .inr (3, fs)) :: wt)) sz)) 1 6 (va_A ((o1, .inl (G.2.1 2, 1, .inr (.inl ov))) :: ((x0, .inr (3, fs)) :: wt)) sz) := by
  refine gML_of (Qf := fun A => va_Qi (fun r (_ : Unit) => r = 1) (fun _ => gPost G A ((o1, .inl (G.2.1 2, 1, .inr (.inl ov))) :: ((x0, .inr (3, fs)) :: wt))) A) (by decide) (Nat.le_of_ble_eq_true rfl) ?_
  intro p e s m below meth c A ls hx hb hml hr hown htu hlk htab hA hP hD hS hK hZ hl
  have hown : s.vm.findClass RL = some m.cls := hown
  have hl : lv_has ls 4 [(0, .ref x0), (1, .int x), (2, .ref o1)] := hl
  refine lv_aload_n hx hb dL_update_0 rfl (lv_at hl 2 rfl) ?_
  refine lv_iconst (v := nI 0) hx hb dL_update_1 (by decide) ?_
  refine lv_aload_n hx hb dL_update_2 rfl (lv_at hl 0 rfl) ?_
  refine lv_iload_n hx hb dL_update_3 rfl (lv_at hl 1 rfl) ?_
  have hPn : va_P G.1 vwCl (([(o1, .inl (G.2.1 2, 1, .inr (.inl ov)))] ++ ((x0, .inr (3, fs)) :: wt)) ++ []) s.heap := by rw [List.append_nil]; exact hP
  have hDn : va_D A (([(o1, .inl (G.2.1 2, 1, .inr (.inl ov)))] ++ ((x0, .inr (3, fs)) :: wt)) ++ []) := by rw [List.append_nil]; exact hD
  refine b_xcall (P := [(o1, .inl (G.2.1 2, 1, .inr (.inl ov)))]) (B := ((x0, .inr (3, fs)) :: wt)) (T := []) (g_xrunV (As := [.int x]) (rest := [.int (nI 0), .ref o1]) ⟨hx, hb, hml, hown, htu⟩ (hM _) uM_L_25 ok_X3_update in_X3_update rfl rfl ⟨Nat.le_of_ble_eq_true rfl, Nat.le_of_ble_eq_true rfl⟩ hK hPn hDn hS hA hZ (List.range' [(o1, .inl (G.2.1 2, 1, .inr (.inl ov)))].length ((x0, .inr (3, fs)) :: wt).length) (blkC [(o1, .inl (G.2.1 2, 1, .inr (.inl ov)))] ((x0, .inr (3, fs)) :: wt) []) (va_nd_of List.nodup_range') 1 rfl rfl rfl rfl hl.1 rfl (Nat.le_of_ble_eq_true rfl) dL_update_4 ⟨Nat.le_of_ble_eq_true rfl, Nat.le_of_ble_eq_true rfl⟩) hPn hDn hS hA (fun ce q9 H locs hP hS hce hcv hcl => ?_)
  rw [List.append_nil] at hP
  have hP : va_P G.1 vwCl ((o1, .inl (G.2.1 2, 1, .inr (.inl ov))) :: ((x0, .inr (3, fs)) :: wt)) H := hP
  have hD : va_D A ((o1, .inl (G.2.1 2, 1, .inr (.inl ov))) :: ((x0, .inr (3, fs)) :: wt)) := hD
  refine vx_catch (own := RL) (name := xIOB) hown [] ⟨0, 8, 11, 19⟩ [⟨0, 8, 14, 29⟩] (htab.trans rfl) (fun _ h => absurd h List.not_mem_nil) (by decide) (by decide) (htu _ uK_L_19) (va_Nw.use rfl (hK.2.2.2.1 _ (List.mem_of_getElem? (i := 1) rfl))) hce hcv hcl ?_
  refine lv_astore_n (lv' := [(3, .ref q9), (0, .ref x0), (1, .int x), (2, .ref o1)]) hx hb dL_update_11 rfl hl (by decide) rfl (fun ls hl => ?_)
  refine lv_iconst (v := 1) hx hb dL_update_12 (by decide) ?_
  refine W.widen (k := 1) (n := 6) (by decide) (by decide) ?_
  exact gret_i hx hb hr hlk dL_update_13 hS () hP hD (rfl)
set_option maxHeartbeats 4000000 in
set_option maxRecDepth 100000 in
theorem L_update_2 (l : Launch) (G : GW) (sz x0 o1 : Nat) (fs : List Value) (wt : va_W) (ov : Nat → Int64) (x : Int32) (hM : ∀ sz : Nat, vx_Met l yX3_update (Cond.code yX3_update cX3_update 3 (some FieldType.long) :: UW) ({ frames := 8, cells := 1, slots := 6, locals := 131 } : Room) (va_Pc [.ref x0, .int x] (gPre G ((x0, .inr (3, fs)) :: wt) sz)) gNo (gXC G xISE (va_A ((x0, .inr (3, fs)) :: wt) sz) ((x0, .inr (3, fs)) :: wt)) 1 6 (va_A ((x0, .inr (3, fs)) :: wt) sz)) : Met l yL_update (Cond.codeWith yL_update cL_update 4 (some .int) [(0, 8, 11, 19), (0, 8, 14, 29)] :: UW) ({ frames := 9, cells := 1, slots := 6, locals := 153 } : Room) (va_Pc [.ref x0, .int x, .ref o1] (gPre G ((o1, .inl (G.2.1 2, 1, .inr (.inl ov))) :: ((x0, .inr (3, fs)) :: wt)) sz)) (va_Qi (fun r (_ : Unit) => r = 2) (fun _ => gPost G (va_A ((o1, .inl (G.2.1 2, 1, .inr (.inl ov))) :: ((x0, .inr (3, fs)) :: wt)) sz) ((o1, .inl (G.2.1 2, 1, .inr (.inl ov))) :: ((x0, .inr (3, fs)) :: wt))) (va_A ((o1, .inl (G.2.1 2, 1, .inr (.inl ov))) :: ((x0, .inr (3, fs)) :: wt)) sz)) 1 6 (va_A ((o1, .inl (G.2.1 2, 1, .inr (.inl ov))) :: ((x0, .inr (3, fs)) :: wt)) sz) := by
  refine gML_of (Qf := fun A => va_Qi (fun r (_ : Unit) => r = 2) (fun _ => gPost G A ((o1, .inl (G.2.1 2, 1, .inr (.inl ov))) :: ((x0, .inr (3, fs)) :: wt))) A) (by decide) (Nat.le_of_ble_eq_true rfl) ?_
  intro p e s m below meth c A ls hx hb hml hr hown htu hlk htab hA hP hD hS hK hZ hl
  have hown : s.vm.findClass RL = some m.cls := hown
  have hl : lv_has ls 4 [(0, .ref x0), (1, .int x), (2, .ref o1)] := hl
  refine lv_aload_n hx hb dL_update_0 rfl (lv_at hl 2 rfl) ?_
  refine lv_iconst (v := nI 0) hx hb dL_update_1 (by decide) ?_
  refine lv_aload_n hx hb dL_update_2 rfl (lv_at hl 0 rfl) ?_
  refine lv_iload_n hx hb dL_update_3 rfl (lv_at hl 1 rfl) ?_
  have hPn : va_P G.1 vwCl (([(o1, .inl (G.2.1 2, 1, .inr (.inl ov)))] ++ ((x0, .inr (3, fs)) :: wt)) ++ []) s.heap := by rw [List.append_nil]; exact hP
  have hDn : va_D A (([(o1, .inl (G.2.1 2, 1, .inr (.inl ov)))] ++ ((x0, .inr (3, fs)) :: wt)) ++ []) := by rw [List.append_nil]; exact hD
  refine b_xcall (P := [(o1, .inl (G.2.1 2, 1, .inr (.inl ov)))]) (B := ((x0, .inr (3, fs)) :: wt)) (T := []) (g_xrunV (As := [.int x]) (rest := [.int (nI 0), .ref o1]) ⟨hx, hb, hml, hown, htu⟩ (hM _) uM_L_25 ok_X3_update in_X3_update rfl rfl ⟨Nat.le_of_ble_eq_true rfl, Nat.le_of_ble_eq_true rfl⟩ hK hPn hDn hS hA hZ (List.range' [(o1, .inl (G.2.1 2, 1, .inr (.inl ov)))].length ((x0, .inr (3, fs)) :: wt).length) (blkC [(o1, .inl (G.2.1 2, 1, .inr (.inl ov)))] ((x0, .inr (3, fs)) :: wt) []) (va_nd_of List.nodup_range') 1 rfl rfl rfl rfl hl.1 rfl (Nat.le_of_ble_eq_true rfl) dL_update_4 ⟨Nat.le_of_ble_eq_true rfl, Nat.le_of_ble_eq_true rfl⟩) hPn hDn hS hA (fun ce q9 H locs hP hS hce hcv hcl => ?_)
  rw [List.append_nil] at hP
  have hP : va_P G.1 vwCl ((o1, .inl (G.2.1 2, 1, .inr (.inl ov))) :: ((x0, .inr (3, fs)) :: wt)) H := hP
  have hD : va_D A ((o1, .inl (G.2.1 2, 1, .inr (.inl ov))) :: ((x0, .inr (3, fs)) :: wt)) := hD
  refine vx_catch (own := RL) (name := xISE) hown [⟨0, 8, 11, 19⟩] ⟨0, 8, 14, 29⟩ [] (htab.trans rfl) (List.forall_mem_cons.mpr ⟨Or.inr ⟨by decide, xIOB, htu _ uK_L_19, hK.2.2.2.2.2.1⟩, fun _ h => absurd h List.not_mem_nil⟩) (by decide) (by decide) (htu _ uK_L_29) (va_Nw.use rfl (hK.2.2.2.1 _ (List.mem_of_getElem? (i := 2) rfl))) hce hcv hcl ?_
  refine lv_astore_n (lv' := [(3, .ref q9), (0, .ref x0), (1, .int x), (2, .ref o1)]) hx hb dL_update_14 rfl hl (by decide) rfl (fun ls hl => ?_)
  refine lv_iconst (v := 2) hx hb dL_update_15 (by decide) ?_
  refine W.widen (k := 1) (n := 6) (by decide) (by decide) ?_
  exact gret_i hx hb hr hlk dL_update_16 hS () hP hD (rfl)
set_option maxRecDepth 100000 in
theorem l_update (l : Launch) (hT9 : l.stackTraces = false) (G : GW) (sz x0 o1 : Nat) (ad : Nat → Nat) (ov : Nat → Int64) (u : XU) (A : AS) (x : Int32) (E : AO) (hR : XR u A) (hE : updateA A x = E) : Met l yL_update (Cond.codeWith yL_update cL_update 4 (some .int) [(0, 8, 11, 19), (0, 8, 14, 29)] :: UW) ({ frames := 9, cells := 1, slots := 6, locals := 153 } : Room) (va_Pc [.ref x0, .int x, .ref o1] (gPre G ((o1, .inl (G.2.1 2, 1, .inr (.inl ov))) :: xW G x0 ad u) sz)) (va_Qi (fun r (v : XU × (Nat → Int64)) => r = nI E.1 ∧ XR v.1 E.2.2 ∧ (E.1 = 0 → v.2 0 = E.2.1)) (fun v => gPost G (va_A ((o1, .inl (G.2.1 2, 1, .inr (.inl ov))) :: xW G x0 ad u) sz) ((o1, .inl (G.2.1 2, 1, .inr (.inl v.2))) :: xW G x0 ad v.1)) (va_A ((o1, .inl (G.2.1 2, 1, .inr (.inl ov))) :: xW G x0 ad u) sz)) 1 6 (va_A ((o1, .inl (G.2.1 2, 1, .inr (.inl ov))) :: xW G x0 ad u) sz) := by
  rcases x_update l hT9 G x0 ad u A x E hR hE with ⟨h0, hM⟩ | ⟨h0, hM⟩ | ⟨h0, hM⟩
  · refine gMono_i (L_update_ok l G sz x0 o1 _ _ ov x hM) (fun r v h => ?_)
    obtain ⟨h1, r9, h2, h3⟩ := h
    exact ⟨v, ⟨by rw [h1, h0]; rfl, h2.2, fun _ => by rw [h3, h2.1]⟩, rfl⟩
  · subst h0
    refine gMono_i (L_update_1 l G sz x0 o1 _ _ ov x hM) (fun r v h => ?_)
    exact ⟨(u, ov), ⟨h.trans rfl, hR, fun h9 => absurd h9 (Nat.succ_ne_zero _)⟩, rfl⟩
  · subst h0
    refine gMono_i (L_update_2 l G sz x0 o1 _ _ ov x hM) (fun r v h => ?_)
    exact ⟨(u, ov), ⟨h.trans rfl, hR, fun h9 => absurd h9 (Nat.succ_ne_zero _)⟩, rfl⟩
set_option maxRecDepth 20000 in
theorem uW_L_repeat : Cond.codeWith yL_repeat cL_repeat 6 (some .int) [(0, 11, 14, 19), (0, 11, 18, 29), (0, 11, 22, 13)] ∈ UW := mem_UW (in_t2 (List.mem_of_getElem? (i := 197) rfl)) rfl
set_option maxHeartbeats 4000000 in
set_option maxRecDepth 100000 in
theorem L_repeat_ok (l : Launch) (G : GW) (sz x0 o1 : Nat) (fs : List Value) (wt : va_W) (ov : Nat → Int64) (x : Int32) (w : Int32) (n : Int32) {S : Type} {post : Int64 → S → Prop} {w1 : S → va_W} (hM : ∀ sz : Nat, Met l yX3_repeat (Cond.code yX3_repeat cX3_repeat 6 (some FieldType.long) :: UW) ({ frames := 8, cells := 0, slots := 0, locals := 130 } : Room) (va_Pc [.ref x0, .int x, .int w, .int n] (gPre G ((x0, .inr (3, fs)) :: wt) sz)) (va_Ql post (fun v => gPost G (va_A ((x0, .inr (3, fs)) :: wt) sz) (w1 v)) (va_A ((x0, .inr (3, fs)) :: wt) sz)) 0 0 (va_A ((x0, .inr (3, fs)) :: wt) sz)) : Met l yL_repeat (Cond.codeWith yL_repeat cL_repeat 6 (some .int) [(0, 11, 14, 19), (0, 11, 18, 29), (0, 11, 22, 13)] :: UW) ({ frames := 9, cells := 1, slots := 6, locals := 155 } : Room) (va_Pc [.ref x0, .int x, .int w, .int n, .ref o1] (gPre G ((o1, .inl (G.2.1 2, 1, .inr (.inl ov))) :: ((x0, .inr (3, fs)) :: wt)) sz)) (va_Qi (fun r (v : S × (Nat → Int64)) => r = 0 ∧ ∃ r9, post r9 v.1 ∧ v.2 0 = r9) (fun v => gPost G (va_A ((o1, .inl (G.2.1 2, 1, .inr (.inl ov))) :: ((x0, .inr (3, fs)) :: wt)) sz) ((o1, .inl (G.2.1 2, 1, .inr (.inl v.2))) :: w1 v.1)) (va_A ((o1, .inl (G.2.1 2, 1, .inr (.inl ov))) :: ((x0, .inr (3, fs)) :: wt)) sz)) 1 6 (va_A ((o1, .inl (G.2.1 2, 1, .inr (.inl ov))) :: ((x0, .inr (3, fs)) :: wt)) sz) := by
  refine gML_of (Qf := fun A => va_Qi (fun r (v : S × (Nat → Int64)) => r = 0 ∧ ∃ r9, post r9 v.1 ∧ v.2 0 = r9) (fun v => gPost G A ((o1, .inl (G.2.1 2, 1, .inr (.inl v.2))) :: w1 v.1)) A) (by decide) (Nat.le_of_ble_eq_true rfl) ?_
  intro p e s m below meth c A ls hx hb hml hr hown htu hlk htab hA hP hD hS hK hZ hl
  have hown : s.vm.findClass RL = some m.cls := hown
  have hl : lv_has ls 6 [(0, .ref x0), (1, .int x), (2, .int w), (3, .int n), (4, .ref o1)] := hl
  refine lv_aload hx hb dL_repeat_0 (lv_at hl 4 rfl) ?_
  refine lv_iconst (v := nI 0) hx hb dL_repeat_2 (by decide) ?_
  refine lv_aload_n hx hb dL_repeat_3 rfl (lv_at hl 0 rfl) ?_
  refine lv_iload_n hx hb dL_repeat_4 rfl (lv_at hl 1 rfl) ?_
  refine lv_iload_n hx hb dL_repeat_5 rfl (lv_at hl 2 rfl) ?_
  refine lv_iload_n hx hb dL_repeat_6 rfl (lv_at hl 3 rfl) ?_
  have hPn : va_P G.1 vwCl (([(o1, .inl (G.2.1 2, 1, .inr (.inl ov)))] ++ ((x0, .inr (3, fs)) :: wt)) ++ []) s.heap := by rw [List.append_nil]; exact hP
  have hDn : va_D A (([(o1, .inl (G.2.1 2, 1, .inr (.inl ov)))] ++ ((x0, .inr (3, fs)) :: wt)) ++ []) := by rw [List.append_nil]; exact hD
  refine b_calll (P := [(o1, .inl (G.2.1 2, 1, .inr (.inl ov)))]) (B := ((x0, .inr (3, fs)) :: wt)) (T := []) (g_runV (As := [.int x, .int w, .int n]) (rest := [.int (nI 0), .ref o1]) ⟨hx, hb, hml, hown, htu⟩ (hM _) uM_L_31 ok_X3_repeat in_X3_repeat rfl rfl ⟨Nat.le_of_ble_eq_true rfl, Nat.le_of_ble_eq_true rfl⟩ hK hPn hDn hS hA hZ (List.range' [(o1, .inl (G.2.1 2, 1, .inr (.inl ov)))].length ((x0, .inr (3, fs)) :: wt).length) (blkC [(o1, .inl (G.2.1 2, 1, .inr (.inl ov)))] ((x0, .inr (3, fs)) :: wt) []) (va_nd_of List.nodup_range') 1 rfl rfl rfl rfl hl.1 rfl (Nat.le_of_ble_eq_true rfl) dL_repeat_7 ⟨Nat.le_of_ble_eq_true rfl, Nat.le_of_ble_eq_true rfl⟩) hPn hDn hS hA (fun r u H locs hw hP hD hS => ?_)
  rw [List.append_nil] at hP hD
  have hP : va_P G.1 vwCl ((o1, .inl (G.2.1 2, 1, .inr (.inl ov))) :: w1 u) H := hP
  have hD : va_D A ((o1, .inl (G.2.1 2, 1, .inr (.inl ov))) :: w1 u) := hD
  refine g_last hx hb hK.1 hP hD hS 0 2 rfl rfl ⟨by decide, by decide⟩ dL_repeat_10 (fun H locs hP hD hS => ?_)
  obtain ⟨g_1, eg_1⟩ : ∃ gq9 : Nat → Int64, gq9 = vp_updL ov 0 r := ⟨_, rfl⟩
  rw [← eg_1] at hP hD
  have hP : va_P G.1 vwCl ((o1, .inl (G.2.1 2, 1, .inr (.inl g_1))) :: w1 u) H := hP
  have hD : va_D A ((o1, .inl (G.2.1 2, 1, .inr (.inl g_1))) :: w1 u) := hD
  refine lv_goto (tgt := 26) hx hb dL_repeat_11 (by decide) ?_
  refine lv_iconst (v := 0) hx hb dL_repeat_26 (by decide) ?_
  refine W.widen (k := 1) (n := 6) (by decide) (by decide) ?_
  exact gret_i hx hb hr hlk dL_repeat_27 hS (u, g_1) hP hD (⟨rfl, r, hw, by show g_1 0 = _; rw [eg_1, pk_uLs]⟩)
set_option maxHeartbeats 4000000 in
set_option maxRecDepth 100000 in
theorem L_repeat_1 (l : Launch) (G : GW) (sz x0 o1 : Nat) (fs : List Value) (wt : va_W) (ov : Nat → Int64) (x : Int32) (w : Int32) (n : Int32) (hM : ∀ sz : Nat, vx_Met l yX3_repeat (Cond.code yX3_repeat cX3_repeat 6 (some FieldType.long) :: UW) ({ frames := 8, cells := 1, slots := 6, locals := 130 } : Room) (va_Pc [.ref x0, .int x, .int w, .int n] (gPre G ((x0, .inr (3, fs)) :: wt) sz)) gNo (gXC G xIOB (va_A ((x0, .inr (3, fs)) :: wt) sz) ((x0, .inr (3, fs)) :: wt)) 1 6 (va_A ((x0, .inr (3, fs)) :: wt) sz)) : Met l yL_repeat (Cond.codeWith yL_repeat cL_repeat 6 (some .int) [(0, 11, 14, 19), (0, 11, 18, 29), (0, 11, 22, 13)] :: UW) ({ frames := 9, cells := 1, slots := 6, locals := 155 } : Room) (va_Pc [.ref x0, .int x, .int w, .int n, .ref o1] (gPre G ((o1, .inl (G.2.1 2, 1, .inr (.inl ov))) :: ((x0, .inr (3, fs)) :: wt)) sz)) (va_Qi (fun r (_ : Unit) => r = 1) (fun _ => gPost G (va_A ((o1, .inl (G.2.1 2, 1, .inr (.inl ov))) :: ((x0, .inr (3, fs)) :: wt)) sz) ((o1, .inl (G.2.1 2, 1, .inr (.inl ov))) :: ((x0, .inr (3, fs)) :: wt))) (va_A ((o1, .inl (G.2.1 2, 1, .inr (.inl ov))) :: ((x0, .inr (3, fs)) :: wt)) sz)) 1 6 (va_A ((o1, .inl (G.2.1 2, 1, .inr (.inl ov))) :: ((x0, .inr (3, fs)) :: wt)) sz) := by
  refine gML_of (Qf := fun A => va_Qi (fun r (_ : Unit) => r = 1) (fun _ => gPost G A ((o1, .inl (G.2.1 2, 1, .inr (.inl ov))) :: ((x0, .inr (3, fs)) :: wt))) A) (by decide) (Nat.le_of_ble_eq_true rfl) ?_
  intro p e s m below meth c A ls hx hb hml hr hown htu hlk htab hA hP hD hS hK hZ hl
  have hown : s.vm.findClass RL = some m.cls := hown
  have hl : lv_has ls 6 [(0, .ref x0), (1, .int x), (2, .int w), (3, .int n), (4, .ref o1)] := hl
  refine lv_aload hx hb dL_repeat_0 (lv_at hl 4 rfl) ?_
  refine lv_iconst (v := nI 0) hx hb dL_repeat_2 (by decide) ?_
  refine lv_aload_n hx hb dL_repeat_3 rfl (lv_at hl 0 rfl) ?_
  refine lv_iload_n hx hb dL_repeat_4 rfl (lv_at hl 1 rfl) ?_
  refine lv_iload_n hx hb dL_repeat_5 rfl (lv_at hl 2 rfl) ?_
  refine lv_iload_n hx hb dL_repeat_6 rfl (lv_at hl 3 rfl) ?_
  have hPn : va_P G.1 vwCl (([(o1, .inl (G.2.1 2, 1, .inr (.inl ov)))] ++ ((x0, .inr (3, fs)) :: wt)) ++ []) s.heap := by rw [List.append_nil]; exact hP
  have hDn : va_D A (([(o1, .inl (G.2.1 2, 1, .inr (.inl ov)))] ++ ((x0, .inr (3, fs)) :: wt)) ++ []) := by rw [List.append_nil]; exact hD
  refine b_xcall (P := [(o1, .inl (G.2.1 2, 1, .inr (.inl ov)))]) (B := ((x0, .inr (3, fs)) :: wt)) (T := []) (g_xrunV (As := [.int x, .int w, .int n]) (rest := [.int (nI 0), .ref o1]) ⟨hx, hb, hml, hown, htu⟩ (hM _) uM_L_31 ok_X3_repeat in_X3_repeat rfl rfl ⟨Nat.le_of_ble_eq_true rfl, Nat.le_of_ble_eq_true rfl⟩ hK hPn hDn hS hA hZ (List.range' [(o1, .inl (G.2.1 2, 1, .inr (.inl ov)))].length ((x0, .inr (3, fs)) :: wt).length) (blkC [(o1, .inl (G.2.1 2, 1, .inr (.inl ov)))] ((x0, .inr (3, fs)) :: wt) []) (va_nd_of List.nodup_range') 1 rfl rfl rfl rfl hl.1 rfl (Nat.le_of_ble_eq_true rfl) dL_repeat_7 ⟨Nat.le_of_ble_eq_true rfl, Nat.le_of_ble_eq_true rfl⟩) hPn hDn hS hA (fun ce q9 H locs hP hS hce hcv hcl => ?_)
  rw [List.append_nil] at hP
  have hP : va_P G.1 vwCl ((o1, .inl (G.2.1 2, 1, .inr (.inl ov))) :: ((x0, .inr (3, fs)) :: wt)) H := hP
  have hD : va_D A ((o1, .inl (G.2.1 2, 1, .inr (.inl ov))) :: ((x0, .inr (3, fs)) :: wt)) := hD
  refine vx_catch (own := RL) (name := xIOB) hown [] ⟨0, 11, 14, 19⟩ [⟨0, 11, 18, 29⟩, ⟨0, 11, 22, 13⟩] (htab.trans rfl) (fun _ h => absurd h List.not_mem_nil) (by decide) (by decide) (htu _ uK_L_19) (va_Nw.use rfl (hK.2.2.2.1 _ (List.mem_of_getElem? (i := 1) rfl))) hce hcv hcl ?_
  refine lv_astore (lv' := [(5, .ref q9), (0, .ref x0), (1, .int x), (2, .int w), (3, .int n), (4, .ref o1)]) hx hb dL_repeat_14 hl (by decide) rfl (fun ls hl => ?_)
  refine lv_iconst (v := 1) hx hb dL_repeat_16 (by decide) ?_
  refine W.widen (k := 1) (n := 6) (by decide) (by decide) ?_
  exact gret_i hx hb hr hlk dL_repeat_17 hS () hP hD (rfl)
set_option maxHeartbeats 4000000 in
set_option maxRecDepth 100000 in
theorem L_repeat_2 (l : Launch) (G : GW) (sz x0 o1 : Nat) (fs : List Value) (wt : va_W) (ov : Nat → Int64) (x : Int32) (w : Int32) (n : Int32) (hM : ∀ sz : Nat, vx_Met l yX3_repeat (Cond.code yX3_repeat cX3_repeat 6 (some FieldType.long) :: UW) ({ frames := 8, cells := 1, slots := 6, locals := 130 } : Room) (va_Pc [.ref x0, .int x, .int w, .int n] (gPre G ((x0, .inr (3, fs)) :: wt) sz)) gNo (gXC G xISE (va_A ((x0, .inr (3, fs)) :: wt) sz) ((x0, .inr (3, fs)) :: wt)) 1 6 (va_A ((x0, .inr (3, fs)) :: wt) sz)) : Met l yL_repeat (Cond.codeWith yL_repeat cL_repeat 6 (some .int) [(0, 11, 14, 19), (0, 11, 18, 29), (0, 11, 22, 13)] :: UW) ({ frames := 9, cells := 1, slots := 6, locals := 155 } : Room) (va_Pc [.ref x0, .int x, .int w, .int n, .ref o1] (gPre G ((o1, .inl (G.2.1 2, 1, .inr (.inl ov))) :: ((x0, .inr (3, fs)) :: wt)) sz)) (va_Qi (fun r (_ : Unit) => r = 2) (fun _ => gPost G (va_A ((o1, .inl (G.2.1 2, 1, .inr (.inl ov))) :: ((x0, .inr (3, fs)) :: wt)) sz) ((o1, .inl (G.2.1 2, 1, .inr (.inl ov))) :: ((x0, .inr (3, fs)) :: wt))) (va_A ((o1, .inl (G.2.1 2, 1, .inr (.inl ov))) :: ((x0, .inr (3, fs)) :: wt)) sz)) 1 6 (va_A ((o1, .inl (G.2.1 2, 1, .inr (.inl ov))) :: ((x0, .inr (3, fs)) :: wt)) sz) := by
  refine gML_of (Qf := fun A => va_Qi (fun r (_ : Unit) => r = 2) (fun _ => gPost G A ((o1, .inl (G.2.1 2, 1, .inr (.inl ov))) :: ((x0, .inr (3, fs)) :: wt))) A) (by decide) (Nat.le_of_ble_eq_true rfl) ?_
  intro p e s m below meth c A ls hx hb hml hr hown htu hlk htab hA hP hD hS hK hZ hl
  have hown : s.vm.findClass RL = some m.cls := hown
  have hl : lv_has ls 6 [(0, .ref x0), (1, .int x), (2, .int w), (3, .int n), (4, .ref o1)] := hl
  refine lv_aload hx hb dL_repeat_0 (lv_at hl 4 rfl) ?_
  refine lv_iconst (v := nI 0) hx hb dL_repeat_2 (by decide) ?_
  refine lv_aload_n hx hb dL_repeat_3 rfl (lv_at hl 0 rfl) ?_
  refine lv_iload_n hx hb dL_repeat_4 rfl (lv_at hl 1 rfl) ?_
  refine lv_iload_n hx hb dL_repeat_5 rfl (lv_at hl 2 rfl) ?_
  refine lv_iload_n hx hb dL_repeat_6 rfl (lv_at hl 3 rfl) ?_
  have hPn : va_P G.1 vwCl (([(o1, .inl (G.2.1 2, 1, .inr (.inl ov)))] ++ ((x0, .inr (3, fs)) :: wt)) ++ []) s.heap := by rw [List.append_nil]; exact hP
  have hDn : va_D A (([(o1, .inl (G.2.1 2, 1, .inr (.inl ov)))] ++ ((x0, .inr (3, fs)) :: wt)) ++ []) := by rw [List.append_nil]; exact hD
  refine b_xcall (P := [(o1, .inl (G.2.1 2, 1, .inr (.inl ov)))]) (B := ((x0, .inr (3, fs)) :: wt)) (T := []) (g_xrunV (As := [.int x, .int w, .int n]) (rest := [.int (nI 0), .ref o1]) ⟨hx, hb, hml, hown, htu⟩ (hM _) uM_L_31 ok_X3_repeat in_X3_repeat rfl rfl ⟨Nat.le_of_ble_eq_true rfl, Nat.le_of_ble_eq_true rfl⟩ hK hPn hDn hS hA hZ (List.range' [(o1, .inl (G.2.1 2, 1, .inr (.inl ov)))].length ((x0, .inr (3, fs)) :: wt).length) (blkC [(o1, .inl (G.2.1 2, 1, .inr (.inl ov)))] ((x0, .inr (3, fs)) :: wt) []) (va_nd_of List.nodup_range') 1 rfl rfl rfl rfl hl.1 rfl (Nat.le_of_ble_eq_true rfl) dL_repeat_7 ⟨Nat.le_of_ble_eq_true rfl, Nat.le_of_ble_eq_true rfl⟩) hPn hDn hS hA (fun ce q9 H locs hP hS hce hcv hcl => ?_)
  rw [List.append_nil] at hP
  have hP : va_P G.1 vwCl ((o1, .inl (G.2.1 2, 1, .inr (.inl ov))) :: ((x0, .inr (3, fs)) :: wt)) H := hP
  have hD : va_D A ((o1, .inl (G.2.1 2, 1, .inr (.inl ov))) :: ((x0, .inr (3, fs)) :: wt)) := hD
  refine vx_catch (own := RL) (name := xISE) hown [⟨0, 11, 14, 19⟩] ⟨0, 11, 18, 29⟩ [⟨0, 11, 22, 13⟩] (htab.trans rfl) (List.forall_mem_cons.mpr ⟨Or.inr ⟨by decide, xIOB, htu _ uK_L_19, hK.2.2.2.2.2.1⟩, fun _ h => absurd h List.not_mem_nil⟩) (by decide) (by decide) (htu _ uK_L_29) (va_Nw.use rfl (hK.2.2.2.1 _ (List.mem_of_getElem? (i := 2) rfl))) hce hcv hcl ?_
  refine lv_astore (lv' := [(5, .ref q9), (0, .ref x0), (1, .int x), (2, .int w), (3, .int n), (4, .ref o1)]) hx hb dL_repeat_18 hl (by decide) rfl (fun ls hl => ?_)
  refine lv_iconst (v := 2) hx hb dL_repeat_20 (by decide) ?_
  refine W.widen (k := 1) (n := 6) (by decide) (by decide) ?_
  exact gret_i hx hb hr hlk dL_repeat_21 hS () hP hD (rfl)
set_option maxHeartbeats 4000000 in
set_option maxRecDepth 100000 in
theorem L_repeat_3 (l : Launch) (G : GW) (sz x0 o1 : Nat) (fs : List Value) (wt : va_W) (ov : Nat → Int64) (x : Int32) (w : Int32) (n : Int32) (hM : ∀ sz : Nat, vx_Met l yX3_repeat (Cond.code yX3_repeat cX3_repeat 6 (some FieldType.long) :: UW) ({ frames := 8, cells := 1, slots := 6, locals := 130 } : Room) (va_Pc [.ref x0, .int x, .int w, .int n] (gPre G ((x0, .inr (3, fs)) :: wt) sz)) gNo (gXC G xIAE (va_A ((x0, .inr (3, fs)) :: wt) sz) ((x0, .inr (3, fs)) :: wt)) 1 6 (va_A ((x0, .inr (3, fs)) :: wt) sz)) : Met l yL_repeat (Cond.codeWith yL_repeat cL_repeat 6 (some .int) [(0, 11, 14, 19), (0, 11, 18, 29), (0, 11, 22, 13)] :: UW) ({ frames := 9, cells := 1, slots := 6, locals := 155 } : Room) (va_Pc [.ref x0, .int x, .int w, .int n, .ref o1] (gPre G ((o1, .inl (G.2.1 2, 1, .inr (.inl ov))) :: ((x0, .inr (3, fs)) :: wt)) sz)) (va_Qi (fun r (_ : Unit) => r = 3) (fun _ => gPost G (va_A ((o1, .inl (G.2.1 2, 1, .inr (.inl ov))) :: ((x0, .inr (3, fs)) :: wt)) sz) ((o1, .inl (G.2.1 2, 1, .inr (.inl ov))) :: ((x0, .inr (3, fs)) :: wt))) (va_A ((o1, .inl (G.2.1 2, 1, .inr (.inl ov))) :: ((x0, .inr (3, fs)) :: wt)) sz)) 1 6 (va_A ((o1, .inl (G.2.1 2, 1, .inr (.inl ov))) :: ((x0, .inr (3, fs)) :: wt)) sz) := by
  refine gML_of (Qf := fun A => va_Qi (fun r (_ : Unit) => r = 3) (fun _ => gPost G A ((o1, .inl (G.2.1 2, 1, .inr (.inl ov))) :: ((x0, .inr (3, fs)) :: wt))) A) (by decide) (Nat.le_of_ble_eq_true rfl) ?_
  intro p e s m below meth c A ls hx hb hml hr hown htu hlk htab hA hP hD hS hK hZ hl
  have hown : s.vm.findClass RL = some m.cls := hown
  have hl : lv_has ls 6 [(0, .ref x0), (1, .int x), (2, .int w), (3, .int n), (4, .ref o1)] := hl
  refine lv_aload hx hb dL_repeat_0 (lv_at hl 4 rfl) ?_
  refine lv_iconst (v := nI 0) hx hb dL_repeat_2 (by decide) ?_
  refine lv_aload_n hx hb dL_repeat_3 rfl (lv_at hl 0 rfl) ?_
  refine lv_iload_n hx hb dL_repeat_4 rfl (lv_at hl 1 rfl) ?_
  refine lv_iload_n hx hb dL_repeat_5 rfl (lv_at hl 2 rfl) ?_
  refine lv_iload_n hx hb dL_repeat_6 rfl (lv_at hl 3 rfl) ?_
  have hPn : va_P G.1 vwCl (([(o1, .inl (G.2.1 2, 1, .inr (.inl ov)))] ++ ((x0, .inr (3, fs)) :: wt)) ++ []) s.heap := by rw [List.append_nil]; exact hP
  have hDn : va_D A (([(o1, .inl (G.2.1 2, 1, .inr (.inl ov)))] ++ ((x0, .inr (3, fs)) :: wt)) ++ []) := by rw [List.append_nil]; exact hD
  refine b_xcall (P := [(o1, .inl (G.2.1 2, 1, .inr (.inl ov)))]) (B := ((x0, .inr (3, fs)) :: wt)) (T := []) (g_xrunV (As := [.int x, .int w, .int n]) (rest := [.int (nI 0), .ref o1]) ⟨hx, hb, hml, hown, htu⟩ (hM _) uM_L_31 ok_X3_repeat in_X3_repeat rfl rfl ⟨Nat.le_of_ble_eq_true rfl, Nat.le_of_ble_eq_true rfl⟩ hK hPn hDn hS hA hZ (List.range' [(o1, .inl (G.2.1 2, 1, .inr (.inl ov)))].length ((x0, .inr (3, fs)) :: wt).length) (blkC [(o1, .inl (G.2.1 2, 1, .inr (.inl ov)))] ((x0, .inr (3, fs)) :: wt) []) (va_nd_of List.nodup_range') 1 rfl rfl rfl rfl hl.1 rfl (Nat.le_of_ble_eq_true rfl) dL_repeat_7 ⟨Nat.le_of_ble_eq_true rfl, Nat.le_of_ble_eq_true rfl⟩) hPn hDn hS hA (fun ce q9 H locs hP hS hce hcv hcl => ?_)
  rw [List.append_nil] at hP
  have hP : va_P G.1 vwCl ((o1, .inl (G.2.1 2, 1, .inr (.inl ov))) :: ((x0, .inr (3, fs)) :: wt)) H := hP
  have hD : va_D A ((o1, .inl (G.2.1 2, 1, .inr (.inl ov))) :: ((x0, .inr (3, fs)) :: wt)) := hD
  refine vx_catch (own := RL) (name := xIAE) hown [⟨0, 11, 14, 19⟩, ⟨0, 11, 18, 29⟩] ⟨0, 11, 22, 13⟩ [] (htab.trans rfl) (List.forall_mem_cons.mpr ⟨Or.inr ⟨by decide, xIOB, htu _ uK_L_19, hK.2.2.2.2.1⟩, List.forall_mem_cons.mpr ⟨Or.inr ⟨by decide, xISE, htu _ uK_L_29, hK.2.2.2.2.2.2⟩, fun _ h => absurd h List.not_mem_nil⟩⟩) (by decide) (by decide) (htu _ uK_L_13) (va_Nw.use rfl (hK.2.2.2.1 _ (List.mem_of_getElem? (i := 0) rfl))) hce hcv hcl ?_
  refine lv_astore (lv' := [(5, .ref q9), (0, .ref x0), (1, .int x), (2, .int w), (3, .int n), (4, .ref o1)]) hx hb dL_repeat_22 hl (by decide) rfl (fun ls hl => ?_)
  refine lv_iconst (v := 3) hx hb dL_repeat_24 (by decide) ?_
  refine W.widen (k := 1) (n := 6) (by decide) (by decide) ?_
  exact gret_i hx hb hr hlk dL_repeat_25 hS () hP hD (rfl)
set_option maxRecDepth 100000 in
theorem l_repeat (l : Launch) (hT9 : l.stackTraces = false) (G : GW) (sz x0 o1 : Nat) (ad : Nat → Nat) (ov : Nat → Int64) (u : XU) (A : AS) (x : Int32) (w : Int32) (n : Int32) (E : AO) (hR : XR u A) (hE : repeatA A x w n = E) : Met l yL_repeat (Cond.codeWith yL_repeat cL_repeat 6 (some .int) [(0, 11, 14, 19), (0, 11, 18, 29), (0, 11, 22, 13)] :: UW) ({ frames := 9, cells := 1, slots := 6, locals := 155 } : Room) (va_Pc [.ref x0, .int x, .int w, .int n, .ref o1] (gPre G ((o1, .inl (G.2.1 2, 1, .inr (.inl ov))) :: xW G x0 ad u) sz)) (va_Qi (fun r (v : XU × (Nat → Int64)) => r = nI E.1 ∧ XR v.1 E.2.2 ∧ (E.1 = 0 → v.2 0 = E.2.1)) (fun v => gPost G (va_A ((o1, .inl (G.2.1 2, 1, .inr (.inl ov))) :: xW G x0 ad u) sz) ((o1, .inl (G.2.1 2, 1, .inr (.inl v.2))) :: xW G x0 ad v.1)) (va_A ((o1, .inl (G.2.1 2, 1, .inr (.inl ov))) :: xW G x0 ad u) sz)) 1 6 (va_A ((o1, .inl (G.2.1 2, 1, .inr (.inl ov))) :: xW G x0 ad u) sz) := by
  rcases x_repeat l hT9 G x0 ad u A x w n E hR hE with ⟨h0, hM⟩ | ⟨h0, hM⟩ | ⟨h0, hM⟩ | ⟨h0, hM⟩
  · refine gMono_i (L_repeat_ok l G sz x0 o1 _ _ ov x w n hM) (fun r v h => ?_)
    obtain ⟨h1, r9, h2, h3⟩ := h
    exact ⟨v, ⟨by rw [h1, h0]; rfl, h2.2, fun _ => by rw [h3, h2.1]⟩, rfl⟩
  · subst h0
    refine gMono_i (L_repeat_1 l G sz x0 o1 _ _ ov x w n hM) (fun r v h => ?_)
    exact ⟨(u, ov), ⟨h.trans rfl, hR, fun h9 => absurd h9 (Nat.succ_ne_zero _)⟩, rfl⟩
  · subst h0
    refine gMono_i (L_repeat_2 l G sz x0 o1 _ _ ov x w n hM) (fun r v h => ?_)
    exact ⟨(u, ov), ⟨h.trans rfl, hR, fun h9 => absurd h9 (Nat.succ_ne_zero _)⟩, rfl⟩
  · subst h0
    refine gMono_i (L_repeat_3 l G sz x0 o1 _ _ ov x w n hM) (fun r v h => ?_)
    exact ⟨(u, ov), ⟨h.trans rfl, hR, fun h9 => absurd h9 (Nat.succ_ne_zero _)⟩, rfl⟩
set_option maxRecDepth 20000 in
theorem uW_L_finish : Cond.codeWith yL_finish cL_finish 4 (some .int) [(0, 9, 12, 19), (0, 9, 15, 29)] ∈ UW := mem_UW (in_t2 (List.mem_of_getElem? (i := 209) rfl)) rfl
set_option maxHeartbeats 4000000 in
set_option maxRecDepth 100000 in
theorem L_finish_ok (l : Launch) (G : GW) (sz x0 o1 : Nat) (fs : List Value) (wt : va_W) (ov : Nat → Int64) (x : Int32) {S : Type} {post : Int32 → S → Prop} {w1 : S → va_W} (hM : ∀ sz : Nat, Met l yX3_finish (Cond.code yX3_finish cX3_finish 3 (some FieldType.int) :: UW) ({ frames := 8, cells := 0, slots := 0, locals := 134 } : Room) (va_Pc [.ref x0, .int x] (gPre G ((x0, .inr (3, fs)) :: wt) sz)) (va_Qi post (fun v => gPost G (va_A ((x0, .inr (3, fs)) :: wt) sz) (w1 v)) (va_A ((x0, .inr (3, fs)) :: wt) sz)) 0 0 (va_A ((x0, .inr (3, fs)) :: wt) sz)) : Met l yL_finish (Cond.codeWith yL_finish cL_finish 4 (some .int) [(0, 9, 12, 19), (0, 9, 15, 29)] :: UW) ({ frames := 9, cells := 1, slots := 6, locals := 156 } : Room) (va_Pc [.ref x0, .int x, .ref o1] (gPre G ((o1, .inl (G.2.1 2, 1, .inr (.inl ov))) :: ((x0, .inr (3, fs)) :: wt)) sz)) (va_Qi (fun r (v : S × (Nat → Int64)) => r = 0 ∧ ∃ r9, post r9 v.1 ∧ v.2 0 = r9.toInt64) (fun v => gPost G (va_A ((o1, .inl (G.2.1 2, 1, .inr (.inl ov))) :: ((x0, .inr (3, fs)) :: wt)) sz) ((o1, .inl (G.2.1 2, 1, .inr (.inl v.2))) :: w1 v.1)) (va_A ((o1, .inl (G.2.1 2, 1, .inr (.inl ov))) :: ((x0, .inr (3, fs)) :: wt)) sz)) 1 6 (va_A ((o1, .inl (G.2.1 2, 1, .inr (.inl ov))) :: ((x0, .inr (3, fs)) :: wt)) sz) := by
  refine gML_of (Qf := fun A => va_Qi (fun r (v : S × (Nat → Int64)) => r = 0 ∧ ∃ r9, post r9 v.1 ∧ v.2 0 = r9.toInt64) (fun v => gPost G A ((o1, .inl (G.2.1 2, 1, .inr (.inl v.2))) :: w1 v.1)) A) (by decide) (Nat.le_of_ble_eq_true rfl) ?_
  intro p e s m below meth c A ls hx hb hml hr hown htu hlk htab hA hP hD hS hK hZ hl
  have hown : s.vm.findClass RL = some m.cls := hown
  have hl : lv_has ls 4 [(0, .ref x0), (1, .int x), (2, .ref o1)] := hl
  refine lv_aload_n hx hb dL_finish_0 rfl (lv_at hl 2 rfl) ?_
  refine lv_iconst (v := nI 0) hx hb dL_finish_1 (by decide) ?_
  refine lv_aload_n hx hb dL_finish_2 rfl (lv_at hl 0 rfl) ?_
  refine lv_iload_n hx hb dL_finish_3 rfl (lv_at hl 1 rfl) ?_
  have hPn : va_P G.1 vwCl (([(o1, .inl (G.2.1 2, 1, .inr (.inl ov)))] ++ ((x0, .inr (3, fs)) :: wt)) ++ []) s.heap := by rw [List.append_nil]; exact hP
  have hDn : va_D A (([(o1, .inl (G.2.1 2, 1, .inr (.inl ov)))] ++ ((x0, .inr (3, fs)) :: wt)) ++ []) := by rw [List.append_nil]; exact hD
  refine b_calli (P := [(o1, .inl (G.2.1 2, 1, .inr (.inl ov)))]) (B := ((x0, .inr (3, fs)) :: wt)) (T := []) (g_runV (As := [.int x]) (rest := [.int (nI 0), .ref o1]) ⟨hx, hb, hml, hown, htu⟩ (hM _) uM_L_35 ok_X3_finish in_X3_finish rfl rfl ⟨Nat.le_of_ble_eq_true rfl, Nat.le_of_ble_eq_true rfl⟩ hK hPn hDn hS hA hZ (List.range' [(o1, .inl (G.2.1 2, 1, .inr (.inl ov)))].length ((x0, .inr (3, fs)) :: wt).length) (blkC [(o1, .inl (G.2.1 2, 1, .inr (.inl ov)))] ((x0, .inr (3, fs)) :: wt) []) (va_nd_of List.nodup_range') 1 rfl rfl rfl rfl hl.1 rfl (Nat.le_of_ble_eq_true rfl) dL_finish_4 ⟨Nat.le_of_ble_eq_true rfl, Nat.le_of_ble_eq_true rfl⟩) hPn hDn hS hA (fun r u H locs hw hP hD hS => ?_)
  rw [List.append_nil] at hP hD
  have hP : va_P G.1 vwCl ((o1, .inl (G.2.1 2, 1, .inr (.inl ov))) :: w1 u) H := hP
  have hD : va_D A ((o1, .inl (G.2.1 2, 1, .inr (.inl ov))) :: w1 u) := hD
  refine lv_i2l (v := Int32.toInt64 r) hx hb dL_finish_7 rfl ?_
  refine lv_topl (fun v_1 ev_1 => ?_)
  refine g_last hx hb hK.1 hP hD hS 0 2 rfl rfl ⟨by decide, by decide⟩ dL_finish_8 (fun H locs hP hD hS => ?_)
  obtain ⟨g_2, eg_2⟩ : ∃ gq9 : Nat → Int64, gq9 = vp_updL ov 0 v_1 := ⟨_, rfl⟩
  rw [← eg_2] at hP hD
  have hP : va_P G.1 vwCl ((o1, .inl (G.2.1 2, 1, .inr (.inl g_2))) :: w1 u) H := hP
  have hD : va_D A ((o1, .inl (G.2.1 2, 1, .inr (.inl g_2))) :: w1 u) := hD
  refine lv_goto (tgt := 18) hx hb dL_finish_9 (by decide) ?_
  refine lv_iconst (v := 0) hx hb dL_finish_18 (by decide) ?_
  refine W.widen (k := 1) (n := 6) (by decide) (by decide) ?_
  exact gret_i hx hb hr hlk dL_finish_19 hS (u, g_2) hP hD (⟨rfl, r, hw, by show g_2 0 = _; rw [eg_2, pk_uLs, ev_1]⟩)
set_option maxHeartbeats 4000000 in
set_option maxRecDepth 100000 in
theorem L_finish_1 (l : Launch) (G : GW) (sz x0 o1 : Nat) (fs : List Value) (wt : va_W) (ov : Nat → Int64) (x : Int32) (hM : ∀ sz : Nat, vx_Met l yX3_finish (Cond.code yX3_finish cX3_finish 3 (some FieldType.int) :: UW) ({ frames := 8, cells := 1, slots := 6, locals := 134 } : Room) (va_Pc [.ref x0, .int x] (gPre G ((x0, .inr (3, fs)) :: wt) sz)) gNo (gXC G xIOB (va_A ((x0, .inr (3, fs)) :: wt) sz) ((x0, .inr (3, fs)) :: wt)) 1 6 (va_A ((x0, .inr (3, fs)) :: wt) sz)) : Met l yL_finish (Cond.codeWith yL_finish cL_finish 4 (some .int) [(0, 9, 12, 19), (0, 9, 15, 29)] :: UW) ({ frames := 9, cells := 1, slots := 6, locals := 156 } : Room) (va_Pc [.ref x0, .int x, .ref o1] (gPre G ((o1, .inl (G.2.1 2, 1, .inr (.inl ov))) :: ((x0, .inr (3, fs)) :: wt)) sz)) (va_Qi (fun r (_ : Unit) => r = 1) (fun _ => gPost G (va_A ((o1, .inl (G.2.1 2, 1, .inr (.inl ov))) :: ((x0, .inr (3, fs)) :: wt)) sz) ((o1, .inl (G.2.1 2, 1, .inr (.inl ov))) :: ((x0, .inr (3, fs)) :: wt))) (va_A ((o1, .inl (G.2.1 2, 1, .inr (.inl ov))) :: ((x0, .inr (3, fs)) :: wt)) sz)) 1 6 (va_A ((o1, .inl (G.2.1 2, 1, .inr (.inl ov))) :: ((x0, .inr (3, fs)) :: wt)) sz) := by
  refine gML_of (Qf := fun A => va_Qi (fun r (_ : Unit) => r = 1) (fun _ => gPost G A ((o1, .inl (G.2.1 2, 1, .inr (.inl ov))) :: ((x0, .inr (3, fs)) :: wt))) A) (by decide) (Nat.le_of_ble_eq_true rfl) ?_
  intro p e s m below meth c A ls hx hb hml hr hown htu hlk htab hA hP hD hS hK hZ hl
  have hown : s.vm.findClass RL = some m.cls := hown
  have hl : lv_has ls 4 [(0, .ref x0), (1, .int x), (2, .ref o1)] := hl
  refine lv_aload_n hx hb dL_finish_0 rfl (lv_at hl 2 rfl) ?_
  refine lv_iconst (v := nI 0) hx hb dL_finish_1 (by decide) ?_
  refine lv_aload_n hx hb dL_finish_2 rfl (lv_at hl 0 rfl) ?_
  refine lv_iload_n hx hb dL_finish_3 rfl (lv_at hl 1 rfl) ?_
  have hPn : va_P G.1 vwCl (([(o1, .inl (G.2.1 2, 1, .inr (.inl ov)))] ++ ((x0, .inr (3, fs)) :: wt)) ++ []) s.heap := by rw [List.append_nil]; exact hP
  have hDn : va_D A (([(o1, .inl (G.2.1 2, 1, .inr (.inl ov)))] ++ ((x0, .inr (3, fs)) :: wt)) ++ []) := by rw [List.append_nil]; exact hD
  refine b_xcall (P := [(o1, .inl (G.2.1 2, 1, .inr (.inl ov)))]) (B := ((x0, .inr (3, fs)) :: wt)) (T := []) (g_xrunV (As := [.int x]) (rest := [.int (nI 0), .ref o1]) ⟨hx, hb, hml, hown, htu⟩ (hM _) uM_L_35 ok_X3_finish in_X3_finish rfl rfl ⟨Nat.le_of_ble_eq_true rfl, Nat.le_of_ble_eq_true rfl⟩ hK hPn hDn hS hA hZ (List.range' [(o1, .inl (G.2.1 2, 1, .inr (.inl ov)))].length ((x0, .inr (3, fs)) :: wt).length) (blkC [(o1, .inl (G.2.1 2, 1, .inr (.inl ov)))] ((x0, .inr (3, fs)) :: wt) []) (va_nd_of List.nodup_range') 1 rfl rfl rfl rfl hl.1 rfl (Nat.le_of_ble_eq_true rfl) dL_finish_4 ⟨Nat.le_of_ble_eq_true rfl, Nat.le_of_ble_eq_true rfl⟩) hPn hDn hS hA (fun ce q9 H locs hP hS hce hcv hcl => ?_)
  rw [List.append_nil] at hP
  have hP : va_P G.1 vwCl ((o1, .inl (G.2.1 2, 1, .inr (.inl ov))) :: ((x0, .inr (3, fs)) :: wt)) H := hP
  have hD : va_D A ((o1, .inl (G.2.1 2, 1, .inr (.inl ov))) :: ((x0, .inr (3, fs)) :: wt)) := hD
  refine vx_catch (own := RL) (name := xIOB) hown [] ⟨0, 9, 12, 19⟩ [⟨0, 9, 15, 29⟩] (htab.trans rfl) (fun _ h => absurd h List.not_mem_nil) (by decide) (by decide) (htu _ uK_L_19) (va_Nw.use rfl (hK.2.2.2.1 _ (List.mem_of_getElem? (i := 1) rfl))) hce hcv hcl ?_
  refine lv_astore_n (lv' := [(3, .ref q9), (0, .ref x0), (1, .int x), (2, .ref o1)]) hx hb dL_finish_12 rfl hl (by decide) rfl (fun ls hl => ?_)
  refine lv_iconst (v := 1) hx hb dL_finish_13 (by decide) ?_
  refine W.widen (k := 1) (n := 6) (by decide) (by decide) ?_
  exact gret_i hx hb hr hlk dL_finish_14 hS () hP hD (rfl)
set_option maxHeartbeats 4000000 in
set_option maxRecDepth 100000 in
theorem L_finish_2 (l : Launch) (G : GW) (sz x0 o1 : Nat) (fs : List Value) (wt : va_W) (ov : Nat → Int64) (x : Int32) (hM : ∀ sz : Nat, vx_Met l yX3_finish (Cond.code yX3_finish cX3_finish 3 (some FieldType.int) :: UW) ({ frames := 8, cells := 1, slots := 6, locals := 134 } : Room) (va_Pc [.ref x0, .int x] (gPre G ((x0, .inr (3, fs)) :: wt) sz)) gNo (gXC G xISE (va_A ((x0, .inr (3, fs)) :: wt) sz) ((x0, .inr (3, fs)) :: wt)) 1 6 (va_A ((x0, .inr (3, fs)) :: wt) sz)) : Met l yL_finish (Cond.codeWith yL_finish cL_finish 4 (some .int) [(0, 9, 12, 19), (0, 9, 15, 29)] :: UW) ({ frames := 9, cells := 1, slots := 6, locals := 156 } : Room) (va_Pc [.ref x0, .int x, .ref o1] (gPre G ((o1, .inl (G.2.1 2, 1, .inr (.inl ov))) :: ((x0, .inr (3, fs)) :: wt)) sz)) (va_Qi (fun r (_ : Unit) => r = 2) (fun _ => gPost G (va_A ((o1, .inl (G.2.1 2, 1, .inr (.inl ov))) :: ((x0, .inr (3, fs)) :: wt)) sz) ((o1, .inl (G.2.1 2, 1, .inr (.inl ov))) :: ((x0, .inr (3, fs)) :: wt))) (va_A ((o1, .inl (G.2.1 2, 1, .inr (.inl ov))) :: ((x0, .inr (3, fs)) :: wt)) sz)) 1 6 (va_A ((o1, .inl (G.2.1 2, 1, .inr (.inl ov))) :: ((x0, .inr (3, fs)) :: wt)) sz) := by
  refine gML_of (Qf := fun A => va_Qi (fun r (_ : Unit) => r = 2) (fun _ => gPost G A ((o1, .inl (G.2.1 2, 1, .inr (.inl ov))) :: ((x0, .inr (3, fs)) :: wt))) A) (by decide) (Nat.le_of_ble_eq_true rfl) ?_
  intro p e s m below meth c A ls hx hb hml hr hown htu hlk htab hA hP hD hS hK hZ hl
  have hown : s.vm.findClass RL = some m.cls := hown
  have hl : lv_has ls 4 [(0, .ref x0), (1, .int x), (2, .ref o1)] := hl
  refine lv_aload_n hx hb dL_finish_0 rfl (lv_at hl 2 rfl) ?_
  refine lv_iconst (v := nI 0) hx hb dL_finish_1 (by decide) ?_
  refine lv_aload_n hx hb dL_finish_2 rfl (lv_at hl 0 rfl) ?_
  refine lv_iload_n hx hb dL_finish_3 rfl (lv_at hl 1 rfl) ?_
  have hPn : va_P G.1 vwCl (([(o1, .inl (G.2.1 2, 1, .inr (.inl ov)))] ++ ((x0, .inr (3, fs)) :: wt)) ++ []) s.heap := by rw [List.append_nil]; exact hP
  have hDn : va_D A (([(o1, .inl (G.2.1 2, 1, .inr (.inl ov)))] ++ ((x0, .inr (3, fs)) :: wt)) ++ []) := by rw [List.append_nil]; exact hD
  refine b_xcall (P := [(o1, .inl (G.2.1 2, 1, .inr (.inl ov)))]) (B := ((x0, .inr (3, fs)) :: wt)) (T := []) (g_xrunV (As := [.int x]) (rest := [.int (nI 0), .ref o1]) ⟨hx, hb, hml, hown, htu⟩ (hM _) uM_L_35 ok_X3_finish in_X3_finish rfl rfl ⟨Nat.le_of_ble_eq_true rfl, Nat.le_of_ble_eq_true rfl⟩ hK hPn hDn hS hA hZ (List.range' [(o1, .inl (G.2.1 2, 1, .inr (.inl ov)))].length ((x0, .inr (3, fs)) :: wt).length) (blkC [(o1, .inl (G.2.1 2, 1, .inr (.inl ov)))] ((x0, .inr (3, fs)) :: wt) []) (va_nd_of List.nodup_range') 1 rfl rfl rfl rfl hl.1 rfl (Nat.le_of_ble_eq_true rfl) dL_finish_4 ⟨Nat.le_of_ble_eq_true rfl, Nat.le_of_ble_eq_true rfl⟩) hPn hDn hS hA (fun ce q9 H locs hP hS hce hcv hcl => ?_)
  rw [List.append_nil] at hP
  have hP : va_P G.1 vwCl ((o1, .inl (G.2.1 2, 1, .inr (.inl ov))) :: ((x0, .inr (3, fs)) :: wt)) H := hP
  have hD : va_D A ((o1, .inl (G.2.1 2, 1, .inr (.inl ov))) :: ((x0, .inr (3, fs)) :: wt)) := hD
  refine vx_catch (own := RL) (name := xISE) hown [⟨0, 9, 12, 19⟩] ⟨0, 9, 15, 29⟩ [] (htab.trans rfl) (List.forall_mem_cons.mpr ⟨Or.inr ⟨by decide, xIOB, htu _ uK_L_19, hK.2.2.2.2.2.1⟩, fun _ h => absurd h List.not_mem_nil⟩) (by decide) (by decide) (htu _ uK_L_29) (va_Nw.use rfl (hK.2.2.2.1 _ (List.mem_of_getElem? (i := 2) rfl))) hce hcv hcl ?_
  refine lv_astore_n (lv' := [(3, .ref q9), (0, .ref x0), (1, .int x), (2, .ref o1)]) hx hb dL_finish_15 rfl hl (by decide) rfl (fun ls hl => ?_)
  refine lv_iconst (v := 2) hx hb dL_finish_16 (by decide) ?_
  refine W.widen (k := 1) (n := 6) (by decide) (by decide) ?_
  exact gret_i hx hb hr hlk dL_finish_17 hS () hP hD (rfl)
set_option maxRecDepth 100000 in
theorem l_finish (l : Launch) (hT9 : l.stackTraces = false) (G : GW) (sz x0 o1 : Nat) (ad : Nat → Nat) (ov : Nat → Int64) (u : XU) (A : AS) (x : Int32) (E : AO) (hR : XR u A) (hE : finishA A x = E) : Met l yL_finish (Cond.codeWith yL_finish cL_finish 4 (some .int) [(0, 9, 12, 19), (0, 9, 15, 29)] :: UW) ({ frames := 9, cells := 1, slots := 6, locals := 156 } : Room) (va_Pc [.ref x0, .int x, .ref o1] (gPre G ((o1, .inl (G.2.1 2, 1, .inr (.inl ov))) :: xW G x0 ad u) sz)) (va_Qi (fun r (v : XU × (Nat → Int64)) => r = nI E.1 ∧ XR v.1 E.2.2 ∧ (E.1 = 0 → v.2 0 = E.2.1)) (fun v => gPost G (va_A ((o1, .inl (G.2.1 2, 1, .inr (.inl ov))) :: xW G x0 ad u) sz) ((o1, .inl (G.2.1 2, 1, .inr (.inl v.2))) :: xW G x0 ad v.1)) (va_A ((o1, .inl (G.2.1 2, 1, .inr (.inl ov))) :: xW G x0 ad u) sz)) 1 6 (va_A ((o1, .inl (G.2.1 2, 1, .inr (.inl ov))) :: xW G x0 ad u) sz) := by
  rcases x_finish l hT9 G x0 ad u A x E hR hE with ⟨h0, hM⟩ | ⟨h0, hM⟩ | ⟨h0, hM⟩
  · refine gMono_i (L_finish_ok l G sz x0 o1 _ _ ov x hM) (fun r v h => ?_)
    obtain ⟨h1, r9, h2, h3⟩ := h
    exact ⟨v, ⟨by rw [h1, h0]; rfl, h2.2, fun _ => by rw [h3, h2.1]⟩, rfl⟩
  · subst h0
    refine gMono_i (L_finish_1 l G sz x0 o1 _ _ ov x hM) (fun r v h => ?_)
    exact ⟨(u, ov), ⟨h.trans rfl, hR, fun h9 => absurd h9 (Nat.succ_ne_zero _)⟩, rfl⟩
  · subst h0
    refine gMono_i (L_finish_2 l G sz x0 o1 _ _ ov x hM) (fun r v h => ?_)
    exact ⟨(u, ov), ⟨h.trans rfl, hR, fun h9 => absurd h9 (Nat.succ_ne_zero _)⟩, rfl⟩
set_option maxRecDepth 20000 in
theorem uW_L_copy : Cond.codeWith yL_copy cL_copy 4 (some .int) [(0, 6, 9, 19), (0, 6, 12, 29)] ∈ UW := mem_UW (in_t2 (List.mem_of_getElem? (i := 220) rfl)) rfl
set_option maxHeartbeats 4000000 in
set_option maxRecDepth 100000 in
theorem L_copy_ok (l : Launch) (G : GW) (sz x0 o1 : Nat) (fs : List Value) (wt : va_W) (ov : Nat → Int64) (x : Int32) (y : Int32) {S : Type} {post : S → Prop} {w1 : S → va_W} (hM : ∀ sz : Nat, Met l yX3_copy (Cond.code yX3_copy cX3_copy 5 (none : Option FieldType) :: UW) ({ frames := 7, cells := 0, slots := 0, locals := 103 } : Room) (va_Pc [.ref x0, .int x, .int y] (gPre G ((x0, .inr (3, fs)) :: wt) sz)) (va_Qv post (fun v => gPost G (va_A ((x0, .inr (3, fs)) :: wt) sz) (w1 v)) (va_A ((x0, .inr (3, fs)) :: wt) sz)) 0 0 (va_A ((x0, .inr (3, fs)) :: wt) sz)) : Met l yL_copy (Cond.codeWith yL_copy cL_copy 4 (some .int) [(0, 6, 9, 19), (0, 6, 12, 29)] :: UW) ({ frames := 8, cells := 1, slots := 6, locals := 127 } : Room) (va_Pc [.ref x0, .int x, .int y] (gPre G ((x0, .inr (3, fs)) :: wt) sz)) (va_Qi (fun r (v : S) => r = 0 ∧ post v) (fun v => gPost G (va_A ((x0, .inr (3, fs)) :: wt) sz) (w1 v)) (va_A ((x0, .inr (3, fs)) :: wt) sz)) 1 6 (va_A ((x0, .inr (3, fs)) :: wt) sz) := by
  refine gML_of (Qf := fun A => va_Qi (fun r (v : S) => r = 0 ∧ post v) (fun v => gPost G A (w1 v)) A) (by decide) (Nat.le_of_ble_eq_true rfl) ?_
  intro p e s m below meth c A ls hx hb hml hr hown htu hlk htab hA hP hD hS hK hZ hl
  have hown : s.vm.findClass RL = some m.cls := hown
  have hl : lv_has ls 4 [(0, .ref x0), (1, .int x), (2, .int y)] := hl
  refine lv_aload_n hx hb dL_copy_0 rfl (lv_at hl 0 rfl) ?_
  refine lv_iload_n hx hb dL_copy_1 rfl (lv_at hl 1 rfl) ?_
  refine lv_iload_n hx hb dL_copy_2 rfl (lv_at hl 2 rfl) ?_
  have hPn : va_P G.1 vwCl ((([] : va_W) ++ ((x0, .inr (3, fs)) :: wt)) ++ []) s.heap := by rw [List.append_nil]; exact hP
  have hDn : va_D A ((([] : va_W) ++ ((x0, .inr (3, fs)) :: wt)) ++ []) := by rw [List.append_nil]; exact hD
  refine b_callv (P := ([] : va_W)) (B := ((x0, .inr (3, fs)) :: wt)) (T := []) (g_runV (As := [.int x, .int y]) (rest := []) ⟨hx, hb, hml, hown, htu⟩ (hM _) uM_L_39 ok_X3_copy in_X3_copy rfl rfl ⟨Nat.le_of_ble_eq_true rfl, Nat.le_of_ble_eq_true rfl⟩ hK hPn hDn hS hA hZ (List.range' ([] : va_W).length ((x0, .inr (3, fs)) :: wt).length) (blkC ([] : va_W) ((x0, .inr (3, fs)) :: wt) []) (va_nd_of List.nodup_range') 0 rfl rfl rfl rfl hl.1 rfl (Nat.le_of_ble_eq_true rfl) dL_copy_3 ⟨Nat.le_of_ble_eq_true rfl, Nat.le_of_ble_eq_true rfl⟩) hPn hDn hS hA (fun u H locs hw hP hD hS => ?_)
  rw [List.append_nil] at hP hD
  have hP : va_P G.1 vwCl (w1 u) H := hP
  have hD : va_D A (w1 u) := hD
  refine lv_goto (tgt := 15) hx hb dL_copy_6 (by decide) ?_
  refine lv_iconst (v := 0) hx hb dL_copy_15 (by decide) ?_
  refine W.widen (k := 1) (n := 6) (by decide) (by decide) ?_
  exact gret_i hx hb hr hlk dL_copy_16 hS u hP hD (⟨rfl, hw⟩)
set_option maxHeartbeats 4000000 in
set_option maxRecDepth 100000 in
theorem L_copy_1 (l : Launch) (G : GW) (sz x0 o1 : Nat) (fs : List Value) (wt : va_W) (ov : Nat → Int64) (x : Int32) (y : Int32) (hM : ∀ sz : Nat, vx_Met l yX3_copy (Cond.code yX3_copy cX3_copy 5 (none : Option FieldType) :: UW) ({ frames := 7, cells := 1, slots := 6, locals := 103 } : Room) (va_Pc [.ref x0, .int x, .int y] (gPre G ((x0, .inr (3, fs)) :: wt) sz)) gNo (gXC G xIOB (va_A ((x0, .inr (3, fs)) :: wt) sz) ((x0, .inr (3, fs)) :: wt)) 1 6 (va_A ((x0, .inr (3, fs)) :: wt) sz)) : Met l yL_copy (Cond.codeWith yL_copy cL_copy 4 (some .int) [(0, 6, 9, 19), (0, 6, 12, 29)] :: UW) ({ frames := 8, cells := 1, slots := 6, locals := 127 } : Room) (va_Pc [.ref x0, .int x, .int y] (gPre G ((x0, .inr (3, fs)) :: wt) sz)) (va_Qi (fun r (_ : Unit) => r = 1) (fun _ => gPost G (va_A ((x0, .inr (3, fs)) :: wt) sz) ((x0, .inr (3, fs)) :: wt)) (va_A ((x0, .inr (3, fs)) :: wt) sz)) 1 6 (va_A ((x0, .inr (3, fs)) :: wt) sz) := by
  refine gML_of (Qf := fun A => va_Qi (fun r (_ : Unit) => r = 1) (fun _ => gPost G A ((x0, .inr (3, fs)) :: wt)) A) (by decide) (Nat.le_of_ble_eq_true rfl) ?_
  intro p e s m below meth c A ls hx hb hml hr hown htu hlk htab hA hP hD hS hK hZ hl
  have hown : s.vm.findClass RL = some m.cls := hown
  have hl : lv_has ls 4 [(0, .ref x0), (1, .int x), (2, .int y)] := hl
  refine lv_aload_n hx hb dL_copy_0 rfl (lv_at hl 0 rfl) ?_
  refine lv_iload_n hx hb dL_copy_1 rfl (lv_at hl 1 rfl) ?_
  refine lv_iload_n hx hb dL_copy_2 rfl (lv_at hl 2 rfl) ?_
  have hPn : va_P G.1 vwCl ((([] : va_W) ++ ((x0, .inr (3, fs)) :: wt)) ++ []) s.heap := by rw [List.append_nil]; exact hP
  have hDn : va_D A ((([] : va_W) ++ ((x0, .inr (3, fs)) :: wt)) ++ []) := by rw [List.append_nil]; exact hD
  refine b_xcall (P := ([] : va_W)) (B := ((x0, .inr (3, fs)) :: wt)) (T := []) (g_xrunV (As := [.int x, .int y]) (rest := []) ⟨hx, hb, hml, hown, htu⟩ (hM _) uM_L_39 ok_X3_copy in_X3_copy rfl rfl ⟨Nat.le_of_ble_eq_true rfl, Nat.le_of_ble_eq_true rfl⟩ hK hPn hDn hS hA hZ (List.range' ([] : va_W).length ((x0, .inr (3, fs)) :: wt).length) (blkC ([] : va_W) ((x0, .inr (3, fs)) :: wt) []) (va_nd_of List.nodup_range') 0 rfl rfl rfl rfl hl.1 rfl (Nat.le_of_ble_eq_true rfl) dL_copy_3 ⟨Nat.le_of_ble_eq_true rfl, Nat.le_of_ble_eq_true rfl⟩) hPn hDn hS hA (fun ce q9 H locs hP hS hce hcv hcl => ?_)
  rw [List.append_nil] at hP
  have hP : va_P G.1 vwCl ((x0, .inr (3, fs)) :: wt) H := hP
  have hD : va_D A ((x0, .inr (3, fs)) :: wt) := hD
  refine vx_catch (own := RL) (name := xIOB) hown [] ⟨0, 6, 9, 19⟩ [⟨0, 6, 12, 29⟩] (htab.trans rfl) (fun _ h => absurd h List.not_mem_nil) (by decide) (by decide) (htu _ uK_L_19) (va_Nw.use rfl (hK.2.2.2.1 _ (List.mem_of_getElem? (i := 1) rfl))) hce hcv hcl ?_
  refine lv_astore_n (lv' := [(3, .ref q9), (0, .ref x0), (1, .int x), (2, .int y)]) hx hb dL_copy_9 rfl hl (by decide) rfl (fun ls hl => ?_)
  refine lv_iconst (v := 1) hx hb dL_copy_10 (by decide) ?_
  refine W.widen (k := 1) (n := 6) (by decide) (by decide) ?_
  exact gret_i hx hb hr hlk dL_copy_11 hS () hP hD (rfl)
set_option maxHeartbeats 4000000 in
set_option maxRecDepth 100000 in
theorem L_copy_2 (l : Launch) (G : GW) (sz x0 o1 : Nat) (fs : List Value) (wt : va_W) (ov : Nat → Int64) (x : Int32) (y : Int32) (hM : ∀ sz : Nat, vx_Met l yX3_copy (Cond.code yX3_copy cX3_copy 5 (none : Option FieldType) :: UW) ({ frames := 7, cells := 1, slots := 6, locals := 103 } : Room) (va_Pc [.ref x0, .int x, .int y] (gPre G ((x0, .inr (3, fs)) :: wt) sz)) gNo (gXC G xISE (va_A ((x0, .inr (3, fs)) :: wt) sz) ((x0, .inr (3, fs)) :: wt)) 1 6 (va_A ((x0, .inr (3, fs)) :: wt) sz)) : Met l yL_copy (Cond.codeWith yL_copy cL_copy 4 (some .int) [(0, 6, 9, 19), (0, 6, 12, 29)] :: UW) ({ frames := 8, cells := 1, slots := 6, locals := 127 } : Room) (va_Pc [.ref x0, .int x, .int y] (gPre G ((x0, .inr (3, fs)) :: wt) sz)) (va_Qi (fun r (_ : Unit) => r = 2) (fun _ => gPost G (va_A ((x0, .inr (3, fs)) :: wt) sz) ((x0, .inr (3, fs)) :: wt)) (va_A ((x0, .inr (3, fs)) :: wt) sz)) 1 6 (va_A ((x0, .inr (3, fs)) :: wt) sz) := by
  refine gML_of (Qf := fun A => va_Qi (fun r (_ : Unit) => r = 2) (fun _ => gPost G A ((x0, .inr (3, fs)) :: wt)) A) (by decide) (Nat.le_of_ble_eq_true rfl) ?_
  intro p e s m below meth c A ls hx hb hml hr hown htu hlk htab hA hP hD hS hK hZ hl
  have hown : s.vm.findClass RL = some m.cls := hown
  have hl : lv_has ls 4 [(0, .ref x0), (1, .int x), (2, .int y)] := hl
  refine lv_aload_n hx hb dL_copy_0 rfl (lv_at hl 0 rfl) ?_
  refine lv_iload_n hx hb dL_copy_1 rfl (lv_at hl 1 rfl) ?_
  refine lv_iload_n hx hb dL_copy_2 rfl (lv_at hl 2 rfl) ?_
  have hPn : va_P G.1 vwCl ((([] : va_W) ++ ((x0, .inr (3, fs)) :: wt)) ++ []) s.heap := by rw [List.append_nil]; exact hP
  have hDn : va_D A ((([] : va_W) ++ ((x0, .inr (3, fs)) :: wt)) ++ []) := by rw [List.append_nil]; exact hD
  refine b_xcall (P := ([] : va_W)) (B := ((x0, .inr (3, fs)) :: wt)) (T := []) (g_xrunV (As := [.int x, .int y]) (rest := []) ⟨hx, hb, hml, hown, htu⟩ (hM _) uM_L_39 ok_X3_copy in_X3_copy rfl rfl ⟨Nat.le_of_ble_eq_true rfl, Nat.le_of_ble_eq_true rfl⟩ hK hPn hDn hS hA hZ (List.range' ([] : va_W).length ((x0, .inr (3, fs)) :: wt).length) (blkC ([] : va_W) ((x0, .inr (3, fs)) :: wt) []) (va_nd_of List.nodup_range') 0 rfl rfl rfl rfl hl.1 rfl (Nat.le_of_ble_eq_true rfl) dL_copy_3 ⟨Nat.le_of_ble_eq_true rfl, Nat.le_of_ble_eq_true rfl⟩) hPn hDn hS hA (fun ce q9 H locs hP hS hce hcv hcl => ?_)
  rw [List.append_nil] at hP
  have hP : va_P G.1 vwCl ((x0, .inr (3, fs)) :: wt) H := hP
  have hD : va_D A ((x0, .inr (3, fs)) :: wt) := hD
  refine vx_catch (own := RL) (name := xISE) hown [⟨0, 6, 9, 19⟩] ⟨0, 6, 12, 29⟩ [] (htab.trans rfl) (List.forall_mem_cons.mpr ⟨Or.inr ⟨by decide, xIOB, htu _ uK_L_19, hK.2.2.2.2.2.1⟩, fun _ h => absurd h List.not_mem_nil⟩) (by decide) (by decide) (htu _ uK_L_29) (va_Nw.use rfl (hK.2.2.2.1 _ (List.mem_of_getElem? (i := 2) rfl))) hce hcv hcl ?_
  refine lv_astore_n (lv' := [(3, .ref q9), (0, .ref x0), (1, .int x), (2, .int y)]) hx hb dL_copy_12 rfl hl (by decide) rfl (fun ls hl => ?_)
  refine lv_iconst (v := 2) hx hb dL_copy_13 (by decide) ?_
  refine W.widen (k := 1) (n := 6) (by decide) (by decide) ?_
  exact gret_i hx hb hr hlk dL_copy_14 hS () hP hD (rfl)
set_option maxRecDepth 100000 in
theorem l_copy (l : Launch) (hT9 : l.stackTraces = false) (G : GW) (sz x0 o1 : Nat) (ad : Nat → Nat) (ov : Nat → Int64) (u : XU) (A : AS) (x : Int32) (y : Int32) (E : AO) (hR : XR u A) (hE : copyA A x y = E) : Met l yL_copy (Cond.codeWith yL_copy cL_copy 4 (some .int) [(0, 6, 9, 19), (0, 6, 12, 29)] :: UW) ({ frames := 8, cells := 1, slots := 6, locals := 127 } : Room) (va_Pc [.ref x0, .int x, .int y] (gPre G (xW G x0 ad u) sz)) (va_Qi (fun r (v : XU) => r = nI E.1 ∧ XR v E.2.2) (fun v => gPost G (va_A (xW G x0 ad u) sz) (xW G x0 ad v)) (va_A (xW G x0 ad u) sz)) 1 6 (va_A (xW G x0 ad u) sz) := by
  rcases x_copy l hT9 G x0 ad u A x y E hR hE with ⟨h0, hM⟩ | ⟨h0, hM⟩ | ⟨h0, hM⟩
  · refine gMono_i (L_copy_ok l G sz x0 o1 _ _ ov x y hM) (fun r v h => ?_)
    exact ⟨v, ⟨by rw [h.1, h0]; rfl, h.2⟩, rfl⟩
  · subst h0
    refine gMono_i (L_copy_1 l G sz x0 o1 _ _ ov x y hM) (fun r v h => ?_)
    exact ⟨u, ⟨h.trans rfl, hR⟩, rfl⟩
  · subst h0
    refine gMono_i (L_copy_2 l G sz x0 o1 _ _ ov x y hM) (fun r v h => ?_)
    exact ⟨u, ⟨h.trans rfl, hR⟩, rfl⟩
set_option maxRecDepth 20000 in
theorem uW_L_about : Cond.codeWith yL_about cL_about 5 (some .int) [(0, 10, 13, 19)] ∈ UW := mem_UW (in_t3 (List.mem_of_getElem? (i := 0) rfl)) rfl
set_option maxHeartbeats 4000000 in
set_option maxRecDepth 100000 in
theorem L_about_ok (l : Launch) (G : GW) (sz x0 o1 : Nat) (fs : List Value) (wt : va_W) (ov : Nat → Int64) (x : Int32) (y : Int32) {S : Type} {post : Int32 → S → Prop} {w1 : S → va_W} (hM : ∀ sz : Nat, Met l yX3_about (Cond.code yX3_about cX3_about 4 (some FieldType.int) :: UW) ({ frames := 7, cells := 0, slots := 0, locals := 103 } : Room) (va_Pc [.ref x0, .int x, .int y] (gPre G ((x0, .inr (3, fs)) :: wt) sz)) (va_Qi post (fun v => gPost G (va_A ((x0, .inr (3, fs)) :: wt) sz) (w1 v)) (va_A ((x0, .inr (3, fs)) :: wt) sz)) 0 0 (va_A ((x0, .inr (3, fs)) :: wt) sz)) : Met l yL_about (Cond.codeWith yL_about cL_about 5 (some .int) [(0, 10, 13, 19)] :: UW) ({ frames := 8, cells := 1, slots := 6, locals := 126 } : Room) (va_Pc [.ref x0, .int x, .int y, .ref o1] (gPre G ((o1, .inl (G.2.1 2, 1, .inr (.inl ov))) :: ((x0, .inr (3, fs)) :: wt)) sz)) (va_Qi (fun r (v : S × (Nat → Int64)) => r = 0 ∧ ∃ r9, post r9 v.1 ∧ v.2 0 = r9.toInt64) (fun v => gPost G (va_A ((o1, .inl (G.2.1 2, 1, .inr (.inl ov))) :: ((x0, .inr (3, fs)) :: wt)) sz) ((o1, .inl (G.2.1 2, 1, .inr (.inl v.2))) :: w1 v.1)) (va_A ((o1, .inl (G.2.1 2, 1, .inr (.inl ov))) :: ((x0, .inr (3, fs)) :: wt)) sz)) 1 6 (va_A ((o1, .inl (G.2.1 2, 1, .inr (.inl ov))) :: ((x0, .inr (3, fs)) :: wt)) sz) := by
  refine gML_of (Qf := fun A => va_Qi (fun r (v : S × (Nat → Int64)) => r = 0 ∧ ∃ r9, post r9 v.1 ∧ v.2 0 = r9.toInt64) (fun v => gPost G A ((o1, .inl (G.2.1 2, 1, .inr (.inl v.2))) :: w1 v.1)) A) (by decide) (Nat.le_of_ble_eq_true rfl) ?_
  intro p e s m below meth c A ls hx hb hml hr hown htu hlk htab hA hP hD hS hK hZ hl
  have hown : s.vm.findClass RL = some m.cls := hown
  have hl : lv_has ls 5 [(0, .ref x0), (1, .int x), (2, .int y), (3, .ref o1)] := hl
  refine lv_aload_n hx hb dL_about_0 rfl (lv_at hl 3 rfl) ?_
  refine lv_iconst (v := nI 0) hx hb dL_about_1 (by decide) ?_
  refine lv_aload_n hx hb dL_about_2 rfl (lv_at hl 0 rfl) ?_
  refine lv_iload_n hx hb dL_about_3 rfl (lv_at hl 1 rfl) ?_
  refine lv_iload_n hx hb dL_about_4 rfl (lv_at hl 2 rfl) ?_
  have hPn : va_P G.1 vwCl (([(o1, .inl (G.2.1 2, 1, .inr (.inl ov)))] ++ ((x0, .inr (3, fs)) :: wt)) ++ []) s.heap := by rw [List.append_nil]; exact hP
  have hDn : va_D A (([(o1, .inl (G.2.1 2, 1, .inr (.inl ov)))] ++ ((x0, .inr (3, fs)) :: wt)) ++ []) := by rw [List.append_nil]; exact hD
  refine b_calli (P := [(o1, .inl (G.2.1 2, 1, .inr (.inl ov)))]) (B := ((x0, .inr (3, fs)) :: wt)) (T := []) (g_runV (As := [.int x, .int y]) (rest := [.int (nI 0), .ref o1]) ⟨hx, hb, hml, hown, htu⟩ (hM _) uM_L_42 ok_X3_about in_X3_about rfl rfl ⟨Nat.le_of_ble_eq_true rfl, Nat.le_of_ble_eq_true rfl⟩ hK hPn hDn hS hA hZ (List.range' [(o1, .inl (G.2.1 2, 1, .inr (.inl ov)))].length ((x0, .inr (3, fs)) :: wt).length) (blkC [(o1, .inl (G.2.1 2, 1, .inr (.inl ov)))] ((x0, .inr (3, fs)) :: wt) []) (va_nd_of List.nodup_range') 1 rfl rfl rfl rfl hl.1 rfl (Nat.le_of_ble_eq_true rfl) dL_about_5 ⟨Nat.le_of_ble_eq_true rfl, Nat.le_of_ble_eq_true rfl⟩) hPn hDn hS hA (fun r u H locs hw hP hD hS => ?_)
  rw [List.append_nil] at hP hD
  have hP : va_P G.1 vwCl ((o1, .inl (G.2.1 2, 1, .inr (.inl ov))) :: w1 u) H := hP
  have hD : va_D A ((o1, .inl (G.2.1 2, 1, .inr (.inl ov))) :: w1 u) := hD
  refine lv_i2l (v := Int32.toInt64 r) hx hb dL_about_8 rfl ?_
  refine lv_topl (fun v_1 ev_1 => ?_)
  refine g_last hx hb hK.1 hP hD hS 0 2 rfl rfl ⟨by decide, by decide⟩ dL_about_9 (fun H locs hP hD hS => ?_)
  obtain ⟨g_2, eg_2⟩ : ∃ gq9 : Nat → Int64, gq9 = vp_updL ov 0 v_1 := ⟨_, rfl⟩
  rw [← eg_2] at hP hD
  have hP : va_P G.1 vwCl ((o1, .inl (G.2.1 2, 1, .inr (.inl g_2))) :: w1 u) H := hP
  have hD : va_D A ((o1, .inl (G.2.1 2, 1, .inr (.inl g_2))) :: w1 u) := hD
  refine lv_goto (tgt := 17) hx hb dL_about_10 (by decide) ?_
  refine lv_iconst (v := 0) hx hb dL_about_17 (by decide) ?_
  refine W.widen (k := 1) (n := 6) (by decide) (by decide) ?_
  exact gret_i hx hb hr hlk dL_about_18 hS (u, g_2) hP hD (⟨rfl, r, hw, by show g_2 0 = _; rw [eg_2, pk_uLs, ev_1]⟩)
set_option maxHeartbeats 4000000 in
set_option maxRecDepth 100000 in
theorem L_about_1 (l : Launch) (G : GW) (sz x0 o1 : Nat) (fs : List Value) (wt : va_W) (ov : Nat → Int64) (x : Int32) (y : Int32) (hM : ∀ sz : Nat, vx_Met l yX3_about (Cond.code yX3_about cX3_about 4 (some FieldType.int) :: UW) ({ frames := 7, cells := 1, slots := 6, locals := 103 } : Room) (va_Pc [.ref x0, .int x, .int y] (gPre G ((x0, .inr (3, fs)) :: wt) sz)) gNo (gXC G xIOB (va_A ((x0, .inr (3, fs)) :: wt) sz) ((x0, .inr (3, fs)) :: wt)) 1 6 (va_A ((x0, .inr (3, fs)) :: wt) sz)) : Met l yL_about (Cond.codeWith yL_about cL_about 5 (some .int) [(0, 10, 13, 19)] :: UW) ({ frames := 8, cells := 1, slots := 6, locals := 126 } : Room) (va_Pc [.ref x0, .int x, .int y, .ref o1] (gPre G ((o1, .inl (G.2.1 2, 1, .inr (.inl ov))) :: ((x0, .inr (3, fs)) :: wt)) sz)) (va_Qi (fun r (_ : Unit) => r = 1) (fun _ => gPost G (va_A ((o1, .inl (G.2.1 2, 1, .inr (.inl ov))) :: ((x0, .inr (3, fs)) :: wt)) sz) ((o1, .inl (G.2.1 2, 1, .inr (.inl ov))) :: ((x0, .inr (3, fs)) :: wt))) (va_A ((o1, .inl (G.2.1 2, 1, .inr (.inl ov))) :: ((x0, .inr (3, fs)) :: wt)) sz)) 1 6 (va_A ((o1, .inl (G.2.1 2, 1, .inr (.inl ov))) :: ((x0, .inr (3, fs)) :: wt)) sz) := by
  refine gML_of (Qf := fun A => va_Qi (fun r (_ : Unit) => r = 1) (fun _ => gPost G A ((o1, .inl (G.2.1 2, 1, .inr (.inl ov))) :: ((x0, .inr (3, fs)) :: wt))) A) (by decide) (Nat.le_of_ble_eq_true rfl) ?_
  intro p e s m below meth c A ls hx hb hml hr hown htu hlk htab hA hP hD hS hK hZ hl
  have hown : s.vm.findClass RL = some m.cls := hown
  have hl : lv_has ls 5 [(0, .ref x0), (1, .int x), (2, .int y), (3, .ref o1)] := hl
  refine lv_aload_n hx hb dL_about_0 rfl (lv_at hl 3 rfl) ?_
  refine lv_iconst (v := nI 0) hx hb dL_about_1 (by decide) ?_
  refine lv_aload_n hx hb dL_about_2 rfl (lv_at hl 0 rfl) ?_
  refine lv_iload_n hx hb dL_about_3 rfl (lv_at hl 1 rfl) ?_
  refine lv_iload_n hx hb dL_about_4 rfl (lv_at hl 2 rfl) ?_
  have hPn : va_P G.1 vwCl (([(o1, .inl (G.2.1 2, 1, .inr (.inl ov)))] ++ ((x0, .inr (3, fs)) :: wt)) ++ []) s.heap := by rw [List.append_nil]; exact hP
  have hDn : va_D A (([(o1, .inl (G.2.1 2, 1, .inr (.inl ov)))] ++ ((x0, .inr (3, fs)) :: wt)) ++ []) := by rw [List.append_nil]; exact hD
  refine b_xcall (P := [(o1, .inl (G.2.1 2, 1, .inr (.inl ov)))]) (B := ((x0, .inr (3, fs)) :: wt)) (T := []) (g_xrunV (As := [.int x, .int y]) (rest := [.int (nI 0), .ref o1]) ⟨hx, hb, hml, hown, htu⟩ (hM _) uM_L_42 ok_X3_about in_X3_about rfl rfl ⟨Nat.le_of_ble_eq_true rfl, Nat.le_of_ble_eq_true rfl⟩ hK hPn hDn hS hA hZ (List.range' [(o1, .inl (G.2.1 2, 1, .inr (.inl ov)))].length ((x0, .inr (3, fs)) :: wt).length) (blkC [(o1, .inl (G.2.1 2, 1, .inr (.inl ov)))] ((x0, .inr (3, fs)) :: wt) []) (va_nd_of List.nodup_range') 1 rfl rfl rfl rfl hl.1 rfl (Nat.le_of_ble_eq_true rfl) dL_about_5 ⟨Nat.le_of_ble_eq_true rfl, Nat.le_of_ble_eq_true rfl⟩) hPn hDn hS hA (fun ce q9 H locs hP hS hce hcv hcl => ?_)
  rw [List.append_nil] at hP
  have hP : va_P G.1 vwCl ((o1, .inl (G.2.1 2, 1, .inr (.inl ov))) :: ((x0, .inr (3, fs)) :: wt)) H := hP
  have hD : va_D A ((o1, .inl (G.2.1 2, 1, .inr (.inl ov))) :: ((x0, .inr (3, fs)) :: wt)) := hD
  refine vx_catch (own := RL) (name := xIOB) hown [] ⟨0, 10, 13, 19⟩ [] (htab.trans rfl) (fun _ h => absurd h List.not_mem_nil) (by decide) (by decide) (htu _ uK_L_19) (va_Nw.use rfl (hK.2.2.2.1 _ (List.mem_of_getElem? (i := 1) rfl))) hce hcv hcl ?_
  refine lv_astore (lv' := [(4, .ref q9), (0, .ref x0), (1, .int x), (2, .int y), (3, .ref o1)]) hx hb dL_about_13 hl (by decide) rfl (fun ls hl => ?_)
  refine lv_iconst (v := 1) hx hb dL_about_15 (by decide) ?_
  refine W.widen (k := 1) (n := 6) (by decide) (by decide) ?_
  exact gret_i hx hb hr hlk dL_about_16 hS () hP hD (rfl)
set_option maxRecDepth 100000 in
theorem l_about (l : Launch) (hT9 : l.stackTraces = false) (G : GW) (sz x0 o1 : Nat) (ad : Nat → Nat) (ov : Nat → Int64) (u : XU) (A : AS) (x : Int32) (y : Int32) (E : AO) (hR : XR u A) (hE : aboutA A x y = E) : Met l yL_about (Cond.codeWith yL_about cL_about 5 (some .int) [(0, 10, 13, 19)] :: UW) ({ frames := 8, cells := 1, slots := 6, locals := 126 } : Room) (va_Pc [.ref x0, .int x, .int y, .ref o1] (gPre G ((o1, .inl (G.2.1 2, 1, .inr (.inl ov))) :: xW G x0 ad u) sz)) (va_Qi (fun r (v : XU × (Nat → Int64)) => r = nI E.1 ∧ XR v.1 E.2.2 ∧ (E.1 = 0 → v.2 0 = E.2.1)) (fun v => gPost G (va_A ((o1, .inl (G.2.1 2, 1, .inr (.inl ov))) :: xW G x0 ad u) sz) ((o1, .inl (G.2.1 2, 1, .inr (.inl v.2))) :: xW G x0 ad v.1)) (va_A ((o1, .inl (G.2.1 2, 1, .inr (.inl ov))) :: xW G x0 ad u) sz)) 1 6 (va_A ((o1, .inl (G.2.1 2, 1, .inr (.inl ov))) :: xW G x0 ad u) sz) := by
  rcases x_about l hT9 G x0 ad u A x y E hR hE with ⟨h0, hM⟩ | ⟨h0, hM⟩
  · refine gMono_i (L_about_ok l G sz x0 o1 _ _ ov x y hM) (fun r v h => ?_)
    obtain ⟨h1, r9, h2, h3⟩ := h
    exact ⟨v, ⟨by rw [h1, h0]; rfl, h2.2, fun _ => by rw [h3, h2.1]⟩, rfl⟩
  · subst h0
    refine gMono_i (L_about_1 l G sz x0 o1 _ _ ov x y hM) (fun r v h => ?_)
    exact ⟨(u, ov), ⟨h.trans rfl, hR, fun h9 => absurd h9 (Nat.succ_ne_zero _)⟩, rfl⟩
set_option maxRecDepth 20000 in
theorem uW_L_hold : Cond.codeWith yL_hold cL_hold 4 (some .int) [(0, 9, 12, 19)] ∈ UW := mem_UW (in_t3 (List.mem_of_getElem? (i := 12) rfl)) rfl
set_option maxHeartbeats 4000000 in
set_option maxRecDepth 100000 in
theorem L_hold_ok (l : Launch) (G : GW) (sz x0 o1 : Nat) (fs : List Value) (wt : va_W) (ov : Nat → Int64) (x : Int32) {S : Type} {post : Int32 → S → Prop} {w1 : S → va_W} (hM : ∀ sz : Nat, Met l yX3_hold (Cond.code yX3_hold cX3_hold 3 (some FieldType.int) :: UW) ({ frames := 7, cells := 0, slots := 0, locals := 103 } : Room) (va_Pc [.ref x0, .int x] (gPre G ((x0, .inr (3, fs)) :: wt) sz)) (va_Qi post (fun v => gPost G (va_A ((x0, .inr (3, fs)) :: wt) sz) (w1 v)) (va_A ((x0, .inr (3, fs)) :: wt) sz)) 0 0 (va_A ((x0, .inr (3, fs)) :: wt) sz)) : Met l yL_hold (Cond.codeWith yL_hold cL_hold 4 (some .int) [(0, 9, 12, 19)] :: UW) ({ frames := 8, cells := 1, slots := 6, locals := 125 } : Room) (va_Pc [.ref x0, .int x, .ref o1] (gPre G ((o1, .inl (G.2.1 2, 1, .inr (.inl ov))) :: ((x0, .inr (3, fs)) :: wt)) sz)) (va_Qi (fun r (v : S × (Nat → Int64)) => r = 0 ∧ ∃ r9, post r9 v.1 ∧ v.2 0 = r9.toInt64) (fun v => gPost G (va_A ((o1, .inl (G.2.1 2, 1, .inr (.inl ov))) :: ((x0, .inr (3, fs)) :: wt)) sz) ((o1, .inl (G.2.1 2, 1, .inr (.inl v.2))) :: w1 v.1)) (va_A ((o1, .inl (G.2.1 2, 1, .inr (.inl ov))) :: ((x0, .inr (3, fs)) :: wt)) sz)) 1 6 (va_A ((o1, .inl (G.2.1 2, 1, .inr (.inl ov))) :: ((x0, .inr (3, fs)) :: wt)) sz) := by
  refine gML_of (Qf := fun A => va_Qi (fun r (v : S × (Nat → Int64)) => r = 0 ∧ ∃ r9, post r9 v.1 ∧ v.2 0 = r9.toInt64) (fun v => gPost G A ((o1, .inl (G.2.1 2, 1, .inr (.inl v.2))) :: w1 v.1)) A) (by decide) (Nat.le_of_ble_eq_true rfl) ?_
  intro p e s m below meth c A ls hx hb hml hr hown htu hlk htab hA hP hD hS hK hZ hl
  have hown : s.vm.findClass RL = some m.cls := hown
  have hl : lv_has ls 4 [(0, .ref x0), (1, .int x), (2, .ref o1)] := hl
  refine lv_aload_n hx hb dL_hold_0 rfl (lv_at hl 2 rfl) ?_
  refine lv_iconst (v := nI 0) hx hb dL_hold_1 (by decide) ?_
  refine lv_aload_n hx hb dL_hold_2 rfl (lv_at hl 0 rfl) ?_
  refine lv_iload_n hx hb dL_hold_3 rfl (lv_at hl 1 rfl) ?_
  have hPn : va_P G.1 vwCl (([(o1, .inl (G.2.1 2, 1, .inr (.inl ov)))] ++ ((x0, .inr (3, fs)) :: wt)) ++ []) s.heap := by rw [List.append_nil]; exact hP
  have hDn : va_D A (([(o1, .inl (G.2.1 2, 1, .inr (.inl ov)))] ++ ((x0, .inr (3, fs)) :: wt)) ++ []) := by rw [List.append_nil]; exact hD
  refine b_calli (P := [(o1, .inl (G.2.1 2, 1, .inr (.inl ov)))]) (B := ((x0, .inr (3, fs)) :: wt)) (T := []) (g_runV (As := [.int x]) (rest := [.int (nI 0), .ref o1]) ⟨hx, hb, hml, hown, htu⟩ (hM _) uM_L_45 ok_X3_hold in_X3_hold rfl rfl ⟨Nat.le_of_ble_eq_true rfl, Nat.le_of_ble_eq_true rfl⟩ hK hPn hDn hS hA hZ (List.range' [(o1, .inl (G.2.1 2, 1, .inr (.inl ov)))].length ((x0, .inr (3, fs)) :: wt).length) (blkC [(o1, .inl (G.2.1 2, 1, .inr (.inl ov)))] ((x0, .inr (3, fs)) :: wt) []) (va_nd_of List.nodup_range') 1 rfl rfl rfl rfl hl.1 rfl (Nat.le_of_ble_eq_true rfl) dL_hold_4 ⟨Nat.le_of_ble_eq_true rfl, Nat.le_of_ble_eq_true rfl⟩) hPn hDn hS hA (fun r u H locs hw hP hD hS => ?_)
  rw [List.append_nil] at hP hD
  have hP : va_P G.1 vwCl ((o1, .inl (G.2.1 2, 1, .inr (.inl ov))) :: w1 u) H := hP
  have hD : va_D A ((o1, .inl (G.2.1 2, 1, .inr (.inl ov))) :: w1 u) := hD
  refine lv_i2l (v := Int32.toInt64 r) hx hb dL_hold_7 rfl ?_
  refine lv_topl (fun v_1 ev_1 => ?_)
  refine g_last hx hb hK.1 hP hD hS 0 2 rfl rfl ⟨by decide, by decide⟩ dL_hold_8 (fun H locs hP hD hS => ?_)
  obtain ⟨g_2, eg_2⟩ : ∃ gq9 : Nat → Int64, gq9 = vp_updL ov 0 v_1 := ⟨_, rfl⟩
  rw [← eg_2] at hP hD
  have hP : va_P G.1 vwCl ((o1, .inl (G.2.1 2, 1, .inr (.inl g_2))) :: w1 u) H := hP
  have hD : va_D A ((o1, .inl (G.2.1 2, 1, .inr (.inl g_2))) :: w1 u) := hD
  refine lv_goto (tgt := 15) hx hb dL_hold_9 (by decide) ?_
  refine lv_iconst (v := 0) hx hb dL_hold_15 (by decide) ?_
  refine W.widen (k := 1) (n := 6) (by decide) (by decide) ?_
  exact gret_i hx hb hr hlk dL_hold_16 hS (u, g_2) hP hD (⟨rfl, r, hw, by show g_2 0 = _; rw [eg_2, pk_uLs, ev_1]⟩)
set_option maxHeartbeats 4000000 in
set_option maxRecDepth 100000 in
theorem L_hold_1 (l : Launch) (G : GW) (sz x0 o1 : Nat) (fs : List Value) (wt : va_W) (ov : Nat → Int64) (x : Int32) (hM : ∀ sz : Nat, vx_Met l yX3_hold (Cond.code yX3_hold cX3_hold 3 (some FieldType.int) :: UW) ({ frames := 7, cells := 1, slots := 6, locals := 103 } : Room) (va_Pc [.ref x0, .int x] (gPre G ((x0, .inr (3, fs)) :: wt) sz)) gNo (gXC G xIOB (va_A ((x0, .inr (3, fs)) :: wt) sz) ((x0, .inr (3, fs)) :: wt)) 1 6 (va_A ((x0, .inr (3, fs)) :: wt) sz)) : Met l yL_hold (Cond.codeWith yL_hold cL_hold 4 (some .int) [(0, 9, 12, 19)] :: UW) ({ frames := 8, cells := 1, slots := 6, locals := 125 } : Room) (va_Pc [.ref x0, .int x, .ref o1] (gPre G ((o1, .inl (G.2.1 2, 1, .inr (.inl ov))) :: ((x0, .inr (3, fs)) :: wt)) sz)) (va_Qi (fun r (_ : Unit) => r = 1) (fun _ => gPost G (va_A ((o1, .inl (G.2.1 2, 1, .inr (.inl ov))) :: ((x0, .inr (3, fs)) :: wt)) sz) ((o1, .inl (G.2.1 2, 1, .inr (.inl ov))) :: ((x0, .inr (3, fs)) :: wt))) (va_A ((o1, .inl (G.2.1 2, 1, .inr (.inl ov))) :: ((x0, .inr (3, fs)) :: wt)) sz)) 1 6 (va_A ((o1, .inl (G.2.1 2, 1, .inr (.inl ov))) :: ((x0, .inr (3, fs)) :: wt)) sz) := by
  refine gML_of (Qf := fun A => va_Qi (fun r (_ : Unit) => r = 1) (fun _ => gPost G A ((o1, .inl (G.2.1 2, 1, .inr (.inl ov))) :: ((x0, .inr (3, fs)) :: wt))) A) (by decide) (Nat.le_of_ble_eq_true rfl) ?_
  intro p e s m below meth c A ls hx hb hml hr hown htu hlk htab hA hP hD hS hK hZ hl
  have hown : s.vm.findClass RL = some m.cls := hown
  have hl : lv_has ls 4 [(0, .ref x0), (1, .int x), (2, .ref o1)] := hl
  refine lv_aload_n hx hb dL_hold_0 rfl (lv_at hl 2 rfl) ?_
  refine lv_iconst (v := nI 0) hx hb dL_hold_1 (by decide) ?_
  refine lv_aload_n hx hb dL_hold_2 rfl (lv_at hl 0 rfl) ?_
  refine lv_iload_n hx hb dL_hold_3 rfl (lv_at hl 1 rfl) ?_
  have hPn : va_P G.1 vwCl (([(o1, .inl (G.2.1 2, 1, .inr (.inl ov)))] ++ ((x0, .inr (3, fs)) :: wt)) ++ []) s.heap := by rw [List.append_nil]; exact hP
  have hDn : va_D A (([(o1, .inl (G.2.1 2, 1, .inr (.inl ov)))] ++ ((x0, .inr (3, fs)) :: wt)) ++ []) := by rw [List.append_nil]; exact hD
  refine b_xcall (P := [(o1, .inl (G.2.1 2, 1, .inr (.inl ov)))]) (B := ((x0, .inr (3, fs)) :: wt)) (T := []) (g_xrunV (As := [.int x]) (rest := [.int (nI 0), .ref o1]) ⟨hx, hb, hml, hown, htu⟩ (hM _) uM_L_45 ok_X3_hold in_X3_hold rfl rfl ⟨Nat.le_of_ble_eq_true rfl, Nat.le_of_ble_eq_true rfl⟩ hK hPn hDn hS hA hZ (List.range' [(o1, .inl (G.2.1 2, 1, .inr (.inl ov)))].length ((x0, .inr (3, fs)) :: wt).length) (blkC [(o1, .inl (G.2.1 2, 1, .inr (.inl ov)))] ((x0, .inr (3, fs)) :: wt) []) (va_nd_of List.nodup_range') 1 rfl rfl rfl rfl hl.1 rfl (Nat.le_of_ble_eq_true rfl) dL_hold_4 ⟨Nat.le_of_ble_eq_true rfl, Nat.le_of_ble_eq_true rfl⟩) hPn hDn hS hA (fun ce q9 H locs hP hS hce hcv hcl => ?_)
  rw [List.append_nil] at hP
  have hP : va_P G.1 vwCl ((o1, .inl (G.2.1 2, 1, .inr (.inl ov))) :: ((x0, .inr (3, fs)) :: wt)) H := hP
  have hD : va_D A ((o1, .inl (G.2.1 2, 1, .inr (.inl ov))) :: ((x0, .inr (3, fs)) :: wt)) := hD
  refine vx_catch (own := RL) (name := xIOB) hown [] ⟨0, 9, 12, 19⟩ [] (htab.trans rfl) (fun _ h => absurd h List.not_mem_nil) (by decide) (by decide) (htu _ uK_L_19) (va_Nw.use rfl (hK.2.2.2.1 _ (List.mem_of_getElem? (i := 1) rfl))) hce hcv hcl ?_
  refine lv_astore_n (lv' := [(3, .ref q9), (0, .ref x0), (1, .int x), (2, .ref o1)]) hx hb dL_hold_12 rfl hl (by decide) rfl (fun ls hl => ?_)
  refine lv_iconst (v := 1) hx hb dL_hold_13 (by decide) ?_
  refine W.widen (k := 1) (n := 6) (by decide) (by decide) ?_
  exact gret_i hx hb hr hlk dL_hold_14 hS () hP hD (rfl)
set_option maxRecDepth 100000 in
theorem l_hold (l : Launch) (hT9 : l.stackTraces = false) (G : GW) (sz x0 o1 : Nat) (ad : Nat → Nat) (ov : Nat → Int64) (u : XU) (A : AS) (x : Int32) (E : AO) (hR : XR u A) (hE : holdA A x = E) : Met l yL_hold (Cond.codeWith yL_hold cL_hold 4 (some .int) [(0, 9, 12, 19)] :: UW) ({ frames := 8, cells := 1, slots := 6, locals := 125 } : Room) (va_Pc [.ref x0, .int x, .ref o1] (gPre G ((o1, .inl (G.2.1 2, 1, .inr (.inl ov))) :: xW G x0 ad u) sz)) (va_Qi (fun r (v : XU × (Nat → Int64)) => r = nI E.1 ∧ XR v.1 E.2.2 ∧ (E.1 = 0 → v.2 0 = E.2.1)) (fun v => gPost G (va_A ((o1, .inl (G.2.1 2, 1, .inr (.inl ov))) :: xW G x0 ad u) sz) ((o1, .inl (G.2.1 2, 1, .inr (.inl v.2))) :: xW G x0 ad v.1)) (va_A ((o1, .inl (G.2.1 2, 1, .inr (.inl ov))) :: xW G x0 ad u) sz)) 1 6 (va_A ((o1, .inl (G.2.1 2, 1, .inr (.inl ov))) :: xW G x0 ad u) sz) := by
  rcases x_hold l hT9 G x0 ad u A x E hR hE with ⟨h0, hM⟩ | ⟨h0, hM⟩
  · refine gMono_i (L_hold_ok l G sz x0 o1 _ _ ov x hM) (fun r v h => ?_)
    obtain ⟨h1, r9, h2, h3⟩ := h
    exact ⟨v, ⟨by rw [h1, h0]; rfl, h2.2, fun _ => by rw [h3, h2.1]⟩, rfl⟩
  · subst h0
    refine gMono_i (L_hold_1 l G sz x0 o1 _ _ ov x hM) (fun r v h => ?_)
    exact ⟨(u, ov), ⟨h.trans rfl, hR, fun h9 => absurd h9 (Nat.succ_ne_zero _)⟩, rfl⟩
set_option maxRecDepth 20000 in
theorem uW_L_keep : Cond.codeWith yL_keep cL_keep 4 (some .int) [(0, 9, 12, 19)] ∈ UW := mem_UW (in_t3 (List.mem_of_getElem? (i := 25) rfl)) rfl
set_option maxHeartbeats 4000000 in
set_option maxRecDepth 100000 in
theorem L_keep_ok (l : Launch) (G : GW) (sz x0 o1 : Nat) (fs : List Value) (wt : va_W) (ov : Nat → Int64) (x : Int32) {S : Type} {post : Int32 → S → Prop} {w1 : S → va_W} (hM : ∀ sz : Nat, Met l yX3_keep (Cond.code yX3_keep cX3_keep 3 (some FieldType.int) :: UW) ({ frames := 7, cells := 0, slots := 0, locals := 103 } : Room) (va_Pc [.ref x0, .int x] (gPre G ((x0, .inr (3, fs)) :: wt) sz)) (va_Qi post (fun v => gPost G (va_A ((x0, .inr (3, fs)) :: wt) sz) (w1 v)) (va_A ((x0, .inr (3, fs)) :: wt) sz)) 0 0 (va_A ((x0, .inr (3, fs)) :: wt) sz)) : Met l yL_keep (Cond.codeWith yL_keep cL_keep 4 (some .int) [(0, 9, 12, 19)] :: UW) ({ frames := 8, cells := 1, slots := 6, locals := 125 } : Room) (va_Pc [.ref x0, .int x, .ref o1] (gPre G ((o1, .inl (G.2.1 2, 1, .inr (.inl ov))) :: ((x0, .inr (3, fs)) :: wt)) sz)) (va_Qi (fun r (v : S × (Nat → Int64)) => r = 0 ∧ ∃ r9, post r9 v.1 ∧ v.2 0 = r9.toInt64) (fun v => gPost G (va_A ((o1, .inl (G.2.1 2, 1, .inr (.inl ov))) :: ((x0, .inr (3, fs)) :: wt)) sz) ((o1, .inl (G.2.1 2, 1, .inr (.inl v.2))) :: w1 v.1)) (va_A ((o1, .inl (G.2.1 2, 1, .inr (.inl ov))) :: ((x0, .inr (3, fs)) :: wt)) sz)) 1 6 (va_A ((o1, .inl (G.2.1 2, 1, .inr (.inl ov))) :: ((x0, .inr (3, fs)) :: wt)) sz) := by
  refine gML_of (Qf := fun A => va_Qi (fun r (v : S × (Nat → Int64)) => r = 0 ∧ ∃ r9, post r9 v.1 ∧ v.2 0 = r9.toInt64) (fun v => gPost G A ((o1, .inl (G.2.1 2, 1, .inr (.inl v.2))) :: w1 v.1)) A) (by decide) (Nat.le_of_ble_eq_true rfl) ?_
  intro p e s m below meth c A ls hx hb hml hr hown htu hlk htab hA hP hD hS hK hZ hl
  have hown : s.vm.findClass RL = some m.cls := hown
  have hl : lv_has ls 4 [(0, .ref x0), (1, .int x), (2, .ref o1)] := hl
  refine lv_aload_n hx hb dL_keep_0 rfl (lv_at hl 2 rfl) ?_
  refine lv_iconst (v := nI 0) hx hb dL_keep_1 (by decide) ?_
  refine lv_aload_n hx hb dL_keep_2 rfl (lv_at hl 0 rfl) ?_
  refine lv_iload_n hx hb dL_keep_3 rfl (lv_at hl 1 rfl) ?_
  have hPn : va_P G.1 vwCl (([(o1, .inl (G.2.1 2, 1, .inr (.inl ov)))] ++ ((x0, .inr (3, fs)) :: wt)) ++ []) s.heap := by rw [List.append_nil]; exact hP
  have hDn : va_D A (([(o1, .inl (G.2.1 2, 1, .inr (.inl ov)))] ++ ((x0, .inr (3, fs)) :: wt)) ++ []) := by rw [List.append_nil]; exact hD
  refine b_calli (P := [(o1, .inl (G.2.1 2, 1, .inr (.inl ov)))]) (B := ((x0, .inr (3, fs)) :: wt)) (T := []) (g_runV (As := [.int x]) (rest := [.int (nI 0), .ref o1]) ⟨hx, hb, hml, hown, htu⟩ (hM _) uM_L_48 ok_X3_keep in_X3_keep rfl rfl ⟨Nat.le_of_ble_eq_true rfl, Nat.le_of_ble_eq_true rfl⟩ hK hPn hDn hS hA hZ (List.range' [(o1, .inl (G.2.1 2, 1, .inr (.inl ov)))].length ((x0, .inr (3, fs)) :: wt).length) (blkC [(o1, .inl (G.2.1 2, 1, .inr (.inl ov)))] ((x0, .inr (3, fs)) :: wt) []) (va_nd_of List.nodup_range') 1 rfl rfl rfl rfl hl.1 rfl (Nat.le_of_ble_eq_true rfl) dL_keep_4 ⟨Nat.le_of_ble_eq_true rfl, Nat.le_of_ble_eq_true rfl⟩) hPn hDn hS hA (fun r u H locs hw hP hD hS => ?_)
  rw [List.append_nil] at hP hD
  have hP : va_P G.1 vwCl ((o1, .inl (G.2.1 2, 1, .inr (.inl ov))) :: w1 u) H := hP
  have hD : va_D A ((o1, .inl (G.2.1 2, 1, .inr (.inl ov))) :: w1 u) := hD
  refine lv_i2l (v := Int32.toInt64 r) hx hb dL_keep_7 rfl ?_
  refine lv_topl (fun v_1 ev_1 => ?_)
  refine g_last hx hb hK.1 hP hD hS 0 2 rfl rfl ⟨by decide, by decide⟩ dL_keep_8 (fun H locs hP hD hS => ?_)
  obtain ⟨g_2, eg_2⟩ : ∃ gq9 : Nat → Int64, gq9 = vp_updL ov 0 v_1 := ⟨_, rfl⟩
  rw [← eg_2] at hP hD
  have hP : va_P G.1 vwCl ((o1, .inl (G.2.1 2, 1, .inr (.inl g_2))) :: w1 u) H := hP
  have hD : va_D A ((o1, .inl (G.2.1 2, 1, .inr (.inl g_2))) :: w1 u) := hD
  refine lv_goto (tgt := 15) hx hb dL_keep_9 (by decide) ?_
  refine lv_iconst (v := 0) hx hb dL_keep_15 (by decide) ?_
  refine W.widen (k := 1) (n := 6) (by decide) (by decide) ?_
  exact gret_i hx hb hr hlk dL_keep_16 hS (u, g_2) hP hD (⟨rfl, r, hw, by show g_2 0 = _; rw [eg_2, pk_uLs, ev_1]⟩)
set_option maxHeartbeats 4000000 in
set_option maxRecDepth 100000 in
theorem L_keep_1 (l : Launch) (G : GW) (sz x0 o1 : Nat) (fs : List Value) (wt : va_W) (ov : Nat → Int64) (x : Int32) (hM : ∀ sz : Nat, vx_Met l yX3_keep (Cond.code yX3_keep cX3_keep 3 (some FieldType.int) :: UW) ({ frames := 7, cells := 1, slots := 6, locals := 103 } : Room) (va_Pc [.ref x0, .int x] (gPre G ((x0, .inr (3, fs)) :: wt) sz)) gNo (gXC G xIOB (va_A ((x0, .inr (3, fs)) :: wt) sz) ((x0, .inr (3, fs)) :: wt)) 1 6 (va_A ((x0, .inr (3, fs)) :: wt) sz)) : Met l yL_keep (Cond.codeWith yL_keep cL_keep 4 (some .int) [(0, 9, 12, 19)] :: UW) ({ frames := 8, cells := 1, slots := 6, locals := 125 } : Room) (va_Pc [.ref x0, .int x, .ref o1] (gPre G ((o1, .inl (G.2.1 2, 1, .inr (.inl ov))) :: ((x0, .inr (3, fs)) :: wt)) sz)) (va_Qi (fun r (_ : Unit) => r = 1) (fun _ => gPost G (va_A ((o1, .inl (G.2.1 2, 1, .inr (.inl ov))) :: ((x0, .inr (3, fs)) :: wt)) sz) ((o1, .inl (G.2.1 2, 1, .inr (.inl ov))) :: ((x0, .inr (3, fs)) :: wt))) (va_A ((o1, .inl (G.2.1 2, 1, .inr (.inl ov))) :: ((x0, .inr (3, fs)) :: wt)) sz)) 1 6 (va_A ((o1, .inl (G.2.1 2, 1, .inr (.inl ov))) :: ((x0, .inr (3, fs)) :: wt)) sz) := by
  refine gML_of (Qf := fun A => va_Qi (fun r (_ : Unit) => r = 1) (fun _ => gPost G A ((o1, .inl (G.2.1 2, 1, .inr (.inl ov))) :: ((x0, .inr (3, fs)) :: wt))) A) (by decide) (Nat.le_of_ble_eq_true rfl) ?_
  intro p e s m below meth c A ls hx hb hml hr hown htu hlk htab hA hP hD hS hK hZ hl
  have hown : s.vm.findClass RL = some m.cls := hown
  have hl : lv_has ls 4 [(0, .ref x0), (1, .int x), (2, .ref o1)] := hl
  refine lv_aload_n hx hb dL_keep_0 rfl (lv_at hl 2 rfl) ?_
  refine lv_iconst (v := nI 0) hx hb dL_keep_1 (by decide) ?_
  refine lv_aload_n hx hb dL_keep_2 rfl (lv_at hl 0 rfl) ?_
  refine lv_iload_n hx hb dL_keep_3 rfl (lv_at hl 1 rfl) ?_
  have hPn : va_P G.1 vwCl (([(o1, .inl (G.2.1 2, 1, .inr (.inl ov)))] ++ ((x0, .inr (3, fs)) :: wt)) ++ []) s.heap := by rw [List.append_nil]; exact hP
  have hDn : va_D A (([(o1, .inl (G.2.1 2, 1, .inr (.inl ov)))] ++ ((x0, .inr (3, fs)) :: wt)) ++ []) := by rw [List.append_nil]; exact hD
  refine b_xcall (P := [(o1, .inl (G.2.1 2, 1, .inr (.inl ov)))]) (B := ((x0, .inr (3, fs)) :: wt)) (T := []) (g_xrunV (As := [.int x]) (rest := [.int (nI 0), .ref o1]) ⟨hx, hb, hml, hown, htu⟩ (hM _) uM_L_48 ok_X3_keep in_X3_keep rfl rfl ⟨Nat.le_of_ble_eq_true rfl, Nat.le_of_ble_eq_true rfl⟩ hK hPn hDn hS hA hZ (List.range' [(o1, .inl (G.2.1 2, 1, .inr (.inl ov)))].length ((x0, .inr (3, fs)) :: wt).length) (blkC [(o1, .inl (G.2.1 2, 1, .inr (.inl ov)))] ((x0, .inr (3, fs)) :: wt) []) (va_nd_of List.nodup_range') 1 rfl rfl rfl rfl hl.1 rfl (Nat.le_of_ble_eq_true rfl) dL_keep_4 ⟨Nat.le_of_ble_eq_true rfl, Nat.le_of_ble_eq_true rfl⟩) hPn hDn hS hA (fun ce q9 H locs hP hS hce hcv hcl => ?_)
  rw [List.append_nil] at hP
  have hP : va_P G.1 vwCl ((o1, .inl (G.2.1 2, 1, .inr (.inl ov))) :: ((x0, .inr (3, fs)) :: wt)) H := hP
  have hD : va_D A ((o1, .inl (G.2.1 2, 1, .inr (.inl ov))) :: ((x0, .inr (3, fs)) :: wt)) := hD
  refine vx_catch (own := RL) (name := xIOB) hown [] ⟨0, 9, 12, 19⟩ [] (htab.trans rfl) (fun _ h => absurd h List.not_mem_nil) (by decide) (by decide) (htu _ uK_L_19) (va_Nw.use rfl (hK.2.2.2.1 _ (List.mem_of_getElem? (i := 1) rfl))) hce hcv hcl ?_
  refine lv_astore_n (lv' := [(3, .ref q9), (0, .ref x0), (1, .int x), (2, .ref o1)]) hx hb dL_keep_12 rfl hl (by decide) rfl (fun ls hl => ?_)
  refine lv_iconst (v := 1) hx hb dL_keep_13 (by decide) ?_
  refine W.widen (k := 1) (n := 6) (by decide) (by decide) ?_
  exact gret_i hx hb hr hlk dL_keep_14 hS () hP hD (rfl)
set_option maxRecDepth 100000 in
theorem l_keep (l : Launch) (hT9 : l.stackTraces = false) (G : GW) (sz x0 o1 : Nat) (ad : Nat → Nat) (ov : Nat → Int64) (u : XU) (A : AS) (x : Int32) (E : AO) (hR : XR u A) (hE : keepA A x = E) : Met l yL_keep (Cond.codeWith yL_keep cL_keep 4 (some .int) [(0, 9, 12, 19)] :: UW) ({ frames := 8, cells := 1, slots := 6, locals := 125 } : Room) (va_Pc [.ref x0, .int x, .ref o1] (gPre G ((o1, .inl (G.2.1 2, 1, .inr (.inl ov))) :: xW G x0 ad u) sz)) (va_Qi (fun r (v : XU × (Nat → Int64)) => r = nI E.1 ∧ XR v.1 E.2.2 ∧ (E.1 = 0 → v.2 0 = E.2.1)) (fun v => gPost G (va_A ((o1, .inl (G.2.1 2, 1, .inr (.inl ov))) :: xW G x0 ad u) sz) ((o1, .inl (G.2.1 2, 1, .inr (.inl v.2))) :: xW G x0 ad v.1)) (va_A ((o1, .inl (G.2.1 2, 1, .inr (.inl ov))) :: xW G x0 ad u) sz)) 1 6 (va_A ((o1, .inl (G.2.1 2, 1, .inr (.inl ov))) :: xW G x0 ad u) sz) := by
  rcases x_keep l hT9 G x0 ad u A x E hR hE with ⟨h0, hM⟩ | ⟨h0, hM⟩
  · refine gMono_i (L_keep_ok l G sz x0 o1 _ _ ov x hM) (fun r v h => ?_)
    obtain ⟨h1, r9, h2, h3⟩ := h
    exact ⟨v, ⟨by rw [h1, h0]; rfl, h2.2, fun _ => by rw [h3, h2.1]⟩, rfl⟩
  · subst h0
    refine gMono_i (L_keep_1 l G sz x0 o1 _ _ ov x hM) (fun r v h => ?_)
    exact ⟨(u, ov), ⟨h.trans rfl, hR, fun h9 => absurd h9 (Nat.succ_ne_zero _)⟩, rfl⟩
set_option maxRecDepth 20000 in
theorem uW_L_draw : Cond.codeWith yL_draw cL_draw 4 (some .int) [(0, 9, 12, 13)] ∈ UW := mem_UW (in_t3 (List.mem_of_getElem? (i := 32) rfl)) rfl
set_option maxHeartbeats 4000000 in
set_option maxRecDepth 100000 in
theorem L_draw_ok (l : Launch) (G : GW) (sz x0 o1 : Nat) (fs : List Value) (wt : va_W) (ov : Nat → Int64) (x : Int32) {S : Type} {post : Int32 → S → Prop} {w1 : S → va_W} (hM : ∀ sz : Nat, Met l yX3_draw (Cond.code yX3_draw cX3_draw 2 (some FieldType.int) :: UW) ({ frames := 7, cells := 0, slots := 0, locals := 154 } : Room) (va_Pc [.ref x0, .int x] (gPre G ((x0, .inr (3, fs)) :: wt) sz)) (va_Qi post (fun v => gPost G (va_A ((x0, .inr (3, fs)) :: wt) sz) (w1 v)) (va_A ((x0, .inr (3, fs)) :: wt) sz)) 0 0 (va_A ((x0, .inr (3, fs)) :: wt) sz)) : Met l yL_draw (Cond.codeWith yL_draw cL_draw 4 (some .int) [(0, 9, 12, 13)] :: UW) ({ frames := 8, cells := 1, slots := 6, locals := 175 } : Room) (va_Pc [.ref x0, .int x, .ref o1] (gPre G ((o1, .inl (G.2.1 2, 1, .inr (.inl ov))) :: ((x0, .inr (3, fs)) :: wt)) sz)) (va_Qi (fun r (v : S × (Nat → Int64)) => r = 0 ∧ ∃ r9, post r9 v.1 ∧ v.2 0 = r9.toInt64) (fun v => gPost G (va_A ((o1, .inl (G.2.1 2, 1, .inr (.inl ov))) :: ((x0, .inr (3, fs)) :: wt)) sz) ((o1, .inl (G.2.1 2, 1, .inr (.inl v.2))) :: w1 v.1)) (va_A ((o1, .inl (G.2.1 2, 1, .inr (.inl ov))) :: ((x0, .inr (3, fs)) :: wt)) sz)) 1 6 (va_A ((o1, .inl (G.2.1 2, 1, .inr (.inl ov))) :: ((x0, .inr (3, fs)) :: wt)) sz) := by
  refine gML_of (Qf := fun A => va_Qi (fun r (v : S × (Nat → Int64)) => r = 0 ∧ ∃ r9, post r9 v.1 ∧ v.2 0 = r9.toInt64) (fun v => gPost G A ((o1, .inl (G.2.1 2, 1, .inr (.inl v.2))) :: w1 v.1)) A) (by decide) (Nat.le_of_ble_eq_true rfl) ?_
  intro p e s m below meth c A ls hx hb hml hr hown htu hlk htab hA hP hD hS hK hZ hl
  have hown : s.vm.findClass RL = some m.cls := hown
  have hl : lv_has ls 4 [(0, .ref x0), (1, .int x), (2, .ref o1)] := hl
  refine lv_aload_n hx hb dL_draw_0 rfl (lv_at hl 2 rfl) ?_
  refine lv_iconst (v := nI 0) hx hb dL_draw_1 (by decide) ?_
  refine lv_aload_n hx hb dL_draw_2 rfl (lv_at hl 0 rfl) ?_
  refine lv_iload_n hx hb dL_draw_3 rfl (lv_at hl 1 rfl) ?_
  have hPn : va_P G.1 vwCl (([(o1, .inl (G.2.1 2, 1, .inr (.inl ov)))] ++ ((x0, .inr (3, fs)) :: wt)) ++ []) s.heap := by rw [List.append_nil]; exact hP
  have hDn : va_D A (([(o1, .inl (G.2.1 2, 1, .inr (.inl ov)))] ++ ((x0, .inr (3, fs)) :: wt)) ++ []) := by rw [List.append_nil]; exact hD
  refine b_calli (P := [(o1, .inl (G.2.1 2, 1, .inr (.inl ov)))]) (B := ((x0, .inr (3, fs)) :: wt)) (T := []) (g_runV (As := [.int x]) (rest := [.int (nI 0), .ref o1]) ⟨hx, hb, hml, hown, htu⟩ (hM _) uM_L_51 ok_X3_draw in_X3_draw rfl rfl ⟨Nat.le_of_ble_eq_true rfl, Nat.le_of_ble_eq_true rfl⟩ hK hPn hDn hS hA hZ (List.range' [(o1, .inl (G.2.1 2, 1, .inr (.inl ov)))].length ((x0, .inr (3, fs)) :: wt).length) (blkC [(o1, .inl (G.2.1 2, 1, .inr (.inl ov)))] ((x0, .inr (3, fs)) :: wt) []) (va_nd_of List.nodup_range') 1 rfl rfl rfl rfl hl.1 rfl (Nat.le_of_ble_eq_true rfl) dL_draw_4 ⟨Nat.le_of_ble_eq_true rfl, Nat.le_of_ble_eq_true rfl⟩) hPn hDn hS hA (fun r u H locs hw hP hD hS => ?_)
  rw [List.append_nil] at hP hD
  have hP : va_P G.1 vwCl ((o1, .inl (G.2.1 2, 1, .inr (.inl ov))) :: w1 u) H := hP
  have hD : va_D A ((o1, .inl (G.2.1 2, 1, .inr (.inl ov))) :: w1 u) := hD
  refine lv_i2l (v := Int32.toInt64 r) hx hb dL_draw_7 rfl ?_
  refine lv_topl (fun v_1 ev_1 => ?_)
  refine g_last hx hb hK.1 hP hD hS 0 2 rfl rfl ⟨by decide, by decide⟩ dL_draw_8 (fun H locs hP hD hS => ?_)
  obtain ⟨g_2, eg_2⟩ : ∃ gq9 : Nat → Int64, gq9 = vp_updL ov 0 v_1 := ⟨_, rfl⟩
  rw [← eg_2] at hP hD
  have hP : va_P G.1 vwCl ((o1, .inl (G.2.1 2, 1, .inr (.inl g_2))) :: w1 u) H := hP
  have hD : va_D A ((o1, .inl (G.2.1 2, 1, .inr (.inl g_2))) :: w1 u) := hD
  refine lv_goto (tgt := 15) hx hb dL_draw_9 (by decide) ?_
  refine lv_iconst (v := 0) hx hb dL_draw_15 (by decide) ?_
  refine W.widen (k := 1) (n := 6) (by decide) (by decide) ?_
  exact gret_i hx hb hr hlk dL_draw_16 hS (u, g_2) hP hD (⟨rfl, r, hw, by show g_2 0 = _; rw [eg_2, pk_uLs, ev_1]⟩)
set_option maxHeartbeats 4000000 in
set_option maxRecDepth 100000 in
theorem L_draw_1 (l : Launch) (G : GW) (sz x0 o1 : Nat) (fs : List Value) (wt : va_W) (ov : Nat → Int64) (x : Int32) (hM : ∀ sz : Nat, vx_Met l yX3_draw (Cond.code yX3_draw cX3_draw 2 (some FieldType.int) :: UW) ({ frames := 7, cells := 1, slots := 6, locals := 154 } : Room) (va_Pc [.ref x0, .int x] (gPre G ((x0, .inr (3, fs)) :: wt) sz)) gNo (gXC G xIAE (va_A ((x0, .inr (3, fs)) :: wt) sz) ((x0, .inr (3, fs)) :: wt)) 1 6 (va_A ((x0, .inr (3, fs)) :: wt) sz)) : Met l yL_draw (Cond.codeWith yL_draw cL_draw 4 (some .int) [(0, 9, 12, 13)] :: UW) ({ frames := 8, cells := 1, slots := 6, locals := 175 } : Room) (va_Pc [.ref x0, .int x, .ref o1] (gPre G ((o1, .inl (G.2.1 2, 1, .inr (.inl ov))) :: ((x0, .inr (3, fs)) :: wt)) sz)) (va_Qi (fun r (_ : Unit) => r = 1) (fun _ => gPost G (va_A ((o1, .inl (G.2.1 2, 1, .inr (.inl ov))) :: ((x0, .inr (3, fs)) :: wt)) sz) ((o1, .inl (G.2.1 2, 1, .inr (.inl ov))) :: ((x0, .inr (3, fs)) :: wt))) (va_A ((o1, .inl (G.2.1 2, 1, .inr (.inl ov))) :: ((x0, .inr (3, fs)) :: wt)) sz)) 1 6 (va_A ((o1, .inl (G.2.1 2, 1, .inr (.inl ov))) :: ((x0, .inr (3, fs)) :: wt)) sz) := by
  refine gML_of (Qf := fun A => va_Qi (fun r (_ : Unit) => r = 1) (fun _ => gPost G A ((o1, .inl (G.2.1 2, 1, .inr (.inl ov))) :: ((x0, .inr (3, fs)) :: wt))) A) (by decide) (Nat.le_of_ble_eq_true rfl) ?_
  intro p e s m below meth c A ls hx hb hml hr hown htu hlk htab hA hP hD hS hK hZ hl
  have hown : s.vm.findClass RL = some m.cls := hown
  have hl : lv_has ls 4 [(0, .ref x0), (1, .int x), (2, .ref o1)] := hl
  refine lv_aload_n hx hb dL_draw_0 rfl (lv_at hl 2 rfl) ?_
  refine lv_iconst (v := nI 0) hx hb dL_draw_1 (by decide) ?_
  refine lv_aload_n hx hb dL_draw_2 rfl (lv_at hl 0 rfl) ?_
  refine lv_iload_n hx hb dL_draw_3 rfl (lv_at hl 1 rfl) ?_
  have hPn : va_P G.1 vwCl (([(o1, .inl (G.2.1 2, 1, .inr (.inl ov)))] ++ ((x0, .inr (3, fs)) :: wt)) ++ []) s.heap := by rw [List.append_nil]; exact hP
  have hDn : va_D A (([(o1, .inl (G.2.1 2, 1, .inr (.inl ov)))] ++ ((x0, .inr (3, fs)) :: wt)) ++ []) := by rw [List.append_nil]; exact hD
  refine b_xcall (P := [(o1, .inl (G.2.1 2, 1, .inr (.inl ov)))]) (B := ((x0, .inr (3, fs)) :: wt)) (T := []) (g_xrunV (As := [.int x]) (rest := [.int (nI 0), .ref o1]) ⟨hx, hb, hml, hown, htu⟩ (hM _) uM_L_51 ok_X3_draw in_X3_draw rfl rfl ⟨Nat.le_of_ble_eq_true rfl, Nat.le_of_ble_eq_true rfl⟩ hK hPn hDn hS hA hZ (List.range' [(o1, .inl (G.2.1 2, 1, .inr (.inl ov)))].length ((x0, .inr (3, fs)) :: wt).length) (blkC [(o1, .inl (G.2.1 2, 1, .inr (.inl ov)))] ((x0, .inr (3, fs)) :: wt) []) (va_nd_of List.nodup_range') 1 rfl rfl rfl rfl hl.1 rfl (Nat.le_of_ble_eq_true rfl) dL_draw_4 ⟨Nat.le_of_ble_eq_true rfl, Nat.le_of_ble_eq_true rfl⟩) hPn hDn hS hA (fun ce q9 H locs hP hS hce hcv hcl => ?_)
  rw [List.append_nil] at hP
  have hP : va_P G.1 vwCl ((o1, .inl (G.2.1 2, 1, .inr (.inl ov))) :: ((x0, .inr (3, fs)) :: wt)) H := hP
  have hD : va_D A ((o1, .inl (G.2.1 2, 1, .inr (.inl ov))) :: ((x0, .inr (3, fs)) :: wt)) := hD
  refine vx_catch (own := RL) (name := xIAE) hown [] ⟨0, 9, 12, 13⟩ [] (htab.trans rfl) (fun _ h => absurd h List.not_mem_nil) (by decide) (by decide) (htu _ uK_L_13) (va_Nw.use rfl (hK.2.2.2.1 _ (List.mem_of_getElem? (i := 0) rfl))) hce hcv hcl ?_
  refine lv_astore_n (lv' := [(3, .ref q9), (0, .ref x0), (1, .int x), (2, .ref o1)]) hx hb dL_draw_12 rfl hl (by decide) rfl (fun ls hl => ?_)
  refine lv_iconst (v := 1) hx hb dL_draw_13 (by decide) ?_
  refine W.widen (k := 1) (n := 6) (by decide) (by decide) ?_
  exact gret_i hx hb hr hlk dL_draw_14 hS () hP hD (rfl)
set_option maxRecDepth 100000 in
theorem l_draw (l : Launch) (hT9 : l.stackTraces = false) (G : GW) (sz x0 o1 : Nat) (ad : Nat → Nat) (ov : Nat → Int64) (u : XU) (A : AS) (x : Int32) (E : AO) (hR : XR u A) (hE : drawA A x = E) : Met l yL_draw (Cond.codeWith yL_draw cL_draw 4 (some .int) [(0, 9, 12, 13)] :: UW) ({ frames := 8, cells := 1, slots := 6, locals := 175 } : Room) (va_Pc [.ref x0, .int x, .ref o1] (gPre G ((o1, .inl (G.2.1 2, 1, .inr (.inl ov))) :: xW G x0 ad u) sz)) (va_Qi (fun r (v : XU × (Nat → Int64)) => r = nI E.1 ∧ XR v.1 E.2.2 ∧ (E.1 = 0 → v.2 0 = E.2.1)) (fun v => gPost G (va_A ((o1, .inl (G.2.1 2, 1, .inr (.inl ov))) :: xW G x0 ad u) sz) ((o1, .inl (G.2.1 2, 1, .inr (.inl v.2))) :: xW G x0 ad v.1)) (va_A ((o1, .inl (G.2.1 2, 1, .inr (.inl ov))) :: xW G x0 ad u) sz)) 1 6 (va_A ((o1, .inl (G.2.1 2, 1, .inr (.inl ov))) :: xW G x0 ad u) sz) := by
  rcases x_draw l hT9 G x0 ad u A x E hR hE with ⟨h0, hM⟩ | ⟨h0, hM⟩
  · refine gMono_i (L_draw_ok l G sz x0 o1 _ _ ov x hM) (fun r v h => ?_)
    obtain ⟨h1, r9, h2, h3⟩ := h
    exact ⟨v, ⟨by rw [h1, h0]; rfl, h2.2, fun _ => by rw [h3, h2.1]⟩, rfl⟩
  · subst h0
    refine gMono_i (L_draw_1 l G sz x0 o1 _ _ ov x hM) (fun r v h => ?_)
    exact ⟨(u, ov), ⟨h.trans rfl, hR, fun h9 => absurd h9 (Nat.succ_ne_zero _)⟩, rfl⟩
set_option maxRecDepth 20000 in
theorem uW_L_spread : Cond.codeWith yL_spread cL_spread 5 (some .int) [(0, 10, 13, 13)] ∈ UW := mem_UW (in_t3 (List.mem_of_getElem? (i := 39) rfl)) rfl
set_option maxHeartbeats 4000000 in
set_option maxRecDepth 100000 in
theorem L_spread_ok (l : Launch) (G : GW) (sz x0 o1 : Nat) (fs : List Value) (wt : va_W) (ov : Nat → Int64) (x : Int32) (n : Int32) {S : Type} {post : Int32 → S → Prop} {w1 : S → va_W} (hM : ∀ sz : Nat, Met l yX3_spread (Cond.code yX3_spread cX3_spread 4 (some FieldType.int) :: UW) ({ frames := 7, cells := 0, slots := 0, locals := 155 } : Room) (va_Pc [.ref x0, .int x, .int n] (gPre G ((x0, .inr (3, fs)) :: wt) sz)) (va_Qi post (fun v => gPost G (va_A ((x0, .inr (3, fs)) :: wt) sz) (w1 v)) (va_A ((x0, .inr (3, fs)) :: wt) sz)) 0 0 (va_A ((x0, .inr (3, fs)) :: wt) sz)) : Met l yL_spread (Cond.codeWith yL_spread cL_spread 5 (some .int) [(0, 10, 13, 13)] :: UW) ({ frames := 8, cells := 1, slots := 6, locals := 178 } : Room) (va_Pc [.ref x0, .int x, .int n, .ref o1] (gPre G ((o1, .inl (G.2.1 2, 1, .inr (.inl ov))) :: ((x0, .inr (3, fs)) :: wt)) sz)) (va_Qi (fun r (v : S × (Nat → Int64)) => r = 0 ∧ ∃ r9, post r9 v.1 ∧ v.2 0 = r9.toInt64) (fun v => gPost G (va_A ((o1, .inl (G.2.1 2, 1, .inr (.inl ov))) :: ((x0, .inr (3, fs)) :: wt)) sz) ((o1, .inl (G.2.1 2, 1, .inr (.inl v.2))) :: w1 v.1)) (va_A ((o1, .inl (G.2.1 2, 1, .inr (.inl ov))) :: ((x0, .inr (3, fs)) :: wt)) sz)) 1 6 (va_A ((o1, .inl (G.2.1 2, 1, .inr (.inl ov))) :: ((x0, .inr (3, fs)) :: wt)) sz) := by
  refine gML_of (Qf := fun A => va_Qi (fun r (v : S × (Nat → Int64)) => r = 0 ∧ ∃ r9, post r9 v.1 ∧ v.2 0 = r9.toInt64) (fun v => gPost G A ((o1, .inl (G.2.1 2, 1, .inr (.inl v.2))) :: w1 v.1)) A) (by decide) (Nat.le_of_ble_eq_true rfl) ?_
  intro p e s m below meth c A ls hx hb hml hr hown htu hlk htab hA hP hD hS hK hZ hl
  have hown : s.vm.findClass RL = some m.cls := hown
  have hl : lv_has ls 5 [(0, .ref x0), (1, .int x), (2, .int n), (3, .ref o1)] := hl
  refine lv_aload_n hx hb dL_spread_0 rfl (lv_at hl 3 rfl) ?_
  refine lv_iconst (v := nI 0) hx hb dL_spread_1 (by decide) ?_
  refine lv_aload_n hx hb dL_spread_2 rfl (lv_at hl 0 rfl) ?_
  refine lv_iload_n hx hb dL_spread_3 rfl (lv_at hl 1 rfl) ?_
  refine lv_iload_n hx hb dL_spread_4 rfl (lv_at hl 2 rfl) ?_
  have hPn : va_P G.1 vwCl (([(o1, .inl (G.2.1 2, 1, .inr (.inl ov)))] ++ ((x0, .inr (3, fs)) :: wt)) ++ []) s.heap := by rw [List.append_nil]; exact hP
  have hDn : va_D A (([(o1, .inl (G.2.1 2, 1, .inr (.inl ov)))] ++ ((x0, .inr (3, fs)) :: wt)) ++ []) := by rw [List.append_nil]; exact hD
  refine b_calli (P := [(o1, .inl (G.2.1 2, 1, .inr (.inl ov)))]) (B := ((x0, .inr (3, fs)) :: wt)) (T := []) (g_runV (As := [.int x, .int n]) (rest := [.int (nI 0), .ref o1]) ⟨hx, hb, hml, hown, htu⟩ (hM _) uM_L_54 ok_X3_spread in_X3_spread rfl rfl ⟨Nat.le_of_ble_eq_true rfl, Nat.le_of_ble_eq_true rfl⟩ hK hPn hDn hS hA hZ (List.range' [(o1, .inl (G.2.1 2, 1, .inr (.inl ov)))].length ((x0, .inr (3, fs)) :: wt).length) (blkC [(o1, .inl (G.2.1 2, 1, .inr (.inl ov)))] ((x0, .inr (3, fs)) :: wt) []) (va_nd_of List.nodup_range') 1 rfl rfl rfl rfl hl.1 rfl (Nat.le_of_ble_eq_true rfl) dL_spread_5 ⟨Nat.le_of_ble_eq_true rfl, Nat.le_of_ble_eq_true rfl⟩) hPn hDn hS hA (fun r u H locs hw hP hD hS => ?_)
  rw [List.append_nil] at hP hD
  have hP : va_P G.1 vwCl ((o1, .inl (G.2.1 2, 1, .inr (.inl ov))) :: w1 u) H := hP
  have hD : va_D A ((o1, .inl (G.2.1 2, 1, .inr (.inl ov))) :: w1 u) := hD
  refine lv_i2l (v := Int32.toInt64 r) hx hb dL_spread_8 rfl ?_
  refine lv_topl (fun v_1 ev_1 => ?_)
  refine g_last hx hb hK.1 hP hD hS 0 2 rfl rfl ⟨by decide, by decide⟩ dL_spread_9 (fun H locs hP hD hS => ?_)
  obtain ⟨g_2, eg_2⟩ : ∃ gq9 : Nat → Int64, gq9 = vp_updL ov 0 v_1 := ⟨_, rfl⟩
  rw [← eg_2] at hP hD
  have hP : va_P G.1 vwCl ((o1, .inl (G.2.1 2, 1, .inr (.inl g_2))) :: w1 u) H := hP
  have hD : va_D A ((o1, .inl (G.2.1 2, 1, .inr (.inl g_2))) :: w1 u) := hD
  refine lv_goto (tgt := 17) hx hb dL_spread_10 (by decide) ?_
  refine lv_iconst (v := 0) hx hb dL_spread_17 (by decide) ?_
  refine W.widen (k := 1) (n := 6) (by decide) (by decide) ?_
  exact gret_i hx hb hr hlk dL_spread_18 hS (u, g_2) hP hD (⟨rfl, r, hw, by show g_2 0 = _; rw [eg_2, pk_uLs, ev_1]⟩)
set_option maxHeartbeats 4000000 in
set_option maxRecDepth 100000 in
theorem L_spread_1 (l : Launch) (G : GW) (sz x0 o1 : Nat) (fs : List Value) (wt : va_W) (ov : Nat → Int64) (x : Int32) (n : Int32) (hM : ∀ sz : Nat, vx_Met l yX3_spread (Cond.code yX3_spread cX3_spread 4 (some FieldType.int) :: UW) ({ frames := 7, cells := 1, slots := 6, locals := 155 } : Room) (va_Pc [.ref x0, .int x, .int n] (gPre G ((x0, .inr (3, fs)) :: wt) sz)) gNo (gXC G xIAE (va_A ((x0, .inr (3, fs)) :: wt) sz) ((x0, .inr (3, fs)) :: wt)) 1 6 (va_A ((x0, .inr (3, fs)) :: wt) sz)) : Met l yL_spread (Cond.codeWith yL_spread cL_spread 5 (some .int) [(0, 10, 13, 13)] :: UW) ({ frames := 8, cells := 1, slots := 6, locals := 178 } : Room) (va_Pc [.ref x0, .int x, .int n, .ref o1] (gPre G ((o1, .inl (G.2.1 2, 1, .inr (.inl ov))) :: ((x0, .inr (3, fs)) :: wt)) sz)) (va_Qi (fun r (_ : Unit) => r = 1) (fun _ => gPost G (va_A ((o1, .inl (G.2.1 2, 1, .inr (.inl ov))) :: ((x0, .inr (3, fs)) :: wt)) sz) ((o1, .inl (G.2.1 2, 1, .inr (.inl ov))) :: ((x0, .inr (3, fs)) :: wt))) (va_A ((o1, .inl (G.2.1 2, 1, .inr (.inl ov))) :: ((x0, .inr (3, fs)) :: wt)) sz)) 1 6 (va_A ((o1, .inl (G.2.1 2, 1, .inr (.inl ov))) :: ((x0, .inr (3, fs)) :: wt)) sz) := by
  refine gML_of (Qf := fun A => va_Qi (fun r (_ : Unit) => r = 1) (fun _ => gPost G A ((o1, .inl (G.2.1 2, 1, .inr (.inl ov))) :: ((x0, .inr (3, fs)) :: wt))) A) (by decide) (Nat.le_of_ble_eq_true rfl) ?_
  intro p e s m below meth c A ls hx hb hml hr hown htu hlk htab hA hP hD hS hK hZ hl
  have hown : s.vm.findClass RL = some m.cls := hown
  have hl : lv_has ls 5 [(0, .ref x0), (1, .int x), (2, .int n), (3, .ref o1)] := hl
  refine lv_aload_n hx hb dL_spread_0 rfl (lv_at hl 3 rfl) ?_
  refine lv_iconst (v := nI 0) hx hb dL_spread_1 (by decide) ?_
  refine lv_aload_n hx hb dL_spread_2 rfl (lv_at hl 0 rfl) ?_
  refine lv_iload_n hx hb dL_spread_3 rfl (lv_at hl 1 rfl) ?_
  refine lv_iload_n hx hb dL_spread_4 rfl (lv_at hl 2 rfl) ?_
  have hPn : va_P G.1 vwCl (([(o1, .inl (G.2.1 2, 1, .inr (.inl ov)))] ++ ((x0, .inr (3, fs)) :: wt)) ++ []) s.heap := by rw [List.append_nil]; exact hP
  have hDn : va_D A (([(o1, .inl (G.2.1 2, 1, .inr (.inl ov)))] ++ ((x0, .inr (3, fs)) :: wt)) ++ []) := by rw [List.append_nil]; exact hD
  refine b_xcall (P := [(o1, .inl (G.2.1 2, 1, .inr (.inl ov)))]) (B := ((x0, .inr (3, fs)) :: wt)) (T := []) (g_xrunV (As := [.int x, .int n]) (rest := [.int (nI 0), .ref o1]) ⟨hx, hb, hml, hown, htu⟩ (hM _) uM_L_54 ok_X3_spread in_X3_spread rfl rfl ⟨Nat.le_of_ble_eq_true rfl, Nat.le_of_ble_eq_true rfl⟩ hK hPn hDn hS hA hZ (List.range' [(o1, .inl (G.2.1 2, 1, .inr (.inl ov)))].length ((x0, .inr (3, fs)) :: wt).length) (blkC [(o1, .inl (G.2.1 2, 1, .inr (.inl ov)))] ((x0, .inr (3, fs)) :: wt) []) (va_nd_of List.nodup_range') 1 rfl rfl rfl rfl hl.1 rfl (Nat.le_of_ble_eq_true rfl) dL_spread_5 ⟨Nat.le_of_ble_eq_true rfl, Nat.le_of_ble_eq_true rfl⟩) hPn hDn hS hA (fun ce q9 H locs hP hS hce hcv hcl => ?_)
  rw [List.append_nil] at hP
  have hP : va_P G.1 vwCl ((o1, .inl (G.2.1 2, 1, .inr (.inl ov))) :: ((x0, .inr (3, fs)) :: wt)) H := hP
  have hD : va_D A ((o1, .inl (G.2.1 2, 1, .inr (.inl ov))) :: ((x0, .inr (3, fs)) :: wt)) := hD
  refine vx_catch (own := RL) (name := xIAE) hown [] ⟨0, 10, 13, 13⟩ [] (htab.trans rfl) (fun _ h => absurd h List.not_mem_nil) (by decide) (by decide) (htu _ uK_L_13) (va_Nw.use rfl (hK.2.2.2.1 _ (List.mem_of_getElem? (i := 0) rfl))) hce hcv hcl ?_
  refine lv_astore (lv' := [(4, .ref q9), (0, .ref x0), (1, .int x), (2, .int n), (3, .ref o1)]) hx hb dL_spread_13 hl (by decide) rfl (fun ls hl => ?_)
  refine lv_iconst (v := 1) hx hb dL_spread_15 (by decide) ?_
  refine W.widen (k := 1) (n := 6) (by decide) (by decide) ?_
  exact gret_i hx hb hr hlk dL_spread_16 hS () hP hD (rfl)
set_option maxRecDepth 100000 in
theorem l_spread (l : Launch) (hT9 : l.stackTraces = false) (G : GW) (sz x0 o1 : Nat) (ad : Nat → Nat) (ov : Nat → Int64) (u : XU) (A : AS) (x : Int32) (n : Int32) (E : AO) (hR : XR u A) (hE : spreadA A x n = E) : Met l yL_spread (Cond.codeWith yL_spread cL_spread 5 (some .int) [(0, 10, 13, 13)] :: UW) ({ frames := 8, cells := 1, slots := 6, locals := 178 } : Room) (va_Pc [.ref x0, .int x, .int n, .ref o1] (gPre G ((o1, .inl (G.2.1 2, 1, .inr (.inl ov))) :: xW G x0 ad u) sz)) (va_Qi (fun r (v : XU × (Nat → Int64)) => r = nI E.1 ∧ XR v.1 E.2.2 ∧ (E.1 = 0 → v.2 0 = E.2.1)) (fun v => gPost G (va_A ((o1, .inl (G.2.1 2, 1, .inr (.inl ov))) :: xW G x0 ad u) sz) ((o1, .inl (G.2.1 2, 1, .inr (.inl v.2))) :: xW G x0 ad v.1)) (va_A ((o1, .inl (G.2.1 2, 1, .inr (.inl ov))) :: xW G x0 ad u) sz)) 1 6 (va_A ((o1, .inl (G.2.1 2, 1, .inr (.inl ov))) :: xW G x0 ad u) sz) := by
  rcases x_spread l hT9 G x0 ad u A x n E hR hE with ⟨h0, hM⟩ | ⟨h0, hM⟩
  · refine gMono_i (L_spread_ok l G sz x0 o1 _ _ ov x n hM) (fun r v h => ?_)
    obtain ⟨h1, r9, h2, h3⟩ := h
    exact ⟨v, ⟨by rw [h1, h0]; rfl, h2.2, fun _ => by rw [h3, h2.1]⟩, rfl⟩
  · subst h0
    refine gMono_i (L_spread_1 l G sz x0 o1 _ _ ov x n hM) (fun r v h => ?_)
    exact ⟨(u, ov), ⟨h.trans rfl, hR, fun h9 => absurd h9 (Nat.succ_ne_zero _)⟩, rfl⟩
set_option maxRecDepth 20000 in
theorem uW_L_stretch : Cond.codeWith yL_stretch cL_stretch 6 (some .int) [(0, 12, 15, 13)] ∈ UW := mem_UW (in_t3 (List.mem_of_getElem? (i := 54) rfl)) rfl
set_option maxHeartbeats 4000000 in
set_option maxRecDepth 100000 in
theorem L_stretch_ok (l : Launch) (G : GW) (sz x0 o1 : Nat) (fs : List Value) (wt : va_W) (ov : Nat → Int64) (x : Int32) (t : Int32) (n : Int32) {S : Type} {post : Int32 → S → Prop} {w1 : S → va_W} (hM : ∀ sz : Nat, Met l yX3_stretch (Cond.code yX3_stretch cX3_stretch 5 (some FieldType.int) :: UW) ({ frames := 7, cells := 0, slots := 0, locals := 157 } : Room) (va_Pc [.ref x0, .int x, .int t, .int n] (gPre G ((x0, .inr (3, fs)) :: wt) sz)) (va_Qi post (fun v => gPost G (va_A ((x0, .inr (3, fs)) :: wt) sz) (w1 v)) (va_A ((x0, .inr (3, fs)) :: wt) sz)) 0 0 (va_A ((x0, .inr (3, fs)) :: wt) sz)) : Met l yL_stretch (Cond.codeWith yL_stretch cL_stretch 6 (some .int) [(0, 12, 15, 13)] :: UW) ({ frames := 8, cells := 1, slots := 6, locals := 181 } : Room) (va_Pc [.ref x0, .int x, .int t, .int n, .ref o1] (gPre G ((o1, .inl (G.2.1 2, 1, .inr (.inl ov))) :: ((x0, .inr (3, fs)) :: wt)) sz)) (va_Qi (fun r (v : S × (Nat → Int64)) => r = 0 ∧ ∃ r9, post r9 v.1 ∧ v.2 0 = r9.toInt64) (fun v => gPost G (va_A ((o1, .inl (G.2.1 2, 1, .inr (.inl ov))) :: ((x0, .inr (3, fs)) :: wt)) sz) ((o1, .inl (G.2.1 2, 1, .inr (.inl v.2))) :: w1 v.1)) (va_A ((o1, .inl (G.2.1 2, 1, .inr (.inl ov))) :: ((x0, .inr (3, fs)) :: wt)) sz)) 1 6 (va_A ((o1, .inl (G.2.1 2, 1, .inr (.inl ov))) :: ((x0, .inr (3, fs)) :: wt)) sz) := by
  refine gML_of (Qf := fun A => va_Qi (fun r (v : S × (Nat → Int64)) => r = 0 ∧ ∃ r9, post r9 v.1 ∧ v.2 0 = r9.toInt64) (fun v => gPost G A ((o1, .inl (G.2.1 2, 1, .inr (.inl v.2))) :: w1 v.1)) A) (by decide) (Nat.le_of_ble_eq_true rfl) ?_
  intro p e s m below meth c A ls hx hb hml hr hown htu hlk htab hA hP hD hS hK hZ hl
  have hown : s.vm.findClass RL = some m.cls := hown
  have hl : lv_has ls 6 [(0, .ref x0), (1, .int x), (2, .int t), (3, .int n), (4, .ref o1)] := hl
  refine lv_aload hx hb dL_stretch_0 (lv_at hl 4 rfl) ?_
  refine lv_iconst (v := nI 0) hx hb dL_stretch_2 (by decide) ?_
  refine lv_aload_n hx hb dL_stretch_3 rfl (lv_at hl 0 rfl) ?_
  refine lv_iload_n hx hb dL_stretch_4 rfl (lv_at hl 1 rfl) ?_
  refine lv_iload_n hx hb dL_stretch_5 rfl (lv_at hl 2 rfl) ?_
  refine lv_iload_n hx hb dL_stretch_6 rfl (lv_at hl 3 rfl) ?_
  have hPn : va_P G.1 vwCl (([(o1, .inl (G.2.1 2, 1, .inr (.inl ov)))] ++ ((x0, .inr (3, fs)) :: wt)) ++ []) s.heap := by rw [List.append_nil]; exact hP
  have hDn : va_D A (([(o1, .inl (G.2.1 2, 1, .inr (.inl ov)))] ++ ((x0, .inr (3, fs)) :: wt)) ++ []) := by rw [List.append_nil]; exact hD
  refine b_calli (P := [(o1, .inl (G.2.1 2, 1, .inr (.inl ov)))]) (B := ((x0, .inr (3, fs)) :: wt)) (T := []) (g_runV (As := [.int x, .int t, .int n]) (rest := [.int (nI 0), .ref o1]) ⟨hx, hb, hml, hown, htu⟩ (hM _) uM_L_57 ok_X3_stretch in_X3_stretch rfl rfl ⟨Nat.le_of_ble_eq_true rfl, Nat.le_of_ble_eq_true rfl⟩ hK hPn hDn hS hA hZ (List.range' [(o1, .inl (G.2.1 2, 1, .inr (.inl ov)))].length ((x0, .inr (3, fs)) :: wt).length) (blkC [(o1, .inl (G.2.1 2, 1, .inr (.inl ov)))] ((x0, .inr (3, fs)) :: wt) []) (va_nd_of List.nodup_range') 1 rfl rfl rfl rfl hl.1 rfl (Nat.le_of_ble_eq_true rfl) dL_stretch_7 ⟨Nat.le_of_ble_eq_true rfl, Nat.le_of_ble_eq_true rfl⟩) hPn hDn hS hA (fun r u H locs hw hP hD hS => ?_)
  rw [List.append_nil] at hP hD
  have hP : va_P G.1 vwCl ((o1, .inl (G.2.1 2, 1, .inr (.inl ov))) :: w1 u) H := hP
  have hD : va_D A ((o1, .inl (G.2.1 2, 1, .inr (.inl ov))) :: w1 u) := hD
  refine lv_i2l (v := Int32.toInt64 r) hx hb dL_stretch_10 rfl ?_
  refine lv_topl (fun v_1 ev_1 => ?_)
  refine g_last hx hb hK.1 hP hD hS 0 2 rfl rfl ⟨by decide, by decide⟩ dL_stretch_11 (fun H locs hP hD hS => ?_)
  obtain ⟨g_2, eg_2⟩ : ∃ gq9 : Nat → Int64, gq9 = vp_updL ov 0 v_1 := ⟨_, rfl⟩
  rw [← eg_2] at hP hD
  have hP : va_P G.1 vwCl ((o1, .inl (G.2.1 2, 1, .inr (.inl g_2))) :: w1 u) H := hP
  have hD : va_D A ((o1, .inl (G.2.1 2, 1, .inr (.inl g_2))) :: w1 u) := hD
  refine lv_goto (tgt := 19) hx hb dL_stretch_12 (by decide) ?_
  refine lv_iconst (v := 0) hx hb dL_stretch_19 (by decide) ?_
  refine W.widen (k := 1) (n := 6) (by decide) (by decide) ?_
  exact gret_i hx hb hr hlk dL_stretch_20 hS (u, g_2) hP hD (⟨rfl, r, hw, by show g_2 0 = _; rw [eg_2, pk_uLs, ev_1]⟩)
set_option maxHeartbeats 4000000 in
set_option maxRecDepth 100000 in
theorem L_stretch_1 (l : Launch) (G : GW) (sz x0 o1 : Nat) (fs : List Value) (wt : va_W) (ov : Nat → Int64) (x : Int32) (t : Int32) (n : Int32) (hM : ∀ sz : Nat, vx_Met l yX3_stretch (Cond.code yX3_stretch cX3_stretch 5 (some FieldType.int) :: UW) ({ frames := 7, cells := 1, slots := 6, locals := 157 } : Room) (va_Pc [.ref x0, .int x, .int t, .int n] (gPre G ((x0, .inr (3, fs)) :: wt) sz)) gNo (gXC G xIAE (va_A ((x0, .inr (3, fs)) :: wt) sz) ((x0, .inr (3, fs)) :: wt)) 1 6 (va_A ((x0, .inr (3, fs)) :: wt) sz)) : Met l yL_stretch (Cond.codeWith yL_stretch cL_stretch 6 (some .int) [(0, 12, 15, 13)] :: UW) ({ frames := 8, cells := 1, slots := 6, locals := 181 } : Room) (va_Pc [.ref x0, .int x, .int t, .int n, .ref o1] (gPre G ((o1, .inl (G.2.1 2, 1, .inr (.inl ov))) :: ((x0, .inr (3, fs)) :: wt)) sz)) (va_Qi (fun r (_ : Unit) => r = 1) (fun _ => gPost G (va_A ((o1, .inl (G.2.1 2, 1, .inr (.inl ov))) :: ((x0, .inr (3, fs)) :: wt)) sz) ((o1, .inl (G.2.1 2, 1, .inr (.inl ov))) :: ((x0, .inr (3, fs)) :: wt))) (va_A ((o1, .inl (G.2.1 2, 1, .inr (.inl ov))) :: ((x0, .inr (3, fs)) :: wt)) sz)) 1 6 (va_A ((o1, .inl (G.2.1 2, 1, .inr (.inl ov))) :: ((x0, .inr (3, fs)) :: wt)) sz) := by
  refine gML_of (Qf := fun A => va_Qi (fun r (_ : Unit) => r = 1) (fun _ => gPost G A ((o1, .inl (G.2.1 2, 1, .inr (.inl ov))) :: ((x0, .inr (3, fs)) :: wt))) A) (by decide) (Nat.le_of_ble_eq_true rfl) ?_
  intro p e s m below meth c A ls hx hb hml hr hown htu hlk htab hA hP hD hS hK hZ hl
  have hown : s.vm.findClass RL = some m.cls := hown
  have hl : lv_has ls 6 [(0, .ref x0), (1, .int x), (2, .int t), (3, .int n), (4, .ref o1)] := hl
  refine lv_aload hx hb dL_stretch_0 (lv_at hl 4 rfl) ?_
  refine lv_iconst (v := nI 0) hx hb dL_stretch_2 (by decide) ?_
  refine lv_aload_n hx hb dL_stretch_3 rfl (lv_at hl 0 rfl) ?_
  refine lv_iload_n hx hb dL_stretch_4 rfl (lv_at hl 1 rfl) ?_
  refine lv_iload_n hx hb dL_stretch_5 rfl (lv_at hl 2 rfl) ?_
  refine lv_iload_n hx hb dL_stretch_6 rfl (lv_at hl 3 rfl) ?_
  have hPn : va_P G.1 vwCl (([(o1, .inl (G.2.1 2, 1, .inr (.inl ov)))] ++ ((x0, .inr (3, fs)) :: wt)) ++ []) s.heap := by rw [List.append_nil]; exact hP
  have hDn : va_D A (([(o1, .inl (G.2.1 2, 1, .inr (.inl ov)))] ++ ((x0, .inr (3, fs)) :: wt)) ++ []) := by rw [List.append_nil]; exact hD
  refine b_xcall (P := [(o1, .inl (G.2.1 2, 1, .inr (.inl ov)))]) (B := ((x0, .inr (3, fs)) :: wt)) (T := []) (g_xrunV (As := [.int x, .int t, .int n]) (rest := [.int (nI 0), .ref o1]) ⟨hx, hb, hml, hown, htu⟩ (hM _) uM_L_57 ok_X3_stretch in_X3_stretch rfl rfl ⟨Nat.le_of_ble_eq_true rfl, Nat.le_of_ble_eq_true rfl⟩ hK hPn hDn hS hA hZ (List.range' [(o1, .inl (G.2.1 2, 1, .inr (.inl ov)))].length ((x0, .inr (3, fs)) :: wt).length) (blkC [(o1, .inl (G.2.1 2, 1, .inr (.inl ov)))] ((x0, .inr (3, fs)) :: wt) []) (va_nd_of List.nodup_range') 1 rfl rfl rfl rfl hl.1 rfl (Nat.le_of_ble_eq_true rfl) dL_stretch_7 ⟨Nat.le_of_ble_eq_true rfl, Nat.le_of_ble_eq_true rfl⟩) hPn hDn hS hA (fun ce q9 H locs hP hS hce hcv hcl => ?_)
  rw [List.append_nil] at hP
  have hP : va_P G.1 vwCl ((o1, .inl (G.2.1 2, 1, .inr (.inl ov))) :: ((x0, .inr (3, fs)) :: wt)) H := hP
  have hD : va_D A ((o1, .inl (G.2.1 2, 1, .inr (.inl ov))) :: ((x0, .inr (3, fs)) :: wt)) := hD
  refine vx_catch (own := RL) (name := xIAE) hown [] ⟨0, 12, 15, 13⟩ [] (htab.trans rfl) (fun _ h => absurd h List.not_mem_nil) (by decide) (by decide) (htu _ uK_L_13) (va_Nw.use rfl (hK.2.2.2.1 _ (List.mem_of_getElem? (i := 0) rfl))) hce hcv hcl ?_
  refine lv_astore (lv' := [(5, .ref q9), (0, .ref x0), (1, .int x), (2, .int t), (3, .int n), (4, .ref o1)]) hx hb dL_stretch_15 hl (by decide) rfl (fun ls hl => ?_)
  refine lv_iconst (v := 1) hx hb dL_stretch_17 (by decide) ?_
  refine W.widen (k := 1) (n := 6) (by decide) (by decide) ?_
  exact gret_i hx hb hr hlk dL_stretch_18 hS () hP hD (rfl)
set_option maxRecDepth 100000 in
theorem l_stretch (l : Launch) (hT9 : l.stackTraces = false) (G : GW) (sz x0 o1 : Nat) (ad : Nat → Nat) (ov : Nat → Int64) (u : XU) (A : AS) (x : Int32) (t : Int32) (n : Int32) (E : AO) (hR : XR u A) (hE : stretchA A x t n = E) : Met l yL_stretch (Cond.codeWith yL_stretch cL_stretch 6 (some .int) [(0, 12, 15, 13)] :: UW) ({ frames := 8, cells := 1, slots := 6, locals := 181 } : Room) (va_Pc [.ref x0, .int x, .int t, .int n, .ref o1] (gPre G ((o1, .inl (G.2.1 2, 1, .inr (.inl ov))) :: xW G x0 ad u) sz)) (va_Qi (fun r (v : XU × (Nat → Int64)) => r = nI E.1 ∧ XR v.1 E.2.2 ∧ (E.1 = 0 → v.2 0 = E.2.1)) (fun v => gPost G (va_A ((o1, .inl (G.2.1 2, 1, .inr (.inl ov))) :: xW G x0 ad u) sz) ((o1, .inl (G.2.1 2, 1, .inr (.inl v.2))) :: xW G x0 ad v.1)) (va_A ((o1, .inl (G.2.1 2, 1, .inr (.inl ov))) :: xW G x0 ad u) sz)) 1 6 (va_A ((o1, .inl (G.2.1 2, 1, .inr (.inl ov))) :: xW G x0 ad u) sz) := by
  rcases x_stretch l hT9 G x0 ad u A x t n E hR hE with ⟨h0, hM⟩ | ⟨h0, hM⟩
  · refine gMono_i (L_stretch_ok l G sz x0 o1 _ _ ov x t n hM) (fun r v h => ?_)
    obtain ⟨h1, r9, h2, h3⟩ := h
    exact ⟨v, ⟨by rw [h1, h0]; rfl, h2.2, fun _ => by rw [h3, h2.1]⟩, rfl⟩
  · subst h0
    refine gMono_i (L_stretch_1 l G sz x0 o1 _ _ ov x t n hM) (fun r v h => ?_)
    exact ⟨(u, ov), ⟨h.trans rfl, hR, fun h9 => absurd h9 (Nat.succ_ne_zero _)⟩, rfl⟩
