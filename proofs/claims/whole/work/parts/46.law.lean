/-! the law -/
theorem i2l_inj {x y : Int32} (h : x.toInt64 = y.toInt64) : x = y := by
  have h1 := congrArg Int64.toInt h
  rw [Int32.toInt_toInt64, Int32.toInt_toInt64] at h1
  exact Int32.toInt_inj.mp h1
theorem lcmp0 {x y : Int64} (h : x = y) : lg_cmp x y = 0 := by
  subst h
  unfold lg_cmp
  simp
theorem nE0 {n : Nat} (h : n < 4) (e : nI n = 0) : n = 0 := by
  rcases (show n = 0 ∨ n = 1 ∨ n = 2 ∨ n = 3 by omega) with rfl | rfl | rfl | rfl
  · rfl
  · exact absurd e (by decide)
  · exact absurd e (by decide)
  · exact absurd e (by decide)
theorem lp_add (j : Nat) : nI (4 * j) + 4 = nI (4 * (j + 1)) := by
  rw [Nat.mul_add]
  exact nI_add (4 * j) 4
theorem lp_in {L j : Nat} (hL : L ≤ 2048) (hj : j ≤ 512) (h : ¬ (Int32.ofNat L - 4 < nI (4 * j))) : 4 * j + 4 ≤ L := by
  rcases Nat.lt_or_ge L 4 with q | q
  · exfalso
    apply h
    rw [Int32.lt_iff_toInt_lt, nI_toInt (by omega)]
    rcases (show L = 0 ∨ L = 1 ∨ L = 2 ∨ L = 3 by omega) with rfl | rfl | rfl | rfl
    · have e : (Int32.ofNat 0 - 4).toInt = -4 := by decide
      omega
    · have e : (Int32.ofNat 1 - 4).toInt = -3 := by decide
      omega
    · have e : (Int32.ofNat 2 - 4).toInt = -2 := by decide
      omega
    · have e : (Int32.ofNat 3 - 4).toInt = -1 := by decide
      omega
  · have e0 : nI (L - 4) + 4 = Int32.ofNat L := by rw [show (4 : Int32) = nI 4 from rfl, nI_add, Nat.sub_add_cancel q]; rfl
    have e : Int32.ofNat L - 4 = nI (L - 4) := by rw [← e0, Int32.add_sub_cancel]
    rw [e] at h
    have := lt_f h (by omega)
    omega
theorem lp_sw {t : Int32} (h : ¬ (t.toInt < 0 ∨ 16 < t.toInt)) : ∃ k : Nat, k ≤ 16 ∧ t = nI k := by
  have h0 : ¬ t < 0 := fun c => h (Or.inl (Int32.lt_iff_toInt_lt.mp c))
  obtain ⟨k, hk, rfl⟩ := nI_of h0
  rw [nI_toInt hk] at h
  exact ⟨k, by omega, rfl⟩
theorem feedA_lt (A : AS) (x : Int32) (v : Int64) : (feedA A x v).1 < 4 := by
  unfold feedA
  repeat' split
  all_goals first | exact (by decide : (0 : Nat) < 4) | exact (by decide : (1 : Nat) < 4) | exact (by decide : (2 : Nat) < 4) | exact (by decide : (3 : Nat) < 4)
theorem beginA_lt (A : AS) (x : Int32) (y : Int32) : (beginA A x y).1 < 4 := by
  unfold beginA
  repeat' split
  all_goals first | exact (by decide : (0 : Nat) < 4) | exact (by decide : (1 : Nat) < 4) | exact (by decide : (2 : Nat) < 4) | exact (by decide : (3 : Nat) < 4)
theorem codeA_lt (A : AS) (x : Int32) (y : Int32) : (codeA A x y).1 < 4 := by
  unfold codeA
  repeat' split
  all_goals first | exact (by decide : (0 : Nat) < 4) | exact (by decide : (1 : Nat) < 4) | exact (by decide : (2 : Nat) < 4) | exact (by decide : (3 : Nat) < 4)
theorem updateA_lt (A : AS) (x : Int32) : (updateA A x).1 < 4 := by
  unfold updateA upd1
  repeat' split
  all_goals first | exact (by decide : (0 : Nat) < 4) | exact (by decide : (1 : Nat) < 4) | exact (by decide : (2 : Nat) < 4) | exact (by decide : (3 : Nat) < 4)
theorem repeatA_lt (A : AS) (x : Int32) (w : Int32) (n : Int32) : (repeatA A x w n).1 < 4 := by
  unfold repeatA rep1
  repeat' split
  all_goals first | exact (by decide : (0 : Nat) < 4) | exact (by decide : (1 : Nat) < 4) | exact (by decide : (2 : Nat) < 4) | exact (by decide : (3 : Nat) < 4)
theorem finishA_lt (A : AS) (x : Int32) : (finishA A x).1 < 4 := by
  unfold finishA fin1
  repeat' split
  all_goals first | exact (by decide : (0 : Nat) < 4) | exact (by decide : (1 : Nat) < 4) | exact (by decide : (2 : Nat) < 4) | exact (by decide : (3 : Nat) < 4)
theorem copyA_lt (A : AS) (x : Int32) (y : Int32) : (copyA A x y).1 < 4 := by
  unfold copyA cop1
  repeat' split
  all_goals first | exact (by decide : (0 : Nat) < 4) | exact (by decide : (1 : Nat) < 4) | exact (by decide : (2 : Nat) < 4) | exact (by decide : (3 : Nat) < 4)
theorem aboutA_lt (A : AS) (x : Int32) (y : Int32) : (aboutA A x y).1 < 4 := by
  unfold aboutA
  repeat' split
  all_goals first | exact (by decide : (0 : Nat) < 4) | exact (by decide : (1 : Nat) < 4) | exact (by decide : (2 : Nat) < 4) | exact (by decide : (3 : Nat) < 4)
theorem holdA_lt (A : AS) (x : Int32) : (holdA A x).1 < 4 := by
  unfold holdA
  repeat' split
  all_goals first | exact (by decide : (0 : Nat) < 4) | exact (by decide : (1 : Nat) < 4) | exact (by decide : (2 : Nat) < 4) | exact (by decide : (3 : Nat) < 4)
theorem keepA_lt (A : AS) (x : Int32) : (keepA A x).1 < 4 := by
  unfold keepA
  repeat' split
  all_goals first | exact (by decide : (0 : Nat) < 4) | exact (by decide : (1 : Nat) < 4) | exact (by decide : (2 : Nat) < 4) | exact (by decide : (3 : Nat) < 4)
theorem drawA_lt (A : AS) (x : Int32) : (drawA A x).1 < 4 := by
  unfold drawA
  repeat' split
  all_goals first | exact (by decide : (0 : Nat) < 4) | exact (by decide : (1 : Nat) < 4) | exact (by decide : (2 : Nat) < 4) | exact (by decide : (3 : Nat) < 4)
theorem spreadA_lt (A : AS) (x : Int32) (n : Int32) : (spreadA A x n).1 < 4 := by
  unfold spreadA
  repeat' split
  all_goals first | exact (by decide : (0 : Nat) < 4) | exact (by decide : (1 : Nat) < 4) | exact (by decide : (2 : Nat) < 4) | exact (by decide : (3 : Nat) < 4)
theorem stretchA_lt (A : AS) (x : Int32) (t : Int32) (n : Int32) : (stretchA A x t n).1 < 4 := by
  unfold stretchA
  repeat' split
  all_goals first | exact (by decide : (0 : Nat) < 4) | exact (by decide : (1 : Nat) < 4) | exact (by decide : (2 : Nat) < 4) | exact (by decide : (3 : Nat) < 4)
theorem m_thrown (l : Launch) (G : GW) (sz o : Nat) (ad : Nat → Nat) (u : MST) : Met l yX4_thrown (Cond.code yX4_thrown cX4_thrown 1 (some FieldType.int) :: UW) ({ frames := 0, cells := 0, slots := 0, locals := 0 } : Room) (va_Pc [.ref o] (gPre G (mW G o ad u) sz)) (va_Qi (fun r (_ : Unit) => r = u.2.2.1) (fun _ => gPost G (va_A (mW G o ad u) sz) (mW G o ad u)) (va_A (mW G o ad u) sz)) 0 0 (va_A (mW G o ad u) sz) :=
  gFr_i (W1 := fun _ : Unit => mW G o ad u) (post' := fun r (_ : Unit) => r = u.2.2.1) (c_X4_thrown l G sz o ad (nI u.1) (nI u.2.1) u.2.2.1 u.2.2.2.1) ⟨Nat.le_refl _, Nat.le_refl _, Nat.le_refl _, Nat.le_refl _⟩ [0] [1, 2, 3, 4, 5, 6, 7, 8, 9, 10, 11, 12, 13, 14, 15, 16, 17, 18, 19, 20, 21, 22, 23, 24, 25] [0] 26 rfl (by decide) (by decide) (by decide) (by decide) (by decide) (fun r _ h => ⟨(), h, (by repeat (first | refine List.forall_mem_cons.mpr ⟨⟨_, rfl, rfl⟩, ?_⟩ | exact fun _ h => absurd h List.not_mem_nil)), rfl, rfl⟩)
section LawCall
variable {p : Program} {l : Launch} {e : Env} {R : Room} {s : State} {m : MethodId} {args : Array Value} {below : List Frame} {meth : Method} {c : Code} {H : Heap} {locs : List Loc} {cells slots : Nat} {Q : State → Prop} {cc bytes : ByteArray} {pc nL maxL n index mc ms : Nat} {ls : Array Slot} {rest st0 : List Value} {A : Nat → Prop} {G : GW} {ws wc : va_W} {σ : Type}
theorem g_runSW {y : MethodName} {own : String} {ret : Option FieldType} {rm : Room} {hh : List (Nat × Nat × Nat × Nat)} {Qc : Array Value → State → Outcome → State → Prop} {free : Addr → Prop} {As : List Value} (S : CallFix p m c cc nL s args UW own) (hM : Met l y (Cond.codeWith y bytes maxL ret hh :: UW) rm (va_Pc As (gPre G wc H.size)) Qc mc ms free) (um : Cond.methodLink own index y ∈ UW) (uc : Cond.codeWith y bytes maxL ret hh ∈ UW) (ui : Cond.initialized y.cls ∈ UW) (hd : y.cls ≠ "java/lang/invoke/MethodHandle" ∧ y.cls ≠ "java/lang/invoke/VarHandle" ∧ (parseMethodDescriptor y.desc).map (fun d => d.parameters.length) = some n) (oi : Cond.static y ∈ UW) (hrc : rm.cells = mc) (hrs : rm.slots = ms)
    (hR : rm.frames + 1 ≤ R.frames ∧ 8 + (maxL + 11) + rm.locals ≤ R.locals) (hK : gK G s) (hP : va_P G.1 vwCl ws H) (hD : va_D A ws) (hS : va_S A s.heap H locs) (hA : ∀ q : Nat, s.heap.size ≤ q → A q) (hZ : gZ G A s s.heap) (isC : List Nat) (hC : isC.map (fun i => ws[i]?) = wc.map some) (hnd : va_nd isC = true)
    (hn : As.length = n) (hsz : ls.size = nL) (hst : st0 = As.reverse ++ rest) (hW : (rest.map fun v => v.category).sum ≤ 8) (hdg : decode cc pc = .ok (.invokestatic index, 3)) (hf : cells + mc ≤ R.cells ∧ slots + ms ≤ R.slots) :
    va_Run p l e R s m args below meth c H locs cells slots mc ms (F0 m pc ls st0) rest (Qc As.toArray) free := by
  have hG : GoodIn UW (Cond.codeWith y bytes maxL ret hh :: UW) := fun w h => by
    have hw : w ∈ UW := (List.mem_cons.mp h).elim (fun e => e ▸ uc) id
    exact ⟨hw, UW_good hw⟩
  refine vx_runSW (As := As) (rest := rest) S hM ⟨⟨hrc, hrs, hR.1, hR.2, pay_in S.2.2.2.2 hG, List.mem_cons_self⟩, S.2.2.2.2 _ uc, S.2.2.2.2 _ ui, ⟨hd.1, hd.2.1⟩, fun sig h => ?_, S.2.2.2.2 _ um, S.2.2.2.2 _ oi⟩ ⟨gPre.blind, gPre_sub hK hP hD hS hA hZ isC hC hnd⟩ rfl hn hsz hst (lv_room hW) hdg hf
  have h2 := hd.2.2
  rw [h] at h2
  exact (Option.some.inj h2).symm
/-- a loop that makes cells -/
theorem g_loopC (wsf : σ → va_W) (lvf : σ → List (Nat × Value)) (I : σ → Prop) (μ cf sf : σ → Nat)
    (step : ∀ x : σ, I x → (∀ x' : σ, I x' → μ x' < μ x → ∀ (H : Heap) (locs : List Loc) (ls : Array Slot), va_P G.1 vwCl (wsf x') H → va_D A (wsf x') → va_S A s.heap H locs → lv_has ls nL (lvf x') → W p l e R s m args below meth c H locs (cf x') (sf x') Q (F0 m pc ls [])) →
      ∀ (H : Heap) (locs : List Loc) (ls : Array Slot), va_P G.1 vwCl (wsf x) H → va_D A (wsf x) → va_S A s.heap H locs → lv_has ls nL (lvf x) → W p l e R s m args below meth c H locs (cf x) (sf x) Q (F0 m pc ls []))
    (x0 : σ) (h0 : I x0) {H : Heap} {locs : List Loc} {ls : Array Slot} (hP : va_P G.1 vwCl (wsf x0) H) (hD : va_D A (wsf x0)) (hS : va_S A s.heap H locs) (hl : lv_has ls nL (lvf x0)) : W p l e R s m args below meth c H locs (cf x0) (sf x0) Q (F0 m pc ls []) := by
  have all : ∀ (k : Nat) (x : σ), μ x < k → I x → ∀ (H : Heap) (locs : List Loc) (ls : Array Slot), va_P G.1 vwCl (wsf x) H → va_D A (wsf x) → va_S A s.heap H locs → lv_has ls nL (lvf x) → W p l e R s m args below meth c H locs (cf x) (sf x) Q (F0 m pc ls []) := by
    intro k
    induction k with
    | zero => intro x h; exact absurd h (Nat.not_lt_zero _)
    | succ k ih =>
      intro x hx hI H locs ls h1 h2 h3 h4
      exact step x hI (fun x' hI' hμ H' locs' ls' => ih x' (by omega) hI' H' locs' ls') H locs ls h1 h2 h3 h4
  exact all (μ x0 + 1) x0 (Nat.lt_succ_self _) h0 _ _ _ hP hD hS hl
end LawCall
set_option maxHeartbeats 4000000 in
set_option maxRecDepth 100000 in
theorem law_feed {p : Program} {l : Launch} {e : Env} {s : State} {m : MethodId} {below : List Frame} {meth : Method} {c : Code} {b L x0 o o1 j cells slots : Nat} {xs : Nat → Int32} {G : GW} {ad am : Nat → Nat} {ov : Nat → Int64} {u : XU} {v : MST} {A0 : AS} {Q : State → Prop} {H : Heap} {locs : List Loc} {ls : Array Slot} (hT9 : l.stackTraces = false) (hx : p.tables.exec = Jvm.exec) (hb : c.code = code) (hml : c.maxLocals = 8) (hown : s.vm.findClass RL = some m.cls) (htu : ∀ w ∈ UW, w.before #[Value.ref b] s = true) (hX : va_X b L xs s s.heap) (hbl : b < s.heap.size) (hK : gK G s) (hZ : gZ G (fun q : Nat => s.heap.size ≤ q) s s.heap) (hL : L ≤ 2048) (hj : 4 * j + 4 ≤ L) (hc : cells + 1 ≤ 601024) (hs : slots + 6 ≤ 7293033) (hR : XR u A0) (hM : MR v A0) (hP : va_P G.1 vwCl (((o1, .inl (G.2.1 2, 1, .inr (.inl ov))) :: xW G x0 ad u) ++ mW G o am v) H) (hD : va_D (fun q : Nat => s.heap.size ≤ q) (((o1, .inl (G.2.1 2, 1, .inr (.inl ov))) :: xW G x0 ad u) ++ mW G o am v)) (hS : va_S (fun q : Nat => s.heap.size ≤ q) s.heap H locs) (hl : lv_has ls 8 [(4, .int (nI (4 * j))), (0, .ref b), (1, .ref x0), (2, .ref o), (3, .ref o1)])
    (kk : ∀ (u1 : XU) (v1 : MST) (ov1 : Nat → Int64) (A1 : AS) (H : Heap) (locs : List Loc) (ls : Array Slot), XR u1 A1 → MR v1 A1 → va_P G.1 vwCl (((o1, .inl (G.2.1 2, 1, .inr (.inl ov1))) :: xW G x0 ad u1) ++ mW G o am v1) H → va_D (fun q : Nat => s.heap.size ≤ q) (((o1, .inl (G.2.1 2, 1, .inr (.inl ov1))) :: xW G x0 ad u1) ++ mW G o am v1) → va_S (fun q : Nat => s.heap.size ≤ q) s.heap H locs → lv_has ls 8 [(4, .int (nI (4 * j))), (0, .ref b), (1, .ref x0), (2, .ref o), (3, .ref o1)] → W p l e room_1 s m #[Value.ref b] below meth c H locs (cells + 1) (slots + 6) Q (F0 m 1048 ls [])) : W p l e room_1 s m #[Value.ref b] below meth c H locs cells slots Q (F0 m 120 ls []) := by
  have hA : ∀ q : Nat, s.heap.size ≤ q → (fun q : Nat => s.heap.size ≤ q) q := fun _ h => h
  have hbA : ¬ (fun q : Nat => s.heap.size ≤ q) b := Nat.not_le.mpr hbl
  refine lv_aload_n hx hb dL_law_120 rfl (lv_at hl 2 rfl) ?_
  refine lv_aload_n hx hb dL_law_121 rfl (lv_at hl 1 rfl) ?_
  refine lv_iload hx hb dL_law_122 (lv_at hl 0 rfl) ?_
  refine lv_iconst (v := nI 1) hx hb dL_law_124 (by decide) ?_
  refine lv_iadd hx hb dL_law_125 ?_
  refine g_toi (y := nI (4 * j + 1)) (nI_add (4 * j) 1) ?_
  refine va_sld hx hb hX hbl hbA hS (vp_in_nI (by omega) (by omega)) dL_law_126 ?_
  refine lv_aload_n hx hb dL_law_127 rfl (lv_at hl 1 rfl) ?_
  refine lv_iload hx hb dL_law_128 (lv_at hl 0 rfl) ?_
  refine lv_iconst (v := nI 2) hx hb dL_law_130 (by decide) ?_
  refine lv_iadd hx hb dL_law_131 ?_
  refine g_toi (y := nI (4 * j + 2)) (nI_add (4 * j) 2) ?_
  refine va_sld hx hb hX hbl hbA hS (vp_in_nI (by omega) (by omega)) dL_law_132 ?_
  refine lv_i2l (v := Int32.toInt64 (xs (nI (4 * j + 2)).toNatClampNeg)) hx hb dL_law_133 rfl ?_
  refine lv_bipush (v := 32) hx hb dL_law_134 (by decide) ?_
  refine lv_lshl (v := shlL (Int32.toInt64 (xs (nI (4 * j + 2)).toNatClampNeg)) 32) hx hb dL_law_136 rfl ?_
  refine lv_aload_n hx hb dL_law_137 rfl (lv_at hl 1 rfl) ?_
  refine lv_iload hx hb dL_law_138 (lv_at hl 0 rfl) ?_
  refine lv_iconst (v := nI 3) hx hb dL_law_140 (by decide) ?_
  refine lv_iadd hx hb dL_law_141 ?_
  refine g_toi (y := nI (4 * j + 3)) (nI_add (4 * j) 3) ?_
  refine va_sld hx hb hX hbl hbA hS (vp_in_nI (by omega) (by omega)) dL_law_142 ?_
  refine lv_i2l (v := Int32.toInt64 (xs (nI (4 * j + 3)).toNatClampNeg)) hx hb dL_law_143 rfl ?_
  refine lv_ldc2 hx hb hown (htu _ uL_L_65) dL_law_144 ?_
  refine lv_land hx hb dL_law_147 ?_
  refine lv_lor hx hb dL_law_148 ?_
  refine lv_aload_n hx hb dL_law_149 rfl (lv_at hl 4 rfl) ?_
  obtain ⟨E, hE⟩ : ∃ E : AO, feedA A0 (xs (nI (4 * j + 1)).toNatClampNeg) ((shlL (Int32.toInt64 (xs (nI (4 * j + 2)).toNatClampNeg)) 32) ||| ((Int32.toInt64 (xs (nI (4 * j + 3)).toNatClampNeg)) &&& 4294967295)) = E := ⟨_, rfl⟩
  have h4 : E.1 < 4 := by rw [← hE]; exact feedA_lt _ _ _
  have hPn : va_P G.1 vwCl ((([] : va_W) ++ ((o1, .inl (G.2.1 2, 1, .inr (.inl ov))) :: xW G x0 ad u)) ++ (mW G o am v)) H := hP
  have hDn : va_D (fun q : Nat => s.heap.size ≤ q) ((([] : va_W) ++ ((o1, .inl (G.2.1 2, 1, .inr (.inl ov))) :: xW G x0 ad u)) ++ (mW G o am v)) := hD
  refine b_calli (P := ([] : va_W)) (B := ((o1, .inl (G.2.1 2, 1, .inr (.inl ov))) :: xW G x0 ad u)) (T := (mW G o am v)) (g_runSW (n := 4) (As := [.ref x0, .int (xs (nI (4 * j + 1)).toNatClampNeg), .long ((shlL (Int32.toInt64 (xs (nI (4 * j + 2)).toNatClampNeg)) 32) ||| ((Int32.toInt64 (xs (nI (4 * j + 3)).toNatClampNeg)) &&& 4294967295)), .ref o1]) (rest := []) ⟨hx, hb, hml, hown, htu⟩ (l_feed l hT9 G _ x0 o1 ad ov u A0 (xs (nI (4 * j + 1)).toNatClampNeg) ((shlL (Int32.toInt64 (xs (nI (4 * j + 2)).toNatClampNeg)) 32) ||| ((Int32.toInt64 (xs (nI (4 * j + 3)).toNatClampNeg)) &&& 4294967295)) E hR hE) uM_L_67 uW_L_feed uN_L (by decide +kernel) uA_L_feed rfl rfl ⟨Nat.le_of_ble_eq_true rfl, Nat.le_of_ble_eq_true rfl⟩ hK hPn hDn hS hA hZ (List.range' ([] : va_W).length ((o1, .inl (G.2.1 2, 1, .inr (.inl ov))) :: xW G x0 ad u).length) (blkC ([] : va_W) ((o1, .inl (G.2.1 2, 1, .inr (.inl ov))) :: xW G x0 ad u) (mW G o am v)) (va_nd_of List.nodup_range') rfl hl.1 rfl (Nat.le_of_ble_eq_true rfl) dL_law_150 ⟨hc, hs⟩) hPn hDn hS hA (fun r w1 H locs hw hP hD hS => ?_)
  obtain ⟨u1, ov1⟩ := w1
  obtain ⟨er, hR1, hv1⟩ := hw
  have hv1 : E.1 = 0 → ov1 0 = E.2.1 := hv1
  have hR1 : XR u1 E.2.2 := hR1
  subst er
  have hP : va_P G.1 vwCl (((o1, .inl (G.2.1 2, 1, .inr (.inl ov1))) :: xW G x0 ad u1) ++ mW G o am v) H := hP
  have hD : va_D (fun q : Nat => s.heap.size ≤ q) (((o1, .inl (G.2.1 2, 1, .inr (.inl ov1))) :: xW G x0 ad u1) ++ mW G o am v) := hD
  refine lv_istore (lv' := [(5, .int (nI E.1)), (4, .int (nI (4 * j))), (0, .ref b), (1, .ref x0), (2, .ref o), (3, .ref o1)]) hx hb dL_law_153 hl (by decide) rfl (fun ls hl => ?_)
  refine lv_aload_n hx hb dL_law_155 rfl (lv_at hl 4 rfl) ?_
  refine lv_aload_n hx hb dL_law_156 rfl (lv_at hl 2 rfl) ?_
  refine lv_iload hx hb dL_law_157 (lv_at hl 1 rfl) ?_
  refine lv_iconst (v := nI 1) hx hb dL_law_159 (by decide) ?_
  refine lv_iadd hx hb dL_law_160 ?_
  refine g_toi (y := nI (4 * j + 1)) (nI_add (4 * j) 1) ?_
  refine va_sld hx hb hX hbl hbA hS (vp_in_nI (by omega) (by omega)) dL_law_161 ?_
  refine lv_aload_n hx hb dL_law_162 rfl (lv_at hl 2 rfl) ?_
  refine lv_iload hx hb dL_law_163 (lv_at hl 1 rfl) ?_
  refine lv_iconst (v := nI 2) hx hb dL_law_165 (by decide) ?_
  refine lv_iadd hx hb dL_law_166 ?_
  refine g_toi (y := nI (4 * j + 2)) (nI_add (4 * j) 2) ?_
  refine va_sld hx hb hX hbl hbA hS (vp_in_nI (by omega) (by omega)) dL_law_167 ?_
  refine lv_i2l (v := Int32.toInt64 (xs (nI (4 * j + 2)).toNatClampNeg)) hx hb dL_law_168 rfl ?_
  refine lv_bipush (v := 32) hx hb dL_law_169 (by decide) ?_
  refine lv_lshl (v := shlL (Int32.toInt64 (xs (nI (4 * j + 2)).toNatClampNeg)) 32) hx hb dL_law_171 rfl ?_
  refine lv_aload_n hx hb dL_law_172 rfl (lv_at hl 2 rfl) ?_
  refine lv_iload hx hb dL_law_173 (lv_at hl 1 rfl) ?_
  refine lv_iconst (v := nI 3) hx hb dL_law_175 (by decide) ?_
  refine lv_iadd hx hb dL_law_176 ?_
  refine g_toi (y := nI (4 * j + 3)) (nI_add (4 * j) 3) ?_
  refine va_sld hx hb hX hbl hbA hS (vp_in_nI (by omega) (by omega)) dL_law_177 ?_
  refine lv_i2l (v := Int32.toInt64 (xs (nI (4 * j + 3)).toNatClampNeg)) hx hb dL_law_178 rfl ?_
  refine lv_ldc2 hx hb hown (htu _ uL_L_65) dL_law_179 ?_
  refine lv_land hx hb dL_law_182 ?_
  refine lv_lor hx hb dL_law_183 ?_
  have hPn : va_P G.1 vwCl ((((o1, .inl (G.2.1 2, 1, .inr (.inl ov1))) :: xW G x0 ad u1) ++ (mW G o am v)) ++ []) H := by rw [List.append_nil]; exact hP
  have hDn : va_D (fun q : Nat => s.heap.size ≤ q) ((((o1, .inl (G.2.1 2, 1, .inr (.inl ov1))) :: xW G x0 ad u1) ++ (mW G o am v)) ++ []) := by rw [List.append_nil]; exact hD
  refine b_calli (P := ((o1, .inl (G.2.1 2, 1, .inr (.inl ov1))) :: xW G x0 ad u1)) (B := (mW G o am v)) (T := []) (g_runV (As := [.int (xs (nI (4 * j + 1)).toNatClampNeg), .long ((shlL (Int32.toInt64 (xs (nI (4 * j + 2)).toNatClampNeg)) 32) ||| ((Int32.toInt64 (xs (nI (4 * j + 3)).toNatClampNeg)) &&& 4294967295))]) (rest := []) ⟨hx, hb, hml, hown, htu⟩ (m_feed l G _ o am v A0 (xs (nI (4 * j + 1)).toNatClampNeg) ((shlL (Int32.toInt64 (xs (nI (4 * j + 2)).toNatClampNeg)) 32) ||| ((Int32.toInt64 (xs (nI (4 * j + 3)).toNatClampNeg)) &&& 4294967295)) E hM hE) uM_L_72 ok_X4_feed in_X4_feed rfl rfl ⟨Nat.le_of_ble_eq_true rfl, Nat.le_of_ble_eq_true rfl⟩ hK hPn hDn hS hA hZ (List.range' ((o1, .inl (G.2.1 2, 1, .inr (.inl ov1))) :: xW G x0 ad u1).length (mW G o am v).length) (blkC ((o1, .inl (G.2.1 2, 1, .inr (.inl ov1))) :: xW G x0 ad u1) (mW G o am v) []) (va_nd_of List.nodup_range') 68 rfl rfl rfl rfl hl.1 rfl (Nat.le_of_ble_eq_true rfl) dL_law_184 ⟨by show _ ≤ 601024; omega, by show _ ≤ 7293033; omega⟩) hPn hDn hS hA (fun r2 v1 H locs hm1 hP hD hS => ?_)
  rw [List.append_nil] at hP hD
  have hm1 : MR v1 E.2.2 ∧ v1.2.2.1 = nI E.1 ∧ (E.1 = 0 → (Int32.toInt64 r2) = E.2.1) := hm1
  have hP : va_P G.1 vwCl (((o1, .inl (G.2.1 2, 1, .inr (.inl ov1))) :: xW G x0 ad u1) ++ mW G o am v1) H := hP
  have hD : va_D (fun q : Nat => s.heap.size ≤ q) (((o1, .inl (G.2.1 2, 1, .inr (.inl ov1))) :: xW G x0 ad u1) ++ mW G o am v1) := hD
  refine lv_istore (lv' := [(6, .int r2), (5, .int (nI E.1)), (4, .int (nI (4 * j))), (0, .ref b), (1, .ref x0), (2, .ref o), (3, .ref o1)]) hx hb dL_law_187 hl (by decide) rfl (fun ls hl => ?_)
  refine lv_aload_n hx hb dL_law_189 rfl (lv_at hl 5 rfl) ?_
  have hPn : va_P G.1 vwCl ((((o1, .inl (G.2.1 2, 1, .inr (.inl ov1))) :: xW G x0 ad u1) ++ (mW G o am v1)) ++ []) H := by rw [List.append_nil]; exact hP
  have hDn : va_D (fun q : Nat => s.heap.size ≤ q) ((((o1, .inl (G.2.1 2, 1, .inr (.inl ov1))) :: xW G x0 ad u1) ++ (mW G o am v1)) ++ []) := by rw [List.append_nil]; exact hD
  refine b_calli (P := ((o1, .inl (G.2.1 2, 1, .inr (.inl ov1))) :: xW G x0 ad u1)) (B := (mW G o am v1)) (T := []) (g_runV (As := []) (rest := []) ⟨hx, hb, hml, hown, htu⟩ (m_thrown l G _ o am v1) uM_L_73 ok_X4_thrown in_X4_thrown rfl rfl ⟨Nat.le_of_ble_eq_true rfl, Nat.le_of_ble_eq_true rfl⟩ hK hPn hDn hS hA hZ (List.range' ((o1, .inl (G.2.1 2, 1, .inr (.inl ov1))) :: xW G x0 ad u1).length (mW G o am v1).length) (blkC ((o1, .inl (G.2.1 2, 1, .inr (.inl ov1))) :: xW G x0 ad u1) (mW G o am v1) []) (va_nd_of List.nodup_range') 68 rfl rfl rfl rfl hl.1 rfl (Nat.le_of_ble_eq_true rfl) dL_law_190 ⟨by show _ ≤ 601024; omega, by show _ ≤ 7293033; omega⟩) hPn hDn hS hA (fun r3 _ H locs er3 hP hD hS => ?_)
  rw [List.append_nil] at hP hD
  subst er3
  have hP : va_P G.1 vwCl (((o1, .inl (G.2.1 2, 1, .inr (.inl ov1))) :: xW G x0 ad u1) ++ mW G o am v1) H := hP
  have hD : va_D (fun q : Nat => s.heap.size ≤ q) (((o1, .inl (G.2.1 2, 1, .inr (.inl ov1))) :: xW G x0 ad u1) ++ mW G o am v1) := hD
  refine lv_iload hx hb dL_law_193 (lv_at hl 1 rfl) ?_
  refine lv_icmp_eq (tgt := 200) hx hb dL_law_195 (by decide) (fun _ => ?_) (fun c_195 => absurd (hm1.2.1) c_195)
  refine lv_iload hx hb dL_law_200 (lv_at hl 1 rfl) ?_
  refine lv_if_ne (tgt := 217) hx hb dL_law_202 (by decide) (fun c_202 => ?_) (fun c_202 => ?_)
  · skip
    refine lv_goto (tgt := 1048) hx hb dL_law_217 (by decide) ?_
    refine W.widen (k := cells + 1) (n := slots + 6) (by omega) (by omega) ?_
    exact kk u1 v1 ov1 E.2.2 _ _ _ hR1 hm1.1 hP hD hS (lv_sub hl [2, 3, 4, 5, 6] rfl)
  · skip
    have h0 : E.1 = 0 := nE0 h4 c_202
    refine lv_aload_n hx hb dL_law_205 rfl (lv_at hl 6 rfl) ?_
    refine lv_iconst (v := nI 0) hx hb dL_law_206 (by decide) ?_
    refine g_lald hx hb hK.1 hP 0 2 rfl rfl ⟨by decide, by decide⟩ dL_law_207 ?_
    refine lv_iload hx hb dL_law_208 (lv_at hl 0 rfl) ?_
    refine lv_i2l (v := Int32.toInt64 r2) hx hb dL_law_210 rfl ?_
    refine W.lcmp hx hb dL_law_211 ?_
    refine lv_if_eq (tgt := 217) hx hb dL_law_212 (by decide) (fun _ => ?_) (fun c_212 => absurd (lcmp0 ((hv1 h0).trans (hm1.2.2 h0).symm)) c_212)
    refine lv_goto (tgt := 1048) hx hb dL_law_217 (by decide) ?_
    refine W.widen (k := cells + 1) (n := slots + 6) (by omega) (by omega) ?_
    exact kk u1 v1 ov1 E.2.2 _ _ _ hR1 hm1.1 hP hD hS (lv_sub hl [2, 3, 4, 5, 6] rfl)
set_option maxHeartbeats 4000000 in
set_option maxRecDepth 100000 in
theorem law_begin {p : Program} {l : Launch} {e : Env} {s : State} {m : MethodId} {below : List Frame} {meth : Method} {c : Code} {b L x0 o o1 j cells slots : Nat} {xs : Nat → Int32} {G : GW} {ad am : Nat → Nat} {ov : Nat → Int64} {u : XU} {v : MST} {A0 : AS} {Q : State → Prop} {H : Heap} {locs : List Loc} {ls : Array Slot} (hT9 : l.stackTraces = false) (hx : p.tables.exec = Jvm.exec) (hb : c.code = code) (hml : c.maxLocals = 8) (hown : s.vm.findClass RL = some m.cls) (htu : ∀ w ∈ UW, w.before #[Value.ref b] s = true) (hX : va_X b L xs s s.heap) (hbl : b < s.heap.size) (hK : gK G s) (hZ : gZ G (fun q : Nat => s.heap.size ≤ q) s s.heap) (hL : L ≤ 2048) (hj : 4 * j + 4 ≤ L) (hc : cells + 1 ≤ 601024) (hs : slots + 6 ≤ 7293033) (hR : XR u A0) (hM : MR v A0) (hP : va_P G.1 vwCl (((o1, .inl (G.2.1 2, 1, .inr (.inl ov))) :: xW G x0 ad u) ++ mW G o am v) H) (hD : va_D (fun q : Nat => s.heap.size ≤ q) (((o1, .inl (G.2.1 2, 1, .inr (.inl ov))) :: xW G x0 ad u) ++ mW G o am v)) (hS : va_S (fun q : Nat => s.heap.size ≤ q) s.heap H locs) (hl : lv_has ls 8 [(4, .int (nI (4 * j))), (0, .ref b), (1, .ref x0), (2, .ref o), (3, .ref o1)])
    (kk : ∀ (u1 : XU) (v1 : MST) (ov1 : Nat → Int64) (A1 : AS) (H : Heap) (locs : List Loc) (ls : Array Slot), XR u1 A1 → MR v1 A1 → va_P G.1 vwCl (((o1, .inl (G.2.1 2, 1, .inr (.inl ov1))) :: xW G x0 ad u1) ++ mW G o am v1) H → va_D (fun q : Nat => s.heap.size ≤ q) (((o1, .inl (G.2.1 2, 1, .inr (.inl ov1))) :: xW G x0 ad u1) ++ mW G o am v1) → va_S (fun q : Nat => s.heap.size ≤ q) s.heap H locs → lv_has ls 8 [(4, .int (nI (4 * j))), (0, .ref b), (1, .ref x0), (2, .ref o), (3, .ref o1)] → W p l e room_1 s m #[Value.ref b] below meth c H locs (cells + 1) (slots + 6) Q (F0 m 1048 ls [])) : W p l e room_1 s m #[Value.ref b] below meth c H locs cells slots Q (F0 m 220 ls []) := by
  have hA : ∀ q : Nat, s.heap.size ≤ q → (fun q : Nat => s.heap.size ≤ q) q := fun _ h => h
  have hbA : ¬ (fun q : Nat => s.heap.size ≤ q) b := Nat.not_le.mpr hbl
  refine lv_aload_n hx hb dL_law_220 rfl (lv_at hl 2 rfl) ?_
  refine lv_aload_n hx hb dL_law_221 rfl (lv_at hl 1 rfl) ?_
  refine lv_iload hx hb dL_law_222 (lv_at hl 0 rfl) ?_
  refine lv_iconst (v := nI 1) hx hb dL_law_224 (by decide) ?_
  refine lv_iadd hx hb dL_law_225 ?_
  refine g_toi (y := nI (4 * j + 1)) (nI_add (4 * j) 1) ?_
  refine va_sld hx hb hX hbl hbA hS (vp_in_nI (by omega) (by omega)) dL_law_226 ?_
  refine lv_aload_n hx hb dL_law_227 rfl (lv_at hl 1 rfl) ?_
  refine lv_iload hx hb dL_law_228 (lv_at hl 0 rfl) ?_
  refine lv_iconst (v := nI 2) hx hb dL_law_230 (by decide) ?_
  refine lv_iadd hx hb dL_law_231 ?_
  refine g_toi (y := nI (4 * j + 2)) (nI_add (4 * j) 2) ?_
  refine va_sld hx hb hX hbl hbA hS (vp_in_nI (by omega) (by omega)) dL_law_232 ?_
  obtain ⟨E, hE⟩ : ∃ E : AO, beginA A0 (xs (nI (4 * j + 1)).toNatClampNeg) (xs (nI (4 * j + 2)).toNatClampNeg) = E := ⟨_, rfl⟩
  have h4 : E.1 < 4 := by rw [← hE]; exact beginA_lt _ _ _
  have hPn : va_P G.1 vwCl (([(o1, .inl (G.2.1 2, 1, .inr (.inl ov)))] ++ (xW G x0 ad u)) ++ (mW G o am v)) H := hP
  have hDn : va_D (fun q : Nat => s.heap.size ≤ q) (([(o1, .inl (G.2.1 2, 1, .inr (.inl ov)))] ++ (xW G x0 ad u)) ++ (mW G o am v)) := hD
  refine b_calli (P := [(o1, .inl (G.2.1 2, 1, .inr (.inl ov)))]) (B := (xW G x0 ad u)) (T := (mW G o am v)) (g_runSW (n := 3) (As := [.ref x0, .int (xs (nI (4 * j + 1)).toNatClampNeg), .int (xs (nI (4 * j + 2)).toNatClampNeg)]) (rest := []) ⟨hx, hb, hml, hown, htu⟩ (l_begin l hT9 G _ x0 o1 ad ov u A0 (xs (nI (4 * j + 1)).toNatClampNeg) (xs (nI (4 * j + 2)).toNatClampNeg) E hR hE) uM_L_77 uW_L_begin uN_L (by decide +kernel) uA_L_begin rfl rfl ⟨Nat.le_of_ble_eq_true rfl, Nat.le_of_ble_eq_true rfl⟩ hK hPn hDn hS hA hZ (List.range' [(o1, .inl (G.2.1 2, 1, .inr (.inl ov)))].length (xW G x0 ad u).length) (blkC [(o1, .inl (G.2.1 2, 1, .inr (.inl ov)))] (xW G x0 ad u) (mW G o am v)) (va_nd_of List.nodup_range') rfl hl.1 rfl (Nat.le_of_ble_eq_true rfl) dL_law_233 ⟨hc, hs⟩) hPn hDn hS hA (fun r w1 H locs hw hP hD hS => ?_)
  obtain ⟨u1, rfl⟩ : ∃ z, z = w1 := ⟨_, rfl⟩
  obtain ⟨er, hR1⟩ := hw
  have hR1 : XR u1 E.2.2 := hR1
  subst er
  have hP : va_P G.1 vwCl (((o1, .inl (G.2.1 2, 1, .inr (.inl ov))) :: xW G x0 ad u1) ++ mW G o am v) H := hP
  have hD : va_D (fun q : Nat => s.heap.size ≤ q) (((o1, .inl (G.2.1 2, 1, .inr (.inl ov))) :: xW G x0 ad u1) ++ mW G o am v) := hD
  refine lv_istore (lv' := [(5, .int (nI E.1)), (4, .int (nI (4 * j))), (0, .ref b), (1, .ref x0), (2, .ref o), (3, .ref o1)]) hx hb dL_law_236 hl (by decide) rfl (fun ls hl => ?_)
  refine lv_aload_n hx hb dL_law_238 rfl (lv_at hl 4 rfl) ?_
  refine lv_aload_n hx hb dL_law_239 rfl (lv_at hl 2 rfl) ?_
  refine lv_iload hx hb dL_law_240 (lv_at hl 1 rfl) ?_
  refine lv_iconst (v := nI 1) hx hb dL_law_242 (by decide) ?_
  refine lv_iadd hx hb dL_law_243 ?_
  refine g_toi (y := nI (4 * j + 1)) (nI_add (4 * j) 1) ?_
  refine va_sld hx hb hX hbl hbA hS (vp_in_nI (by omega) (by omega)) dL_law_244 ?_
  refine lv_aload_n hx hb dL_law_245 rfl (lv_at hl 2 rfl) ?_
  refine lv_iload hx hb dL_law_246 (lv_at hl 1 rfl) ?_
  refine lv_iconst (v := nI 2) hx hb dL_law_248 (by decide) ?_
  refine lv_iadd hx hb dL_law_249 ?_
  refine g_toi (y := nI (4 * j + 2)) (nI_add (4 * j) 2) ?_
  refine va_sld hx hb hX hbl hbA hS (vp_in_nI (by omega) (by omega)) dL_law_250 ?_
  have hPn : va_P G.1 vwCl ((((o1, .inl (G.2.1 2, 1, .inr (.inl ov))) :: xW G x0 ad u1) ++ (mW G o am v)) ++ []) H := by rw [List.append_nil]; exact hP
  have hDn : va_D (fun q : Nat => s.heap.size ≤ q) ((((o1, .inl (G.2.1 2, 1, .inr (.inl ov))) :: xW G x0 ad u1) ++ (mW G o am v)) ++ []) := by rw [List.append_nil]; exact hD
  refine b_callv (P := ((o1, .inl (G.2.1 2, 1, .inr (.inl ov))) :: xW G x0 ad u1)) (B := (mW G o am v)) (T := []) (g_runV (As := [.int (xs (nI (4 * j + 1)).toNatClampNeg), .int (xs (nI (4 * j + 2)).toNatClampNeg)]) (rest := []) ⟨hx, hb, hml, hown, htu⟩ (m_begin l G _ o am v A0 (xs (nI (4 * j + 1)).toNatClampNeg) (xs (nI (4 * j + 2)).toNatClampNeg) E hM hE) uM_L_80 ok_X4_begin in_X4_begin rfl rfl ⟨Nat.le_of_ble_eq_true rfl, Nat.le_of_ble_eq_true rfl⟩ hK hPn hDn hS hA hZ (List.range' ((o1, .inl (G.2.1 2, 1, .inr (.inl ov))) :: xW G x0 ad u1).length (mW G o am v).length) (blkC ((o1, .inl (G.2.1 2, 1, .inr (.inl ov))) :: xW G x0 ad u1) (mW G o am v) []) (va_nd_of List.nodup_range') 68 rfl rfl rfl rfl hl.1 rfl (Nat.le_of_ble_eq_true rfl) dL_law_251 ⟨by show _ ≤ 601024; omega, by show _ ≤ 7293033; omega⟩) hPn hDn hS hA (fun v1 H locs hm1 hP hD hS => ?_)
  rw [List.append_nil] at hP hD
  have hm1 : MR v1 E.2.2 ∧ v1.2.2.1 = nI E.1 ∧ (E.1 = 0 → 0 = E.2.1) := hm1
  have hP : va_P G.1 vwCl (((o1, .inl (G.2.1 2, 1, .inr (.inl ov))) :: xW G x0 ad u1) ++ mW G o am v1) H := hP
  have hD : va_D (fun q : Nat => s.heap.size ≤ q) (((o1, .inl (G.2.1 2, 1, .inr (.inl ov))) :: xW G x0 ad u1) ++ mW G o am v1) := hD
  refine lv_aload_n hx hb dL_law_254 rfl (lv_at hl 4 rfl) ?_
  have hPn : va_P G.1 vwCl ((((o1, .inl (G.2.1 2, 1, .inr (.inl ov))) :: xW G x0 ad u1) ++ (mW G o am v1)) ++ []) H := by rw [List.append_nil]; exact hP
  have hDn : va_D (fun q : Nat => s.heap.size ≤ q) ((((o1, .inl (G.2.1 2, 1, .inr (.inl ov))) :: xW G x0 ad u1) ++ (mW G o am v1)) ++ []) := by rw [List.append_nil]; exact hD
  refine b_calli (P := ((o1, .inl (G.2.1 2, 1, .inr (.inl ov))) :: xW G x0 ad u1)) (B := (mW G o am v1)) (T := []) (g_runV (As := []) (rest := []) ⟨hx, hb, hml, hown, htu⟩ (m_thrown l G _ o am v1) uM_L_73 ok_X4_thrown in_X4_thrown rfl rfl ⟨Nat.le_of_ble_eq_true rfl, Nat.le_of_ble_eq_true rfl⟩ hK hPn hDn hS hA hZ (List.range' ((o1, .inl (G.2.1 2, 1, .inr (.inl ov))) :: xW G x0 ad u1).length (mW G o am v1).length) (blkC ((o1, .inl (G.2.1 2, 1, .inr (.inl ov))) :: xW G x0 ad u1) (mW G o am v1) []) (va_nd_of List.nodup_range') 68 rfl rfl rfl rfl hl.1 rfl (Nat.le_of_ble_eq_true rfl) dL_law_255 ⟨by show _ ≤ 601024; omega, by show _ ≤ 7293033; omega⟩) hPn hDn hS hA (fun r3 _ H locs er3 hP hD hS => ?_)
  rw [List.append_nil] at hP hD
  subst er3
  have hP : va_P G.1 vwCl (((o1, .inl (G.2.1 2, 1, .inr (.inl ov))) :: xW G x0 ad u1) ++ mW G o am v1) H := hP
  have hD : va_D (fun q : Nat => s.heap.size ≤ q) (((o1, .inl (G.2.1 2, 1, .inr (.inl ov))) :: xW G x0 ad u1) ++ mW G o am v1) := hD
  refine lv_iload hx hb dL_law_258 (lv_at hl 0 rfl) ?_
  refine lv_icmp_eq (tgt := 265) hx hb dL_law_260 (by decide) (fun _ => ?_) (fun c_260 => absurd (hm1.2.1) c_260)
  refine lv_goto (tgt := 1048) hx hb dL_law_265 (by decide) ?_
  refine W.widen (k := cells + 1) (n := slots + 6) (by omega) (by omega) ?_
  exact kk u1 v1 ov E.2.2 _ _ _ hR1 hm1.1 hP hD hS (lv_sub hl [1, 2, 3, 4, 5] rfl)
set_option maxHeartbeats 4000000 in
set_option maxRecDepth 100000 in
theorem law_code {p : Program} {l : Launch} {e : Env} {s : State} {m : MethodId} {below : List Frame} {meth : Method} {c : Code} {b L x0 o o1 j cells slots : Nat} {xs : Nat → Int32} {G : GW} {ad am : Nat → Nat} {ov : Nat → Int64} {u : XU} {v : MST} {A0 : AS} {Q : State → Prop} {H : Heap} {locs : List Loc} {ls : Array Slot} (hT9 : l.stackTraces = false) (hx : p.tables.exec = Jvm.exec) (hb : c.code = code) (hml : c.maxLocals = 8) (hown : s.vm.findClass RL = some m.cls) (htu : ∀ w ∈ UW, w.before #[Value.ref b] s = true) (hX : va_X b L xs s s.heap) (hbl : b < s.heap.size) (hK : gK G s) (hZ : gZ G (fun q : Nat => s.heap.size ≤ q) s s.heap) (hL : L ≤ 2048) (hj : 4 * j + 4 ≤ L) (hc : cells + 1 ≤ 601024) (hs : slots + 6 ≤ 7293033) (hR : XR u A0) (hM : MR v A0) (hP : va_P G.1 vwCl (((o1, .inl (G.2.1 2, 1, .inr (.inl ov))) :: xW G x0 ad u) ++ mW G o am v) H) (hD : va_D (fun q : Nat => s.heap.size ≤ q) (((o1, .inl (G.2.1 2, 1, .inr (.inl ov))) :: xW G x0 ad u) ++ mW G o am v)) (hS : va_S (fun q : Nat => s.heap.size ≤ q) s.heap H locs) (hl : lv_has ls 8 [(4, .int (nI (4 * j))), (0, .ref b), (1, .ref x0), (2, .ref o), (3, .ref o1)])
    (kk : ∀ (u1 : XU) (v1 : MST) (ov1 : Nat → Int64) (A1 : AS) (H : Heap) (locs : List Loc) (ls : Array Slot), XR u1 A1 → MR v1 A1 → va_P G.1 vwCl (((o1, .inl (G.2.1 2, 1, .inr (.inl ov1))) :: xW G x0 ad u1) ++ mW G o am v1) H → va_D (fun q : Nat => s.heap.size ≤ q) (((o1, .inl (G.2.1 2, 1, .inr (.inl ov1))) :: xW G x0 ad u1) ++ mW G o am v1) → va_S (fun q : Nat => s.heap.size ≤ q) s.heap H locs → lv_has ls 8 [(4, .int (nI (4 * j))), (0, .ref b), (1, .ref x0), (2, .ref o), (3, .ref o1)] → W p l e room_1 s m #[Value.ref b] below meth c H locs (cells + 1) (slots + 6) Q (F0 m 1048 ls [])) : W p l e room_1 s m #[Value.ref b] below meth c H locs cells slots Q (F0 m 268 ls []) := by
  have hA : ∀ q : Nat, s.heap.size ≤ q → (fun q : Nat => s.heap.size ≤ q) q := fun _ h => h
  have hbA : ¬ (fun q : Nat => s.heap.size ≤ q) b := Nat.not_le.mpr hbl
  refine lv_aload_n hx hb dL_law_268 rfl (lv_at hl 2 rfl) ?_
  refine lv_aload_n hx hb dL_law_269 rfl (lv_at hl 1 rfl) ?_
  refine lv_iload hx hb dL_law_270 (lv_at hl 0 rfl) ?_
  refine lv_iconst (v := nI 1) hx hb dL_law_272 (by decide) ?_
  refine lv_iadd hx hb dL_law_273 ?_
  refine g_toi (y := nI (4 * j + 1)) (nI_add (4 * j) 1) ?_
  refine va_sld hx hb hX hbl hbA hS (vp_in_nI (by omega) (by omega)) dL_law_274 ?_
  refine lv_aload_n hx hb dL_law_275 rfl (lv_at hl 1 rfl) ?_
  refine lv_iload hx hb dL_law_276 (lv_at hl 0 rfl) ?_
  refine lv_iconst (v := nI 2) hx hb dL_law_278 (by decide) ?_
  refine lv_iadd hx hb dL_law_279 ?_
  refine g_toi (y := nI (4 * j + 2)) (nI_add (4 * j) 2) ?_
  refine va_sld hx hb hX hbl hbA hS (vp_in_nI (by omega) (by omega)) dL_law_280 ?_
  refine lv_aload_n hx hb dL_law_281 rfl (lv_at hl 4 rfl) ?_
  obtain ⟨E, hE⟩ : ∃ E : AO, codeA A0 (xs (nI (4 * j + 1)).toNatClampNeg) (xs (nI (4 * j + 2)).toNatClampNeg) = E := ⟨_, rfl⟩
  have h4 : E.1 < 4 := by rw [← hE]; exact codeA_lt _ _ _
  have hPn : va_P G.1 vwCl ((([] : va_W) ++ ((o1, .inl (G.2.1 2, 1, .inr (.inl ov))) :: xW G x0 ad u)) ++ (mW G o am v)) H := hP
  have hDn : va_D (fun q : Nat => s.heap.size ≤ q) ((([] : va_W) ++ ((o1, .inl (G.2.1 2, 1, .inr (.inl ov))) :: xW G x0 ad u)) ++ (mW G o am v)) := hD
  refine b_calli (P := ([] : va_W)) (B := ((o1, .inl (G.2.1 2, 1, .inr (.inl ov))) :: xW G x0 ad u)) (T := (mW G o am v)) (g_runSW (n := 4) (As := [.ref x0, .int (xs (nI (4 * j + 1)).toNatClampNeg), .int (xs (nI (4 * j + 2)).toNatClampNeg), .ref o1]) (rest := []) ⟨hx, hb, hml, hown, htu⟩ (l_code l hT9 G _ x0 o1 ad ov u A0 (xs (nI (4 * j + 1)).toNatClampNeg) (xs (nI (4 * j + 2)).toNatClampNeg) E hR hE) uM_L_81 uW_L_code uN_L (by decide +kernel) uA_L_code rfl rfl ⟨Nat.le_of_ble_eq_true rfl, Nat.le_of_ble_eq_true rfl⟩ hK hPn hDn hS hA hZ (List.range' ([] : va_W).length ((o1, .inl (G.2.1 2, 1, .inr (.inl ov))) :: xW G x0 ad u).length) (blkC ([] : va_W) ((o1, .inl (G.2.1 2, 1, .inr (.inl ov))) :: xW G x0 ad u) (mW G o am v)) (va_nd_of List.nodup_range') rfl hl.1 rfl (Nat.le_of_ble_eq_true rfl) dL_law_282 ⟨hc, hs⟩) hPn hDn hS hA (fun r w1 H locs hw hP hD hS => ?_)
  obtain ⟨u1, ov1⟩ := w1
  obtain ⟨er, hR1, hv1⟩ := hw
  have hv1 : E.1 = 0 → ov1 0 = E.2.1 := hv1
  have hR1 : XR u1 E.2.2 := hR1
  subst er
  have hP : va_P G.1 vwCl (((o1, .inl (G.2.1 2, 1, .inr (.inl ov1))) :: xW G x0 ad u1) ++ mW G o am v) H := hP
  have hD : va_D (fun q : Nat => s.heap.size ≤ q) (((o1, .inl (G.2.1 2, 1, .inr (.inl ov1))) :: xW G x0 ad u1) ++ mW G o am v) := hD
  refine lv_istore (lv' := [(5, .int (nI E.1)), (4, .int (nI (4 * j))), (0, .ref b), (1, .ref x0), (2, .ref o), (3, .ref o1)]) hx hb dL_law_285 hl (by decide) rfl (fun ls hl => ?_)
  refine lv_aload_n hx hb dL_law_287 rfl (lv_at hl 4 rfl) ?_
  refine lv_aload_n hx hb dL_law_288 rfl (lv_at hl 2 rfl) ?_
  refine lv_iload hx hb dL_law_289 (lv_at hl 1 rfl) ?_
  refine lv_iconst (v := nI 1) hx hb dL_law_291 (by decide) ?_
  refine lv_iadd hx hb dL_law_292 ?_
  refine g_toi (y := nI (4 * j + 1)) (nI_add (4 * j) 1) ?_
  refine va_sld hx hb hX hbl hbA hS (vp_in_nI (by omega) (by omega)) dL_law_293 ?_
  refine lv_aload_n hx hb dL_law_294 rfl (lv_at hl 2 rfl) ?_
  refine lv_iload hx hb dL_law_295 (lv_at hl 1 rfl) ?_
  refine lv_iconst (v := nI 2) hx hb dL_law_297 (by decide) ?_
  refine lv_iadd hx hb dL_law_298 ?_
  refine g_toi (y := nI (4 * j + 2)) (nI_add (4 * j) 2) ?_
  refine va_sld hx hb hX hbl hbA hS (vp_in_nI (by omega) (by omega)) dL_law_299 ?_
  have hPn : va_P G.1 vwCl ((((o1, .inl (G.2.1 2, 1, .inr (.inl ov1))) :: xW G x0 ad u1) ++ (mW G o am v)) ++ []) H := by rw [List.append_nil]; exact hP
  have hDn : va_D (fun q : Nat => s.heap.size ≤ q) ((((o1, .inl (G.2.1 2, 1, .inr (.inl ov1))) :: xW G x0 ad u1) ++ (mW G o am v)) ++ []) := by rw [List.append_nil]; exact hD
  refine b_calli (P := ((o1, .inl (G.2.1 2, 1, .inr (.inl ov1))) :: xW G x0 ad u1)) (B := (mW G o am v)) (T := []) (g_runV (As := [.int (xs (nI (4 * j + 1)).toNatClampNeg), .int (xs (nI (4 * j + 2)).toNatClampNeg)]) (rest := []) ⟨hx, hb, hml, hown, htu⟩ (m_code l G _ o am v A0 (xs (nI (4 * j + 1)).toNatClampNeg) (xs (nI (4 * j + 2)).toNatClampNeg) E hM hE) uM_L_84 ok_X4_code in_X4_code rfl rfl ⟨Nat.le_of_ble_eq_true rfl, Nat.le_of_ble_eq_true rfl⟩ hK hPn hDn hS hA hZ (List.range' ((o1, .inl (G.2.1 2, 1, .inr (.inl ov1))) :: xW G x0 ad u1).length (mW G o am v).length) (blkC ((o1, .inl (G.2.1 2, 1, .inr (.inl ov1))) :: xW G x0 ad u1) (mW G o am v) []) (va_nd_of List.nodup_range') 68 rfl rfl rfl rfl hl.1 rfl (Nat.le_of_ble_eq_true rfl) dL_law_300 ⟨by show _ ≤ 601024; omega, by show _ ≤ 7293033; omega⟩) hPn hDn hS hA (fun r2 v1 H locs hm1 hP hD hS => ?_)
  rw [List.append_nil] at hP hD
  have hm1 : MR v1 E.2.2 ∧ v1.2.2.1 = nI E.1 ∧ (E.1 = 0 → (Int32.toInt64 r2) = E.2.1) := hm1
  have hP : va_P G.1 vwCl (((o1, .inl (G.2.1 2, 1, .inr (.inl ov1))) :: xW G x0 ad u1) ++ mW G o am v1) H := hP
  have hD : va_D (fun q : Nat => s.heap.size ≤ q) (((o1, .inl (G.2.1 2, 1, .inr (.inl ov1))) :: xW G x0 ad u1) ++ mW G o am v1) := hD
  refine lv_istore (lv' := [(6, .int r2), (5, .int (nI E.1)), (4, .int (nI (4 * j))), (0, .ref b), (1, .ref x0), (2, .ref o), (3, .ref o1)]) hx hb dL_law_303 hl (by decide) rfl (fun ls hl => ?_)
  refine lv_aload_n hx hb dL_law_305 rfl (lv_at hl 5 rfl) ?_
  have hPn : va_P G.1 vwCl ((((o1, .inl (G.2.1 2, 1, .inr (.inl ov1))) :: xW G x0 ad u1) ++ (mW G o am v1)) ++ []) H := by rw [List.append_nil]; exact hP
  have hDn : va_D (fun q : Nat => s.heap.size ≤ q) ((((o1, .inl (G.2.1 2, 1, .inr (.inl ov1))) :: xW G x0 ad u1) ++ (mW G o am v1)) ++ []) := by rw [List.append_nil]; exact hD
  refine b_calli (P := ((o1, .inl (G.2.1 2, 1, .inr (.inl ov1))) :: xW G x0 ad u1)) (B := (mW G o am v1)) (T := []) (g_runV (As := []) (rest := []) ⟨hx, hb, hml, hown, htu⟩ (m_thrown l G _ o am v1) uM_L_73 ok_X4_thrown in_X4_thrown rfl rfl ⟨Nat.le_of_ble_eq_true rfl, Nat.le_of_ble_eq_true rfl⟩ hK hPn hDn hS hA hZ (List.range' ((o1, .inl (G.2.1 2, 1, .inr (.inl ov1))) :: xW G x0 ad u1).length (mW G o am v1).length) (blkC ((o1, .inl (G.2.1 2, 1, .inr (.inl ov1))) :: xW G x0 ad u1) (mW G o am v1) []) (va_nd_of List.nodup_range') 68 rfl rfl rfl rfl hl.1 rfl (Nat.le_of_ble_eq_true rfl) dL_law_306 ⟨by show _ ≤ 601024; omega, by show _ ≤ 7293033; omega⟩) hPn hDn hS hA (fun r3 _ H locs er3 hP hD hS => ?_)
  rw [List.append_nil] at hP hD
  subst er3
  have hP : va_P G.1 vwCl (((o1, .inl (G.2.1 2, 1, .inr (.inl ov1))) :: xW G x0 ad u1) ++ mW G o am v1) H := hP
  have hD : va_D (fun q : Nat => s.heap.size ≤ q) (((o1, .inl (G.2.1 2, 1, .inr (.inl ov1))) :: xW G x0 ad u1) ++ mW G o am v1) := hD
  refine lv_iload hx hb dL_law_309 (lv_at hl 1 rfl) ?_
  refine lv_icmp_eq (tgt := 316) hx hb dL_law_311 (by decide) (fun _ => ?_) (fun c_311 => absurd (hm1.2.1) c_311)
  refine lv_iload hx hb dL_law_316 (lv_at hl 1 rfl) ?_
  refine lv_if_ne (tgt := 333) hx hb dL_law_318 (by decide) (fun c_318 => ?_) (fun c_318 => ?_)
  · skip
    refine lv_goto (tgt := 1048) hx hb dL_law_333 (by decide) ?_
    refine W.widen (k := cells + 1) (n := slots + 6) (by omega) (by omega) ?_
    exact kk u1 v1 ov1 E.2.2 _ _ _ hR1 hm1.1 hP hD hS (lv_sub hl [2, 3, 4, 5, 6] rfl)
  · skip
    have h0 : E.1 = 0 := nE0 h4 c_318
    refine lv_aload_n hx hb dL_law_321 rfl (lv_at hl 6 rfl) ?_
    refine lv_iconst (v := nI 0) hx hb dL_law_322 (by decide) ?_
    refine g_lald hx hb hK.1 hP 0 2 rfl rfl ⟨by decide, by decide⟩ dL_law_323 ?_
    refine lv_iload hx hb dL_law_324 (lv_at hl 0 rfl) ?_
    refine lv_i2l (v := Int32.toInt64 r2) hx hb dL_law_326 rfl ?_
    refine W.lcmp hx hb dL_law_327 ?_
    refine lv_if_eq (tgt := 333) hx hb dL_law_328 (by decide) (fun _ => ?_) (fun c_328 => absurd (lcmp0 ((hv1 h0).trans (hm1.2.2 h0).symm)) c_328)
    refine lv_goto (tgt := 1048) hx hb dL_law_333 (by decide) ?_
    refine W.widen (k := cells + 1) (n := slots + 6) (by omega) (by omega) ?_
    exact kk u1 v1 ov1 E.2.2 _ _ _ hR1 hm1.1 hP hD hS (lv_sub hl [2, 3, 4, 5, 6] rfl)
set_option maxHeartbeats 4000000 in
set_option maxRecDepth 100000 in
theorem law_update {p : Program} {l : Launch} {e : Env} {s : State} {m : MethodId} {below : List Frame} {meth : Method} {c : Code} {b L x0 o o1 j cells slots : Nat} {xs : Nat → Int32} {G : GW} {ad am : Nat → Nat} {ov : Nat → Int64} {u : XU} {v : MST} {A0 : AS} {Q : State → Prop} {H : Heap} {locs : List Loc} {ls : Array Slot} (hT9 : l.stackTraces = false) (hx : p.tables.exec = Jvm.exec) (hb : c.code = code) (hml : c.maxLocals = 8) (hown : s.vm.findClass RL = some m.cls) (htu : ∀ w ∈ UW, w.before #[Value.ref b] s = true) (hX : va_X b L xs s s.heap) (hbl : b < s.heap.size) (hK : gK G s) (hZ : gZ G (fun q : Nat => s.heap.size ≤ q) s s.heap) (hL : L ≤ 2048) (hj : 4 * j + 4 ≤ L) (hc : cells + 1 ≤ 601024) (hs : slots + 6 ≤ 7293033) (hR : XR u A0) (hM : MR v A0) (hP : va_P G.1 vwCl (((o1, .inl (G.2.1 2, 1, .inr (.inl ov))) :: xW G x0 ad u) ++ mW G o am v) H) (hD : va_D (fun q : Nat => s.heap.size ≤ q) (((o1, .inl (G.2.1 2, 1, .inr (.inl ov))) :: xW G x0 ad u) ++ mW G o am v)) (hS : va_S (fun q : Nat => s.heap.size ≤ q) s.heap H locs) (hl : lv_has ls 8 [(4, .int (nI (4 * j))), (0, .ref b), (1, .ref x0), (2, .ref o), (3, .ref o1)])
    (kk : ∀ (u1 : XU) (v1 : MST) (ov1 : Nat → Int64) (A1 : AS) (H : Heap) (locs : List Loc) (ls : Array Slot), XR u1 A1 → MR v1 A1 → va_P G.1 vwCl (((o1, .inl (G.2.1 2, 1, .inr (.inl ov1))) :: xW G x0 ad u1) ++ mW G o am v1) H → va_D (fun q : Nat => s.heap.size ≤ q) (((o1, .inl (G.2.1 2, 1, .inr (.inl ov1))) :: xW G x0 ad u1) ++ mW G o am v1) → va_S (fun q : Nat => s.heap.size ≤ q) s.heap H locs → lv_has ls 8 [(4, .int (nI (4 * j))), (0, .ref b), (1, .ref x0), (2, .ref o), (3, .ref o1)] → W p l e room_1 s m #[Value.ref b] below meth c H locs (cells + 1) (slots + 6) Q (F0 m 1048 ls [])) : W p l e room_1 s m #[Value.ref b] below meth c H locs cells slots Q (F0 m 336 ls []) := by
  have hA : ∀ q : Nat, s.heap.size ≤ q → (fun q : Nat => s.heap.size ≤ q) q := fun _ h => h
  have hbA : ¬ (fun q : Nat => s.heap.size ≤ q) b := Nat.not_le.mpr hbl
  refine lv_aload_n hx hb dL_law_336 rfl (lv_at hl 2 rfl) ?_
  refine lv_aload_n hx hb dL_law_337 rfl (lv_at hl 1 rfl) ?_
  refine lv_iload hx hb dL_law_338 (lv_at hl 0 rfl) ?_
  refine lv_iconst (v := nI 1) hx hb dL_law_340 (by decide) ?_
  refine lv_iadd hx hb dL_law_341 ?_
  refine g_toi (y := nI (4 * j + 1)) (nI_add (4 * j) 1) ?_
  refine va_sld hx hb hX hbl hbA hS (vp_in_nI (by omega) (by omega)) dL_law_342 ?_
  refine lv_aload_n hx hb dL_law_343 rfl (lv_at hl 4 rfl) ?_
  obtain ⟨E, hE⟩ : ∃ E : AO, updateA A0 (xs (nI (4 * j + 1)).toNatClampNeg) = E := ⟨_, rfl⟩
  have h4 : E.1 < 4 := by rw [← hE]; exact updateA_lt _ _
  have hPn : va_P G.1 vwCl ((([] : va_W) ++ ((o1, .inl (G.2.1 2, 1, .inr (.inl ov))) :: xW G x0 ad u)) ++ (mW G o am v)) H := hP
  have hDn : va_D (fun q : Nat => s.heap.size ≤ q) ((([] : va_W) ++ ((o1, .inl (G.2.1 2, 1, .inr (.inl ov))) :: xW G x0 ad u)) ++ (mW G o am v)) := hD
  refine b_calli (P := ([] : va_W)) (B := ((o1, .inl (G.2.1 2, 1, .inr (.inl ov))) :: xW G x0 ad u)) (T := (mW G o am v)) (g_runSW (n := 3) (As := [.ref x0, .int (xs (nI (4 * j + 1)).toNatClampNeg), .ref o1]) (rest := []) ⟨hx, hb, hml, hown, htu⟩ (l_update l hT9 G _ x0 o1 ad ov u A0 (xs (nI (4 * j + 1)).toNatClampNeg) E hR hE) uM_L_85 uW_L_update uN_L (by decide +kernel) uA_L_update rfl rfl ⟨Nat.le_of_ble_eq_true rfl, Nat.le_of_ble_eq_true rfl⟩ hK hPn hDn hS hA hZ (List.range' ([] : va_W).length ((o1, .inl (G.2.1 2, 1, .inr (.inl ov))) :: xW G x0 ad u).length) (blkC ([] : va_W) ((o1, .inl (G.2.1 2, 1, .inr (.inl ov))) :: xW G x0 ad u) (mW G o am v)) (va_nd_of List.nodup_range') rfl hl.1 rfl (Nat.le_of_ble_eq_true rfl) dL_law_344 ⟨hc, hs⟩) hPn hDn hS hA (fun r w1 H locs hw hP hD hS => ?_)
  obtain ⟨u1, ov1⟩ := w1
  obtain ⟨er, hR1, hv1⟩ := hw
  have hv1 : E.1 = 0 → ov1 0 = E.2.1 := hv1
  have hR1 : XR u1 E.2.2 := hR1
  subst er
  have hP : va_P G.1 vwCl (((o1, .inl (G.2.1 2, 1, .inr (.inl ov1))) :: xW G x0 ad u1) ++ mW G o am v) H := hP
  have hD : va_D (fun q : Nat => s.heap.size ≤ q) (((o1, .inl (G.2.1 2, 1, .inr (.inl ov1))) :: xW G x0 ad u1) ++ mW G o am v) := hD
  refine lv_istore (lv' := [(5, .int (nI E.1)), (4, .int (nI (4 * j))), (0, .ref b), (1, .ref x0), (2, .ref o), (3, .ref o1)]) hx hb dL_law_347 hl (by decide) rfl (fun ls hl => ?_)
  refine lv_aload_n hx hb dL_law_349 rfl (lv_at hl 4 rfl) ?_
  refine lv_aload_n hx hb dL_law_350 rfl (lv_at hl 2 rfl) ?_
  refine lv_iload hx hb dL_law_351 (lv_at hl 1 rfl) ?_
  refine lv_iconst (v := nI 1) hx hb dL_law_353 (by decide) ?_
  refine lv_iadd hx hb dL_law_354 ?_
  refine g_toi (y := nI (4 * j + 1)) (nI_add (4 * j) 1) ?_
  refine va_sld hx hb hX hbl hbA hS (vp_in_nI (by omega) (by omega)) dL_law_355 ?_
  have hPn : va_P G.1 vwCl ((((o1, .inl (G.2.1 2, 1, .inr (.inl ov1))) :: xW G x0 ad u1) ++ (mW G o am v)) ++ []) H := by rw [List.append_nil]; exact hP
  have hDn : va_D (fun q : Nat => s.heap.size ≤ q) ((((o1, .inl (G.2.1 2, 1, .inr (.inl ov1))) :: xW G x0 ad u1) ++ (mW G o am v)) ++ []) := by rw [List.append_nil]; exact hD
  refine b_calll (P := ((o1, .inl (G.2.1 2, 1, .inr (.inl ov1))) :: xW G x0 ad u1)) (B := (mW G o am v)) (T := []) (g_runV (As := [.int (xs (nI (4 * j + 1)).toNatClampNeg)]) (rest := []) ⟨hx, hb, hml, hown, htu⟩ (m_update l G _ o am v A0 (xs (nI (4 * j + 1)).toNatClampNeg) E hM hE) uM_L_88 ok_X4_update in_X4_update rfl rfl ⟨Nat.le_of_ble_eq_true rfl, Nat.le_of_ble_eq_true rfl⟩ hK hPn hDn hS hA hZ (List.range' ((o1, .inl (G.2.1 2, 1, .inr (.inl ov1))) :: xW G x0 ad u1).length (mW G o am v).length) (blkC ((o1, .inl (G.2.1 2, 1, .inr (.inl ov1))) :: xW G x0 ad u1) (mW G o am v) []) (va_nd_of List.nodup_range') 68 rfl rfl rfl rfl hl.1 rfl (Nat.le_of_ble_eq_true rfl) dL_law_356 ⟨by show _ ≤ 601024; omega, by show _ ≤ 7293033; omega⟩) hPn hDn hS hA (fun r2 v1 H locs hm1 hP hD hS => ?_)
  rw [List.append_nil] at hP hD
  have hm1 : MR v1 E.2.2 ∧ v1.2.2.1 = nI E.1 ∧ (E.1 = 0 → r2 = E.2.1) := hm1
  have hP : va_P G.1 vwCl (((o1, .inl (G.2.1 2, 1, .inr (.inl ov1))) :: xW G x0 ad u1) ++ mW G o am v1) H := hP
  have hD : va_D (fun q : Nat => s.heap.size ≤ q) (((o1, .inl (G.2.1 2, 1, .inr (.inl ov1))) :: xW G x0 ad u1) ++ mW G o am v1) := hD
  refine lv_lstore (lv' := [(6, .long r2), (5, .int (nI E.1)), (4, .int (nI (4 * j))), (0, .ref b), (1, .ref x0), (2, .ref o), (3, .ref o1)]) hx hb dL_law_359 hl (by decide) rfl (fun ls hl => ?_)
  refine lv_aload_n hx hb dL_law_361 rfl (lv_at hl 5 rfl) ?_
  have hPn : va_P G.1 vwCl ((((o1, .inl (G.2.1 2, 1, .inr (.inl ov1))) :: xW G x0 ad u1) ++ (mW G o am v1)) ++ []) H := by rw [List.append_nil]; exact hP
  have hDn : va_D (fun q : Nat => s.heap.size ≤ q) ((((o1, .inl (G.2.1 2, 1, .inr (.inl ov1))) :: xW G x0 ad u1) ++ (mW G o am v1)) ++ []) := by rw [List.append_nil]; exact hD
  refine b_calli (P := ((o1, .inl (G.2.1 2, 1, .inr (.inl ov1))) :: xW G x0 ad u1)) (B := (mW G o am v1)) (T := []) (g_runV (As := []) (rest := []) ⟨hx, hb, hml, hown, htu⟩ (m_thrown l G _ o am v1) uM_L_73 ok_X4_thrown in_X4_thrown rfl rfl ⟨Nat.le_of_ble_eq_true rfl, Nat.le_of_ble_eq_true rfl⟩ hK hPn hDn hS hA hZ (List.range' ((o1, .inl (G.2.1 2, 1, .inr (.inl ov1))) :: xW G x0 ad u1).length (mW G o am v1).length) (blkC ((o1, .inl (G.2.1 2, 1, .inr (.inl ov1))) :: xW G x0 ad u1) (mW G o am v1) []) (va_nd_of List.nodup_range') 68 rfl rfl rfl rfl hl.1 rfl (Nat.le_of_ble_eq_true rfl) dL_law_362 ⟨by show _ ≤ 601024; omega, by show _ ≤ 7293033; omega⟩) hPn hDn hS hA (fun r3 _ H locs er3 hP hD hS => ?_)
  rw [List.append_nil] at hP hD
  subst er3
  have hP : va_P G.1 vwCl (((o1, .inl (G.2.1 2, 1, .inr (.inl ov1))) :: xW G x0 ad u1) ++ mW G o am v1) H := hP
  have hD : va_D (fun q : Nat => s.heap.size ≤ q) (((o1, .inl (G.2.1 2, 1, .inr (.inl ov1))) :: xW G x0 ad u1) ++ mW G o am v1) := hD
  refine lv_iload hx hb dL_law_365 (lv_at hl 1 rfl) ?_
  refine lv_icmp_eq (tgt := 372) hx hb dL_law_367 (by decide) (fun _ => ?_) (fun c_367 => absurd (hm1.2.1) c_367)
  refine lv_iload hx hb dL_law_372 (lv_at hl 1 rfl) ?_
  refine lv_if_ne (tgt := 388) hx hb dL_law_374 (by decide) (fun c_374 => ?_) (fun c_374 => ?_)
  · skip
    refine lv_goto (tgt := 1048) hx hb dL_law_388 (by decide) ?_
    refine W.widen (k := cells + 1) (n := slots + 6) (by omega) (by omega) ?_
    exact kk u1 v1 ov1 E.2.2 _ _ _ hR1 hm1.1 hP hD hS (lv_sub hl [2, 3, 4, 5, 6] rfl)
  · skip
    have h0 : E.1 = 0 := nE0 h4 c_374
    refine lv_aload_n hx hb dL_law_377 rfl (lv_at hl 6 rfl) ?_
    refine lv_iconst (v := nI 0) hx hb dL_law_378 (by decide) ?_
    refine g_lald hx hb hK.1 hP 0 2 rfl rfl ⟨by decide, by decide⟩ dL_law_379 ?_
    refine lv_lload hx hb dL_law_380 (lv_at hl 0 rfl) ?_
    refine W.lcmp hx hb dL_law_382 ?_
    refine lv_if_eq (tgt := 388) hx hb dL_law_383 (by decide) (fun _ => ?_) (fun c_383 => absurd (lcmp0 ((hv1 h0).trans (hm1.2.2 h0).symm)) c_383)
    refine lv_goto (tgt := 1048) hx hb dL_law_388 (by decide) ?_
    refine W.widen (k := cells + 1) (n := slots + 6) (by omega) (by omega) ?_
    exact kk u1 v1 ov1 E.2.2 _ _ _ hR1 hm1.1 hP hD hS (lv_sub hl [2, 3, 4, 5, 6] rfl)
set_option maxHeartbeats 4000000 in
set_option maxRecDepth 100000 in
theorem law_repeat {p : Program} {l : Launch} {e : Env} {s : State} {m : MethodId} {below : List Frame} {meth : Method} {c : Code} {b L x0 o o1 j cells slots : Nat} {xs : Nat → Int32} {G : GW} {ad am : Nat → Nat} {ov : Nat → Int64} {u : XU} {v : MST} {A0 : AS} {Q : State → Prop} {H : Heap} {locs : List Loc} {ls : Array Slot} (hT9 : l.stackTraces = false) (hx : p.tables.exec = Jvm.exec) (hb : c.code = code) (hml : c.maxLocals = 8) (hown : s.vm.findClass RL = some m.cls) (htu : ∀ w ∈ UW, w.before #[Value.ref b] s = true) (hX : va_X b L xs s s.heap) (hbl : b < s.heap.size) (hK : gK G s) (hZ : gZ G (fun q : Nat => s.heap.size ≤ q) s s.heap) (hL : L ≤ 2048) (hj : 4 * j + 4 ≤ L) (hc : cells + 1 ≤ 601024) (hs : slots + 6 ≤ 7293033) (hR : XR u A0) (hM : MR v A0) (hP : va_P G.1 vwCl (((o1, .inl (G.2.1 2, 1, .inr (.inl ov))) :: xW G x0 ad u) ++ mW G o am v) H) (hD : va_D (fun q : Nat => s.heap.size ≤ q) (((o1, .inl (G.2.1 2, 1, .inr (.inl ov))) :: xW G x0 ad u) ++ mW G o am v)) (hS : va_S (fun q : Nat => s.heap.size ≤ q) s.heap H locs) (hl : lv_has ls 8 [(4, .int (nI (4 * j))), (0, .ref b), (1, .ref x0), (2, .ref o), (3, .ref o1)])
    (kk : ∀ (u1 : XU) (v1 : MST) (ov1 : Nat → Int64) (A1 : AS) (H : Heap) (locs : List Loc) (ls : Array Slot), XR u1 A1 → MR v1 A1 → va_P G.1 vwCl (((o1, .inl (G.2.1 2, 1, .inr (.inl ov1))) :: xW G x0 ad u1) ++ mW G o am v1) H → va_D (fun q : Nat => s.heap.size ≤ q) (((o1, .inl (G.2.1 2, 1, .inr (.inl ov1))) :: xW G x0 ad u1) ++ mW G o am v1) → va_S (fun q : Nat => s.heap.size ≤ q) s.heap H locs → lv_has ls 8 [(4, .int (nI (4 * j))), (0, .ref b), (1, .ref x0), (2, .ref o), (3, .ref o1)] → W p l e room_1 s m #[Value.ref b] below meth c H locs (cells + 1) (slots + 6) Q (F0 m 1048 ls [])) : W p l e room_1 s m #[Value.ref b] below meth c H locs cells slots Q (F0 m 391 ls []) := by
  have hA : ∀ q : Nat, s.heap.size ≤ q → (fun q : Nat => s.heap.size ≤ q) q := fun _ h => h
  have hbA : ¬ (fun q : Nat => s.heap.size ≤ q) b := Nat.not_le.mpr hbl
  refine lv_aload_n hx hb dL_law_391 rfl (lv_at hl 2 rfl) ?_
  refine lv_aload_n hx hb dL_law_392 rfl (lv_at hl 1 rfl) ?_
  refine lv_iload hx hb dL_law_393 (lv_at hl 0 rfl) ?_
  refine lv_iconst (v := nI 1) hx hb dL_law_395 (by decide) ?_
  refine lv_iadd hx hb dL_law_396 ?_
  refine g_toi (y := nI (4 * j + 1)) (nI_add (4 * j) 1) ?_
  refine va_sld hx hb hX hbl hbA hS (vp_in_nI (by omega) (by omega)) dL_law_397 ?_
  refine lv_aload_n hx hb dL_law_398 rfl (lv_at hl 1 rfl) ?_
  refine lv_iload hx hb dL_law_399 (lv_at hl 0 rfl) ?_
  refine lv_iconst (v := nI 2) hx hb dL_law_401 (by decide) ?_
  refine lv_iadd hx hb dL_law_402 ?_
  refine g_toi (y := nI (4 * j + 2)) (nI_add (4 * j) 2) ?_
  refine va_sld hx hb hX hbl hbA hS (vp_in_nI (by omega) (by omega)) dL_law_403 ?_
  refine lv_aload_n hx hb dL_law_404 rfl (lv_at hl 1 rfl) ?_
  refine lv_iload hx hb dL_law_405 (lv_at hl 0 rfl) ?_
  refine lv_iconst (v := nI 3) hx hb dL_law_407 (by decide) ?_
  refine lv_iadd hx hb dL_law_408 ?_
  refine g_toi (y := nI (4 * j + 3)) (nI_add (4 * j) 3) ?_
  refine va_sld hx hb hX hbl hbA hS (vp_in_nI (by omega) (by omega)) dL_law_409 ?_
  refine lv_aload_n hx hb dL_law_410 rfl (lv_at hl 4 rfl) ?_
  obtain ⟨E, hE⟩ : ∃ E : AO, repeatA A0 (xs (nI (4 * j + 1)).toNatClampNeg) (xs (nI (4 * j + 2)).toNatClampNeg) (xs (nI (4 * j + 3)).toNatClampNeg) = E := ⟨_, rfl⟩
  have h4 : E.1 < 4 := by rw [← hE]; exact repeatA_lt _ _ _ _
  have hPn : va_P G.1 vwCl ((([] : va_W) ++ ((o1, .inl (G.2.1 2, 1, .inr (.inl ov))) :: xW G x0 ad u)) ++ (mW G o am v)) H := hP
  have hDn : va_D (fun q : Nat => s.heap.size ≤ q) ((([] : va_W) ++ ((o1, .inl (G.2.1 2, 1, .inr (.inl ov))) :: xW G x0 ad u)) ++ (mW G o am v)) := hD
  refine b_calli (P := ([] : va_W)) (B := ((o1, .inl (G.2.1 2, 1, .inr (.inl ov))) :: xW G x0 ad u)) (T := (mW G o am v)) (g_runSW (n := 5) (As := [.ref x0, .int (xs (nI (4 * j + 1)).toNatClampNeg), .int (xs (nI (4 * j + 2)).toNatClampNeg), .int (xs (nI (4 * j + 3)).toNatClampNeg), .ref o1]) (rest := []) ⟨hx, hb, hml, hown, htu⟩ (l_repeat l hT9 G _ x0 o1 ad ov u A0 (xs (nI (4 * j + 1)).toNatClampNeg) (xs (nI (4 * j + 2)).toNatClampNeg) (xs (nI (4 * j + 3)).toNatClampNeg) E hR hE) uM_L_89 uW_L_repeat uN_L (by decide +kernel) uA_L_repeat rfl rfl ⟨Nat.le_of_ble_eq_true rfl, Nat.le_of_ble_eq_true rfl⟩ hK hPn hDn hS hA hZ (List.range' ([] : va_W).length ((o1, .inl (G.2.1 2, 1, .inr (.inl ov))) :: xW G x0 ad u).length) (blkC ([] : va_W) ((o1, .inl (G.2.1 2, 1, .inr (.inl ov))) :: xW G x0 ad u) (mW G o am v)) (va_nd_of List.nodup_range') rfl hl.1 rfl (Nat.le_of_ble_eq_true rfl) dL_law_411 ⟨hc, hs⟩) hPn hDn hS hA (fun r w1 H locs hw hP hD hS => ?_)
  obtain ⟨u1, ov1⟩ := w1
  obtain ⟨er, hR1, hv1⟩ := hw
  have hv1 : E.1 = 0 → ov1 0 = E.2.1 := hv1
  have hR1 : XR u1 E.2.2 := hR1
  subst er
  have hP : va_P G.1 vwCl (((o1, .inl (G.2.1 2, 1, .inr (.inl ov1))) :: xW G x0 ad u1) ++ mW G o am v) H := hP
  have hD : va_D (fun q : Nat => s.heap.size ≤ q) (((o1, .inl (G.2.1 2, 1, .inr (.inl ov1))) :: xW G x0 ad u1) ++ mW G o am v) := hD
  refine lv_istore (lv' := [(5, .int (nI E.1)), (4, .int (nI (4 * j))), (0, .ref b), (1, .ref x0), (2, .ref o), (3, .ref o1)]) hx hb dL_law_414 hl (by decide) rfl (fun ls hl => ?_)
  refine lv_aload_n hx hb dL_law_416 rfl (lv_at hl 4 rfl) ?_
  refine lv_aload_n hx hb dL_law_417 rfl (lv_at hl 2 rfl) ?_
  refine lv_iload hx hb dL_law_418 (lv_at hl 1 rfl) ?_
  refine lv_iconst (v := nI 1) hx hb dL_law_420 (by decide) ?_
  refine lv_iadd hx hb dL_law_421 ?_
  refine g_toi (y := nI (4 * j + 1)) (nI_add (4 * j) 1) ?_
  refine va_sld hx hb hX hbl hbA hS (vp_in_nI (by omega) (by omega)) dL_law_422 ?_
  refine lv_aload_n hx hb dL_law_423 rfl (lv_at hl 2 rfl) ?_
  refine lv_iload hx hb dL_law_424 (lv_at hl 1 rfl) ?_
  refine lv_iconst (v := nI 2) hx hb dL_law_426 (by decide) ?_
  refine lv_iadd hx hb dL_law_427 ?_
  refine g_toi (y := nI (4 * j + 2)) (nI_add (4 * j) 2) ?_
  refine va_sld hx hb hX hbl hbA hS (vp_in_nI (by omega) (by omega)) dL_law_428 ?_
  refine lv_aload_n hx hb dL_law_429 rfl (lv_at hl 2 rfl) ?_
  refine lv_iload hx hb dL_law_430 (lv_at hl 1 rfl) ?_
  refine lv_iconst (v := nI 3) hx hb dL_law_432 (by decide) ?_
  refine lv_iadd hx hb dL_law_433 ?_
  refine g_toi (y := nI (4 * j + 3)) (nI_add (4 * j) 3) ?_
  refine va_sld hx hb hX hbl hbA hS (vp_in_nI (by omega) (by omega)) dL_law_434 ?_
  have hPn : va_P G.1 vwCl ((((o1, .inl (G.2.1 2, 1, .inr (.inl ov1))) :: xW G x0 ad u1) ++ (mW G o am v)) ++ []) H := by rw [List.append_nil]; exact hP
  have hDn : va_D (fun q : Nat => s.heap.size ≤ q) ((((o1, .inl (G.2.1 2, 1, .inr (.inl ov1))) :: xW G x0 ad u1) ++ (mW G o am v)) ++ []) := by rw [List.append_nil]; exact hD
  refine b_calll (P := ((o1, .inl (G.2.1 2, 1, .inr (.inl ov1))) :: xW G x0 ad u1)) (B := (mW G o am v)) (T := []) (g_runV (As := [.int (xs (nI (4 * j + 1)).toNatClampNeg), .int (xs (nI (4 * j + 2)).toNatClampNeg), .int (xs (nI (4 * j + 3)).toNatClampNeg)]) (rest := []) ⟨hx, hb, hml, hown, htu⟩ (m_repeat l G _ o am v A0 (xs (nI (4 * j + 1)).toNatClampNeg) (xs (nI (4 * j + 2)).toNatClampNeg) (xs (nI (4 * j + 3)).toNatClampNeg) E hM hE) uM_L_92 ok_X4_repeat in_X4_repeat rfl rfl ⟨Nat.le_of_ble_eq_true rfl, Nat.le_of_ble_eq_true rfl⟩ hK hPn hDn hS hA hZ (List.range' ((o1, .inl (G.2.1 2, 1, .inr (.inl ov1))) :: xW G x0 ad u1).length (mW G o am v).length) (blkC ((o1, .inl (G.2.1 2, 1, .inr (.inl ov1))) :: xW G x0 ad u1) (mW G o am v) []) (va_nd_of List.nodup_range') 68 rfl rfl rfl rfl hl.1 rfl (Nat.le_of_ble_eq_true rfl) dL_law_435 ⟨by show _ ≤ 601024; omega, by show _ ≤ 7293033; omega⟩) hPn hDn hS hA (fun r2 v1 H locs hm1 hP hD hS => ?_)
  rw [List.append_nil] at hP hD
  have hm1 : MR v1 E.2.2 ∧ v1.2.2.1 = nI E.1 ∧ (E.1 = 0 → r2 = E.2.1) := hm1
  have hP : va_P G.1 vwCl (((o1, .inl (G.2.1 2, 1, .inr (.inl ov1))) :: xW G x0 ad u1) ++ mW G o am v1) H := hP
  have hD : va_D (fun q : Nat => s.heap.size ≤ q) (((o1, .inl (G.2.1 2, 1, .inr (.inl ov1))) :: xW G x0 ad u1) ++ mW G o am v1) := hD
  refine lv_lstore (lv' := [(6, .long r2), (5, .int (nI E.1)), (4, .int (nI (4 * j))), (0, .ref b), (1, .ref x0), (2, .ref o), (3, .ref o1)]) hx hb dL_law_438 hl (by decide) rfl (fun ls hl => ?_)
  refine lv_aload_n hx hb dL_law_440 rfl (lv_at hl 5 rfl) ?_
  have hPn : va_P G.1 vwCl ((((o1, .inl (G.2.1 2, 1, .inr (.inl ov1))) :: xW G x0 ad u1) ++ (mW G o am v1)) ++ []) H := by rw [List.append_nil]; exact hP
  have hDn : va_D (fun q : Nat => s.heap.size ≤ q) ((((o1, .inl (G.2.1 2, 1, .inr (.inl ov1))) :: xW G x0 ad u1) ++ (mW G o am v1)) ++ []) := by rw [List.append_nil]; exact hD
  refine b_calli (P := ((o1, .inl (G.2.1 2, 1, .inr (.inl ov1))) :: xW G x0 ad u1)) (B := (mW G o am v1)) (T := []) (g_runV (As := []) (rest := []) ⟨hx, hb, hml, hown, htu⟩ (m_thrown l G _ o am v1) uM_L_73 ok_X4_thrown in_X4_thrown rfl rfl ⟨Nat.le_of_ble_eq_true rfl, Nat.le_of_ble_eq_true rfl⟩ hK hPn hDn hS hA hZ (List.range' ((o1, .inl (G.2.1 2, 1, .inr (.inl ov1))) :: xW G x0 ad u1).length (mW G o am v1).length) (blkC ((o1, .inl (G.2.1 2, 1, .inr (.inl ov1))) :: xW G x0 ad u1) (mW G o am v1) []) (va_nd_of List.nodup_range') 68 rfl rfl rfl rfl hl.1 rfl (Nat.le_of_ble_eq_true rfl) dL_law_441 ⟨by show _ ≤ 601024; omega, by show _ ≤ 7293033; omega⟩) hPn hDn hS hA (fun r3 _ H locs er3 hP hD hS => ?_)
  rw [List.append_nil] at hP hD
  subst er3
  have hP : va_P G.1 vwCl (((o1, .inl (G.2.1 2, 1, .inr (.inl ov1))) :: xW G x0 ad u1) ++ mW G o am v1) H := hP
  have hD : va_D (fun q : Nat => s.heap.size ≤ q) (((o1, .inl (G.2.1 2, 1, .inr (.inl ov1))) :: xW G x0 ad u1) ++ mW G o am v1) := hD
  refine lv_iload hx hb dL_law_444 (lv_at hl 1 rfl) ?_
  refine lv_icmp_eq (tgt := 451) hx hb dL_law_446 (by decide) (fun _ => ?_) (fun c_446 => absurd (hm1.2.1) c_446)
  refine lv_iload hx hb dL_law_451 (lv_at hl 1 rfl) ?_
  refine lv_if_ne (tgt := 467) hx hb dL_law_453 (by decide) (fun c_453 => ?_) (fun c_453 => ?_)
  · skip
    refine lv_goto (tgt := 1048) hx hb dL_law_467 (by decide) ?_
    refine W.widen (k := cells + 1) (n := slots + 6) (by omega) (by omega) ?_
    exact kk u1 v1 ov1 E.2.2 _ _ _ hR1 hm1.1 hP hD hS (lv_sub hl [2, 3, 4, 5, 6] rfl)
  · skip
    have h0 : E.1 = 0 := nE0 h4 c_453
    refine lv_aload_n hx hb dL_law_456 rfl (lv_at hl 6 rfl) ?_
    refine lv_iconst (v := nI 0) hx hb dL_law_457 (by decide) ?_
    refine g_lald hx hb hK.1 hP 0 2 rfl rfl ⟨by decide, by decide⟩ dL_law_458 ?_
    refine lv_lload hx hb dL_law_459 (lv_at hl 0 rfl) ?_
    refine W.lcmp hx hb dL_law_461 ?_
    refine lv_if_eq (tgt := 467) hx hb dL_law_462 (by decide) (fun _ => ?_) (fun c_462 => absurd (lcmp0 ((hv1 h0).trans (hm1.2.2 h0).symm)) c_462)
    refine lv_goto (tgt := 1048) hx hb dL_law_467 (by decide) ?_
    refine W.widen (k := cells + 1) (n := slots + 6) (by omega) (by omega) ?_
    exact kk u1 v1 ov1 E.2.2 _ _ _ hR1 hm1.1 hP hD hS (lv_sub hl [2, 3, 4, 5, 6] rfl)
set_option maxHeartbeats 4000000 in
set_option maxRecDepth 100000 in
theorem law_finish {p : Program} {l : Launch} {e : Env} {s : State} {m : MethodId} {below : List Frame} {meth : Method} {c : Code} {b L x0 o o1 j cells slots : Nat} {xs : Nat → Int32} {G : GW} {ad am : Nat → Nat} {ov : Nat → Int64} {u : XU} {v : MST} {A0 : AS} {Q : State → Prop} {H : Heap} {locs : List Loc} {ls : Array Slot} (hT9 : l.stackTraces = false) (hx : p.tables.exec = Jvm.exec) (hb : c.code = code) (hml : c.maxLocals = 8) (hown : s.vm.findClass RL = some m.cls) (htu : ∀ w ∈ UW, w.before #[Value.ref b] s = true) (hX : va_X b L xs s s.heap) (hbl : b < s.heap.size) (hK : gK G s) (hZ : gZ G (fun q : Nat => s.heap.size ≤ q) s s.heap) (hL : L ≤ 2048) (hj : 4 * j + 4 ≤ L) (hc : cells + 1 ≤ 601024) (hs : slots + 6 ≤ 7293033) (hR : XR u A0) (hM : MR v A0) (hP : va_P G.1 vwCl (((o1, .inl (G.2.1 2, 1, .inr (.inl ov))) :: xW G x0 ad u) ++ mW G o am v) H) (hD : va_D (fun q : Nat => s.heap.size ≤ q) (((o1, .inl (G.2.1 2, 1, .inr (.inl ov))) :: xW G x0 ad u) ++ mW G o am v)) (hS : va_S (fun q : Nat => s.heap.size ≤ q) s.heap H locs) (hl : lv_has ls 8 [(4, .int (nI (4 * j))), (0, .ref b), (1, .ref x0), (2, .ref o), (3, .ref o1)])
    (kk : ∀ (u1 : XU) (v1 : MST) (ov1 : Nat → Int64) (A1 : AS) (H : Heap) (locs : List Loc) (ls : Array Slot), XR u1 A1 → MR v1 A1 → va_P G.1 vwCl (((o1, .inl (G.2.1 2, 1, .inr (.inl ov1))) :: xW G x0 ad u1) ++ mW G o am v1) H → va_D (fun q : Nat => s.heap.size ≤ q) (((o1, .inl (G.2.1 2, 1, .inr (.inl ov1))) :: xW G x0 ad u1) ++ mW G o am v1) → va_S (fun q : Nat => s.heap.size ≤ q) s.heap H locs → lv_has ls 8 [(4, .int (nI (4 * j))), (0, .ref b), (1, .ref x0), (2, .ref o), (3, .ref o1)] → W p l e room_1 s m #[Value.ref b] below meth c H locs (cells + 1) (slots + 6) Q (F0 m 1048 ls [])) : W p l e room_1 s m #[Value.ref b] below meth c H locs cells slots Q (F0 m 470 ls []) := by
  have hA : ∀ q : Nat, s.heap.size ≤ q → (fun q : Nat => s.heap.size ≤ q) q := fun _ h => h
  have hbA : ¬ (fun q : Nat => s.heap.size ≤ q) b := Nat.not_le.mpr hbl
  refine lv_aload_n hx hb dL_law_470 rfl (lv_at hl 2 rfl) ?_
  refine lv_aload_n hx hb dL_law_471 rfl (lv_at hl 1 rfl) ?_
  refine lv_iload hx hb dL_law_472 (lv_at hl 0 rfl) ?_
  refine lv_iconst (v := nI 1) hx hb dL_law_474 (by decide) ?_
  refine lv_iadd hx hb dL_law_475 ?_
  refine g_toi (y := nI (4 * j + 1)) (nI_add (4 * j) 1) ?_
  refine va_sld hx hb hX hbl hbA hS (vp_in_nI (by omega) (by omega)) dL_law_476 ?_
  refine lv_aload_n hx hb dL_law_477 rfl (lv_at hl 4 rfl) ?_
  obtain ⟨E, hE⟩ : ∃ E : AO, finishA A0 (xs (nI (4 * j + 1)).toNatClampNeg) = E := ⟨_, rfl⟩
  have h4 : E.1 < 4 := by rw [← hE]; exact finishA_lt _ _
  have hPn : va_P G.1 vwCl ((([] : va_W) ++ ((o1, .inl (G.2.1 2, 1, .inr (.inl ov))) :: xW G x0 ad u)) ++ (mW G o am v)) H := hP
  have hDn : va_D (fun q : Nat => s.heap.size ≤ q) ((([] : va_W) ++ ((o1, .inl (G.2.1 2, 1, .inr (.inl ov))) :: xW G x0 ad u)) ++ (mW G o am v)) := hD
  refine b_calli (P := ([] : va_W)) (B := ((o1, .inl (G.2.1 2, 1, .inr (.inl ov))) :: xW G x0 ad u)) (T := (mW G o am v)) (g_runSW (n := 3) (As := [.ref x0, .int (xs (nI (4 * j + 1)).toNatClampNeg), .ref o1]) (rest := []) ⟨hx, hb, hml, hown, htu⟩ (l_finish l hT9 G _ x0 o1 ad ov u A0 (xs (nI (4 * j + 1)).toNatClampNeg) E hR hE) uM_L_93 uW_L_finish uN_L (by decide +kernel) uA_L_finish rfl rfl ⟨Nat.le_of_ble_eq_true rfl, Nat.le_of_ble_eq_true rfl⟩ hK hPn hDn hS hA hZ (List.range' ([] : va_W).length ((o1, .inl (G.2.1 2, 1, .inr (.inl ov))) :: xW G x0 ad u).length) (blkC ([] : va_W) ((o1, .inl (G.2.1 2, 1, .inr (.inl ov))) :: xW G x0 ad u) (mW G o am v)) (va_nd_of List.nodup_range') rfl hl.1 rfl (Nat.le_of_ble_eq_true rfl) dL_law_478 ⟨hc, hs⟩) hPn hDn hS hA (fun r w1 H locs hw hP hD hS => ?_)
  obtain ⟨u1, ov1⟩ := w1
  obtain ⟨er, hR1, hv1⟩ := hw
  have hv1 : E.1 = 0 → ov1 0 = E.2.1 := hv1
  have hR1 : XR u1 E.2.2 := hR1
  subst er
  have hP : va_P G.1 vwCl (((o1, .inl (G.2.1 2, 1, .inr (.inl ov1))) :: xW G x0 ad u1) ++ mW G o am v) H := hP
  have hD : va_D (fun q : Nat => s.heap.size ≤ q) (((o1, .inl (G.2.1 2, 1, .inr (.inl ov1))) :: xW G x0 ad u1) ++ mW G o am v) := hD
  refine lv_istore (lv' := [(5, .int (nI E.1)), (4, .int (nI (4 * j))), (0, .ref b), (1, .ref x0), (2, .ref o), (3, .ref o1)]) hx hb dL_law_481 hl (by decide) rfl (fun ls hl => ?_)
  refine lv_aload_n hx hb dL_law_483 rfl (lv_at hl 4 rfl) ?_
  refine lv_aload_n hx hb dL_law_484 rfl (lv_at hl 2 rfl) ?_
  refine lv_iload hx hb dL_law_485 (lv_at hl 1 rfl) ?_
  refine lv_iconst (v := nI 1) hx hb dL_law_487 (by decide) ?_
  refine lv_iadd hx hb dL_law_488 ?_
  refine g_toi (y := nI (4 * j + 1)) (nI_add (4 * j) 1) ?_
  refine va_sld hx hb hX hbl hbA hS (vp_in_nI (by omega) (by omega)) dL_law_489 ?_
  have hPn : va_P G.1 vwCl ((((o1, .inl (G.2.1 2, 1, .inr (.inl ov1))) :: xW G x0 ad u1) ++ (mW G o am v)) ++ []) H := by rw [List.append_nil]; exact hP
  have hDn : va_D (fun q : Nat => s.heap.size ≤ q) ((((o1, .inl (G.2.1 2, 1, .inr (.inl ov1))) :: xW G x0 ad u1) ++ (mW G o am v)) ++ []) := by rw [List.append_nil]; exact hD
  refine b_calli (P := ((o1, .inl (G.2.1 2, 1, .inr (.inl ov1))) :: xW G x0 ad u1)) (B := (mW G o am v)) (T := []) (g_runV (As := [.int (xs (nI (4 * j + 1)).toNatClampNeg)]) (rest := []) ⟨hx, hb, hml, hown, htu⟩ (m_finish l G _ o am v A0 (xs (nI (4 * j + 1)).toNatClampNeg) E hM hE) uM_L_95 ok_X4_finish in_X4_finish rfl rfl ⟨Nat.le_of_ble_eq_true rfl, Nat.le_of_ble_eq_true rfl⟩ hK hPn hDn hS hA hZ (List.range' ((o1, .inl (G.2.1 2, 1, .inr (.inl ov1))) :: xW G x0 ad u1).length (mW G o am v).length) (blkC ((o1, .inl (G.2.1 2, 1, .inr (.inl ov1))) :: xW G x0 ad u1) (mW G o am v) []) (va_nd_of List.nodup_range') 68 rfl rfl rfl rfl hl.1 rfl (Nat.le_of_ble_eq_true rfl) dL_law_490 ⟨by show _ ≤ 601024; omega, by show _ ≤ 7293033; omega⟩) hPn hDn hS hA (fun r2 v1 H locs hm1 hP hD hS => ?_)
  rw [List.append_nil] at hP hD
  have hm1 : MR v1 E.2.2 ∧ v1.2.2.1 = nI E.1 ∧ (E.1 = 0 → (Int32.toInt64 r2) = E.2.1) := hm1
  have hP : va_P G.1 vwCl (((o1, .inl (G.2.1 2, 1, .inr (.inl ov1))) :: xW G x0 ad u1) ++ mW G o am v1) H := hP
  have hD : va_D (fun q : Nat => s.heap.size ≤ q) (((o1, .inl (G.2.1 2, 1, .inr (.inl ov1))) :: xW G x0 ad u1) ++ mW G o am v1) := hD
  refine lv_istore (lv' := [(6, .int r2), (5, .int (nI E.1)), (4, .int (nI (4 * j))), (0, .ref b), (1, .ref x0), (2, .ref o), (3, .ref o1)]) hx hb dL_law_493 hl (by decide) rfl (fun ls hl => ?_)
  refine lv_aload_n hx hb dL_law_495 rfl (lv_at hl 5 rfl) ?_
  have hPn : va_P G.1 vwCl ((((o1, .inl (G.2.1 2, 1, .inr (.inl ov1))) :: xW G x0 ad u1) ++ (mW G o am v1)) ++ []) H := by rw [List.append_nil]; exact hP
  have hDn : va_D (fun q : Nat => s.heap.size ≤ q) ((((o1, .inl (G.2.1 2, 1, .inr (.inl ov1))) :: xW G x0 ad u1) ++ (mW G o am v1)) ++ []) := by rw [List.append_nil]; exact hD
  refine b_calli (P := ((o1, .inl (G.2.1 2, 1, .inr (.inl ov1))) :: xW G x0 ad u1)) (B := (mW G o am v1)) (T := []) (g_runV (As := []) (rest := []) ⟨hx, hb, hml, hown, htu⟩ (m_thrown l G _ o am v1) uM_L_73 ok_X4_thrown in_X4_thrown rfl rfl ⟨Nat.le_of_ble_eq_true rfl, Nat.le_of_ble_eq_true rfl⟩ hK hPn hDn hS hA hZ (List.range' ((o1, .inl (G.2.1 2, 1, .inr (.inl ov1))) :: xW G x0 ad u1).length (mW G o am v1).length) (blkC ((o1, .inl (G.2.1 2, 1, .inr (.inl ov1))) :: xW G x0 ad u1) (mW G o am v1) []) (va_nd_of List.nodup_range') 68 rfl rfl rfl rfl hl.1 rfl (Nat.le_of_ble_eq_true rfl) dL_law_496 ⟨by show _ ≤ 601024; omega, by show _ ≤ 7293033; omega⟩) hPn hDn hS hA (fun r3 _ H locs er3 hP hD hS => ?_)
  rw [List.append_nil] at hP hD
  subst er3
  have hP : va_P G.1 vwCl (((o1, .inl (G.2.1 2, 1, .inr (.inl ov1))) :: xW G x0 ad u1) ++ mW G o am v1) H := hP
  have hD : va_D (fun q : Nat => s.heap.size ≤ q) (((o1, .inl (G.2.1 2, 1, .inr (.inl ov1))) :: xW G x0 ad u1) ++ mW G o am v1) := hD
  refine lv_iload hx hb dL_law_499 (lv_at hl 1 rfl) ?_
  refine lv_icmp_eq (tgt := 506) hx hb dL_law_501 (by decide) (fun _ => ?_) (fun c_501 => absurd (hm1.2.1) c_501)
  refine lv_iload hx hb dL_law_506 (lv_at hl 1 rfl) ?_
  refine lv_if_ne (tgt := 523) hx hb dL_law_508 (by decide) (fun c_508 => ?_) (fun c_508 => ?_)
  · skip
    refine lv_goto (tgt := 1048) hx hb dL_law_523 (by decide) ?_
    refine W.widen (k := cells + 1) (n := slots + 6) (by omega) (by omega) ?_
    exact kk u1 v1 ov1 E.2.2 _ _ _ hR1 hm1.1 hP hD hS (lv_sub hl [2, 3, 4, 5, 6] rfl)
  · skip
    have h0 : E.1 = 0 := nE0 h4 c_508
    refine lv_aload_n hx hb dL_law_511 rfl (lv_at hl 6 rfl) ?_
    refine lv_iconst (v := nI 0) hx hb dL_law_512 (by decide) ?_
    refine g_lald hx hb hK.1 hP 0 2 rfl rfl ⟨by decide, by decide⟩ dL_law_513 ?_
    refine lv_iload hx hb dL_law_514 (lv_at hl 0 rfl) ?_
    refine lv_i2l (v := Int32.toInt64 r2) hx hb dL_law_516 rfl ?_
    refine W.lcmp hx hb dL_law_517 ?_
    refine lv_if_eq (tgt := 523) hx hb dL_law_518 (by decide) (fun _ => ?_) (fun c_518 => absurd (lcmp0 ((hv1 h0).trans (hm1.2.2 h0).symm)) c_518)
    refine lv_goto (tgt := 1048) hx hb dL_law_523 (by decide) ?_
    refine W.widen (k := cells + 1) (n := slots + 6) (by omega) (by omega) ?_
    exact kk u1 v1 ov1 E.2.2 _ _ _ hR1 hm1.1 hP hD hS (lv_sub hl [2, 3, 4, 5, 6] rfl)
set_option maxHeartbeats 4000000 in
set_option maxRecDepth 100000 in
theorem law_copy {p : Program} {l : Launch} {e : Env} {s : State} {m : MethodId} {below : List Frame} {meth : Method} {c : Code} {b L x0 o o1 j cells slots : Nat} {xs : Nat → Int32} {G : GW} {ad am : Nat → Nat} {ov : Nat → Int64} {u : XU} {v : MST} {A0 : AS} {Q : State → Prop} {H : Heap} {locs : List Loc} {ls : Array Slot} (hT9 : l.stackTraces = false) (hx : p.tables.exec = Jvm.exec) (hb : c.code = code) (hml : c.maxLocals = 8) (hown : s.vm.findClass RL = some m.cls) (htu : ∀ w ∈ UW, w.before #[Value.ref b] s = true) (hX : va_X b L xs s s.heap) (hbl : b < s.heap.size) (hK : gK G s) (hZ : gZ G (fun q : Nat => s.heap.size ≤ q) s s.heap) (hL : L ≤ 2048) (hj : 4 * j + 4 ≤ L) (hc : cells + 1 ≤ 601024) (hs : slots + 6 ≤ 7293033) (hR : XR u A0) (hM : MR v A0) (hP : va_P G.1 vwCl (((o1, .inl (G.2.1 2, 1, .inr (.inl ov))) :: xW G x0 ad u) ++ mW G o am v) H) (hD : va_D (fun q : Nat => s.heap.size ≤ q) (((o1, .inl (G.2.1 2, 1, .inr (.inl ov))) :: xW G x0 ad u) ++ mW G o am v)) (hS : va_S (fun q : Nat => s.heap.size ≤ q) s.heap H locs) (hl : lv_has ls 8 [(4, .int (nI (4 * j))), (0, .ref b), (1, .ref x0), (2, .ref o), (3, .ref o1)])
    (kk : ∀ (u1 : XU) (v1 : MST) (ov1 : Nat → Int64) (A1 : AS) (H : Heap) (locs : List Loc) (ls : Array Slot), XR u1 A1 → MR v1 A1 → va_P G.1 vwCl (((o1, .inl (G.2.1 2, 1, .inr (.inl ov1))) :: xW G x0 ad u1) ++ mW G o am v1) H → va_D (fun q : Nat => s.heap.size ≤ q) (((o1, .inl (G.2.1 2, 1, .inr (.inl ov1))) :: xW G x0 ad u1) ++ mW G o am v1) → va_S (fun q : Nat => s.heap.size ≤ q) s.heap H locs → lv_has ls 8 [(4, .int (nI (4 * j))), (0, .ref b), (1, .ref x0), (2, .ref o), (3, .ref o1)] → W p l e room_1 s m #[Value.ref b] below meth c H locs (cells + 1) (slots + 6) Q (F0 m 1048 ls [])) : W p l e room_1 s m #[Value.ref b] below meth c H locs cells slots Q (F0 m 526 ls []) := by
  have hA : ∀ q : Nat, s.heap.size ≤ q → (fun q : Nat => s.heap.size ≤ q) q := fun _ h => h
  have hbA : ¬ (fun q : Nat => s.heap.size ≤ q) b := Nat.not_le.mpr hbl
  refine lv_aload_n hx hb dL_law_526 rfl (lv_at hl 2 rfl) ?_
  refine lv_aload_n hx hb dL_law_527 rfl (lv_at hl 1 rfl) ?_
  refine lv_iload hx hb dL_law_528 (lv_at hl 0 rfl) ?_
  refine lv_iconst (v := nI 1) hx hb dL_law_530 (by decide) ?_
  refine lv_iadd hx hb dL_law_531 ?_
  refine g_toi (y := nI (4 * j + 1)) (nI_add (4 * j) 1) ?_
  refine va_sld hx hb hX hbl hbA hS (vp_in_nI (by omega) (by omega)) dL_law_532 ?_
  refine lv_aload_n hx hb dL_law_533 rfl (lv_at hl 1 rfl) ?_
  refine lv_iload hx hb dL_law_534 (lv_at hl 0 rfl) ?_
  refine lv_iconst (v := nI 2) hx hb dL_law_536 (by decide) ?_
  refine lv_iadd hx hb dL_law_537 ?_
  refine g_toi (y := nI (4 * j + 2)) (nI_add (4 * j) 2) ?_
  refine va_sld hx hb hX hbl hbA hS (vp_in_nI (by omega) (by omega)) dL_law_538 ?_
  obtain ⟨E, hE⟩ : ∃ E : AO, copyA A0 (xs (nI (4 * j + 1)).toNatClampNeg) (xs (nI (4 * j + 2)).toNatClampNeg) = E := ⟨_, rfl⟩
  have h4 : E.1 < 4 := by rw [← hE]; exact copyA_lt _ _ _
  have hPn : va_P G.1 vwCl (([(o1, .inl (G.2.1 2, 1, .inr (.inl ov)))] ++ (xW G x0 ad u)) ++ (mW G o am v)) H := hP
  have hDn : va_D (fun q : Nat => s.heap.size ≤ q) (([(o1, .inl (G.2.1 2, 1, .inr (.inl ov)))] ++ (xW G x0 ad u)) ++ (mW G o am v)) := hD
  refine b_calli (P := [(o1, .inl (G.2.1 2, 1, .inr (.inl ov)))]) (B := (xW G x0 ad u)) (T := (mW G o am v)) (g_runSW (n := 3) (As := [.ref x0, .int (xs (nI (4 * j + 1)).toNatClampNeg), .int (xs (nI (4 * j + 2)).toNatClampNeg)]) (rest := []) ⟨hx, hb, hml, hown, htu⟩ (l_copy l hT9 G _ x0 o1 ad ov u A0 (xs (nI (4 * j + 1)).toNatClampNeg) (xs (nI (4 * j + 2)).toNatClampNeg) E hR hE) uM_L_96 uW_L_copy uN_L (by decide +kernel) uA_L_copy rfl rfl ⟨Nat.le_of_ble_eq_true rfl, Nat.le_of_ble_eq_true rfl⟩ hK hPn hDn hS hA hZ (List.range' [(o1, .inl (G.2.1 2, 1, .inr (.inl ov)))].length (xW G x0 ad u).length) (blkC [(o1, .inl (G.2.1 2, 1, .inr (.inl ov)))] (xW G x0 ad u) (mW G o am v)) (va_nd_of List.nodup_range') rfl hl.1 rfl (Nat.le_of_ble_eq_true rfl) dL_law_539 ⟨hc, hs⟩) hPn hDn hS hA (fun r w1 H locs hw hP hD hS => ?_)
  obtain ⟨u1, rfl⟩ : ∃ z, z = w1 := ⟨_, rfl⟩
  obtain ⟨er, hR1⟩ := hw
  have hR1 : XR u1 E.2.2 := hR1
  subst er
  have hP : va_P G.1 vwCl (((o1, .inl (G.2.1 2, 1, .inr (.inl ov))) :: xW G x0 ad u1) ++ mW G o am v) H := hP
  have hD : va_D (fun q : Nat => s.heap.size ≤ q) (((o1, .inl (G.2.1 2, 1, .inr (.inl ov))) :: xW G x0 ad u1) ++ mW G o am v) := hD
  refine lv_istore (lv' := [(5, .int (nI E.1)), (4, .int (nI (4 * j))), (0, .ref b), (1, .ref x0), (2, .ref o), (3, .ref o1)]) hx hb dL_law_542 hl (by decide) rfl (fun ls hl => ?_)
  refine lv_aload_n hx hb dL_law_544 rfl (lv_at hl 4 rfl) ?_
  refine lv_aload_n hx hb dL_law_545 rfl (lv_at hl 2 rfl) ?_
  refine lv_iload hx hb dL_law_546 (lv_at hl 1 rfl) ?_
  refine lv_iconst (v := nI 1) hx hb dL_law_548 (by decide) ?_
  refine lv_iadd hx hb dL_law_549 ?_
  refine g_toi (y := nI (4 * j + 1)) (nI_add (4 * j) 1) ?_
  refine va_sld hx hb hX hbl hbA hS (vp_in_nI (by omega) (by omega)) dL_law_550 ?_
  refine lv_aload_n hx hb dL_law_551 rfl (lv_at hl 2 rfl) ?_
  refine lv_iload hx hb dL_law_552 (lv_at hl 1 rfl) ?_
  refine lv_iconst (v := nI 2) hx hb dL_law_554 (by decide) ?_
  refine lv_iadd hx hb dL_law_555 ?_
  refine g_toi (y := nI (4 * j + 2)) (nI_add (4 * j) 2) ?_
  refine va_sld hx hb hX hbl hbA hS (vp_in_nI (by omega) (by omega)) dL_law_556 ?_
  have hPn : va_P G.1 vwCl ((((o1, .inl (G.2.1 2, 1, .inr (.inl ov))) :: xW G x0 ad u1) ++ (mW G o am v)) ++ []) H := by rw [List.append_nil]; exact hP
  have hDn : va_D (fun q : Nat => s.heap.size ≤ q) ((((o1, .inl (G.2.1 2, 1, .inr (.inl ov))) :: xW G x0 ad u1) ++ (mW G o am v)) ++ []) := by rw [List.append_nil]; exact hD
  refine b_callv (P := ((o1, .inl (G.2.1 2, 1, .inr (.inl ov))) :: xW G x0 ad u1)) (B := (mW G o am v)) (T := []) (g_runV (As := [.int (xs (nI (4 * j + 1)).toNatClampNeg), .int (xs (nI (4 * j + 2)).toNatClampNeg)]) (rest := []) ⟨hx, hb, hml, hown, htu⟩ (m_copy l G _ o am v A0 (xs (nI (4 * j + 1)).toNatClampNeg) (xs (nI (4 * j + 2)).toNatClampNeg) E hM hE) uM_L_98 ok_X4_copy in_X4_copy rfl rfl ⟨Nat.le_of_ble_eq_true rfl, Nat.le_of_ble_eq_true rfl⟩ hK hPn hDn hS hA hZ (List.range' ((o1, .inl (G.2.1 2, 1, .inr (.inl ov))) :: xW G x0 ad u1).length (mW G o am v).length) (blkC ((o1, .inl (G.2.1 2, 1, .inr (.inl ov))) :: xW G x0 ad u1) (mW G o am v) []) (va_nd_of List.nodup_range') 68 rfl rfl rfl rfl hl.1 rfl (Nat.le_of_ble_eq_true rfl) dL_law_557 ⟨by show _ ≤ 601024; omega, by show _ ≤ 7293033; omega⟩) hPn hDn hS hA (fun v1 H locs hm1 hP hD hS => ?_)
  rw [List.append_nil] at hP hD
  have hm1 : MR v1 E.2.2 ∧ v1.2.2.1 = nI E.1 ∧ (E.1 = 0 → 0 = E.2.1) := hm1
  have hP : va_P G.1 vwCl (((o1, .inl (G.2.1 2, 1, .inr (.inl ov))) :: xW G x0 ad u1) ++ mW G o am v1) H := hP
  have hD : va_D (fun q : Nat => s.heap.size ≤ q) (((o1, .inl (G.2.1 2, 1, .inr (.inl ov))) :: xW G x0 ad u1) ++ mW G o am v1) := hD
  refine lv_aload_n hx hb dL_law_560 rfl (lv_at hl 4 rfl) ?_
  have hPn : va_P G.1 vwCl ((((o1, .inl (G.2.1 2, 1, .inr (.inl ov))) :: xW G x0 ad u1) ++ (mW G o am v1)) ++ []) H := by rw [List.append_nil]; exact hP
  have hDn : va_D (fun q : Nat => s.heap.size ≤ q) ((((o1, .inl (G.2.1 2, 1, .inr (.inl ov))) :: xW G x0 ad u1) ++ (mW G o am v1)) ++ []) := by rw [List.append_nil]; exact hD
  refine b_calli (P := ((o1, .inl (G.2.1 2, 1, .inr (.inl ov))) :: xW G x0 ad u1)) (B := (mW G o am v1)) (T := []) (g_runV (As := []) (rest := []) ⟨hx, hb, hml, hown, htu⟩ (m_thrown l G _ o am v1) uM_L_73 ok_X4_thrown in_X4_thrown rfl rfl ⟨Nat.le_of_ble_eq_true rfl, Nat.le_of_ble_eq_true rfl⟩ hK hPn hDn hS hA hZ (List.range' ((o1, .inl (G.2.1 2, 1, .inr (.inl ov))) :: xW G x0 ad u1).length (mW G o am v1).length) (blkC ((o1, .inl (G.2.1 2, 1, .inr (.inl ov))) :: xW G x0 ad u1) (mW G o am v1) []) (va_nd_of List.nodup_range') 68 rfl rfl rfl rfl hl.1 rfl (Nat.le_of_ble_eq_true rfl) dL_law_561 ⟨by show _ ≤ 601024; omega, by show _ ≤ 7293033; omega⟩) hPn hDn hS hA (fun r3 _ H locs er3 hP hD hS => ?_)
  rw [List.append_nil] at hP hD
  subst er3
  have hP : va_P G.1 vwCl (((o1, .inl (G.2.1 2, 1, .inr (.inl ov))) :: xW G x0 ad u1) ++ mW G o am v1) H := hP
  have hD : va_D (fun q : Nat => s.heap.size ≤ q) (((o1, .inl (G.2.1 2, 1, .inr (.inl ov))) :: xW G x0 ad u1) ++ mW G o am v1) := hD
  refine lv_iload hx hb dL_law_564 (lv_at hl 0 rfl) ?_
  refine lv_icmp_eq (tgt := 571) hx hb dL_law_566 (by decide) (fun _ => ?_) (fun c_566 => absurd (hm1.2.1) c_566)
  refine lv_goto (tgt := 1048) hx hb dL_law_571 (by decide) ?_
  refine W.widen (k := cells + 1) (n := slots + 6) (by omega) (by omega) ?_
  exact kk u1 v1 ov E.2.2 _ _ _ hR1 hm1.1 hP hD hS (lv_sub hl [1, 2, 3, 4, 5] rfl)
set_option maxHeartbeats 4000000 in
set_option maxRecDepth 100000 in
theorem law_about {p : Program} {l : Launch} {e : Env} {s : State} {m : MethodId} {below : List Frame} {meth : Method} {c : Code} {b L x0 o o1 j cells slots : Nat} {xs : Nat → Int32} {G : GW} {ad am : Nat → Nat} {ov : Nat → Int64} {u : XU} {v : MST} {A0 : AS} {Q : State → Prop} {H : Heap} {locs : List Loc} {ls : Array Slot} (hT9 : l.stackTraces = false) (hx : p.tables.exec = Jvm.exec) (hb : c.code = code) (hml : c.maxLocals = 8) (hown : s.vm.findClass RL = some m.cls) (htu : ∀ w ∈ UW, w.before #[Value.ref b] s = true) (hX : va_X b L xs s s.heap) (hbl : b < s.heap.size) (hK : gK G s) (hZ : gZ G (fun q : Nat => s.heap.size ≤ q) s s.heap) (hL : L ≤ 2048) (hj : 4 * j + 4 ≤ L) (hc : cells + 1 ≤ 601024) (hs : slots + 6 ≤ 7293033) (hR : XR u A0) (hM : MR v A0) (hP : va_P G.1 vwCl (((o1, .inl (G.2.1 2, 1, .inr (.inl ov))) :: xW G x0 ad u) ++ mW G o am v) H) (hD : va_D (fun q : Nat => s.heap.size ≤ q) (((o1, .inl (G.2.1 2, 1, .inr (.inl ov))) :: xW G x0 ad u) ++ mW G o am v)) (hS : va_S (fun q : Nat => s.heap.size ≤ q) s.heap H locs) (hl : lv_has ls 8 [(4, .int (nI (4 * j))), (0, .ref b), (1, .ref x0), (2, .ref o), (3, .ref o1)])
    (kk : ∀ (u1 : XU) (v1 : MST) (ov1 : Nat → Int64) (A1 : AS) (H : Heap) (locs : List Loc) (ls : Array Slot), XR u1 A1 → MR v1 A1 → va_P G.1 vwCl (((o1, .inl (G.2.1 2, 1, .inr (.inl ov1))) :: xW G x0 ad u1) ++ mW G o am v1) H → va_D (fun q : Nat => s.heap.size ≤ q) (((o1, .inl (G.2.1 2, 1, .inr (.inl ov1))) :: xW G x0 ad u1) ++ mW G o am v1) → va_S (fun q : Nat => s.heap.size ≤ q) s.heap H locs → lv_has ls 8 [(4, .int (nI (4 * j))), (0, .ref b), (1, .ref x0), (2, .ref o), (3, .ref o1)] → W p l e room_1 s m #[Value.ref b] below meth c H locs (cells + 1) (slots + 6) Q (F0 m 1048 ls [])) : W p l e room_1 s m #[Value.ref b] below meth c H locs cells slots Q (F0 m 574 ls []) := by
  have hA : ∀ q : Nat, s.heap.size ≤ q → (fun q : Nat => s.heap.size ≤ q) q := fun _ h => h
  have hbA : ¬ (fun q : Nat => s.heap.size ≤ q) b := Nat.not_le.mpr hbl
  refine lv_aload_n hx hb dL_law_574 rfl (lv_at hl 2 rfl) ?_
  refine lv_aload_n hx hb dL_law_575 rfl (lv_at hl 1 rfl) ?_
  refine lv_iload hx hb dL_law_576 (lv_at hl 0 rfl) ?_
  refine lv_iconst (v := nI 1) hx hb dL_law_578 (by decide) ?_
  refine lv_iadd hx hb dL_law_579 ?_
  refine g_toi (y := nI (4 * j + 1)) (nI_add (4 * j) 1) ?_
  refine va_sld hx hb hX hbl hbA hS (vp_in_nI (by omega) (by omega)) dL_law_580 ?_
  refine lv_aload_n hx hb dL_law_581 rfl (lv_at hl 1 rfl) ?_
  refine lv_iload hx hb dL_law_582 (lv_at hl 0 rfl) ?_
  refine lv_iconst (v := nI 2) hx hb dL_law_584 (by decide) ?_
  refine lv_iadd hx hb dL_law_585 ?_
  refine g_toi (y := nI (4 * j + 2)) (nI_add (4 * j) 2) ?_
  refine va_sld hx hb hX hbl hbA hS (vp_in_nI (by omega) (by omega)) dL_law_586 ?_
  refine lv_aload_n hx hb dL_law_587 rfl (lv_at hl 4 rfl) ?_
  obtain ⟨E, hE⟩ : ∃ E : AO, aboutA A0 (xs (nI (4 * j + 1)).toNatClampNeg) (xs (nI (4 * j + 2)).toNatClampNeg) = E := ⟨_, rfl⟩
  have h4 : E.1 < 4 := by rw [← hE]; exact aboutA_lt _ _ _
  have hPn : va_P G.1 vwCl ((([] : va_W) ++ ((o1, .inl (G.2.1 2, 1, .inr (.inl ov))) :: xW G x0 ad u)) ++ (mW G o am v)) H := hP
  have hDn : va_D (fun q : Nat => s.heap.size ≤ q) ((([] : va_W) ++ ((o1, .inl (G.2.1 2, 1, .inr (.inl ov))) :: xW G x0 ad u)) ++ (mW G o am v)) := hD
  refine b_calli (P := ([] : va_W)) (B := ((o1, .inl (G.2.1 2, 1, .inr (.inl ov))) :: xW G x0 ad u)) (T := (mW G o am v)) (g_runSW (n := 4) (As := [.ref x0, .int (xs (nI (4 * j + 1)).toNatClampNeg), .int (xs (nI (4 * j + 2)).toNatClampNeg), .ref o1]) (rest := []) ⟨hx, hb, hml, hown, htu⟩ (l_about l hT9 G _ x0 o1 ad ov u A0 (xs (nI (4 * j + 1)).toNatClampNeg) (xs (nI (4 * j + 2)).toNatClampNeg) E hR hE) uM_L_99 uW_L_about uN_L (by decide +kernel) uA_L_about rfl rfl ⟨Nat.le_of_ble_eq_true rfl, Nat.le_of_ble_eq_true rfl⟩ hK hPn hDn hS hA hZ (List.range' ([] : va_W).length ((o1, .inl (G.2.1 2, 1, .inr (.inl ov))) :: xW G x0 ad u).length) (blkC ([] : va_W) ((o1, .inl (G.2.1 2, 1, .inr (.inl ov))) :: xW G x0 ad u) (mW G o am v)) (va_nd_of List.nodup_range') rfl hl.1 rfl (Nat.le_of_ble_eq_true rfl) dL_law_588 ⟨hc, hs⟩) hPn hDn hS hA (fun r w1 H locs hw hP hD hS => ?_)
  obtain ⟨u1, ov1⟩ := w1
  obtain ⟨er, hR1, hv1⟩ := hw
  have hv1 : E.1 = 0 → ov1 0 = E.2.1 := hv1
  have hR1 : XR u1 E.2.2 := hR1
  subst er
  have hP : va_P G.1 vwCl (((o1, .inl (G.2.1 2, 1, .inr (.inl ov1))) :: xW G x0 ad u1) ++ mW G o am v) H := hP
  have hD : va_D (fun q : Nat => s.heap.size ≤ q) (((o1, .inl (G.2.1 2, 1, .inr (.inl ov1))) :: xW G x0 ad u1) ++ mW G o am v) := hD
  refine lv_istore (lv' := [(5, .int (nI E.1)), (4, .int (nI (4 * j))), (0, .ref b), (1, .ref x0), (2, .ref o), (3, .ref o1)]) hx hb dL_law_591 hl (by decide) rfl (fun ls hl => ?_)
  refine lv_aload_n hx hb dL_law_593 rfl (lv_at hl 4 rfl) ?_
  refine lv_aload_n hx hb dL_law_594 rfl (lv_at hl 2 rfl) ?_
  refine lv_iload hx hb dL_law_595 (lv_at hl 1 rfl) ?_
  refine lv_iconst (v := nI 1) hx hb dL_law_597 (by decide) ?_
  refine lv_iadd hx hb dL_law_598 ?_
  refine g_toi (y := nI (4 * j + 1)) (nI_add (4 * j) 1) ?_
  refine va_sld hx hb hX hbl hbA hS (vp_in_nI (by omega) (by omega)) dL_law_599 ?_
  refine lv_aload_n hx hb dL_law_600 rfl (lv_at hl 2 rfl) ?_
  refine lv_iload hx hb dL_law_601 (lv_at hl 1 rfl) ?_
  refine lv_iconst (v := nI 2) hx hb dL_law_603 (by decide) ?_
  refine lv_iadd hx hb dL_law_604 ?_
  refine g_toi (y := nI (4 * j + 2)) (nI_add (4 * j) 2) ?_
  refine va_sld hx hb hX hbl hbA hS (vp_in_nI (by omega) (by omega)) dL_law_605 ?_
  have hPn : va_P G.1 vwCl ((((o1, .inl (G.2.1 2, 1, .inr (.inl ov1))) :: xW G x0 ad u1) ++ (mW G o am v)) ++ []) H := by rw [List.append_nil]; exact hP
  have hDn : va_D (fun q : Nat => s.heap.size ≤ q) ((((o1, .inl (G.2.1 2, 1, .inr (.inl ov1))) :: xW G x0 ad u1) ++ (mW G o am v)) ++ []) := by rw [List.append_nil]; exact hD
  refine b_calli (P := ((o1, .inl (G.2.1 2, 1, .inr (.inl ov1))) :: xW G x0 ad u1)) (B := (mW G o am v)) (T := []) (g_runV (As := [.int (xs (nI (4 * j + 1)).toNatClampNeg), .int (xs (nI (4 * j + 2)).toNatClampNeg)]) (rest := []) ⟨hx, hb, hml, hown, htu⟩ (m_about l G _ o am v A0 (xs (nI (4 * j + 1)).toNatClampNeg) (xs (nI (4 * j + 2)).toNatClampNeg) E hM hE) uM_L_101 ok_X4_about in_X4_about rfl rfl ⟨Nat.le_of_ble_eq_true rfl, Nat.le_of_ble_eq_true rfl⟩ hK hPn hDn hS hA hZ (List.range' ((o1, .inl (G.2.1 2, 1, .inr (.inl ov1))) :: xW G x0 ad u1).length (mW G o am v).length) (blkC ((o1, .inl (G.2.1 2, 1, .inr (.inl ov1))) :: xW G x0 ad u1) (mW G o am v) []) (va_nd_of List.nodup_range') 68 rfl rfl rfl rfl hl.1 rfl (Nat.le_of_ble_eq_true rfl) dL_law_606 ⟨by show _ ≤ 601024; omega, by show _ ≤ 7293033; omega⟩) hPn hDn hS hA (fun r2 v1 H locs hm1 hP hD hS => ?_)
  rw [List.append_nil] at hP hD
  have hm1 : MR v1 E.2.2 ∧ v1.2.2.1 = nI E.1 ∧ (E.1 = 0 → (Int32.toInt64 r2) = E.2.1) := hm1
  have hP : va_P G.1 vwCl (((o1, .inl (G.2.1 2, 1, .inr (.inl ov1))) :: xW G x0 ad u1) ++ mW G o am v1) H := hP
  have hD : va_D (fun q : Nat => s.heap.size ≤ q) (((o1, .inl (G.2.1 2, 1, .inr (.inl ov1))) :: xW G x0 ad u1) ++ mW G o am v1) := hD
  refine lv_istore (lv' := [(6, .int r2), (5, .int (nI E.1)), (4, .int (nI (4 * j))), (0, .ref b), (1, .ref x0), (2, .ref o), (3, .ref o1)]) hx hb dL_law_609 hl (by decide) rfl (fun ls hl => ?_)
  refine lv_aload_n hx hb dL_law_611 rfl (lv_at hl 5 rfl) ?_
  have hPn : va_P G.1 vwCl ((((o1, .inl (G.2.1 2, 1, .inr (.inl ov1))) :: xW G x0 ad u1) ++ (mW G o am v1)) ++ []) H := by rw [List.append_nil]; exact hP
  have hDn : va_D (fun q : Nat => s.heap.size ≤ q) ((((o1, .inl (G.2.1 2, 1, .inr (.inl ov1))) :: xW G x0 ad u1) ++ (mW G o am v1)) ++ []) := by rw [List.append_nil]; exact hD
  refine b_calli (P := ((o1, .inl (G.2.1 2, 1, .inr (.inl ov1))) :: xW G x0 ad u1)) (B := (mW G o am v1)) (T := []) (g_runV (As := []) (rest := []) ⟨hx, hb, hml, hown, htu⟩ (m_thrown l G _ o am v1) uM_L_73 ok_X4_thrown in_X4_thrown rfl rfl ⟨Nat.le_of_ble_eq_true rfl, Nat.le_of_ble_eq_true rfl⟩ hK hPn hDn hS hA hZ (List.range' ((o1, .inl (G.2.1 2, 1, .inr (.inl ov1))) :: xW G x0 ad u1).length (mW G o am v1).length) (blkC ((o1, .inl (G.2.1 2, 1, .inr (.inl ov1))) :: xW G x0 ad u1) (mW G o am v1) []) (va_nd_of List.nodup_range') 68 rfl rfl rfl rfl hl.1 rfl (Nat.le_of_ble_eq_true rfl) dL_law_612 ⟨by show _ ≤ 601024; omega, by show _ ≤ 7293033; omega⟩) hPn hDn hS hA (fun r3 _ H locs er3 hP hD hS => ?_)
  rw [List.append_nil] at hP hD
  subst er3
  have hP : va_P G.1 vwCl (((o1, .inl (G.2.1 2, 1, .inr (.inl ov1))) :: xW G x0 ad u1) ++ mW G o am v1) H := hP
  have hD : va_D (fun q : Nat => s.heap.size ≤ q) (((o1, .inl (G.2.1 2, 1, .inr (.inl ov1))) :: xW G x0 ad u1) ++ mW G o am v1) := hD
  refine lv_iload hx hb dL_law_615 (lv_at hl 1 rfl) ?_
  refine lv_icmp_eq (tgt := 622) hx hb dL_law_617 (by decide) (fun _ => ?_) (fun c_617 => absurd (hm1.2.1) c_617)
  refine lv_iload hx hb dL_law_622 (lv_at hl 1 rfl) ?_
  refine lv_if_ne (tgt := 639) hx hb dL_law_624 (by decide) (fun c_624 => ?_) (fun c_624 => ?_)
  · skip
    refine lv_goto (tgt := 1048) hx hb dL_law_639 (by decide) ?_
    refine W.widen (k := cells + 1) (n := slots + 6) (by omega) (by omega) ?_
    exact kk u1 v1 ov1 E.2.2 _ _ _ hR1 hm1.1 hP hD hS (lv_sub hl [2, 3, 4, 5, 6] rfl)
  · skip
    have h0 : E.1 = 0 := nE0 h4 c_624
    refine lv_aload_n hx hb dL_law_627 rfl (lv_at hl 6 rfl) ?_
    refine lv_iconst (v := nI 0) hx hb dL_law_628 (by decide) ?_
    refine g_lald hx hb hK.1 hP 0 2 rfl rfl ⟨by decide, by decide⟩ dL_law_629 ?_
    refine lv_iload hx hb dL_law_630 (lv_at hl 0 rfl) ?_
    refine lv_i2l (v := Int32.toInt64 r2) hx hb dL_law_632 rfl ?_
    refine W.lcmp hx hb dL_law_633 ?_
    refine lv_if_eq (tgt := 639) hx hb dL_law_634 (by decide) (fun _ => ?_) (fun c_634 => absurd (lcmp0 ((hv1 h0).trans (hm1.2.2 h0).symm)) c_634)
    refine lv_goto (tgt := 1048) hx hb dL_law_639 (by decide) ?_
    refine W.widen (k := cells + 1) (n := slots + 6) (by omega) (by omega) ?_
    exact kk u1 v1 ov1 E.2.2 _ _ _ hR1 hm1.1 hP hD hS (lv_sub hl [2, 3, 4, 5, 6] rfl)
set_option maxHeartbeats 4000000 in
set_option maxRecDepth 100000 in
theorem law_hold {p : Program} {l : Launch} {e : Env} {s : State} {m : MethodId} {below : List Frame} {meth : Method} {c : Code} {b L x0 o o1 j cells slots : Nat} {xs : Nat → Int32} {G : GW} {ad am : Nat → Nat} {ov : Nat → Int64} {u : XU} {v : MST} {A0 : AS} {Q : State → Prop} {H : Heap} {locs : List Loc} {ls : Array Slot} (hT9 : l.stackTraces = false) (hx : p.tables.exec = Jvm.exec) (hb : c.code = code) (hml : c.maxLocals = 8) (hown : s.vm.findClass RL = some m.cls) (htu : ∀ w ∈ UW, w.before #[Value.ref b] s = true) (hX : va_X b L xs s s.heap) (hbl : b < s.heap.size) (hK : gK G s) (hZ : gZ G (fun q : Nat => s.heap.size ≤ q) s s.heap) (hL : L ≤ 2048) (hj : 4 * j + 4 ≤ L) (hc : cells + 1 ≤ 601024) (hs : slots + 6 ≤ 7293033) (hR : XR u A0) (hM : MR v A0) (hP : va_P G.1 vwCl (((o1, .inl (G.2.1 2, 1, .inr (.inl ov))) :: xW G x0 ad u) ++ mW G o am v) H) (hD : va_D (fun q : Nat => s.heap.size ≤ q) (((o1, .inl (G.2.1 2, 1, .inr (.inl ov))) :: xW G x0 ad u) ++ mW G o am v)) (hS : va_S (fun q : Nat => s.heap.size ≤ q) s.heap H locs) (hl : lv_has ls 8 [(4, .int (nI (4 * j))), (0, .ref b), (1, .ref x0), (2, .ref o), (3, .ref o1)])
    (kk : ∀ (u1 : XU) (v1 : MST) (ov1 : Nat → Int64) (A1 : AS) (H : Heap) (locs : List Loc) (ls : Array Slot), XR u1 A1 → MR v1 A1 → va_P G.1 vwCl (((o1, .inl (G.2.1 2, 1, .inr (.inl ov1))) :: xW G x0 ad u1) ++ mW G o am v1) H → va_D (fun q : Nat => s.heap.size ≤ q) (((o1, .inl (G.2.1 2, 1, .inr (.inl ov1))) :: xW G x0 ad u1) ++ mW G o am v1) → va_S (fun q : Nat => s.heap.size ≤ q) s.heap H locs → lv_has ls 8 [(4, .int (nI (4 * j))), (0, .ref b), (1, .ref x0), (2, .ref o), (3, .ref o1)] → W p l e room_1 s m #[Value.ref b] below meth c H locs (cells + 1) (slots + 6) Q (F0 m 1048 ls [])) : W p l e room_1 s m #[Value.ref b] below meth c H locs cells slots Q (F0 m 642 ls []) := by
  have hA : ∀ q : Nat, s.heap.size ≤ q → (fun q : Nat => s.heap.size ≤ q) q := fun _ h => h
  have hbA : ¬ (fun q : Nat => s.heap.size ≤ q) b := Nat.not_le.mpr hbl
  refine lv_aload_n hx hb dL_law_642 rfl (lv_at hl 2 rfl) ?_
  refine lv_aload_n hx hb dL_law_643 rfl (lv_at hl 1 rfl) ?_
  refine lv_iload hx hb dL_law_644 (lv_at hl 0 rfl) ?_
  refine lv_iconst (v := nI 1) hx hb dL_law_646 (by decide) ?_
  refine lv_iadd hx hb dL_law_647 ?_
  refine g_toi (y := nI (4 * j + 1)) (nI_add (4 * j) 1) ?_
  refine va_sld hx hb hX hbl hbA hS (vp_in_nI (by omega) (by omega)) dL_law_648 ?_
  refine lv_aload_n hx hb dL_law_649 rfl (lv_at hl 4 rfl) ?_
  obtain ⟨E, hE⟩ : ∃ E : AO, holdA A0 (xs (nI (4 * j + 1)).toNatClampNeg) = E := ⟨_, rfl⟩
  have h4 : E.1 < 4 := by rw [← hE]; exact holdA_lt _ _
  have hPn : va_P G.1 vwCl ((([] : va_W) ++ ((o1, .inl (G.2.1 2, 1, .inr (.inl ov))) :: xW G x0 ad u)) ++ (mW G o am v)) H := hP
  have hDn : va_D (fun q : Nat => s.heap.size ≤ q) ((([] : va_W) ++ ((o1, .inl (G.2.1 2, 1, .inr (.inl ov))) :: xW G x0 ad u)) ++ (mW G o am v)) := hD
  refine b_calli (P := ([] : va_W)) (B := ((o1, .inl (G.2.1 2, 1, .inr (.inl ov))) :: xW G x0 ad u)) (T := (mW G o am v)) (g_runSW (n := 3) (As := [.ref x0, .int (xs (nI (4 * j + 1)).toNatClampNeg), .ref o1]) (rest := []) ⟨hx, hb, hml, hown, htu⟩ (l_hold l hT9 G _ x0 o1 ad ov u A0 (xs (nI (4 * j + 1)).toNatClampNeg) E hR hE) uM_L_102 uW_L_hold uN_L (by decide +kernel) uA_L_hold rfl rfl ⟨Nat.le_of_ble_eq_true rfl, Nat.le_of_ble_eq_true rfl⟩ hK hPn hDn hS hA hZ (List.range' ([] : va_W).length ((o1, .inl (G.2.1 2, 1, .inr (.inl ov))) :: xW G x0 ad u).length) (blkC ([] : va_W) ((o1, .inl (G.2.1 2, 1, .inr (.inl ov))) :: xW G x0 ad u) (mW G o am v)) (va_nd_of List.nodup_range') rfl hl.1 rfl (Nat.le_of_ble_eq_true rfl) dL_law_650 ⟨hc, hs⟩) hPn hDn hS hA (fun r w1 H locs hw hP hD hS => ?_)
  obtain ⟨u1, ov1⟩ := w1
  obtain ⟨er, hR1, hv1⟩ := hw
  have hv1 : E.1 = 0 → ov1 0 = E.2.1 := hv1
  have hR1 : XR u1 E.2.2 := hR1
  subst er
  have hP : va_P G.1 vwCl (((o1, .inl (G.2.1 2, 1, .inr (.inl ov1))) :: xW G x0 ad u1) ++ mW G o am v) H := hP
  have hD : va_D (fun q : Nat => s.heap.size ≤ q) (((o1, .inl (G.2.1 2, 1, .inr (.inl ov1))) :: xW G x0 ad u1) ++ mW G o am v) := hD
  refine lv_istore (lv' := [(5, .int (nI E.1)), (4, .int (nI (4 * j))), (0, .ref b), (1, .ref x0), (2, .ref o), (3, .ref o1)]) hx hb dL_law_653 hl (by decide) rfl (fun ls hl => ?_)
  refine lv_aload_n hx hb dL_law_655 rfl (lv_at hl 4 rfl) ?_
  refine lv_aload_n hx hb dL_law_656 rfl (lv_at hl 2 rfl) ?_
  refine lv_iload hx hb dL_law_657 (lv_at hl 1 rfl) ?_
  refine lv_iconst (v := nI 1) hx hb dL_law_659 (by decide) ?_
  refine lv_iadd hx hb dL_law_660 ?_
  refine g_toi (y := nI (4 * j + 1)) (nI_add (4 * j) 1) ?_
  refine va_sld hx hb hX hbl hbA hS (vp_in_nI (by omega) (by omega)) dL_law_661 ?_
  have hPn : va_P G.1 vwCl ((((o1, .inl (G.2.1 2, 1, .inr (.inl ov1))) :: xW G x0 ad u1) ++ (mW G o am v)) ++ []) H := by rw [List.append_nil]; exact hP
  have hDn : va_D (fun q : Nat => s.heap.size ≤ q) ((((o1, .inl (G.2.1 2, 1, .inr (.inl ov1))) :: xW G x0 ad u1) ++ (mW G o am v)) ++ []) := by rw [List.append_nil]; exact hD
  refine b_calli (P := ((o1, .inl (G.2.1 2, 1, .inr (.inl ov1))) :: xW G x0 ad u1)) (B := (mW G o am v)) (T := []) (g_runV (As := [.int (xs (nI (4 * j + 1)).toNatClampNeg)]) (rest := []) ⟨hx, hb, hml, hown, htu⟩ (m_hold l G _ o am v A0 (xs (nI (4 * j + 1)).toNatClampNeg) E hM hE) uM_L_104 ok_X4_hold in_X4_hold rfl rfl ⟨Nat.le_of_ble_eq_true rfl, Nat.le_of_ble_eq_true rfl⟩ hK hPn hDn hS hA hZ (List.range' ((o1, .inl (G.2.1 2, 1, .inr (.inl ov1))) :: xW G x0 ad u1).length (mW G o am v).length) (blkC ((o1, .inl (G.2.1 2, 1, .inr (.inl ov1))) :: xW G x0 ad u1) (mW G o am v) []) (va_nd_of List.nodup_range') 68 rfl rfl rfl rfl hl.1 rfl (Nat.le_of_ble_eq_true rfl) dL_law_662 ⟨by show _ ≤ 601024; omega, by show _ ≤ 7293033; omega⟩) hPn hDn hS hA (fun r2 v1 H locs hm1 hP hD hS => ?_)
  rw [List.append_nil] at hP hD
  have hm1 : MR v1 E.2.2 ∧ v1.2.2.1 = nI E.1 ∧ (E.1 = 0 → (Int32.toInt64 r2) = E.2.1) := hm1
  have hP : va_P G.1 vwCl (((o1, .inl (G.2.1 2, 1, .inr (.inl ov1))) :: xW G x0 ad u1) ++ mW G o am v1) H := hP
  have hD : va_D (fun q : Nat => s.heap.size ≤ q) (((o1, .inl (G.2.1 2, 1, .inr (.inl ov1))) :: xW G x0 ad u1) ++ mW G o am v1) := hD
  refine lv_istore (lv' := [(6, .int r2), (5, .int (nI E.1)), (4, .int (nI (4 * j))), (0, .ref b), (1, .ref x0), (2, .ref o), (3, .ref o1)]) hx hb dL_law_665 hl (by decide) rfl (fun ls hl => ?_)
  refine lv_aload_n hx hb dL_law_667 rfl (lv_at hl 5 rfl) ?_
  have hPn : va_P G.1 vwCl ((((o1, .inl (G.2.1 2, 1, .inr (.inl ov1))) :: xW G x0 ad u1) ++ (mW G o am v1)) ++ []) H := by rw [List.append_nil]; exact hP
  have hDn : va_D (fun q : Nat => s.heap.size ≤ q) ((((o1, .inl (G.2.1 2, 1, .inr (.inl ov1))) :: xW G x0 ad u1) ++ (mW G o am v1)) ++ []) := by rw [List.append_nil]; exact hD
  refine b_calli (P := ((o1, .inl (G.2.1 2, 1, .inr (.inl ov1))) :: xW G x0 ad u1)) (B := (mW G o am v1)) (T := []) (g_runV (As := []) (rest := []) ⟨hx, hb, hml, hown, htu⟩ (m_thrown l G _ o am v1) uM_L_73 ok_X4_thrown in_X4_thrown rfl rfl ⟨Nat.le_of_ble_eq_true rfl, Nat.le_of_ble_eq_true rfl⟩ hK hPn hDn hS hA hZ (List.range' ((o1, .inl (G.2.1 2, 1, .inr (.inl ov1))) :: xW G x0 ad u1).length (mW G o am v1).length) (blkC ((o1, .inl (G.2.1 2, 1, .inr (.inl ov1))) :: xW G x0 ad u1) (mW G o am v1) []) (va_nd_of List.nodup_range') 68 rfl rfl rfl rfl hl.1 rfl (Nat.le_of_ble_eq_true rfl) dL_law_668 ⟨by show _ ≤ 601024; omega, by show _ ≤ 7293033; omega⟩) hPn hDn hS hA (fun r3 _ H locs er3 hP hD hS => ?_)
  rw [List.append_nil] at hP hD
  subst er3
  have hP : va_P G.1 vwCl (((o1, .inl (G.2.1 2, 1, .inr (.inl ov1))) :: xW G x0 ad u1) ++ mW G o am v1) H := hP
  have hD : va_D (fun q : Nat => s.heap.size ≤ q) (((o1, .inl (G.2.1 2, 1, .inr (.inl ov1))) :: xW G x0 ad u1) ++ mW G o am v1) := hD
  refine lv_iload hx hb dL_law_671 (lv_at hl 1 rfl) ?_
  refine lv_icmp_eq (tgt := 678) hx hb dL_law_673 (by decide) (fun _ => ?_) (fun c_673 => absurd (hm1.2.1) c_673)
  refine lv_iload hx hb dL_law_678 (lv_at hl 1 rfl) ?_
  refine lv_if_ne (tgt := 695) hx hb dL_law_680 (by decide) (fun c_680 => ?_) (fun c_680 => ?_)
  · skip
    refine lv_goto (tgt := 1048) hx hb dL_law_695 (by decide) ?_
    refine W.widen (k := cells + 1) (n := slots + 6) (by omega) (by omega) ?_
    exact kk u1 v1 ov1 E.2.2 _ _ _ hR1 hm1.1 hP hD hS (lv_sub hl [2, 3, 4, 5, 6] rfl)
  · skip
    have h0 : E.1 = 0 := nE0 h4 c_680
    refine lv_aload_n hx hb dL_law_683 rfl (lv_at hl 6 rfl) ?_
    refine lv_iconst (v := nI 0) hx hb dL_law_684 (by decide) ?_
    refine g_lald hx hb hK.1 hP 0 2 rfl rfl ⟨by decide, by decide⟩ dL_law_685 ?_
    refine lv_iload hx hb dL_law_686 (lv_at hl 0 rfl) ?_
    refine lv_i2l (v := Int32.toInt64 r2) hx hb dL_law_688 rfl ?_
    refine W.lcmp hx hb dL_law_689 ?_
    refine lv_if_eq (tgt := 695) hx hb dL_law_690 (by decide) (fun _ => ?_) (fun c_690 => absurd (lcmp0 ((hv1 h0).trans (hm1.2.2 h0).symm)) c_690)
    refine lv_goto (tgt := 1048) hx hb dL_law_695 (by decide) ?_
    refine W.widen (k := cells + 1) (n := slots + 6) (by omega) (by omega) ?_
    exact kk u1 v1 ov1 E.2.2 _ _ _ hR1 hm1.1 hP hD hS (lv_sub hl [2, 3, 4, 5, 6] rfl)
set_option maxHeartbeats 4000000 in
set_option maxRecDepth 100000 in
theorem law_keep {p : Program} {l : Launch} {e : Env} {s : State} {m : MethodId} {below : List Frame} {meth : Method} {c : Code} {b L x0 o o1 j cells slots : Nat} {xs : Nat → Int32} {G : GW} {ad am : Nat → Nat} {ov : Nat → Int64} {u : XU} {v : MST} {A0 : AS} {Q : State → Prop} {H : Heap} {locs : List Loc} {ls : Array Slot} (hT9 : l.stackTraces = false) (hx : p.tables.exec = Jvm.exec) (hb : c.code = code) (hml : c.maxLocals = 8) (hown : s.vm.findClass RL = some m.cls) (htu : ∀ w ∈ UW, w.before #[Value.ref b] s = true) (hX : va_X b L xs s s.heap) (hbl : b < s.heap.size) (hK : gK G s) (hZ : gZ G (fun q : Nat => s.heap.size ≤ q) s s.heap) (hL : L ≤ 2048) (hj : 4 * j + 4 ≤ L) (hc : cells + 1 ≤ 601024) (hs : slots + 6 ≤ 7293033) (hR : XR u A0) (hM : MR v A0) (hP : va_P G.1 vwCl (((o1, .inl (G.2.1 2, 1, .inr (.inl ov))) :: xW G x0 ad u) ++ mW G o am v) H) (hD : va_D (fun q : Nat => s.heap.size ≤ q) (((o1, .inl (G.2.1 2, 1, .inr (.inl ov))) :: xW G x0 ad u) ++ mW G o am v)) (hS : va_S (fun q : Nat => s.heap.size ≤ q) s.heap H locs) (hl : lv_has ls 8 [(4, .int (nI (4 * j))), (0, .ref b), (1, .ref x0), (2, .ref o), (3, .ref o1)])
    (kk : ∀ (u1 : XU) (v1 : MST) (ov1 : Nat → Int64) (A1 : AS) (H : Heap) (locs : List Loc) (ls : Array Slot), XR u1 A1 → MR v1 A1 → va_P G.1 vwCl (((o1, .inl (G.2.1 2, 1, .inr (.inl ov1))) :: xW G x0 ad u1) ++ mW G o am v1) H → va_D (fun q : Nat => s.heap.size ≤ q) (((o1, .inl (G.2.1 2, 1, .inr (.inl ov1))) :: xW G x0 ad u1) ++ mW G o am v1) → va_S (fun q : Nat => s.heap.size ≤ q) s.heap H locs → lv_has ls 8 [(4, .int (nI (4 * j))), (0, .ref b), (1, .ref x0), (2, .ref o), (3, .ref o1)] → W p l e room_1 s m #[Value.ref b] below meth c H locs (cells + 1) (slots + 6) Q (F0 m 1048 ls [])) : W p l e room_1 s m #[Value.ref b] below meth c H locs cells slots Q (F0 m 698 ls []) := by
  have hA : ∀ q : Nat, s.heap.size ≤ q → (fun q : Nat => s.heap.size ≤ q) q := fun _ h => h
  have hbA : ¬ (fun q : Nat => s.heap.size ≤ q) b := Nat.not_le.mpr hbl
  refine lv_aload_n hx hb dL_law_698 rfl (lv_at hl 2 rfl) ?_
  refine lv_aload_n hx hb dL_law_699 rfl (lv_at hl 1 rfl) ?_
  refine lv_iload hx hb dL_law_700 (lv_at hl 0 rfl) ?_
  refine lv_iconst (v := nI 1) hx hb dL_law_702 (by decide) ?_
  refine lv_iadd hx hb dL_law_703 ?_
  refine g_toi (y := nI (4 * j + 1)) (nI_add (4 * j) 1) ?_
  refine va_sld hx hb hX hbl hbA hS (vp_in_nI (by omega) (by omega)) dL_law_704 ?_
  refine lv_aload_n hx hb dL_law_705 rfl (lv_at hl 4 rfl) ?_
  obtain ⟨E, hE⟩ : ∃ E : AO, keepA A0 (xs (nI (4 * j + 1)).toNatClampNeg) = E := ⟨_, rfl⟩
  have h4 : E.1 < 4 := by rw [← hE]; exact keepA_lt _ _
  have hPn : va_P G.1 vwCl ((([] : va_W) ++ ((o1, .inl (G.2.1 2, 1, .inr (.inl ov))) :: xW G x0 ad u)) ++ (mW G o am v)) H := hP
  have hDn : va_D (fun q : Nat => s.heap.size ≤ q) ((([] : va_W) ++ ((o1, .inl (G.2.1 2, 1, .inr (.inl ov))) :: xW G x0 ad u)) ++ (mW G o am v)) := hD
  refine b_calli (P := ([] : va_W)) (B := ((o1, .inl (G.2.1 2, 1, .inr (.inl ov))) :: xW G x0 ad u)) (T := (mW G o am v)) (g_runSW (n := 3) (As := [.ref x0, .int (xs (nI (4 * j + 1)).toNatClampNeg), .ref o1]) (rest := []) ⟨hx, hb, hml, hown, htu⟩ (l_keep l hT9 G _ x0 o1 ad ov u A0 (xs (nI (4 * j + 1)).toNatClampNeg) E hR hE) uM_L_105 uW_L_keep uN_L (by decide +kernel) uA_L_keep rfl rfl ⟨Nat.le_of_ble_eq_true rfl, Nat.le_of_ble_eq_true rfl⟩ hK hPn hDn hS hA hZ (List.range' ([] : va_W).length ((o1, .inl (G.2.1 2, 1, .inr (.inl ov))) :: xW G x0 ad u).length) (blkC ([] : va_W) ((o1, .inl (G.2.1 2, 1, .inr (.inl ov))) :: xW G x0 ad u) (mW G o am v)) (va_nd_of List.nodup_range') rfl hl.1 rfl (Nat.le_of_ble_eq_true rfl) dL_law_706 ⟨hc, hs⟩) hPn hDn hS hA (fun r w1 H locs hw hP hD hS => ?_)
  obtain ⟨u1, ov1⟩ := w1
  obtain ⟨er, hR1, hv1⟩ := hw
  have hv1 : E.1 = 0 → ov1 0 = E.2.1 := hv1
  have hR1 : XR u1 E.2.2 := hR1
  subst er
  have hP : va_P G.1 vwCl (((o1, .inl (G.2.1 2, 1, .inr (.inl ov1))) :: xW G x0 ad u1) ++ mW G o am v) H := hP
  have hD : va_D (fun q : Nat => s.heap.size ≤ q) (((o1, .inl (G.2.1 2, 1, .inr (.inl ov1))) :: xW G x0 ad u1) ++ mW G o am v) := hD
  refine lv_istore (lv' := [(5, .int (nI E.1)), (4, .int (nI (4 * j))), (0, .ref b), (1, .ref x0), (2, .ref o), (3, .ref o1)]) hx hb dL_law_709 hl (by decide) rfl (fun ls hl => ?_)
  refine lv_aload_n hx hb dL_law_711 rfl (lv_at hl 4 rfl) ?_
  refine lv_aload_n hx hb dL_law_712 rfl (lv_at hl 2 rfl) ?_
  refine lv_iload hx hb dL_law_713 (lv_at hl 1 rfl) ?_
  refine lv_iconst (v := nI 1) hx hb dL_law_715 (by decide) ?_
  refine lv_iadd hx hb dL_law_716 ?_
  refine g_toi (y := nI (4 * j + 1)) (nI_add (4 * j) 1) ?_
  refine va_sld hx hb hX hbl hbA hS (vp_in_nI (by omega) (by omega)) dL_law_717 ?_
  have hPn : va_P G.1 vwCl ((((o1, .inl (G.2.1 2, 1, .inr (.inl ov1))) :: xW G x0 ad u1) ++ (mW G o am v)) ++ []) H := by rw [List.append_nil]; exact hP
  have hDn : va_D (fun q : Nat => s.heap.size ≤ q) ((((o1, .inl (G.2.1 2, 1, .inr (.inl ov1))) :: xW G x0 ad u1) ++ (mW G o am v)) ++ []) := by rw [List.append_nil]; exact hD
  refine b_calli (P := ((o1, .inl (G.2.1 2, 1, .inr (.inl ov1))) :: xW G x0 ad u1)) (B := (mW G o am v)) (T := []) (g_runV (As := [.int (xs (nI (4 * j + 1)).toNatClampNeg)]) (rest := []) ⟨hx, hb, hml, hown, htu⟩ (m_keep l G _ o am v A0 (xs (nI (4 * j + 1)).toNatClampNeg) E hM hE) uM_L_107 ok_X4_keep in_X4_keep rfl rfl ⟨Nat.le_of_ble_eq_true rfl, Nat.le_of_ble_eq_true rfl⟩ hK hPn hDn hS hA hZ (List.range' ((o1, .inl (G.2.1 2, 1, .inr (.inl ov1))) :: xW G x0 ad u1).length (mW G o am v).length) (blkC ((o1, .inl (G.2.1 2, 1, .inr (.inl ov1))) :: xW G x0 ad u1) (mW G o am v) []) (va_nd_of List.nodup_range') 68 rfl rfl rfl rfl hl.1 rfl (Nat.le_of_ble_eq_true rfl) dL_law_718 ⟨by show _ ≤ 601024; omega, by show _ ≤ 7293033; omega⟩) hPn hDn hS hA (fun r2 v1 H locs hm1 hP hD hS => ?_)
  rw [List.append_nil] at hP hD
  have hm1 : MR v1 E.2.2 ∧ v1.2.2.1 = nI E.1 ∧ (E.1 = 0 → (Int32.toInt64 r2) = E.2.1) := hm1
  have hP : va_P G.1 vwCl (((o1, .inl (G.2.1 2, 1, .inr (.inl ov1))) :: xW G x0 ad u1) ++ mW G o am v1) H := hP
  have hD : va_D (fun q : Nat => s.heap.size ≤ q) (((o1, .inl (G.2.1 2, 1, .inr (.inl ov1))) :: xW G x0 ad u1) ++ mW G o am v1) := hD
  refine lv_istore (lv' := [(6, .int r2), (5, .int (nI E.1)), (4, .int (nI (4 * j))), (0, .ref b), (1, .ref x0), (2, .ref o), (3, .ref o1)]) hx hb dL_law_721 hl (by decide) rfl (fun ls hl => ?_)
  refine lv_aload_n hx hb dL_law_723 rfl (lv_at hl 5 rfl) ?_
  have hPn : va_P G.1 vwCl ((((o1, .inl (G.2.1 2, 1, .inr (.inl ov1))) :: xW G x0 ad u1) ++ (mW G o am v1)) ++ []) H := by rw [List.append_nil]; exact hP
  have hDn : va_D (fun q : Nat => s.heap.size ≤ q) ((((o1, .inl (G.2.1 2, 1, .inr (.inl ov1))) :: xW G x0 ad u1) ++ (mW G o am v1)) ++ []) := by rw [List.append_nil]; exact hD
  refine b_calli (P := ((o1, .inl (G.2.1 2, 1, .inr (.inl ov1))) :: xW G x0 ad u1)) (B := (mW G o am v1)) (T := []) (g_runV (As := []) (rest := []) ⟨hx, hb, hml, hown, htu⟩ (m_thrown l G _ o am v1) uM_L_73 ok_X4_thrown in_X4_thrown rfl rfl ⟨Nat.le_of_ble_eq_true rfl, Nat.le_of_ble_eq_true rfl⟩ hK hPn hDn hS hA hZ (List.range' ((o1, .inl (G.2.1 2, 1, .inr (.inl ov1))) :: xW G x0 ad u1).length (mW G o am v1).length) (blkC ((o1, .inl (G.2.1 2, 1, .inr (.inl ov1))) :: xW G x0 ad u1) (mW G o am v1) []) (va_nd_of List.nodup_range') 68 rfl rfl rfl rfl hl.1 rfl (Nat.le_of_ble_eq_true rfl) dL_law_724 ⟨by show _ ≤ 601024; omega, by show _ ≤ 7293033; omega⟩) hPn hDn hS hA (fun r3 _ H locs er3 hP hD hS => ?_)
  rw [List.append_nil] at hP hD
  subst er3
  have hP : va_P G.1 vwCl (((o1, .inl (G.2.1 2, 1, .inr (.inl ov1))) :: xW G x0 ad u1) ++ mW G o am v1) H := hP
  have hD : va_D (fun q : Nat => s.heap.size ≤ q) (((o1, .inl (G.2.1 2, 1, .inr (.inl ov1))) :: xW G x0 ad u1) ++ mW G o am v1) := hD
  refine lv_iload hx hb dL_law_727 (lv_at hl 1 rfl) ?_
  refine lv_icmp_eq (tgt := 734) hx hb dL_law_729 (by decide) (fun _ => ?_) (fun c_729 => absurd (hm1.2.1) c_729)
  refine lv_iload hx hb dL_law_734 (lv_at hl 1 rfl) ?_
  refine lv_if_ne (tgt := 751) hx hb dL_law_736 (by decide) (fun c_736 => ?_) (fun c_736 => ?_)
  · skip
    refine lv_goto (tgt := 1048) hx hb dL_law_751 (by decide) ?_
    refine W.widen (k := cells + 1) (n := slots + 6) (by omega) (by omega) ?_
    exact kk u1 v1 ov1 E.2.2 _ _ _ hR1 hm1.1 hP hD hS (lv_sub hl [2, 3, 4, 5, 6] rfl)
  · skip
    have h0 : E.1 = 0 := nE0 h4 c_736
    refine lv_aload_n hx hb dL_law_739 rfl (lv_at hl 6 rfl) ?_
    refine lv_iconst (v := nI 0) hx hb dL_law_740 (by decide) ?_
    refine g_lald hx hb hK.1 hP 0 2 rfl rfl ⟨by decide, by decide⟩ dL_law_741 ?_
    refine lv_iload hx hb dL_law_742 (lv_at hl 0 rfl) ?_
    refine lv_i2l (v := Int32.toInt64 r2) hx hb dL_law_744 rfl ?_
    refine W.lcmp hx hb dL_law_745 ?_
    refine lv_if_eq (tgt := 751) hx hb dL_law_746 (by decide) (fun _ => ?_) (fun c_746 => absurd (lcmp0 ((hv1 h0).trans (hm1.2.2 h0).symm)) c_746)
    refine lv_goto (tgt := 1048) hx hb dL_law_751 (by decide) ?_
    refine W.widen (k := cells + 1) (n := slots + 6) (by omega) (by omega) ?_
    exact kk u1 v1 ov1 E.2.2 _ _ _ hR1 hm1.1 hP hD hS (lv_sub hl [2, 3, 4, 5, 6] rfl)
set_option maxHeartbeats 4000000 in
set_option maxRecDepth 100000 in
theorem law_draw {p : Program} {l : Launch} {e : Env} {s : State} {m : MethodId} {below : List Frame} {meth : Method} {c : Code} {b L x0 o o1 j cells slots : Nat} {xs : Nat → Int32} {G : GW} {ad am : Nat → Nat} {ov : Nat → Int64} {u : XU} {v : MST} {A0 : AS} {Q : State → Prop} {H : Heap} {locs : List Loc} {ls : Array Slot} (hT9 : l.stackTraces = false) (hx : p.tables.exec = Jvm.exec) (hb : c.code = code) (hml : c.maxLocals = 8) (hown : s.vm.findClass RL = some m.cls) (htu : ∀ w ∈ UW, w.before #[Value.ref b] s = true) (hX : va_X b L xs s s.heap) (hbl : b < s.heap.size) (hK : gK G s) (hZ : gZ G (fun q : Nat => s.heap.size ≤ q) s s.heap) (hL : L ≤ 2048) (hj : 4 * j + 4 ≤ L) (hc : cells + 1 ≤ 601024) (hs : slots + 6 ≤ 7293033) (hR : XR u A0) (hM : MR v A0) (hP : va_P G.1 vwCl (((o1, .inl (G.2.1 2, 1, .inr (.inl ov))) :: xW G x0 ad u) ++ mW G o am v) H) (hD : va_D (fun q : Nat => s.heap.size ≤ q) (((o1, .inl (G.2.1 2, 1, .inr (.inl ov))) :: xW G x0 ad u) ++ mW G o am v)) (hS : va_S (fun q : Nat => s.heap.size ≤ q) s.heap H locs) (hl : lv_has ls 8 [(4, .int (nI (4 * j))), (0, .ref b), (1, .ref x0), (2, .ref o), (3, .ref o1)])
    (kk : ∀ (u1 : XU) (v1 : MST) (ov1 : Nat → Int64) (A1 : AS) (H : Heap) (locs : List Loc) (ls : Array Slot), XR u1 A1 → MR v1 A1 → va_P G.1 vwCl (((o1, .inl (G.2.1 2, 1, .inr (.inl ov1))) :: xW G x0 ad u1) ++ mW G o am v1) H → va_D (fun q : Nat => s.heap.size ≤ q) (((o1, .inl (G.2.1 2, 1, .inr (.inl ov1))) :: xW G x0 ad u1) ++ mW G o am v1) → va_S (fun q : Nat => s.heap.size ≤ q) s.heap H locs → lv_has ls 8 [(4, .int (nI (4 * j))), (0, .ref b), (1, .ref x0), (2, .ref o), (3, .ref o1)] → W p l e room_1 s m #[Value.ref b] below meth c H locs (cells + 1) (slots + 6) Q (F0 m 1048 ls [])) : W p l e room_1 s m #[Value.ref b] below meth c H locs cells slots Q (F0 m 754 ls []) := by
  have hA : ∀ q : Nat, s.heap.size ≤ q → (fun q : Nat => s.heap.size ≤ q) q := fun _ h => h
  have hbA : ¬ (fun q : Nat => s.heap.size ≤ q) b := Nat.not_le.mpr hbl
  refine lv_aload_n hx hb dL_law_754 rfl (lv_at hl 2 rfl) ?_
  refine lv_aload_n hx hb dL_law_755 rfl (lv_at hl 1 rfl) ?_
  refine lv_iload hx hb dL_law_756 (lv_at hl 0 rfl) ?_
  refine lv_iconst (v := nI 1) hx hb dL_law_758 (by decide) ?_
  refine lv_iadd hx hb dL_law_759 ?_
  refine g_toi (y := nI (4 * j + 1)) (nI_add (4 * j) 1) ?_
  refine va_sld hx hb hX hbl hbA hS (vp_in_nI (by omega) (by omega)) dL_law_760 ?_
  refine lv_aload_n hx hb dL_law_761 rfl (lv_at hl 4 rfl) ?_
  obtain ⟨E, hE⟩ : ∃ E : AO, drawA A0 (xs (nI (4 * j + 1)).toNatClampNeg) = E := ⟨_, rfl⟩
  have h4 : E.1 < 4 := by rw [← hE]; exact drawA_lt _ _
  have hPn : va_P G.1 vwCl ((([] : va_W) ++ ((o1, .inl (G.2.1 2, 1, .inr (.inl ov))) :: xW G x0 ad u)) ++ (mW G o am v)) H := hP
  have hDn : va_D (fun q : Nat => s.heap.size ≤ q) ((([] : va_W) ++ ((o1, .inl (G.2.1 2, 1, .inr (.inl ov))) :: xW G x0 ad u)) ++ (mW G o am v)) := hD
  refine b_calli (P := ([] : va_W)) (B := ((o1, .inl (G.2.1 2, 1, .inr (.inl ov))) :: xW G x0 ad u)) (T := (mW G o am v)) (g_runSW (n := 3) (As := [.ref x0, .int (xs (nI (4 * j + 1)).toNatClampNeg), .ref o1]) (rest := []) ⟨hx, hb, hml, hown, htu⟩ (l_draw l hT9 G _ x0 o1 ad ov u A0 (xs (nI (4 * j + 1)).toNatClampNeg) E hR hE) uM_L_108 uW_L_draw uN_L (by decide +kernel) uA_L_draw rfl rfl ⟨Nat.le_of_ble_eq_true rfl, Nat.le_of_ble_eq_true rfl⟩ hK hPn hDn hS hA hZ (List.range' ([] : va_W).length ((o1, .inl (G.2.1 2, 1, .inr (.inl ov))) :: xW G x0 ad u).length) (blkC ([] : va_W) ((o1, .inl (G.2.1 2, 1, .inr (.inl ov))) :: xW G x0 ad u) (mW G o am v)) (va_nd_of List.nodup_range') rfl hl.1 rfl (Nat.le_of_ble_eq_true rfl) dL_law_762 ⟨hc, hs⟩) hPn hDn hS hA (fun r w1 H locs hw hP hD hS => ?_)
  obtain ⟨u1, ov1⟩ := w1
  obtain ⟨er, hR1, hv1⟩ := hw
  have hv1 : E.1 = 0 → ov1 0 = E.2.1 := hv1
  have hR1 : XR u1 E.2.2 := hR1
  subst er
  have hP : va_P G.1 vwCl (((o1, .inl (G.2.1 2, 1, .inr (.inl ov1))) :: xW G x0 ad u1) ++ mW G o am v) H := hP
  have hD : va_D (fun q : Nat => s.heap.size ≤ q) (((o1, .inl (G.2.1 2, 1, .inr (.inl ov1))) :: xW G x0 ad u1) ++ mW G o am v) := hD
  refine lv_istore (lv' := [(5, .int (nI E.1)), (4, .int (nI (4 * j))), (0, .ref b), (1, .ref x0), (2, .ref o), (3, .ref o1)]) hx hb dL_law_765 hl (by decide) rfl (fun ls hl => ?_)
  refine lv_aload_n hx hb dL_law_767 rfl (lv_at hl 4 rfl) ?_
  refine lv_aload_n hx hb dL_law_768 rfl (lv_at hl 2 rfl) ?_
  refine lv_iload hx hb dL_law_769 (lv_at hl 1 rfl) ?_
  refine lv_iconst (v := nI 1) hx hb dL_law_771 (by decide) ?_
  refine lv_iadd hx hb dL_law_772 ?_
  refine g_toi (y := nI (4 * j + 1)) (nI_add (4 * j) 1) ?_
  refine va_sld hx hb hX hbl hbA hS (vp_in_nI (by omega) (by omega)) dL_law_773 ?_
  have hPn : va_P G.1 vwCl ((((o1, .inl (G.2.1 2, 1, .inr (.inl ov1))) :: xW G x0 ad u1) ++ (mW G o am v)) ++ []) H := by rw [List.append_nil]; exact hP
  have hDn : va_D (fun q : Nat => s.heap.size ≤ q) ((((o1, .inl (G.2.1 2, 1, .inr (.inl ov1))) :: xW G x0 ad u1) ++ (mW G o am v)) ++ []) := by rw [List.append_nil]; exact hD
  refine b_calli (P := ((o1, .inl (G.2.1 2, 1, .inr (.inl ov1))) :: xW G x0 ad u1)) (B := (mW G o am v)) (T := []) (g_runV (As := [.int (xs (nI (4 * j + 1)).toNatClampNeg)]) (rest := []) ⟨hx, hb, hml, hown, htu⟩ (m_draw l G _ o am v A0 (xs (nI (4 * j + 1)).toNatClampNeg) E hM hE) uM_L_110 ok_X4_draw in_X4_draw rfl rfl ⟨Nat.le_of_ble_eq_true rfl, Nat.le_of_ble_eq_true rfl⟩ hK hPn hDn hS hA hZ (List.range' ((o1, .inl (G.2.1 2, 1, .inr (.inl ov1))) :: xW G x0 ad u1).length (mW G o am v).length) (blkC ((o1, .inl (G.2.1 2, 1, .inr (.inl ov1))) :: xW G x0 ad u1) (mW G o am v) []) (va_nd_of List.nodup_range') 68 rfl rfl rfl rfl hl.1 rfl (Nat.le_of_ble_eq_true rfl) dL_law_774 ⟨by show _ ≤ 601024; omega, by show _ ≤ 7293033; omega⟩) hPn hDn hS hA (fun r2 v1 H locs hm1 hP hD hS => ?_)
  rw [List.append_nil] at hP hD
  have hm1 : MR v1 E.2.2 ∧ v1.2.2.1 = nI E.1 ∧ (E.1 = 0 → (Int32.toInt64 r2) = E.2.1) := hm1
  have hP : va_P G.1 vwCl (((o1, .inl (G.2.1 2, 1, .inr (.inl ov1))) :: xW G x0 ad u1) ++ mW G o am v1) H := hP
  have hD : va_D (fun q : Nat => s.heap.size ≤ q) (((o1, .inl (G.2.1 2, 1, .inr (.inl ov1))) :: xW G x0 ad u1) ++ mW G o am v1) := hD
  refine lv_istore (lv' := [(6, .int r2), (5, .int (nI E.1)), (4, .int (nI (4 * j))), (0, .ref b), (1, .ref x0), (2, .ref o), (3, .ref o1)]) hx hb dL_law_777 hl (by decide) rfl (fun ls hl => ?_)
  refine lv_aload_n hx hb dL_law_779 rfl (lv_at hl 5 rfl) ?_
  have hPn : va_P G.1 vwCl ((((o1, .inl (G.2.1 2, 1, .inr (.inl ov1))) :: xW G x0 ad u1) ++ (mW G o am v1)) ++ []) H := by rw [List.append_nil]; exact hP
  have hDn : va_D (fun q : Nat => s.heap.size ≤ q) ((((o1, .inl (G.2.1 2, 1, .inr (.inl ov1))) :: xW G x0 ad u1) ++ (mW G o am v1)) ++ []) := by rw [List.append_nil]; exact hD
  refine b_calli (P := ((o1, .inl (G.2.1 2, 1, .inr (.inl ov1))) :: xW G x0 ad u1)) (B := (mW G o am v1)) (T := []) (g_runV (As := []) (rest := []) ⟨hx, hb, hml, hown, htu⟩ (m_thrown l G _ o am v1) uM_L_73 ok_X4_thrown in_X4_thrown rfl rfl ⟨Nat.le_of_ble_eq_true rfl, Nat.le_of_ble_eq_true rfl⟩ hK hPn hDn hS hA hZ (List.range' ((o1, .inl (G.2.1 2, 1, .inr (.inl ov1))) :: xW G x0 ad u1).length (mW G o am v1).length) (blkC ((o1, .inl (G.2.1 2, 1, .inr (.inl ov1))) :: xW G x0 ad u1) (mW G o am v1) []) (va_nd_of List.nodup_range') 68 rfl rfl rfl rfl hl.1 rfl (Nat.le_of_ble_eq_true rfl) dL_law_780 ⟨by show _ ≤ 601024; omega, by show _ ≤ 7293033; omega⟩) hPn hDn hS hA (fun r3 _ H locs er3 hP hD hS => ?_)
  rw [List.append_nil] at hP hD
  subst er3
  have hP : va_P G.1 vwCl (((o1, .inl (G.2.1 2, 1, .inr (.inl ov1))) :: xW G x0 ad u1) ++ mW G o am v1) H := hP
  have hD : va_D (fun q : Nat => s.heap.size ≤ q) (((o1, .inl (G.2.1 2, 1, .inr (.inl ov1))) :: xW G x0 ad u1) ++ mW G o am v1) := hD
  refine lv_iload hx hb dL_law_783 (lv_at hl 1 rfl) ?_
  refine lv_icmp_eq (tgt := 790) hx hb dL_law_785 (by decide) (fun _ => ?_) (fun c_785 => absurd (hm1.2.1) c_785)
  refine lv_iload hx hb dL_law_790 (lv_at hl 1 rfl) ?_
  refine lv_if_ne (tgt := 807) hx hb dL_law_792 (by decide) (fun c_792 => ?_) (fun c_792 => ?_)
  · skip
    refine lv_goto (tgt := 1048) hx hb dL_law_807 (by decide) ?_
    refine W.widen (k := cells + 1) (n := slots + 6) (by omega) (by omega) ?_
    exact kk u1 v1 ov1 E.2.2 _ _ _ hR1 hm1.1 hP hD hS (lv_sub hl [2, 3, 4, 5, 6] rfl)
  · skip
    have h0 : E.1 = 0 := nE0 h4 c_792
    refine lv_aload_n hx hb dL_law_795 rfl (lv_at hl 6 rfl) ?_
    refine lv_iconst (v := nI 0) hx hb dL_law_796 (by decide) ?_
    refine g_lald hx hb hK.1 hP 0 2 rfl rfl ⟨by decide, by decide⟩ dL_law_797 ?_
    refine lv_iload hx hb dL_law_798 (lv_at hl 0 rfl) ?_
    refine lv_i2l (v := Int32.toInt64 r2) hx hb dL_law_800 rfl ?_
    refine W.lcmp hx hb dL_law_801 ?_
    refine lv_if_eq (tgt := 807) hx hb dL_law_802 (by decide) (fun _ => ?_) (fun c_802 => absurd (lcmp0 ((hv1 h0).trans (hm1.2.2 h0).symm)) c_802)
    refine lv_goto (tgt := 1048) hx hb dL_law_807 (by decide) ?_
    refine W.widen (k := cells + 1) (n := slots + 6) (by omega) (by omega) ?_
    exact kk u1 v1 ov1 E.2.2 _ _ _ hR1 hm1.1 hP hD hS (lv_sub hl [2, 3, 4, 5, 6] rfl)
set_option maxHeartbeats 4000000 in
set_option maxRecDepth 100000 in
theorem law_spread {p : Program} {l : Launch} {e : Env} {s : State} {m : MethodId} {below : List Frame} {meth : Method} {c : Code} {b L x0 o o1 j cells slots : Nat} {xs : Nat → Int32} {G : GW} {ad am : Nat → Nat} {ov : Nat → Int64} {u : XU} {v : MST} {A0 : AS} {Q : State → Prop} {H : Heap} {locs : List Loc} {ls : Array Slot} (hT9 : l.stackTraces = false) (hx : p.tables.exec = Jvm.exec) (hb : c.code = code) (hml : c.maxLocals = 8) (hown : s.vm.findClass RL = some m.cls) (htu : ∀ w ∈ UW, w.before #[Value.ref b] s = true) (hX : va_X b L xs s s.heap) (hbl : b < s.heap.size) (hK : gK G s) (hZ : gZ G (fun q : Nat => s.heap.size ≤ q) s s.heap) (hL : L ≤ 2048) (hj : 4 * j + 4 ≤ L) (hc : cells + 1 ≤ 601024) (hs : slots + 6 ≤ 7293033) (hR : XR u A0) (hM : MR v A0) (hP : va_P G.1 vwCl (((o1, .inl (G.2.1 2, 1, .inr (.inl ov))) :: xW G x0 ad u) ++ mW G o am v) H) (hD : va_D (fun q : Nat => s.heap.size ≤ q) (((o1, .inl (G.2.1 2, 1, .inr (.inl ov))) :: xW G x0 ad u) ++ mW G o am v)) (hS : va_S (fun q : Nat => s.heap.size ≤ q) s.heap H locs) (hl : lv_has ls 8 [(4, .int (nI (4 * j))), (0, .ref b), (1, .ref x0), (2, .ref o), (3, .ref o1)])
    (kk : ∀ (u1 : XU) (v1 : MST) (ov1 : Nat → Int64) (A1 : AS) (H : Heap) (locs : List Loc) (ls : Array Slot), XR u1 A1 → MR v1 A1 → va_P G.1 vwCl (((o1, .inl (G.2.1 2, 1, .inr (.inl ov1))) :: xW G x0 ad u1) ++ mW G o am v1) H → va_D (fun q : Nat => s.heap.size ≤ q) (((o1, .inl (G.2.1 2, 1, .inr (.inl ov1))) :: xW G x0 ad u1) ++ mW G o am v1) → va_S (fun q : Nat => s.heap.size ≤ q) s.heap H locs → lv_has ls 8 [(4, .int (nI (4 * j))), (0, .ref b), (1, .ref x0), (2, .ref o), (3, .ref o1)] → W p l e room_1 s m #[Value.ref b] below meth c H locs (cells + 1) (slots + 6) Q (F0 m 1048 ls [])) : W p l e room_1 s m #[Value.ref b] below meth c H locs cells slots Q (F0 m 810 ls []) := by
  have hA : ∀ q : Nat, s.heap.size ≤ q → (fun q : Nat => s.heap.size ≤ q) q := fun _ h => h
  have hbA : ¬ (fun q : Nat => s.heap.size ≤ q) b := Nat.not_le.mpr hbl
  refine lv_aload_n hx hb dL_law_810 rfl (lv_at hl 2 rfl) ?_
  refine lv_aload_n hx hb dL_law_811 rfl (lv_at hl 1 rfl) ?_
  refine lv_iload hx hb dL_law_812 (lv_at hl 0 rfl) ?_
  refine lv_iconst (v := nI 1) hx hb dL_law_814 (by decide) ?_
  refine lv_iadd hx hb dL_law_815 ?_
  refine g_toi (y := nI (4 * j + 1)) (nI_add (4 * j) 1) ?_
  refine va_sld hx hb hX hbl hbA hS (vp_in_nI (by omega) (by omega)) dL_law_816 ?_
  refine lv_aload_n hx hb dL_law_817 rfl (lv_at hl 1 rfl) ?_
  refine lv_iload hx hb dL_law_818 (lv_at hl 0 rfl) ?_
  refine lv_iconst (v := nI 2) hx hb dL_law_820 (by decide) ?_
  refine lv_iadd hx hb dL_law_821 ?_
  refine g_toi (y := nI (4 * j + 2)) (nI_add (4 * j) 2) ?_
  refine va_sld hx hb hX hbl hbA hS (vp_in_nI (by omega) (by omega)) dL_law_822 ?_
  refine lv_aload_n hx hb dL_law_823 rfl (lv_at hl 4 rfl) ?_
  obtain ⟨E, hE⟩ : ∃ E : AO, spreadA A0 (xs (nI (4 * j + 1)).toNatClampNeg) (xs (nI (4 * j + 2)).toNatClampNeg) = E := ⟨_, rfl⟩
  have h4 : E.1 < 4 := by rw [← hE]; exact spreadA_lt _ _ _
  have hPn : va_P G.1 vwCl ((([] : va_W) ++ ((o1, .inl (G.2.1 2, 1, .inr (.inl ov))) :: xW G x0 ad u)) ++ (mW G o am v)) H := hP
  have hDn : va_D (fun q : Nat => s.heap.size ≤ q) ((([] : va_W) ++ ((o1, .inl (G.2.1 2, 1, .inr (.inl ov))) :: xW G x0 ad u)) ++ (mW G o am v)) := hD
  refine b_calli (P := ([] : va_W)) (B := ((o1, .inl (G.2.1 2, 1, .inr (.inl ov))) :: xW G x0 ad u)) (T := (mW G o am v)) (g_runSW (n := 4) (As := [.ref x0, .int (xs (nI (4 * j + 1)).toNatClampNeg), .int (xs (nI (4 * j + 2)).toNatClampNeg), .ref o1]) (rest := []) ⟨hx, hb, hml, hown, htu⟩ (l_spread l hT9 G _ x0 o1 ad ov u A0 (xs (nI (4 * j + 1)).toNatClampNeg) (xs (nI (4 * j + 2)).toNatClampNeg) E hR hE) uM_L_111 uW_L_spread uN_L (by decide +kernel) uA_L_spread rfl rfl ⟨Nat.le_of_ble_eq_true rfl, Nat.le_of_ble_eq_true rfl⟩ hK hPn hDn hS hA hZ (List.range' ([] : va_W).length ((o1, .inl (G.2.1 2, 1, .inr (.inl ov))) :: xW G x0 ad u).length) (blkC ([] : va_W) ((o1, .inl (G.2.1 2, 1, .inr (.inl ov))) :: xW G x0 ad u) (mW G o am v)) (va_nd_of List.nodup_range') rfl hl.1 rfl (Nat.le_of_ble_eq_true rfl) dL_law_824 ⟨hc, hs⟩) hPn hDn hS hA (fun r w1 H locs hw hP hD hS => ?_)
  obtain ⟨u1, ov1⟩ := w1
  obtain ⟨er, hR1, hv1⟩ := hw
  have hv1 : E.1 = 0 → ov1 0 = E.2.1 := hv1
  have hR1 : XR u1 E.2.2 := hR1
  subst er
  have hP : va_P G.1 vwCl (((o1, .inl (G.2.1 2, 1, .inr (.inl ov1))) :: xW G x0 ad u1) ++ mW G o am v) H := hP
  have hD : va_D (fun q : Nat => s.heap.size ≤ q) (((o1, .inl (G.2.1 2, 1, .inr (.inl ov1))) :: xW G x0 ad u1) ++ mW G o am v) := hD
  refine lv_istore (lv' := [(5, .int (nI E.1)), (4, .int (nI (4 * j))), (0, .ref b), (1, .ref x0), (2, .ref o), (3, .ref o1)]) hx hb dL_law_827 hl (by decide) rfl (fun ls hl => ?_)
  refine lv_aload_n hx hb dL_law_829 rfl (lv_at hl 4 rfl) ?_
  refine lv_aload_n hx hb dL_law_830 rfl (lv_at hl 2 rfl) ?_
  refine lv_iload hx hb dL_law_831 (lv_at hl 1 rfl) ?_
  refine lv_iconst (v := nI 1) hx hb dL_law_833 (by decide) ?_
  refine lv_iadd hx hb dL_law_834 ?_
  refine g_toi (y := nI (4 * j + 1)) (nI_add (4 * j) 1) ?_
  refine va_sld hx hb hX hbl hbA hS (vp_in_nI (by omega) (by omega)) dL_law_835 ?_
  refine lv_aload_n hx hb dL_law_836 rfl (lv_at hl 2 rfl) ?_
  refine lv_iload hx hb dL_law_837 (lv_at hl 1 rfl) ?_
  refine lv_iconst (v := nI 2) hx hb dL_law_839 (by decide) ?_
  refine lv_iadd hx hb dL_law_840 ?_
  refine g_toi (y := nI (4 * j + 2)) (nI_add (4 * j) 2) ?_
  refine va_sld hx hb hX hbl hbA hS (vp_in_nI (by omega) (by omega)) dL_law_841 ?_
  have hPn : va_P G.1 vwCl ((((o1, .inl (G.2.1 2, 1, .inr (.inl ov1))) :: xW G x0 ad u1) ++ (mW G o am v)) ++ []) H := by rw [List.append_nil]; exact hP
  have hDn : va_D (fun q : Nat => s.heap.size ≤ q) ((((o1, .inl (G.2.1 2, 1, .inr (.inl ov1))) :: xW G x0 ad u1) ++ (mW G o am v)) ++ []) := by rw [List.append_nil]; exact hD
  refine b_calli (P := ((o1, .inl (G.2.1 2, 1, .inr (.inl ov1))) :: xW G x0 ad u1)) (B := (mW G o am v)) (T := []) (g_runV (As := [.int (xs (nI (4 * j + 1)).toNatClampNeg), .int (xs (nI (4 * j + 2)).toNatClampNeg)]) (rest := []) ⟨hx, hb, hml, hown, htu⟩ (m_spread l G _ o am v A0 (xs (nI (4 * j + 1)).toNatClampNeg) (xs (nI (4 * j + 2)).toNatClampNeg) E hM hE) uM_L_113 ok_X4_spread in_X4_spread rfl rfl ⟨Nat.le_of_ble_eq_true rfl, Nat.le_of_ble_eq_true rfl⟩ hK hPn hDn hS hA hZ (List.range' ((o1, .inl (G.2.1 2, 1, .inr (.inl ov1))) :: xW G x0 ad u1).length (mW G o am v).length) (blkC ((o1, .inl (G.2.1 2, 1, .inr (.inl ov1))) :: xW G x0 ad u1) (mW G o am v) []) (va_nd_of List.nodup_range') 68 rfl rfl rfl rfl hl.1 rfl (Nat.le_of_ble_eq_true rfl) dL_law_842 ⟨by show _ ≤ 601024; omega, by show _ ≤ 7293033; omega⟩) hPn hDn hS hA (fun r2 v1 H locs hm1 hP hD hS => ?_)
  rw [List.append_nil] at hP hD
  have hm1 : MR v1 E.2.2 ∧ v1.2.2.1 = nI E.1 ∧ (E.1 = 0 → (Int32.toInt64 r2) = E.2.1) := hm1
  have hP : va_P G.1 vwCl (((o1, .inl (G.2.1 2, 1, .inr (.inl ov1))) :: xW G x0 ad u1) ++ mW G o am v1) H := hP
  have hD : va_D (fun q : Nat => s.heap.size ≤ q) (((o1, .inl (G.2.1 2, 1, .inr (.inl ov1))) :: xW G x0 ad u1) ++ mW G o am v1) := hD
  refine lv_istore (lv' := [(6, .int r2), (5, .int (nI E.1)), (4, .int (nI (4 * j))), (0, .ref b), (1, .ref x0), (2, .ref o), (3, .ref o1)]) hx hb dL_law_845 hl (by decide) rfl (fun ls hl => ?_)
  refine lv_aload_n hx hb dL_law_847 rfl (lv_at hl 5 rfl) ?_
  have hPn : va_P G.1 vwCl ((((o1, .inl (G.2.1 2, 1, .inr (.inl ov1))) :: xW G x0 ad u1) ++ (mW G o am v1)) ++ []) H := by rw [List.append_nil]; exact hP
  have hDn : va_D (fun q : Nat => s.heap.size ≤ q) ((((o1, .inl (G.2.1 2, 1, .inr (.inl ov1))) :: xW G x0 ad u1) ++ (mW G o am v1)) ++ []) := by rw [List.append_nil]; exact hD
  refine b_calli (P := ((o1, .inl (G.2.1 2, 1, .inr (.inl ov1))) :: xW G x0 ad u1)) (B := (mW G o am v1)) (T := []) (g_runV (As := []) (rest := []) ⟨hx, hb, hml, hown, htu⟩ (m_thrown l G _ o am v1) uM_L_73 ok_X4_thrown in_X4_thrown rfl rfl ⟨Nat.le_of_ble_eq_true rfl, Nat.le_of_ble_eq_true rfl⟩ hK hPn hDn hS hA hZ (List.range' ((o1, .inl (G.2.1 2, 1, .inr (.inl ov1))) :: xW G x0 ad u1).length (mW G o am v1).length) (blkC ((o1, .inl (G.2.1 2, 1, .inr (.inl ov1))) :: xW G x0 ad u1) (mW G o am v1) []) (va_nd_of List.nodup_range') 68 rfl rfl rfl rfl hl.1 rfl (Nat.le_of_ble_eq_true rfl) dL_law_848 ⟨by show _ ≤ 601024; omega, by show _ ≤ 7293033; omega⟩) hPn hDn hS hA (fun r3 _ H locs er3 hP hD hS => ?_)
  rw [List.append_nil] at hP hD
  subst er3
  have hP : va_P G.1 vwCl (((o1, .inl (G.2.1 2, 1, .inr (.inl ov1))) :: xW G x0 ad u1) ++ mW G o am v1) H := hP
  have hD : va_D (fun q : Nat => s.heap.size ≤ q) (((o1, .inl (G.2.1 2, 1, .inr (.inl ov1))) :: xW G x0 ad u1) ++ mW G o am v1) := hD
  refine lv_iload hx hb dL_law_851 (lv_at hl 1 rfl) ?_
  refine lv_icmp_eq (tgt := 858) hx hb dL_law_853 (by decide) (fun _ => ?_) (fun c_853 => absurd (hm1.2.1) c_853)
  refine lv_iload hx hb dL_law_858 (lv_at hl 1 rfl) ?_
  refine lv_if_ne (tgt := 875) hx hb dL_law_860 (by decide) (fun c_860 => ?_) (fun c_860 => ?_)
  · skip
    refine lv_goto (tgt := 1048) hx hb dL_law_875 (by decide) ?_
    refine W.widen (k := cells + 1) (n := slots + 6) (by omega) (by omega) ?_
    exact kk u1 v1 ov1 E.2.2 _ _ _ hR1 hm1.1 hP hD hS (lv_sub hl [2, 3, 4, 5, 6] rfl)
  · skip
    have h0 : E.1 = 0 := nE0 h4 c_860
    refine lv_aload_n hx hb dL_law_863 rfl (lv_at hl 6 rfl) ?_
    refine lv_iconst (v := nI 0) hx hb dL_law_864 (by decide) ?_
    refine g_lald hx hb hK.1 hP 0 2 rfl rfl ⟨by decide, by decide⟩ dL_law_865 ?_
    refine lv_iload hx hb dL_law_866 (lv_at hl 0 rfl) ?_
    refine lv_i2l (v := Int32.toInt64 r2) hx hb dL_law_868 rfl ?_
    refine W.lcmp hx hb dL_law_869 ?_
    refine lv_if_eq (tgt := 875) hx hb dL_law_870 (by decide) (fun _ => ?_) (fun c_870 => absurd (lcmp0 ((hv1 h0).trans (hm1.2.2 h0).symm)) c_870)
    refine lv_goto (tgt := 1048) hx hb dL_law_875 (by decide) ?_
    refine W.widen (k := cells + 1) (n := slots + 6) (by omega) (by omega) ?_
    exact kk u1 v1 ov1 E.2.2 _ _ _ hR1 hm1.1 hP hD hS (lv_sub hl [2, 3, 4, 5, 6] rfl)
set_option maxHeartbeats 4000000 in
set_option maxRecDepth 100000 in
theorem law_stretch {p : Program} {l : Launch} {e : Env} {s : State} {m : MethodId} {below : List Frame} {meth : Method} {c : Code} {b L x0 o o1 j cells slots : Nat} {xs : Nat → Int32} {G : GW} {ad am : Nat → Nat} {ov : Nat → Int64} {u : XU} {v : MST} {A0 : AS} {Q : State → Prop} {H : Heap} {locs : List Loc} {ls : Array Slot} (hT9 : l.stackTraces = false) (hx : p.tables.exec = Jvm.exec) (hb : c.code = code) (hml : c.maxLocals = 8) (hown : s.vm.findClass RL = some m.cls) (htu : ∀ w ∈ UW, w.before #[Value.ref b] s = true) (hX : va_X b L xs s s.heap) (hbl : b < s.heap.size) (hK : gK G s) (hZ : gZ G (fun q : Nat => s.heap.size ≤ q) s s.heap) (hL : L ≤ 2048) (hj : 4 * j + 4 ≤ L) (hc : cells + 1 ≤ 601024) (hs : slots + 6 ≤ 7293033) (hR : XR u A0) (hM : MR v A0) (hP : va_P G.1 vwCl (((o1, .inl (G.2.1 2, 1, .inr (.inl ov))) :: xW G x0 ad u) ++ mW G o am v) H) (hD : va_D (fun q : Nat => s.heap.size ≤ q) (((o1, .inl (G.2.1 2, 1, .inr (.inl ov))) :: xW G x0 ad u) ++ mW G o am v)) (hS : va_S (fun q : Nat => s.heap.size ≤ q) s.heap H locs) (hl : lv_has ls 8 [(4, .int (nI (4 * j))), (0, .ref b), (1, .ref x0), (2, .ref o), (3, .ref o1)])
    (kk : ∀ (u1 : XU) (v1 : MST) (ov1 : Nat → Int64) (A1 : AS) (H : Heap) (locs : List Loc) (ls : Array Slot), XR u1 A1 → MR v1 A1 → va_P G.1 vwCl (((o1, .inl (G.2.1 2, 1, .inr (.inl ov1))) :: xW G x0 ad u1) ++ mW G o am v1) H → va_D (fun q : Nat => s.heap.size ≤ q) (((o1, .inl (G.2.1 2, 1, .inr (.inl ov1))) :: xW G x0 ad u1) ++ mW G o am v1) → va_S (fun q : Nat => s.heap.size ≤ q) s.heap H locs → lv_has ls 8 [(4, .int (nI (4 * j))), (0, .ref b), (1, .ref x0), (2, .ref o), (3, .ref o1)] → W p l e room_1 s m #[Value.ref b] below meth c H locs (cells + 1) (slots + 6) Q (F0 m 1048 ls [])) : W p l e room_1 s m #[Value.ref b] below meth c H locs cells slots Q (F0 m 878 ls []) := by
  have hA : ∀ q : Nat, s.heap.size ≤ q → (fun q : Nat => s.heap.size ≤ q) q := fun _ h => h
  have hbA : ¬ (fun q : Nat => s.heap.size ≤ q) b := Nat.not_le.mpr hbl
  refine lv_aload_n hx hb dL_law_878 rfl (lv_at hl 2 rfl) ?_
  refine lv_aload_n hx hb dL_law_879 rfl (lv_at hl 1 rfl) ?_
  refine lv_iload hx hb dL_law_880 (lv_at hl 0 rfl) ?_
  refine lv_iconst (v := nI 1) hx hb dL_law_882 (by decide) ?_
  refine lv_iadd hx hb dL_law_883 ?_
  refine g_toi (y := nI (4 * j + 1)) (nI_add (4 * j) 1) ?_
  refine va_sld hx hb hX hbl hbA hS (vp_in_nI (by omega) (by omega)) dL_law_884 ?_
  refine lv_aload_n hx hb dL_law_885 rfl (lv_at hl 1 rfl) ?_
  refine lv_iload hx hb dL_law_886 (lv_at hl 0 rfl) ?_
  refine lv_iconst (v := nI 2) hx hb dL_law_888 (by decide) ?_
  refine lv_iadd hx hb dL_law_889 ?_
  refine g_toi (y := nI (4 * j + 2)) (nI_add (4 * j) 2) ?_
  refine va_sld hx hb hX hbl hbA hS (vp_in_nI (by omega) (by omega)) dL_law_890 ?_
  refine lv_aload_n hx hb dL_law_891 rfl (lv_at hl 1 rfl) ?_
  refine lv_iload hx hb dL_law_892 (lv_at hl 0 rfl) ?_
  refine lv_iconst (v := nI 3) hx hb dL_law_894 (by decide) ?_
  refine lv_iadd hx hb dL_law_895 ?_
  refine g_toi (y := nI (4 * j + 3)) (nI_add (4 * j) 3) ?_
  refine va_sld hx hb hX hbl hbA hS (vp_in_nI (by omega) (by omega)) dL_law_896 ?_
  refine lv_aload_n hx hb dL_law_897 rfl (lv_at hl 4 rfl) ?_
  obtain ⟨E, hE⟩ : ∃ E : AO, stretchA A0 (xs (nI (4 * j + 1)).toNatClampNeg) (xs (nI (4 * j + 2)).toNatClampNeg) (xs (nI (4 * j + 3)).toNatClampNeg) = E := ⟨_, rfl⟩
  have h4 : E.1 < 4 := by rw [← hE]; exact stretchA_lt _ _ _ _
  have hPn : va_P G.1 vwCl ((([] : va_W) ++ ((o1, .inl (G.2.1 2, 1, .inr (.inl ov))) :: xW G x0 ad u)) ++ (mW G o am v)) H := hP
  have hDn : va_D (fun q : Nat => s.heap.size ≤ q) ((([] : va_W) ++ ((o1, .inl (G.2.1 2, 1, .inr (.inl ov))) :: xW G x0 ad u)) ++ (mW G o am v)) := hD
  refine b_calli (P := ([] : va_W)) (B := ((o1, .inl (G.2.1 2, 1, .inr (.inl ov))) :: xW G x0 ad u)) (T := (mW G o am v)) (g_runSW (n := 5) (As := [.ref x0, .int (xs (nI (4 * j + 1)).toNatClampNeg), .int (xs (nI (4 * j + 2)).toNatClampNeg), .int (xs (nI (4 * j + 3)).toNatClampNeg), .ref o1]) (rest := []) ⟨hx, hb, hml, hown, htu⟩ (l_stretch l hT9 G _ x0 o1 ad ov u A0 (xs (nI (4 * j + 1)).toNatClampNeg) (xs (nI (4 * j + 2)).toNatClampNeg) (xs (nI (4 * j + 3)).toNatClampNeg) E hR hE) uM_L_114 uW_L_stretch uN_L (by decide +kernel) uA_L_stretch rfl rfl ⟨Nat.le_of_ble_eq_true rfl, Nat.le_of_ble_eq_true rfl⟩ hK hPn hDn hS hA hZ (List.range' ([] : va_W).length ((o1, .inl (G.2.1 2, 1, .inr (.inl ov))) :: xW G x0 ad u).length) (blkC ([] : va_W) ((o1, .inl (G.2.1 2, 1, .inr (.inl ov))) :: xW G x0 ad u) (mW G o am v)) (va_nd_of List.nodup_range') rfl hl.1 rfl (Nat.le_of_ble_eq_true rfl) dL_law_898 ⟨hc, hs⟩) hPn hDn hS hA (fun r w1 H locs hw hP hD hS => ?_)
  obtain ⟨u1, ov1⟩ := w1
  obtain ⟨er, hR1, hv1⟩ := hw
  have hv1 : E.1 = 0 → ov1 0 = E.2.1 := hv1
  have hR1 : XR u1 E.2.2 := hR1
  subst er
  have hP : va_P G.1 vwCl (((o1, .inl (G.2.1 2, 1, .inr (.inl ov1))) :: xW G x0 ad u1) ++ mW G o am v) H := hP
  have hD : va_D (fun q : Nat => s.heap.size ≤ q) (((o1, .inl (G.2.1 2, 1, .inr (.inl ov1))) :: xW G x0 ad u1) ++ mW G o am v) := hD
  refine lv_istore (lv' := [(5, .int (nI E.1)), (4, .int (nI (4 * j))), (0, .ref b), (1, .ref x0), (2, .ref o), (3, .ref o1)]) hx hb dL_law_901 hl (by decide) rfl (fun ls hl => ?_)
  refine lv_aload_n hx hb dL_law_903 rfl (lv_at hl 4 rfl) ?_
  refine lv_aload_n hx hb dL_law_904 rfl (lv_at hl 2 rfl) ?_
  refine lv_iload hx hb dL_law_905 (lv_at hl 1 rfl) ?_
  refine lv_iconst (v := nI 1) hx hb dL_law_907 (by decide) ?_
  refine lv_iadd hx hb dL_law_908 ?_
  refine g_toi (y := nI (4 * j + 1)) (nI_add (4 * j) 1) ?_
  refine va_sld hx hb hX hbl hbA hS (vp_in_nI (by omega) (by omega)) dL_law_909 ?_
  refine lv_aload_n hx hb dL_law_910 rfl (lv_at hl 2 rfl) ?_
  refine lv_iload hx hb dL_law_911 (lv_at hl 1 rfl) ?_
  refine lv_iconst (v := nI 2) hx hb dL_law_913 (by decide) ?_
  refine lv_iadd hx hb dL_law_914 ?_
  refine g_toi (y := nI (4 * j + 2)) (nI_add (4 * j) 2) ?_
  refine va_sld hx hb hX hbl hbA hS (vp_in_nI (by omega) (by omega)) dL_law_915 ?_
  refine lv_aload_n hx hb dL_law_916 rfl (lv_at hl 2 rfl) ?_
  refine lv_iload hx hb dL_law_917 (lv_at hl 1 rfl) ?_
  refine lv_iconst (v := nI 3) hx hb dL_law_919 (by decide) ?_
  refine lv_iadd hx hb dL_law_920 ?_
  refine g_toi (y := nI (4 * j + 3)) (nI_add (4 * j) 3) ?_
  refine va_sld hx hb hX hbl hbA hS (vp_in_nI (by omega) (by omega)) dL_law_921 ?_
  have hPn : va_P G.1 vwCl ((((o1, .inl (G.2.1 2, 1, .inr (.inl ov1))) :: xW G x0 ad u1) ++ (mW G o am v)) ++ []) H := by rw [List.append_nil]; exact hP
  have hDn : va_D (fun q : Nat => s.heap.size ≤ q) ((((o1, .inl (G.2.1 2, 1, .inr (.inl ov1))) :: xW G x0 ad u1) ++ (mW G o am v)) ++ []) := by rw [List.append_nil]; exact hD
  refine b_calli (P := ((o1, .inl (G.2.1 2, 1, .inr (.inl ov1))) :: xW G x0 ad u1)) (B := (mW G o am v)) (T := []) (g_runV (As := [.int (xs (nI (4 * j + 1)).toNatClampNeg), .int (xs (nI (4 * j + 2)).toNatClampNeg), .int (xs (nI (4 * j + 3)).toNatClampNeg)]) (rest := []) ⟨hx, hb, hml, hown, htu⟩ (m_stretch l G _ o am v A0 (xs (nI (4 * j + 1)).toNatClampNeg) (xs (nI (4 * j + 2)).toNatClampNeg) (xs (nI (4 * j + 3)).toNatClampNeg) E hM hE) uM_L_116 ok_X4_stretch in_X4_stretch rfl rfl ⟨Nat.le_of_ble_eq_true rfl, Nat.le_of_ble_eq_true rfl⟩ hK hPn hDn hS hA hZ (List.range' ((o1, .inl (G.2.1 2, 1, .inr (.inl ov1))) :: xW G x0 ad u1).length (mW G o am v).length) (blkC ((o1, .inl (G.2.1 2, 1, .inr (.inl ov1))) :: xW G x0 ad u1) (mW G o am v) []) (va_nd_of List.nodup_range') 68 rfl rfl rfl rfl hl.1 rfl (Nat.le_of_ble_eq_true rfl) dL_law_922 ⟨by show _ ≤ 601024; omega, by show _ ≤ 7293033; omega⟩) hPn hDn hS hA (fun r2 v1 H locs hm1 hP hD hS => ?_)
  rw [List.append_nil] at hP hD
  have hm1 : MR v1 E.2.2 ∧ v1.2.2.1 = nI E.1 ∧ (E.1 = 0 → (Int32.toInt64 r2) = E.2.1) := hm1
  have hP : va_P G.1 vwCl (((o1, .inl (G.2.1 2, 1, .inr (.inl ov1))) :: xW G x0 ad u1) ++ mW G o am v1) H := hP
  have hD : va_D (fun q : Nat => s.heap.size ≤ q) (((o1, .inl (G.2.1 2, 1, .inr (.inl ov1))) :: xW G x0 ad u1) ++ mW G o am v1) := hD
  refine lv_istore (lv' := [(6, .int r2), (5, .int (nI E.1)), (4, .int (nI (4 * j))), (0, .ref b), (1, .ref x0), (2, .ref o), (3, .ref o1)]) hx hb dL_law_925 hl (by decide) rfl (fun ls hl => ?_)
  refine lv_aload_n hx hb dL_law_927 rfl (lv_at hl 5 rfl) ?_
  have hPn : va_P G.1 vwCl ((((o1, .inl (G.2.1 2, 1, .inr (.inl ov1))) :: xW G x0 ad u1) ++ (mW G o am v1)) ++ []) H := by rw [List.append_nil]; exact hP
  have hDn : va_D (fun q : Nat => s.heap.size ≤ q) ((((o1, .inl (G.2.1 2, 1, .inr (.inl ov1))) :: xW G x0 ad u1) ++ (mW G o am v1)) ++ []) := by rw [List.append_nil]; exact hD
  refine b_calli (P := ((o1, .inl (G.2.1 2, 1, .inr (.inl ov1))) :: xW G x0 ad u1)) (B := (mW G o am v1)) (T := []) (g_runV (As := []) (rest := []) ⟨hx, hb, hml, hown, htu⟩ (m_thrown l G _ o am v1) uM_L_73 ok_X4_thrown in_X4_thrown rfl rfl ⟨Nat.le_of_ble_eq_true rfl, Nat.le_of_ble_eq_true rfl⟩ hK hPn hDn hS hA hZ (List.range' ((o1, .inl (G.2.1 2, 1, .inr (.inl ov1))) :: xW G x0 ad u1).length (mW G o am v1).length) (blkC ((o1, .inl (G.2.1 2, 1, .inr (.inl ov1))) :: xW G x0 ad u1) (mW G o am v1) []) (va_nd_of List.nodup_range') 68 rfl rfl rfl rfl hl.1 rfl (Nat.le_of_ble_eq_true rfl) dL_law_928 ⟨by show _ ≤ 601024; omega, by show _ ≤ 7293033; omega⟩) hPn hDn hS hA (fun r3 _ H locs er3 hP hD hS => ?_)
  rw [List.append_nil] at hP hD
  subst er3
  have hP : va_P G.1 vwCl (((o1, .inl (G.2.1 2, 1, .inr (.inl ov1))) :: xW G x0 ad u1) ++ mW G o am v1) H := hP
  have hD : va_D (fun q : Nat => s.heap.size ≤ q) (((o1, .inl (G.2.1 2, 1, .inr (.inl ov1))) :: xW G x0 ad u1) ++ mW G o am v1) := hD
  refine lv_iload hx hb dL_law_931 (lv_at hl 1 rfl) ?_
  refine lv_icmp_eq (tgt := 938) hx hb dL_law_933 (by decide) (fun _ => ?_) (fun c_933 => absurd (hm1.2.1) c_933)
  refine lv_iload hx hb dL_law_938 (lv_at hl 1 rfl) ?_
  refine lv_if_ne (tgt := 955) hx hb dL_law_940 (by decide) (fun c_940 => ?_) (fun c_940 => ?_)
  · skip
    refine lv_goto (tgt := 1048) hx hb dL_law_955 (by decide) ?_
    refine W.widen (k := cells + 1) (n := slots + 6) (by omega) (by omega) ?_
    exact kk u1 v1 ov1 E.2.2 _ _ _ hR1 hm1.1 hP hD hS (lv_sub hl [2, 3, 4, 5, 6] rfl)
  · skip
    have h0 : E.1 = 0 := nE0 h4 c_940
    refine lv_aload_n hx hb dL_law_943 rfl (lv_at hl 6 rfl) ?_
    refine lv_iconst (v := nI 0) hx hb dL_law_944 (by decide) ?_
    refine g_lald hx hb hK.1 hP 0 2 rfl rfl ⟨by decide, by decide⟩ dL_law_945 ?_
    refine lv_iload hx hb dL_law_946 (lv_at hl 0 rfl) ?_
    refine lv_i2l (v := Int32.toInt64 r2) hx hb dL_law_948 rfl ?_
    refine W.lcmp hx hb dL_law_949 ?_
    refine lv_if_eq (tgt := 955) hx hb dL_law_950 (by decide) (fun _ => ?_) (fun c_950 => absurd (lcmp0 ((hv1 h0).trans (hm1.2.2 h0).symm)) c_950)
    refine lv_goto (tgt := 1048) hx hb dL_law_955 (by decide) ?_
    refine W.widen (k := cells + 1) (n := slots + 6) (by omega) (by omega) ?_
    exact kk u1 v1 ov1 E.2.2 _ _ _ hR1 hm1.1 hP hD hS (lv_sub hl [2, 3, 4, 5, 6] rfl)
set_option maxHeartbeats 4000000 in
set_option maxRecDepth 100000 in
theorem law_out {p : Program} {l : Launch} {e : Env} {s : State} {m : MethodId} {below : List Frame} {meth : Method} {c : Code} {b L x0 o o1 j cells slots : Nat} {xs : Nat → Int32} {G : GW} {ad am : Nat → Nat} {ov : Nat → Int64} {u : XU} {v : MST} {A0 : AS} {Q : State → Prop} {H : Heap} {locs : List Loc} {ls : Array Slot} (hT9 : l.stackTraces = false) (hx : p.tables.exec = Jvm.exec) (hb : c.code = code) (hml : c.maxLocals = 8) (hown : s.vm.findClass RL = some m.cls) (htu : ∀ w ∈ UW, w.before #[Value.ref b] s = true) (hX : va_X b L xs s s.heap) (hbl : b < s.heap.size) (hK : gK G s) (hZ : gZ G (fun q : Nat => s.heap.size ≤ q) s s.heap) (hL : L ≤ 2048) (hj : 4 * j + 4 ≤ L) (hc : cells + 1 ≤ 601024) (hs : slots + 6 ≤ 7293033) (hR : XR u A0) (hM : MR v A0) (hP : va_P G.1 vwCl (((o1, .inl (G.2.1 2, 1, .inr (.inl ov))) :: xW G x0 ad u) ++ mW G o am v) H) (hD : va_D (fun q : Nat => s.heap.size ≤ q) (((o1, .inl (G.2.1 2, 1, .inr (.inl ov))) :: xW G x0 ad u) ++ mW G o am v)) (hS : va_S (fun q : Nat => s.heap.size ≤ q) s.heap H locs) (hl : lv_has ls 8 [(4, .int (nI (4 * j))), (0, .ref b), (1, .ref x0), (2, .ref o), (3, .ref o1)])
    (kk : ∀ (u1 : XU) (v1 : MST) (ov1 : Nat → Int64) (A1 : AS) (H : Heap) (locs : List Loc) (ls : Array Slot), XR u1 A1 → MR v1 A1 → va_P G.1 vwCl (((o1, .inl (G.2.1 2, 1, .inr (.inl ov1))) :: xW G x0 ad u1) ++ mW G o am v1) H → va_D (fun q : Nat => s.heap.size ≤ q) (((o1, .inl (G.2.1 2, 1, .inr (.inl ov1))) :: xW G x0 ad u1) ++ mW G o am v1) → va_S (fun q : Nat => s.heap.size ≤ q) s.heap H locs → lv_has ls 8 [(4, .int (nI (4 * j))), (0, .ref b), (1, .ref x0), (2, .ref o), (3, .ref o1)] → W p l e room_1 s m #[Value.ref b] below meth c H locs (cells + 1) (slots + 6) Q (F0 m 1048 ls [])) : W p l e room_1 s m #[Value.ref b] below meth c H locs cells slots Q (F0 m 958 ls []) := by
  have hA : ∀ q : Nat, s.heap.size ≤ q → (fun q : Nat => s.heap.size ≤ q) q := fun _ h => h
  have hbA : ¬ (fun q : Nat => s.heap.size ≤ q) b := Nat.not_le.mpr hbl
  refine lv_aload_n hx hb dL_law_958 rfl (lv_at hl 2 rfl) ?_
  refine lv_aload_n hx hb dL_law_959 rfl (lv_at hl 1 rfl) ?_
  refine lv_iload hx hb dL_law_960 (lv_at hl 0 rfl) ?_
  refine lv_iconst (v := nI 1) hx hb dL_law_962 (by decide) ?_
  refine lv_iadd hx hb dL_law_963 ?_
  refine g_toi (y := nI (4 * j + 1)) (nI_add (4 * j) 1) ?_
  refine va_sld hx hb hX hbl hbA hS (vp_in_nI (by omega) (by omega)) dL_law_964 ?_
  obtain ⟨E, hE⟩ : ∃ E : AO, ((0, (rowAt A0.2.1 (xs (nI (4 * j + 1)).toNatClampNeg)).toInt64, A0) : AO) = E := ⟨_, rfl⟩
  obtain ⟨h0, hX3⟩ := x_out l hT9 G x0 ad u A0 (xs (nI (4 * j + 1)).toNatClampNeg) E hR hE
  have hPn : va_P G.1 vwCl (([(o1, .inl (G.2.1 2, 1, .inr (.inl ov)))] ++ (xW G x0 ad u)) ++ (mW G o am v)) H := hP
  have hDn : va_D (fun q : Nat => s.heap.size ≤ q) (([(o1, .inl (G.2.1 2, 1, .inr (.inl ov)))] ++ (xW G x0 ad u)) ++ (mW G o am v)) := hD
  refine b_calli (P := [(o1, .inl (G.2.1 2, 1, .inr (.inl ov)))]) (B := (xW G x0 ad u)) (T := (mW G o am v)) (g_runV (As := [.int (xs (nI (4 * j + 1)).toNatClampNeg)]) (rest := []) ⟨hx, hb, hml, hown, htu⟩ (hX3 _) uM_L_117 ok_X3_out in_X3_out rfl rfl ⟨Nat.le_of_ble_eq_true rfl, Nat.le_of_ble_eq_true rfl⟩ hK hPn hDn hS hA hZ (List.range' [(o1, .inl (G.2.1 2, 1, .inr (.inl ov)))].length (xW G x0 ad u).length) (blkC [(o1, .inl (G.2.1 2, 1, .inr (.inl ov)))] (xW G x0 ad u) (mW G o am v)) (va_nd_of List.nodup_range') 1 rfl rfl rfl rfl hl.1 rfl (Nat.le_of_ble_eq_true rfl) dL_law_965 ⟨by show _ ≤ 601024; omega, by show _ ≤ 7293033; omega⟩) hPn hDn hS hA (fun r u1 H locs hw hP hD hS => ?_)
  obtain ⟨er, hR1⟩ := hw
  have hR1 : XR u1 E.2.2 := hR1
  have hP : va_P G.1 vwCl (((o1, .inl (G.2.1 2, 1, .inr (.inl ov))) :: xW G x0 ad u1) ++ mW G o am v) H := hP
  have hD : va_D (fun q : Nat => s.heap.size ≤ q) (((o1, .inl (G.2.1 2, 1, .inr (.inl ov))) :: xW G x0 ad u1) ++ mW G o am v) := hD
  refine lv_aload_n hx hb dL_law_968 rfl (lv_at hl 3 rfl) ?_
  refine lv_aload_n hx hb dL_law_969 rfl (lv_at hl 1 rfl) ?_
  refine lv_iload hx hb dL_law_970 (lv_at hl 0 rfl) ?_
  refine lv_iconst (v := nI 1) hx hb dL_law_972 (by decide) ?_
  refine lv_iadd hx hb dL_law_973 ?_
  refine g_toi (y := nI (4 * j + 1)) (nI_add (4 * j) 1) ?_
  refine va_sld hx hb hX hbl hbA hS (vp_in_nI (by omega) (by omega)) dL_law_974 ?_
  have hPn : va_P G.1 vwCl ((((o1, .inl (G.2.1 2, 1, .inr (.inl ov))) :: xW G x0 ad u1) ++ (mW G o am v)) ++ []) H := by rw [List.append_nil]; exact hP
  have hDn : va_D (fun q : Nat => s.heap.size ≤ q) ((((o1, .inl (G.2.1 2, 1, .inr (.inl ov))) :: xW G x0 ad u1) ++ (mW G o am v)) ++ []) := by rw [List.append_nil]; exact hD
  refine b_calli (P := ((o1, .inl (G.2.1 2, 1, .inr (.inl ov))) :: xW G x0 ad u1)) (B := (mW G o am v)) (T := []) (g_runV (As := [.int (xs (nI (4 * j + 1)).toNatClampNeg)]) (rest := [.int r]) ⟨hx, hb, hml, hown, htu⟩ (m_out l G _ o am v A0 (xs (nI (4 * j + 1)).toNatClampNeg) E hM hE) uM_L_120 ok_X4_out in_X4_out rfl rfl ⟨Nat.le_of_ble_eq_true rfl, Nat.le_of_ble_eq_true rfl⟩ hK hPn hDn hS hA hZ (List.range' ((o1, .inl (G.2.1 2, 1, .inr (.inl ov))) :: xW G x0 ad u1).length (mW G o am v).length) (blkC ((o1, .inl (G.2.1 2, 1, .inr (.inl ov))) :: xW G x0 ad u1) (mW G o am v) []) (va_nd_of List.nodup_range') 68 rfl rfl rfl rfl hl.1 rfl (Nat.le_of_ble_eq_true rfl) dL_law_975 ⟨by show _ ≤ 601024; omega, by show _ ≤ 7293033; omega⟩) hPn hDn hS hA (fun r2 v1 H locs hm1 hP hD hS => ?_)
  rw [List.append_nil] at hP hD
  have hm1 : MR v1 E.2.2 ∧ v1.2.2.1 = nI E.1 ∧ (E.1 = 0 → (Int32.toInt64 r2) = E.2.1) := hm1
  have hP : va_P G.1 vwCl (((o1, .inl (G.2.1 2, 1, .inr (.inl ov))) :: xW G x0 ad u1) ++ mW G o am v1) H := hP
  have hD : va_D (fun q : Nat => s.heap.size ≤ q) (((o1, .inl (G.2.1 2, 1, .inr (.inl ov))) :: xW G x0 ad u1) ++ mW G o am v1) := hD
  refine lv_icmp_eq (tgt := 1048) hx hb dL_law_978 (by decide) (fun _ => ?_) (fun c_978 => absurd (i2l_inj (er.trans (hm1.2.2 h0).symm)) c_978)
  refine W.widen (k := cells + 1) (n := slots + 6) (by omega) (by omega) ?_
  exact kk u1 v1 ov E.2.2 _ _ _ hR1 hm1.1 hP hD hS (lv_sub hl [0, 1, 2, 3, 4] rfl)
set_option maxHeartbeats 4000000 in
set_option maxRecDepth 100000 in
theorem law_outs {p : Program} {l : Launch} {e : Env} {s : State} {m : MethodId} {below : List Frame} {meth : Method} {c : Code} {b L x0 o o1 j cells slots : Nat} {xs : Nat → Int32} {G : GW} {ad am : Nat → Nat} {ov : Nat → Int64} {u : XU} {v : MST} {A0 : AS} {Q : State → Prop} {H : Heap} {locs : List Loc} {ls : Array Slot} (hT9 : l.stackTraces = false) (hx : p.tables.exec = Jvm.exec) (hb : c.code = code) (hml : c.maxLocals = 8) (hown : s.vm.findClass RL = some m.cls) (htu : ∀ w ∈ UW, w.before #[Value.ref b] s = true) (hX : va_X b L xs s s.heap) (hbl : b < s.heap.size) (hK : gK G s) (hZ : gZ G (fun q : Nat => s.heap.size ≤ q) s s.heap) (hL : L ≤ 2048) (hj : 4 * j + 4 ≤ L) (hc : cells + 1 ≤ 601024) (hs : slots + 6 ≤ 7293033) (hR : XR u A0) (hM : MR v A0) (hP : va_P G.1 vwCl (((o1, .inl (G.2.1 2, 1, .inr (.inl ov))) :: xW G x0 ad u) ++ mW G o am v) H) (hD : va_D (fun q : Nat => s.heap.size ≤ q) (((o1, .inl (G.2.1 2, 1, .inr (.inl ov))) :: xW G x0 ad u) ++ mW G o am v)) (hS : va_S (fun q : Nat => s.heap.size ≤ q) s.heap H locs) (hl : lv_has ls 8 [(4, .int (nI (4 * j))), (0, .ref b), (1, .ref x0), (2, .ref o), (3, .ref o1)])
    (kk : ∀ (u1 : XU) (v1 : MST) (ov1 : Nat → Int64) (A1 : AS) (H : Heap) (locs : List Loc) (ls : Array Slot), XR u1 A1 → MR v1 A1 → va_P G.1 vwCl (((o1, .inl (G.2.1 2, 1, .inr (.inl ov1))) :: xW G x0 ad u1) ++ mW G o am v1) H → va_D (fun q : Nat => s.heap.size ≤ q) (((o1, .inl (G.2.1 2, 1, .inr (.inl ov1))) :: xW G x0 ad u1) ++ mW G o am v1) → va_S (fun q : Nat => s.heap.size ≤ q) s.heap H locs → lv_has ls 8 [(4, .int (nI (4 * j))), (0, .ref b), (1, .ref x0), (2, .ref o), (3, .ref o1)] → W p l e room_1 s m #[Value.ref b] below meth c H locs (cells + 1) (slots + 6) Q (F0 m 1048 ls [])) : W p l e room_1 s m #[Value.ref b] below meth c H locs cells slots Q (F0 m 983 ls []) := by
  have hA : ∀ q : Nat, s.heap.size ≤ q → (fun q : Nat => s.heap.size ≤ q) q := fun _ h => h
  have hbA : ¬ (fun q : Nat => s.heap.size ≤ q) b := Nat.not_le.mpr hbl
  refine lv_aload_n hx hb dL_law_983 rfl (lv_at hl 2 rfl) ?_
  refine lv_aload_n hx hb dL_law_984 rfl (lv_at hl 1 rfl) ?_
  refine lv_iload hx hb dL_law_985 (lv_at hl 0 rfl) ?_
  refine lv_iconst (v := nI 1) hx hb dL_law_987 (by decide) ?_
  refine lv_iadd hx hb dL_law_988 ?_
  refine g_toi (y := nI (4 * j + 1)) (nI_add (4 * j) 1) ?_
  refine va_sld hx hb hX hbl hbA hS (vp_in_nI (by omega) (by omega)) dL_law_989 ?_
  obtain ⟨E, hE⟩ : ∃ E : AO, ((0, outsQ A0.2.1 (xs (nI (4 * j + 1)).toNatClampNeg) 8, A0) : AO) = E := ⟨_, rfl⟩
  obtain ⟨h0, hX3⟩ := x_outs l hT9 G x0 ad u A0 (xs (nI (4 * j + 1)).toNatClampNeg) E hR hE
  have hPn : va_P G.1 vwCl (([(o1, .inl (G.2.1 2, 1, .inr (.inl ov)))] ++ (xW G x0 ad u)) ++ (mW G o am v)) H := hP
  have hDn : va_D (fun q : Nat => s.heap.size ≤ q) (([(o1, .inl (G.2.1 2, 1, .inr (.inl ov)))] ++ (xW G x0 ad u)) ++ (mW G o am v)) := hD
  refine b_calll (P := [(o1, .inl (G.2.1 2, 1, .inr (.inl ov)))]) (B := (xW G x0 ad u)) (T := (mW G o am v)) (g_runV (As := [.int (xs (nI (4 * j + 1)).toNatClampNeg)]) (rest := []) ⟨hx, hb, hml, hown, htu⟩ (hX3 _) uM_L_121 ok_X3_outs in_X3_outs rfl rfl ⟨Nat.le_of_ble_eq_true rfl, Nat.le_of_ble_eq_true rfl⟩ hK hPn hDn hS hA hZ (List.range' [(o1, .inl (G.2.1 2, 1, .inr (.inl ov)))].length (xW G x0 ad u).length) (blkC [(o1, .inl (G.2.1 2, 1, .inr (.inl ov)))] (xW G x0 ad u) (mW G o am v)) (va_nd_of List.nodup_range') 1 rfl rfl rfl rfl hl.1 rfl (Nat.le_of_ble_eq_true rfl) dL_law_990 ⟨by show _ ≤ 601024; omega, by show _ ≤ 7293033; omega⟩) hPn hDn hS hA (fun r u1 H locs hw hP hD hS => ?_)
  obtain ⟨er, hR1⟩ := hw
  have hR1 : XR u1 E.2.2 := hR1
  have hP : va_P G.1 vwCl (((o1, .inl (G.2.1 2, 1, .inr (.inl ov))) :: xW G x0 ad u1) ++ mW G o am v) H := hP
  have hD : va_D (fun q : Nat => s.heap.size ≤ q) (((o1, .inl (G.2.1 2, 1, .inr (.inl ov))) :: xW G x0 ad u1) ++ mW G o am v) := hD
  refine lv_aload_n hx hb dL_law_993 rfl (lv_at hl 3 rfl) ?_
  refine lv_aload_n hx hb dL_law_994 rfl (lv_at hl 1 rfl) ?_
  refine lv_iload hx hb dL_law_995 (lv_at hl 0 rfl) ?_
  refine lv_iconst (v := nI 1) hx hb dL_law_997 (by decide) ?_
  refine lv_iadd hx hb dL_law_998 ?_
  refine g_toi (y := nI (4 * j + 1)) (nI_add (4 * j) 1) ?_
  refine va_sld hx hb hX hbl hbA hS (vp_in_nI (by omega) (by omega)) dL_law_999 ?_
  have hPn : va_P G.1 vwCl ((((o1, .inl (G.2.1 2, 1, .inr (.inl ov))) :: xW G x0 ad u1) ++ (mW G o am v)) ++ []) H := by rw [List.append_nil]; exact hP
  have hDn : va_D (fun q : Nat => s.heap.size ≤ q) ((((o1, .inl (G.2.1 2, 1, .inr (.inl ov))) :: xW G x0 ad u1) ++ (mW G o am v)) ++ []) := by rw [List.append_nil]; exact hD
  refine b_calll (P := ((o1, .inl (G.2.1 2, 1, .inr (.inl ov))) :: xW G x0 ad u1)) (B := (mW G o am v)) (T := []) (g_runV (As := [.int (xs (nI (4 * j + 1)).toNatClampNeg)]) (rest := [.long r]) ⟨hx, hb, hml, hown, htu⟩ (m_outs l G _ o am v A0 (xs (nI (4 * j + 1)).toNatClampNeg) E hM hE) uM_L_124 ok_X4_outs in_X4_outs rfl rfl ⟨Nat.le_of_ble_eq_true rfl, Nat.le_of_ble_eq_true rfl⟩ hK hPn hDn hS hA hZ (List.range' ((o1, .inl (G.2.1 2, 1, .inr (.inl ov))) :: xW G x0 ad u1).length (mW G o am v).length) (blkC ((o1, .inl (G.2.1 2, 1, .inr (.inl ov))) :: xW G x0 ad u1) (mW G o am v) []) (va_nd_of List.nodup_range') 68 rfl rfl rfl rfl hl.1 rfl (Nat.le_of_ble_eq_true rfl) dL_law_1000 ⟨by show _ ≤ 601024; omega, by show _ ≤ 7293033; omega⟩) hPn hDn hS hA (fun r2 v1 H locs hm1 hP hD hS => ?_)
  rw [List.append_nil] at hP hD
  have hm1 : MR v1 E.2.2 ∧ v1.2.2.1 = nI E.1 ∧ (E.1 = 0 → r2 = E.2.1) := hm1
  have hP : va_P G.1 vwCl (((o1, .inl (G.2.1 2, 1, .inr (.inl ov))) :: xW G x0 ad u1) ++ mW G o am v1) H := hP
  have hD : va_D (fun q : Nat => s.heap.size ≤ q) (((o1, .inl (G.2.1 2, 1, .inr (.inl ov))) :: xW G x0 ad u1) ++ mW G o am v1) := hD
  refine W.lcmp hx hb dL_law_1003 ?_
  refine lv_if_eq (tgt := 1048) hx hb dL_law_1004 (by decide) (fun _ => ?_) (fun c_1004 => absurd (lcmp0 (er.trans (hm1.2.2 h0).symm)) c_1004)
  refine W.widen (k := cells + 1) (n := slots + 6) (by omega) (by omega) ?_
  exact kk u1 v1 ov E.2.2 _ _ _ hR1 hm1.1 hP hD hS (lv_sub hl [0, 1, 2, 3, 4] rfl)
set_option maxHeartbeats 4000000 in
set_option maxRecDepth 100000 in
theorem law_isOut {p : Program} {l : Launch} {e : Env} {s : State} {m : MethodId} {below : List Frame} {meth : Method} {c : Code} {b L x0 o o1 j cells slots : Nat} {xs : Nat → Int32} {G : GW} {ad am : Nat → Nat} {ov : Nat → Int64} {u : XU} {v : MST} {A0 : AS} {Q : State → Prop} {H : Heap} {locs : List Loc} {ls : Array Slot} (hT9 : l.stackTraces = false) (hx : p.tables.exec = Jvm.exec) (hb : c.code = code) (hml : c.maxLocals = 8) (hown : s.vm.findClass RL = some m.cls) (htu : ∀ w ∈ UW, w.before #[Value.ref b] s = true) (hX : va_X b L xs s s.heap) (hbl : b < s.heap.size) (hK : gK G s) (hZ : gZ G (fun q : Nat => s.heap.size ≤ q) s s.heap) (hL : L ≤ 2048) (hj : 4 * j + 4 ≤ L) (hc : cells + 1 ≤ 601024) (hs : slots + 6 ≤ 7293033) (hR : XR u A0) (hM : MR v A0) (hP : va_P G.1 vwCl (((o1, .inl (G.2.1 2, 1, .inr (.inl ov))) :: xW G x0 ad u) ++ mW G o am v) H) (hD : va_D (fun q : Nat => s.heap.size ≤ q) (((o1, .inl (G.2.1 2, 1, .inr (.inl ov))) :: xW G x0 ad u) ++ mW G o am v)) (hS : va_S (fun q : Nat => s.heap.size ≤ q) s.heap H locs) (hl : lv_has ls 8 [(4, .int (nI (4 * j))), (0, .ref b), (1, .ref x0), (2, .ref o), (3, .ref o1)])
    (kk : ∀ (u1 : XU) (v1 : MST) (ov1 : Nat → Int64) (A1 : AS) (H : Heap) (locs : List Loc) (ls : Array Slot), XR u1 A1 → MR v1 A1 → va_P G.1 vwCl (((o1, .inl (G.2.1 2, 1, .inr (.inl ov1))) :: xW G x0 ad u1) ++ mW G o am v1) H → va_D (fun q : Nat => s.heap.size ≤ q) (((o1, .inl (G.2.1 2, 1, .inr (.inl ov1))) :: xW G x0 ad u1) ++ mW G o am v1) → va_S (fun q : Nat => s.heap.size ≤ q) s.heap H locs → lv_has ls 8 [(4, .int (nI (4 * j))), (0, .ref b), (1, .ref x0), (2, .ref o), (3, .ref o1)] → W p l e room_1 s m #[Value.ref b] below meth c H locs (cells + 1) (slots + 6) Q (F0 m 1048 ls [])) : W p l e room_1 s m #[Value.ref b] below meth c H locs cells slots Q (F0 m 1009 ls []) := by
  have hA : ∀ q : Nat, s.heap.size ≤ q → (fun q : Nat => s.heap.size ≤ q) q := fun _ h => h
  have hbA : ¬ (fun q : Nat => s.heap.size ≤ q) b := Nat.not_le.mpr hbl
  refine lv_aload_n hx hb dL_law_1009 rfl (lv_at hl 2 rfl) ?_
  obtain ⟨E, hE⟩ : ∃ E : AO, isOutA A0 = E := ⟨_, rfl⟩
  obtain ⟨h0, hX3⟩ := x_isOut l hT9 G x0 ad u A0  E hR hE
  have hPn : va_P G.1 vwCl (([(o1, .inl (G.2.1 2, 1, .inr (.inl ov)))] ++ (xW G x0 ad u)) ++ (mW G o am v)) H := hP
  have hDn : va_D (fun q : Nat => s.heap.size ≤ q) (([(o1, .inl (G.2.1 2, 1, .inr (.inl ov)))] ++ (xW G x0 ad u)) ++ (mW G o am v)) := hD
  refine b_calli (P := [(o1, .inl (G.2.1 2, 1, .inr (.inl ov)))]) (B := (xW G x0 ad u)) (T := (mW G o am v)) (g_runV (As := []) (rest := []) ⟨hx, hb, hml, hown, htu⟩ (hX3 _) uM_L_125 ok_X3_isOut in_X3_isOut rfl rfl ⟨Nat.le_of_ble_eq_true rfl, Nat.le_of_ble_eq_true rfl⟩ hK hPn hDn hS hA hZ (List.range' [(o1, .inl (G.2.1 2, 1, .inr (.inl ov)))].length (xW G x0 ad u).length) (blkC [(o1, .inl (G.2.1 2, 1, .inr (.inl ov)))] (xW G x0 ad u) (mW G o am v)) (va_nd_of List.nodup_range') 1 rfl rfl rfl rfl hl.1 rfl (Nat.le_of_ble_eq_true rfl) dL_law_1010 ⟨by show _ ≤ 601024; omega, by show _ ≤ 7293033; omega⟩) hPn hDn hS hA (fun r u1 H locs hw hP hD hS => ?_)
  obtain ⟨er, hR1⟩ := hw
  have hR1 : XR u1 E.2.2 := hR1
  have hP : va_P G.1 vwCl (((o1, .inl (G.2.1 2, 1, .inr (.inl ov))) :: xW G x0 ad u1) ++ mW G o am v) H := hP
  have hD : va_D (fun q : Nat => s.heap.size ≤ q) (((o1, .inl (G.2.1 2, 1, .inr (.inl ov))) :: xW G x0 ad u1) ++ mW G o am v) := hD
  refine lv_aload_n hx hb dL_law_1013 rfl (lv_at hl 3 rfl) ?_
  have hPn : va_P G.1 vwCl ((((o1, .inl (G.2.1 2, 1, .inr (.inl ov))) :: xW G x0 ad u1) ++ (mW G o am v)) ++ []) H := by rw [List.append_nil]; exact hP
  have hDn : va_D (fun q : Nat => s.heap.size ≤ q) ((((o1, .inl (G.2.1 2, 1, .inr (.inl ov))) :: xW G x0 ad u1) ++ (mW G o am v)) ++ []) := by rw [List.append_nil]; exact hD
  refine b_calli (P := ((o1, .inl (G.2.1 2, 1, .inr (.inl ov))) :: xW G x0 ad u1)) (B := (mW G o am v)) (T := []) (g_runV (As := []) (rest := [.int r]) ⟨hx, hb, hml, hown, htu⟩ (m_isOut l G _ o am v A0  E hM hE) uM_L_129 ok_X4_isOut in_X4_isOut rfl rfl ⟨Nat.le_of_ble_eq_true rfl, Nat.le_of_ble_eq_true rfl⟩ hK hPn hDn hS hA hZ (List.range' ((o1, .inl (G.2.1 2, 1, .inr (.inl ov))) :: xW G x0 ad u1).length (mW G o am v).length) (blkC ((o1, .inl (G.2.1 2, 1, .inr (.inl ov))) :: xW G x0 ad u1) (mW G o am v) []) (va_nd_of List.nodup_range') 68 rfl rfl rfl rfl hl.1 rfl (Nat.le_of_ble_eq_true rfl) dL_law_1014 ⟨by show _ ≤ 601024; omega, by show _ ≤ 7293033; omega⟩) hPn hDn hS hA (fun r2 v1 H locs hm1 hP hD hS => ?_)
  rw [List.append_nil] at hP hD
  have hm1 : MR v1 E.2.2 ∧ v1.2.2.1 = nI E.1 ∧ (E.1 = 0 → (Int32.toInt64 r2) = E.2.1) := hm1
  have hP : va_P G.1 vwCl (((o1, .inl (G.2.1 2, 1, .inr (.inl ov))) :: xW G x0 ad u1) ++ mW G o am v1) H := hP
  have hD : va_D (fun q : Nat => s.heap.size ≤ q) (((o1, .inl (G.2.1 2, 1, .inr (.inl ov))) :: xW G x0 ad u1) ++ mW G o am v1) := hD
  refine lv_icmp_eq (tgt := 1048) hx hb dL_law_1017 (by decide) (fun _ => ?_) (fun c_1017 => absurd (i2l_inj (er.trans (hm1.2.2 h0).symm)) c_1017)
  refine W.widen (k := cells + 1) (n := slots + 6) (by omega) (by omega) ?_
  exact kk u1 v1 ov E.2.2 _ _ _ hR1 hm1.1 hP hD hS (lv_sub hl [0, 1, 2, 3, 4] rfl)
set_option maxHeartbeats 4000000 in
set_option maxRecDepth 100000 in
theorem law_constant {p : Program} {l : Launch} {e : Env} {s : State} {m : MethodId} {below : List Frame} {meth : Method} {c : Code} {b L x0 o o1 j cells slots : Nat} {xs : Nat → Int32} {G : GW} {ad am : Nat → Nat} {ov : Nat → Int64} {u : XU} {v : MST} {A0 : AS} {Q : State → Prop} {H : Heap} {locs : List Loc} {ls : Array Slot} (hT9 : l.stackTraces = false) (hx : p.tables.exec = Jvm.exec) (hb : c.code = code) (hml : c.maxLocals = 8) (hown : s.vm.findClass RL = some m.cls) (htu : ∀ w ∈ UW, w.before #[Value.ref b] s = true) (hX : va_X b L xs s s.heap) (hbl : b < s.heap.size) (hK : gK G s) (hZ : gZ G (fun q : Nat => s.heap.size ≤ q) s s.heap) (hL : L ≤ 2048) (hj : 4 * j + 4 ≤ L) (hc : cells + 1 ≤ 601024) (hs : slots + 6 ≤ 7293033) (hR : XR u A0) (hM : MR v A0) (hP : va_P G.1 vwCl (((o1, .inl (G.2.1 2, 1, .inr (.inl ov))) :: xW G x0 ad u) ++ mW G o am v) H) (hD : va_D (fun q : Nat => s.heap.size ≤ q) (((o1, .inl (G.2.1 2, 1, .inr (.inl ov))) :: xW G x0 ad u) ++ mW G o am v)) (hS : va_S (fun q : Nat => s.heap.size ≤ q) s.heap H locs) (hl : lv_has ls 8 [(4, .int (nI (4 * j))), (0, .ref b), (1, .ref x0), (2, .ref o), (3, .ref o1)])
    (kk : ∀ (u1 : XU) (v1 : MST) (ov1 : Nat → Int64) (A1 : AS) (H : Heap) (locs : List Loc) (ls : Array Slot), XR u1 A1 → MR v1 A1 → va_P G.1 vwCl (((o1, .inl (G.2.1 2, 1, .inr (.inl ov1))) :: xW G x0 ad u1) ++ mW G o am v1) H → va_D (fun q : Nat => s.heap.size ≤ q) (((o1, .inl (G.2.1 2, 1, .inr (.inl ov1))) :: xW G x0 ad u1) ++ mW G o am v1) → va_S (fun q : Nat => s.heap.size ≤ q) s.heap H locs → lv_has ls 8 [(4, .int (nI (4 * j))), (0, .ref b), (1, .ref x0), (2, .ref o), (3, .ref o1)] → W p l e room_1 s m #[Value.ref b] below meth c H locs (cells + 1) (slots + 6) Q (F0 m 1048 ls [])) : W p l e room_1 s m #[Value.ref b] below meth c H locs cells slots Q (F0 m 1022 ls []) := by
  have hA : ∀ q : Nat, s.heap.size ≤ q → (fun q : Nat => s.heap.size ≤ q) q := fun _ h => h
  have hbA : ¬ (fun q : Nat => s.heap.size ≤ q) b := Nat.not_le.mpr hbl
  refine lv_aload_n hx hb dL_law_1022 rfl (lv_at hl 2 rfl) ?_
  refine lv_aload_n hx hb dL_law_1023 rfl (lv_at hl 1 rfl) ?_
  refine lv_iload hx hb dL_law_1024 (lv_at hl 0 rfl) ?_
  refine lv_iconst (v := nI 1) hx hb dL_law_1026 (by decide) ?_
  refine lv_iadd hx hb dL_law_1027 ?_
  refine g_toi (y := nI (4 * j + 1)) (nI_add (4 * j) 1) ?_
  refine va_sld hx hb hX hbl hbA hS (vp_in_nI (by omega) (by omega)) dL_law_1028 ?_
  obtain ⟨E, hE⟩ : ∃ E : AO, ((0, constQ (xs (nI (4 * j + 1)).toNatClampNeg), A0) : AO) = E := ⟨_, rfl⟩
  obtain ⟨h0, hX3⟩ := x_constant l hT9 G x0 ad u A0 (xs (nI (4 * j + 1)).toNatClampNeg) E hR hE
  have hPn : va_P G.1 vwCl (([(o1, .inl (G.2.1 2, 1, .inr (.inl ov)))] ++ (xW G x0 ad u)) ++ (mW G o am v)) H := hP
  have hDn : va_D (fun q : Nat => s.heap.size ≤ q) (([(o1, .inl (G.2.1 2, 1, .inr (.inl ov)))] ++ (xW G x0 ad u)) ++ (mW G o am v)) := hD
  refine b_calll (P := [(o1, .inl (G.2.1 2, 1, .inr (.inl ov)))]) (B := (xW G x0 ad u)) (T := (mW G o am v)) (g_runV (As := [.int (xs (nI (4 * j + 1)).toNatClampNeg)]) (rest := []) ⟨hx, hb, hml, hown, htu⟩ (hX3 _) uM_L_130 ok_X3_constant in_X3_constant rfl rfl ⟨Nat.le_of_ble_eq_true rfl, Nat.le_of_ble_eq_true rfl⟩ hK hPn hDn hS hA hZ (List.range' [(o1, .inl (G.2.1 2, 1, .inr (.inl ov)))].length (xW G x0 ad u).length) (blkC [(o1, .inl (G.2.1 2, 1, .inr (.inl ov)))] (xW G x0 ad u) (mW G o am v)) (va_nd_of List.nodup_range') 1 rfl rfl rfl rfl hl.1 rfl (Nat.le_of_ble_eq_true rfl) dL_law_1029 ⟨by show _ ≤ 601024; omega, by show _ ≤ 7293033; omega⟩) hPn hDn hS hA (fun r u1 H locs hw hP hD hS => ?_)
  obtain ⟨er, hR1⟩ := hw
  have hR1 : XR u1 E.2.2 := hR1
  have hP : va_P G.1 vwCl (((o1, .inl (G.2.1 2, 1, .inr (.inl ov))) :: xW G x0 ad u1) ++ mW G o am v) H := hP
  have hD : va_D (fun q : Nat => s.heap.size ≤ q) (((o1, .inl (G.2.1 2, 1, .inr (.inl ov))) :: xW G x0 ad u1) ++ mW G o am v) := hD
  refine lv_aload_n hx hb dL_law_1032 rfl (lv_at hl 3 rfl) ?_
  refine lv_aload_n hx hb dL_law_1033 rfl (lv_at hl 1 rfl) ?_
  refine lv_iload hx hb dL_law_1034 (lv_at hl 0 rfl) ?_
  refine lv_iconst (v := nI 1) hx hb dL_law_1036 (by decide) ?_
  refine lv_iadd hx hb dL_law_1037 ?_
  refine g_toi (y := nI (4 * j + 1)) (nI_add (4 * j) 1) ?_
  refine va_sld hx hb hX hbl hbA hS (vp_in_nI (by omega) (by omega)) dL_law_1038 ?_
  have hPn : va_P G.1 vwCl ((((o1, .inl (G.2.1 2, 1, .inr (.inl ov))) :: xW G x0 ad u1) ++ (mW G o am v)) ++ []) H := by rw [List.append_nil]; exact hP
  have hDn : va_D (fun q : Nat => s.heap.size ≤ q) ((((o1, .inl (G.2.1 2, 1, .inr (.inl ov))) :: xW G x0 ad u1) ++ (mW G o am v)) ++ []) := by rw [List.append_nil]; exact hD
  refine b_calll (P := ((o1, .inl (G.2.1 2, 1, .inr (.inl ov))) :: xW G x0 ad u1)) (B := (mW G o am v)) (T := []) (g_runV (As := [.int (xs (nI (4 * j + 1)).toNatClampNeg)]) (rest := [.long r]) ⟨hx, hb, hml, hown, htu⟩ (m_constant l G _ o am v A0 (xs (nI (4 * j + 1)).toNatClampNeg) E hM hE) uM_L_133 ok_X4_constant in_X4_constant rfl rfl ⟨Nat.le_of_ble_eq_true rfl, Nat.le_of_ble_eq_true rfl⟩ hK hPn hDn hS hA hZ (List.range' ((o1, .inl (G.2.1 2, 1, .inr (.inl ov))) :: xW G x0 ad u1).length (mW G o am v).length) (blkC ((o1, .inl (G.2.1 2, 1, .inr (.inl ov))) :: xW G x0 ad u1) (mW G o am v) []) (va_nd_of List.nodup_range') 68 rfl rfl rfl rfl hl.1 rfl (Nat.le_of_ble_eq_true rfl) dL_law_1039 ⟨by show _ ≤ 601024; omega, by show _ ≤ 7293033; omega⟩) hPn hDn hS hA (fun r2 v1 H locs hm1 hP hD hS => ?_)
  rw [List.append_nil] at hP hD
  have hm1 : MR v1 E.2.2 ∧ v1.2.2.1 = nI E.1 ∧ (E.1 = 0 → r2 = E.2.1) := hm1
  have hP : va_P G.1 vwCl (((o1, .inl (G.2.1 2, 1, .inr (.inl ov))) :: xW G x0 ad u1) ++ mW G o am v1) H := hP
  have hD : va_D (fun q : Nat => s.heap.size ≤ q) (((o1, .inl (G.2.1 2, 1, .inr (.inl ov))) :: xW G x0 ad u1) ++ mW G o am v1) := hD
  refine W.lcmp hx hb dL_law_1042 ?_
  refine lv_if_eq (tgt := 1048) hx hb dL_law_1043 (by decide) (fun _ => ?_) (fun c_1043 => absurd (lcmp0 (er.trans (hm1.2.2 h0).symm)) c_1043)
  refine W.widen (k := cells + 1) (n := slots + 6) (by omega) (by omega) ?_
  exact kk u1 v1 ov E.2.2 _ _ _ hR1 hm1.1 hP hD hS (lv_sub hl [0, 1, 2, 3, 4] rfl)
