/-! THE BASE: one world predicate, one contract form, entry, return, calls, loops -/
/-- what all worlds share: the classes' numbers and slots, the array classes, the cells of the static arrays -/
abbrev GW : Type := va_G × (Nat → ClassId) × (Nat → Nat)
abbrev gT (G : GW) : List (ClassId × FieldType) := [(G.2.1 0, .byte), (G.2.1 1, .int), (G.2.1 2, .long), (G.2.1 3, .boolean), (G.2.1 4, .object "DigestStack$Row"), (G.2.1 5, .object "DigestStack$Stream")]
def kTl : List Int64 := [
  4794697086780616226, 8158064640168781261, -5349999486874862801, -1606136188198331460, 4131703408338449720, 6480981068601479193, -7908458776815382629, -6116909921290321640,
  -2880145864133508542, 1334009975649890238, 2608012711638119052, 6128411473006802146, 8268148722764581231, -9160688886553864527, -7215885187991268811, -4495734319001033068,
  -1973867731355612462, -1171420211273849373, 1135362057144423861, 2597628984639134821, 3308224258029322869, 5365058923640841347, 6679025012923562964, 8573033837759648693,
  -7476448914759557205, -6327057829258317296, -5763719355590565569, -4658551843659510044, -4116276920077217854, -3051310485924567259, 489312712824947311, 1452737877330783856,
  2861767655752347644, 3322285676063803686, 5560940570517711597, 5996557281743188959, 7280758554555802590, 8532644243296465576, -9096487096722542874, -7894198246740708037,
  -6719396339535248540, -6333637450476146687, -4446306890439682159, -4076793802049405392, -3345356375505022440, -2983346525034927856, -860691631967231958, 1182934255886127544,
  1847814050463011016, 2177327727835720531, 2830643537854262169, 3796741975233480872, 4115178125766777443, 5681478168544905931, 6601373596472566643, 7507060721942968483,
  8399075790359081724, 8693463985226723168, -8878714635349349518, -8302665154208450068, -8016688836872298968, -6606660893046293015, -4685533653050689259, -4147400797238176981,
  -3880063495543823972, -3348786107499101689, -1523767162380948706, -757361751448694408, 500013540394364858, 748580250866718886, 1242879168328830382, 1977374033974150939,
  2944078676154940804, 3659926193048069267, 4368137639120453308, 4836135668995329356, 5532061633213252278, 6448918945643986474, 6902733635092675308, 7801388544844847127]
def kT (j : Nat) : Int64 := kTl.getD j 0
def sqA (j : Nat) : Int64 := ([7640891576956012808, -4942790177534073029, 4354685564936845355, -6534734903238641935, 5840696475078001361, -7276294671716946913, 2270897969802886507, 6620516959819538809] : List Int64).getD j 0
def sqB (j : Nat) : Int64 := ([-3766243637369397544, 7105036623409894663, -7973340178411365097, 1526699215303891257, 7436329637833083697, -8163818279084223215, -2662702644619276377, 5167115440072839076] : List Int64).getD j 0
def dsz (j : Nat) : Int32 := ([28, 32, 48, 64] : List Int32).getD j 0
theorem gN_warm : ∀ w ∈ gN, ∀ (s U : State), s.WarmedH U.vm → va_Nw w s → va_Nw w U :=
  List.forall_mem_cons.mpr ⟨fun _ _ hW h => va_Nw.warmF hW h, List.forall_mem_cons.mpr ⟨fun _ _ hW h => va_Nw.warmF hW h, List.forall_mem_cons.mpr ⟨fun _ _ hW h => va_Nw.warmF hW h, List.forall_mem_cons.mpr ⟨fun _ _ hW h => va_AO.moved hW.alike h, List.forall_mem_cons.mpr ⟨fun _ _ hW h => va_AO.moved hW.alike h, List.forall_mem_cons.mpr ⟨fun _ _ hW h => va_Nw.warmM hW h, List.forall_mem_cons.mpr ⟨fun _ _ hW h => va_Nw.warmM hW h, List.forall_mem_cons.mpr ⟨fun _ _ hW h => va_Nw.warmF hW h, List.forall_mem_cons.mpr ⟨fun _ _ hW h => va_Nw.warmF hW h, List.forall_mem_cons.mpr ⟨fun _ _ hW h => va_Nw.warmF hW h, List.forall_mem_cons.mpr ⟨fun _ _ hW h => va_Nw.warmF hW h, List.forall_mem_cons.mpr ⟨fun _ _ hW h => va_Nw.warmF hW h, List.forall_mem_cons.mpr ⟨fun _ _ hW h => va_Nw.warmF hW h, List.forall_mem_cons.mpr ⟨fun _ _ hW h => va_Nw.warmM hW h, List.forall_mem_cons.mpr ⟨fun _ _ hW h => va_Nw.warmM hW h, List.forall_mem_cons.mpr ⟨fun _ _ hW h => va_Nw.warmM hW h, List.forall_mem_cons.mpr ⟨fun _ _ hW h => va_Nw.warmF hW h, List.forall_mem_cons.mpr ⟨fun _ _ hW h => va_Nw.warmM hW h, fun _ h => absurd h List.not_mem_nil⟩⟩⟩⟩⟩⟩⟩⟩⟩⟩⟩⟩⟩⟩⟩⟩⟩⟩
theorem gN_same : ∀ w ∈ gN, ∀ (u U : State), u.vm = U.vm → va_Nw w u → va_Nw w U :=
  List.forall_mem_cons.mpr ⟨fun u U he h => va_Nw.same rfl he h, List.forall_mem_cons.mpr ⟨fun u U he h => va_Nw.same rfl he h, List.forall_mem_cons.mpr ⟨fun u U he h => va_Nw.same rfl he h, List.forall_mem_cons.mpr ⟨fun u U he h => va_AO.moved (he ▸ Vm.Alike.refl _) h, List.forall_mem_cons.mpr ⟨fun u U he h => va_AO.moved (he ▸ Vm.Alike.refl _) h, List.forall_mem_cons.mpr ⟨fun u U he h => va_Nw.same rfl he h, List.forall_mem_cons.mpr ⟨fun u U he h => va_Nw.same rfl he h, List.forall_mem_cons.mpr ⟨fun u U he h => va_Nw.same rfl he h, List.forall_mem_cons.mpr ⟨fun u U he h => va_Nw.same rfl he h, List.forall_mem_cons.mpr ⟨fun u U he h => va_Nw.same rfl he h, List.forall_mem_cons.mpr ⟨fun u U he h => va_Nw.same rfl he h, List.forall_mem_cons.mpr ⟨fun u U he h => va_Nw.same rfl he h, List.forall_mem_cons.mpr ⟨fun u U he h => va_Nw.same rfl he h, List.forall_mem_cons.mpr ⟨fun u U he h => va_Nw.same rfl he h, List.forall_mem_cons.mpr ⟨fun u U he h => va_Nw.same rfl he h, List.forall_mem_cons.mpr ⟨fun u U he h => va_Nw.same rfl he h, List.forall_mem_cons.mpr ⟨fun u U he h => va_Nw.same rfl he h, List.forall_mem_cons.mpr ⟨fun u U he h => va_Nw.same rfl he h, fun _ h => absurd h List.not_mem_nil⟩⟩⟩⟩⟩⟩⟩⟩⟩⟩⟩⟩⟩⟩⟩⟩⟩⟩
/-- the texts of the class's exceptions -/
def gStr : List (Nat × String) := [(44, "n is not 1 .. 8"), (53, "the tape has no room"), (162, "no such stream"), (168, "no such kind"), (164, "the stream has not begun, or is at its end"), (86, "n is not 0 .. 20000"), (99, "the stream has not begun"), (119, "no such question"), (166, "no such register"), (128, "n is not 0 .. 16320"), (140, "turns are not 1 .. 500"), (142, "n is not 0 .. 400")]
/-- words of the exceptions that no list of good words bears -/
def gE : List Cond := [.castable "java/lang/IllegalArgumentException" "java/lang/IllegalArgumentException", .castable "java/lang/IndexOutOfBoundsException" "java/lang/IndexOutOfBoundsException", .castable "java/lang/IllegalStateException" "java/lang/IllegalStateException", .declares ⟨"java/lang/RuntimeException", "<init>", "(Ljava/lang/String;)V"⟩, .declares ⟨"java/lang/Exception", "<init>", "(Ljava/lang/String;)V"⟩, .declares ⟨"java/lang/Throwable", "<init>", "(Ljava/lang/String;)V"⟩]
theorem gE_warm : ∀ w ∈ gE, ∀ (s U : State), s.WarmedH U.vm → va_Nw w s → va_Nw w U :=
  List.forall_mem_cons.mpr ⟨fun _ _ hW h => va_Nw.warmC hW h, List.forall_mem_cons.mpr ⟨fun _ _ hW h => va_Nw.warmC hW h, List.forall_mem_cons.mpr ⟨fun _ _ hW h => va_Nw.warmC hW h, List.forall_mem_cons.mpr ⟨fun _ _ hW h => va_Nw.warmD hW h, List.forall_mem_cons.mpr ⟨fun _ _ hW h => va_Nw.warmD hW h, List.forall_mem_cons.mpr ⟨fun _ _ hW h => va_Nw.warmD hW h, fun _ h => absurd h List.not_mem_nil⟩⟩⟩⟩⟩⟩
theorem gE_same : ∀ w ∈ gE, ∀ (u U : State), u.vm = U.vm → va_Nw w u → va_Nw w U :=
  List.forall_mem_cons.mpr ⟨fun u U he h => va_Nw.same rfl he h, List.forall_mem_cons.mpr ⟨fun u U he h => va_Nw.same rfl he h, List.forall_mem_cons.mpr ⟨fun u U he h => va_Nw.same rfl he h, List.forall_mem_cons.mpr ⟨fun u U he h => va_Nw.same rfl he h, List.forall_mem_cons.mpr ⟨fun u U he h => va_Nw.same rfl he h, List.forall_mem_cons.mpr ⟨fun u U he h => va_Nw.same rfl he h, fun _ h => absurd h List.not_mem_nil⟩⟩⟩⟩⟩⟩
def gX (U : State) : Prop := (∀ w ∈ gE, va_Nw w U) ∧ va_Nc "java/lang/IllegalArgumentException" "java/lang/IndexOutOfBoundsException" U ∧ va_Nc "java/lang/IllegalStateException" "java/lang/IndexOutOfBoundsException" U ∧ va_Nc "java/lang/IllegalArgumentException" "java/lang/IllegalStateException" U
theorem gX.warm {u U : State} (hW : u.WarmedH U.vm) (h : gX u) : gX U := ⟨fun w hw => gE_warm w hw u U hW (h.1 w hw), h.2.1.moved hW.alike, h.2.2.1.moved hW.alike, h.2.2.2.moved hW.alike⟩
theorem gX.same {u U : State} (he : u.vm = U.vm) (h : gX u) : gX U := ⟨fun w hw => gE_same w hw u U he (h.1 w hw), h.2.1.moved (he ▸ Vm.Alike.refl u.vm), h.2.2.1.moved (he ▸ Vm.Alike.refl u.vm), h.2.2.2.moved (he ▸ Vm.Alike.refl u.vm)⟩
def gK (G : GW) (U : State) : Prop := va_K G.1 vwCl (gT G) U ∧ (∀ w ∈ gN, va_Nw w U) ∧ (∀ q ∈ gStr, vk_R RX3 q.1 q.2 (G.2.2 (100 + q.1)) U) ∧ gX U
theorem gK.warm {G : GW} {u U : State} (hW : u.WarmedH U.vm) (h : gK G u) : gK G U := ⟨va_K.moved hW.alike h.1, fun w hw => gN_warm w hw u U hW (h.2.1 w hw), fun q hq => vk_R.warm hW (h.2.2.1 q hq), h.2.2.2.warm hW⟩
theorem gK.same {G : GW} {u U : State} (he : u.vm = U.vm) (h : gK G u) : gK G U := ⟨va_K.moved (he ▸ Vm.Alike.refl u.vm) h.1, fun w hw => gN_same w hw u U he (h.2.1 w hw), fun q hq => vk_R.same he.symm (h.2.2.1 q hq), h.2.2.2.same he⟩
/-- the static arrays hold what they hold, outside A -/
def gZ (G : GW) (A : Nat → Prop) (U : State) (H : Heap) : Prop :=
  (va_Z RX3 "THIRD_ROOTS" "[J" (.ref (G.2.2 0)) A U H ∧ va_T .long (G.2.2 0) 80 (fun j => .long (kT j)) A U H) ∧
  (va_Z RX3 "FIRST_SQUARE_ROOTS" "[J" (.ref (G.2.2 1)) A U H ∧ va_T .long (G.2.2 1) 8 (fun j => .long (sqA j)) A U H) ∧
  (va_Z RX3 "NEXT_SQUARE_ROOTS" "[J" (.ref (G.2.2 2)) A U H ∧ va_T .long (G.2.2 2) 8 (fun j => .long (sqB j)) A U H) ∧
  (va_Z RX3 "DIGEST_SIZES" "[I" (.ref (G.2.2 3)) A U H ∧ va_T .int (G.2.2 3) 4 (fun j => .int (dsz j)) A U H) ∧
  (vx_Zq Bundle.tN "UNASSIGNED_STACK" Bundle.steD A U H ∧ vx_Zq Bundle.tN "SUPPRESSED_SENTINEL" Bundle.listD A U H)
theorem gZ.moved {G : GW} {A : Nat → Prop} {u U : State} {H : Heap} (hvm : u.vm.Alike U.vm) (h : gZ G A u H) : gZ G A U H :=
  ⟨⟨h.1.1.moved hvm, h.1.2.moved hvm⟩, ⟨h.2.1.1.moved hvm, h.2.1.2.moved hvm⟩, ⟨h.2.2.1.1.moved hvm, h.2.2.1.2.moved hvm⟩, ⟨h.2.2.2.1.1.moved hvm, h.2.2.2.1.2.moved hvm⟩, ⟨h.2.2.2.2.1.moved hvm, h.2.2.2.2.2.moved hvm⟩⟩
theorem gZ.kept {G : GW} {A : Nat → Prop} {U : State} {H H1 : Heap} (h : gZ G A U H) (hq : ∀ a : Nat, a < H.size → ¬ A a → H1[a]? = H[a]?) : gZ G A U H1 :=
  ⟨⟨h.1.1.kept hq, h.1.2.kept hq⟩, ⟨h.2.1.1.kept hq, h.2.1.2.kept hq⟩, ⟨h.2.2.1.1.kept hq, h.2.2.1.2.kept hq⟩, ⟨h.2.2.2.1.1.kept hq, h.2.2.2.1.2.kept hq⟩, ⟨h.2.2.2.2.1.kept hq, h.2.2.2.2.2.kept hq⟩⟩
theorem gZ.narrow {G : GW} {A B : Nat → Prop} {U : State} {H : Heap} (h : gZ G A U H) (hAB : ∀ q, B q → A q) : gZ G B U H :=
  ⟨⟨h.1.1.narrow hAB, h.1.2.narrow hAB⟩, ⟨h.2.1.1.narrow hAB, h.2.1.2.narrow hAB⟩, ⟨h.2.2.1.1.narrow hAB, h.2.2.1.2.narrow hAB⟩, ⟨h.2.2.2.1.1.narrow hAB, h.2.2.2.1.2.narrow hAB⟩, ⟨h.2.2.2.2.1.narrow hAB, h.2.2.2.2.2.narrow hAB⟩⟩
/-- a contract's start: the cells ws, apart, the heap's size, the tables, the statics -/
def gPre (G : GW) (ws : va_W) (sz : Nat) (U : State) : Prop := U.heap.size = sz ∧ va_P G.1 vwCl ws U.heap ∧ gK G U ∧ va_D (fun _ => True) ws ∧ gZ G (va_A ws sz) U U.heap
/-- a contract's end: the cells ws -/
def gPost (G : GW) (A : Nat → Prop) (ws : va_W) (t : State) : Prop := va_P G.1 vwCl ws t.heap ∧ va_D A ws
theorem gPre.blind {G : GW} {ws : va_W} {sz : Nat} {av : List Value} : FrameBlind (va_Pc av (gPre G ws sz)) := fun a U g mk q => by
  obtain ⟨q0, q1, q2, q3, q4, q5⟩ := q
  exact ⟨q0, q1, q2, gK.same (u := U) (U := U.calling g mk a) rfl q3, q4, gZ.moved (u := U) (U := U.calling g mk a) (Vm.Alike.refl U.vm) q5⟩
/-- entry: any contract of this form from one walk of the body, in any frame A -/
theorem gM_of {l : Launch} {y : MethodName} {cc : ByteArray} {nL : Nat} {ret : Option FieldType} {rm : Room} {G : GW} {av : List Value} {ws : va_W} {sz : Nat} {Qf : (Nat → Prop) → Array Value → State → Outcome → State → Prop} {mc ms : Nat}
    (hy : plainName y.cls = true) (hlen : (lg_sl av).length ≤ nL)
    (body : ∀ (p : Program) (e : Env) (s : State) (m : MethodId) (below : List Frame) (meth : Method) (c : Code) (A : Nat → Prop) (ls : Array Slot), p.tables.exec = Jvm.exec → c.code = cc → c.maxLocals = nL → meth.sig.returnType = ret → s.vm.findClass y.cls = some m.cls →
      (∀ w ∈ UW, w.before av.toArray s = true) → meth.locks = false → meth.name = y.name → (∀ q : Nat, s.heap.size ≤ q → A q) → va_P G.1 vwCl ws s.heap → va_D A ws → va_S A s.heap s.heap [] → gK G s → gZ G A s s.heap → lv_has ls nL (lv_args 0 av) →
      W p l e rm s m av.toArray below meth c s.heap [] 0 0 (MQ below (Qf A) av.toArray s mc ms A) (F0 m 0 ls [])) :
    Met l y (Cond.code y cc nL ret :: UW) rm (va_Pc av (gPre G ws sz)) (Qf (va_A ws sz)) mc ms (va_A ws sz) := by
  refine Met.ofW (cc := cc) (maxL := nL) (ret := ret) hy rfl ?_
  intro p e s m args below meth c s₁ B hml hv
  obtain ⟨rfl, hsz, hP, hK, hD0, hZ⟩ := hv
  have hts := atoms_spec (ws := Cond.code y cc nL ret :: UW) B.pre
  subst hsz
  have hl := lv_entry av (n := nL) hlen
  rw [lg_entry_eq]
  exact body p e s m below meth c (va_A ws s.heap.size) _ B.exec B.bytes hml B.returns (findClass_of_methodNamed B.named) (fun w h => hts w (List.mem_cons_of_mem _ h)) B.notSynchronized (name_of_methodNamed B.named B.method).1 (fun q h => Or.inr h) hP hD0.self va_S.rf hK hZ hl
section BaseRet
variable {p : Program} {l : Launch} {e : Env} {R : Room} {s : State} {m : MethodId} {args : Array Value} {below : List Frame} {meth : Method} {c : Code} {H : Heap} {locs : List Loc} {cells slots : Nat} {cc : ByteArray} {pc : Nat} {ls : Array Slot} {A : Nat → Prop} {G : GW} {S : Type}
theorem gret_v {post : S → Prop} {w1 : S → va_W} (hx : p.tables.exec = Jvm.exec) (hb : c.code = cc) (hr : meth.sig.returnType = none) (hlk : meth.locks = false) (hdg : decode cc pc = .ok (.return_, 1)) (hS : va_S A s.heap H locs) (u : S) (hP : va_P G.1 vwCl (w1 u) H) (hD : va_D A (w1 u)) (hp : post u) :
    W p l e R s m args below meth c H locs cells slots (MQ below (va_Qv post (fun u => gPost G A (w1 u)) A) args s cells slots A) (F0 m pc ls []) :=
  W.vret hx hb hr (fun t ht _ => ⟨⟨u, rfl, hp, by rw [ht]; exact hP, hD⟩, hS.F ht⟩) hS.2.2 hdg hlk
theorem gret_i {post : Int32 → S → Prop} {w1 : S → va_W} {v : Int32} (hx : p.tables.exec = Jvm.exec) (hb : c.code = cc) (hr : meth.sig.returnType = some .int) (hlk : meth.locks = false) (hdg : decode cc pc = .ok (.ireturn, 1)) (hS : va_S A s.heap H locs) (u : S) (hP : va_P G.1 vwCl (w1 u) H) (hD : va_D A (w1 u)) (hp : post v u) :
    W p l e R s m args below meth c H locs cells slots (MQ below (va_Qi post (fun u => gPost G A (w1 u)) A) args s cells slots A) (F0 m pc ls [.int v]) :=
  W.iret hx hb hr (fun t ht _ => ⟨⟨v, u, rfl, hp, by rw [ht]; exact hP, hD⟩, hS.F ht⟩) hS.2.2 hdg hlk
theorem gret_z {post : Int32 → S → Prop} {w1 : S → va_W} {v : Int32} (hx : p.tables.exec = Jvm.exec) (hb : c.code = cc) (hr : meth.sig.returnType = some .boolean) (hlk : meth.locks = false) (hdg : decode cc pc = .ok (.ireturn, 1)) (hS : va_S A s.heap H locs) (hv : v = 0 ∨ v = 1) (u : S) (hP : va_P G.1 vwCl (w1 u) H) (hD : va_D A (w1 u)) (hp : post v u) :
    W p l e R s m args below meth c H locs cells slots (MQ below (va_Qi post (fun u => gPost G A (w1 u)) A) args s cells slots A) (F0 m pc ls [.int v]) :=
  W.zret (ty := .boolean) hx hb hr (by rcases hv with rfl | rfl <;> rfl) (fun t ht _ => ⟨⟨v, u, rfl, hp, by rw [ht]; exact hP, hD⟩, hS.F ht⟩) hS.2.2 hdg hlk
theorem gret_l {post : Int64 → S → Prop} {w1 : S → va_W} {v : Int64} (hx : p.tables.exec = Jvm.exec) (hb : c.code = cc) (hr : meth.sig.returnType = some .long) (hlk : meth.locks = false) (hdg : decode cc pc = .ok (.lreturn, 1)) (hS : va_S A s.heap H locs) (u : S) (hP : va_P G.1 vwCl (w1 u) H) (hD : va_D A (w1 u)) (hp : post v u) :
    W p l e R s m args below meth c H locs cells slots (MQ below (va_Ql post (fun u => gPost G A (w1 u)) A) args s cells slots A) (F0 m pc ls [.long v]) :=
  W.lret hx hb hr (fun t ht _ => ⟨⟨v, u, rfl, hp, by rw [ht]; exact hP, hD⟩, hS.F ht⟩) hS.2.2 hdg hlk
end BaseRet
/-- places that a call leaves alone -/
def gRest (n : Nat) (isC : List Nat) : List Nat := (List.range n).filter (fun i => !isC.contains i)
theorem va_nd_of : ∀ {l : List Nat}, l.Nodup → va_nd l = true
  | [], _ => rfl
  | a :: l, h => by
    obtain ⟨h1, h2⟩ := List.nodup_cons.mp h
    simp only [va_nd, Bool.and_eq_true, decide_eq_true_eq]
    exact ⟨h1, va_nd_of h2⟩
theorem gRest_map {α : Type} {ws : List α} : ∀ {l : List Nat}, (∀ i ∈ l, i < ws.length) → l.map (fun i => ws[i]?) = (l.filterMap (fun i => ws[i]?)).map some
  | [], _ => rfl
  | a :: l, h => by
    obtain ⟨x, h1⟩ : ∃ x, ws[a]? = some x := ⟨_, List.getElem?_eq_getElem (h a List.mem_cons_self)⟩
    have h2 := gRest_map (l := l) (fun i hi => h i (List.mem_cons_of_mem _ hi))
    simp only [List.map_cons, List.filterMap_cons, h1]
    rw [h2]
theorem gRest_ok (ws : va_W) (isC : List Nat) : (gRest ws.length isC).map (fun i => ws[i]?) = ((gRest ws.length isC).filterMap (fun i => ws[i]?)).map some ∧ va_nd (gRest ws.length isC) = true ∧ ∀ i ∈ gRest ws.length isC, i ∉ isC := by
  refine ⟨gRest_map (fun i hi => ?_), va_nd_of ((List.nodup_range).filter _), fun i hi => ?_⟩
  · exact List.mem_range.mp (List.mem_filter.mp hi).1
  · have h := (List.mem_filter.mp hi).2
    simpa using h
theorem gU_good {y : MethodName} {bytes : ByteArray} {maxL : Nat} {ret : Option FieldType} (uc : Cond.code y bytes maxL ret ∈ UW) : GoodIn UW (Cond.code y bytes maxL ret :: UW) := fun w h => by
  have hw : w ∈ UW := (List.mem_cons.mp h).elim (fun e => e ▸ uc) id
  exact ⟨hw, UW_good hw⟩
/-- a method that can be called: its class's name, its words -/
def gOk (y : MethodName) (bytes : ByteArray) (maxL : Nat) (ret : Option FieldType) (n : Nat) : Prop := Cond.initialized y.cls ∈ UW ∧ Cond.code y bytes maxL ret ∈ UW ∧ (y.cls ≠ "java/lang/invoke/MethodHandle" ∧ y.cls ≠ "java/lang/invoke/VarHandle" ∧ (parseMethodDescriptor y.desc).map (fun d => d.parameters.length) = some n)
def gIn (y : MethodName) : Prop := Cond.instanceMethod y ∈ UW ∧ Cond.selects y.cls y y ∈ UW
section BaseRun
variable {p : Program} {l : Launch} {e : Env} {R : Room} {s : State} {m : MethodId} {args : Array Value} {below : List Frame} {meth : Method} {c : Code} {H : Heap} {locs : List Loc} {cells slots : Nat} {cc bytes : ByteArray} {pc nL maxL n index mc ms : Nat} {ls : Array Slot} {A : Nat → Prop} {G : GW} {y : MethodName} {own : String} {ret : Option FieldType} {rm : Room} {Qc : Array Value → State → Outcome → State → Prop} {free : Addr → Prop} {b : Addr} {As rest st0 : List Value} {ws wc : va_W}
theorem gB (hts : ∀ w ∈ UW, w.before args s = true) (um : Cond.methodLink own index y ∈ UW) (ok : gOk y bytes maxL ret n) (hrc : rm.cells = mc) (hrs : rm.slots = ms) (hR : rm.frames + 1 ≤ R.frames ∧ 8 + (maxL + 11) + rm.locals ≤ R.locals) : CallB R s args own index y bytes maxL ret (Cond.code y bytes maxL ret :: UW) rm mc ms n :=
  callB_of n hts (gU_good ok.2.1) rfl hrc hrs (hts _ ok.1) (hts _ um) ok.2.2 hR
theorem gPre_sub (hK : gK G s) (hP : va_P G.1 vwCl ws H) (hD : va_D A ws) (hS : va_S A s.heap H locs) (hA : ∀ q : Nat, s.heap.size ≤ q → A q) (hZ : gZ G A s s.heap) (isC : List Nat) (hC : isC.map (fun i => ws[i]?) = wc.map some) (hnd : va_nd isC = true) {av : List Value} :
    ∀ U : State, U.heap = H → s.WarmedH U.vm → va_Pc av (gPre G wc H.size) av.toArray U := by
  intro U hU hW
  have hF := va_free (wc := wc) hD hS hA isC hC
  have hPc : va_P G.1 vwCl wc H := hP.sub isC (by
    have h0 : ∀ (l : List Nat) (w : va_W), l.map (fun i => ws[i]?) = w.map some → l.filterMap (fun i => ws[i]?) = w := by
      intro l
      induction l with
      | nil => intro w h; cases w with | nil => rfl | cons a w => simp at h
      | cons a l ih =>
        intro w h
        cases w with
        | nil => simp at h
        | cons b w =>
          simp only [List.map_cons, List.cons.injEq] at h
          simp only [List.filterMap_cons, h.1, ih w h.2]
    exact h0 isC wc hC)
  exact ⟨rfl, by rw [hU], by rw [hU]; exact hPc, gK.warm hW hK, (hD.sub isC hnd hC).weaken (fun _ _ _ _ => trivial), by rw [hU]; exact ((hZ.kept hS.2.1).narrow hF).moved hW.alike⟩
theorem g_runV (S : CallFix p m c cc nL s args UW own) (hM : Met l y (Cond.code y bytes maxL ret :: UW) rm (va_Pc (.ref b :: As) (gPre G wc H.size)) Qc mc ms free) (um : Cond.methodLink own index y ∈ UW) (ok : gOk y bytes maxL ret n) (oi : gIn y) (hrc : rm.cells = mc) (hrs : rm.slots = ms)
    (hR : rm.frames + 1 ≤ R.frames ∧ 8 + (maxL + 11) + rm.locals ≤ R.locals) (hK : gK G s) (hP : va_P G.1 vwCl ws H) (hD : va_D A ws) (hS : va_S A s.heap H locs) (hA : ∀ q : Nat, s.heap.size ≤ q → A q) (hZ : gZ G A s s.heap) (isC : List Nat) (hC : isC.map (fun i => ws[i]?) = wc.map some) (hnd : va_nd isC = true)
    {ci : Nat} {fs : List Value} {q : vw_C} (q0 : Nat) (he : ws[q0]? = some (b, .inr (ci, fs))) (hc : vwCl[ci]? = some q) (hq : q.1 = y.cls) (hn : As.length = n) (hsz : ls.size = nL) (hst : st0 = As.reverse ++ .ref b :: rest) (hW : (rest.map fun v => v.category).sum ≤ 8) (hdg : decode cc pc = .ok (.invokevirtual index, 3)) (hf : cells + mc ≤ R.cells ∧ slots + ms ≤ R.slots) :
    va_Run p l e R s m args below meth c H locs cells slots mc ms (F0 m pc ls st0) rest (Qc (Value.ref b :: As).toArray) free :=
  va_runV (C := y.cls) (As := As) (rest := rest) S hM ⟨gB S.2.2.2.2 um ok hrc hrs hR, S.2.2.2.2 _ oi.1, S.2.2.2.2 _ oi.2⟩ ⟨gPre.blind, hq ▸ va_recv hK.1 hP hc he, gPre_sub hK hP hD hS hA hZ isC hC hnd⟩ rfl hn hsz hst (lv_room hW) hdg hf
theorem g_runS (S : CallFix p m c cc nL s args UW own) (hM : Met l y (Cond.code y bytes maxL ret :: UW) rm (va_Pc As (gPre G wc H.size)) Qc mc ms free) (um : Cond.methodLink own index y ∈ UW) (ok : gOk y bytes maxL ret n) (oi : Cond.static y ∈ UW) (hrc : rm.cells = mc) (hrs : rm.slots = ms)
    (hR : rm.frames + 1 ≤ R.frames ∧ 8 + (maxL + 11) + rm.locals ≤ R.locals) (hK : gK G s) (hP : va_P G.1 vwCl ws H) (hD : va_D A ws) (hS : va_S A s.heap H locs) (hA : ∀ q : Nat, s.heap.size ≤ q → A q) (hZ : gZ G A s s.heap) (isC : List Nat) (hC : isC.map (fun i => ws[i]?) = wc.map some) (hnd : va_nd isC = true)
    (hn : As.length = n) (hsz : ls.size = nL) (hst : st0 = As.reverse ++ rest) (hW : (rest.map fun v => v.category).sum ≤ 8) (hdg : decode cc pc = .ok (.invokestatic index, 3)) (hf : cells + mc ≤ R.cells ∧ slots + ms ≤ R.slots) :
    va_Run p l e R s m args below meth c H locs cells slots mc ms (F0 m pc ls st0) rest (Qc As.toArray) free :=
  va_runS (As := As) (rest := rest) S hM ⟨gB S.2.2.2.2 um ok hrc hrs hR, S.2.2.2.2 _ oi⟩ ⟨gPre.blind, gPre_sub hK hP hD hS hA hZ isC hC hnd⟩ rfl hn hsz hst (lv_room hW) hdg hf
theorem g_runSN {host : String} (S : CallFix p m c cc nL s args UW own) (hM : Met l y (Cond.code y bytes maxL ret :: UW) rm (va_Pc As (gPre G wc H.size)) Qc mc ms free) (um : Cond.methodLinkNest own index y host ∈ gN) (ok : gOk y bytes maxL ret n) (oi : Cond.static y ∈ UW) (hrc : rm.cells = mc) (hrs : rm.slots = ms)
    (hR : rm.frames + 1 ≤ R.frames ∧ 8 + (maxL + 11) + rm.locals ≤ R.locals) (hK : gK G s) (hP : va_P G.1 vwCl ws H) (hD : va_D A ws) (hS : va_S A s.heap H locs) (hA : ∀ q : Nat, s.heap.size ≤ q → A q) (hZ : gZ G A s s.heap) (isC : List Nat) (hC : isC.map (fun i => ws[i]?) = wc.map some) (hnd : va_nd isC = true)
    (hn : As.length = n) (hsz : ls.size = nL) (hst : st0 = As.reverse ++ rest) (hW : (rest.map fun v => v.category).sum ≤ 8) (hdg : decode cc pc = .ok (.invokestatic index, 3)) (hf : cells + mc ≤ R.cells ∧ slots + ms ≤ R.slots) :
    va_Run p l e R s m args below meth c H locs cells slots mc ms (F0 m pc ls st0) rest (Qc As.toArray) free :=
  va_runSN (As := As) (rest := rest) S hM ⟨va_cnB n S.2.2.2.2 (gU_good ok.2.1) rfl hrc hrs (hK.2.1 _ um) (S.2.2.2.2 _ ok.1) ok.2.2 hR, S.2.2.2.2 _ oi, trivial⟩ ⟨gPre.blind, gPre_sub hK hP hD hS hA hZ isC hC hnd⟩ rfl hn hsz hst (lv_room hW) hdg hf
theorem g_runI (S : CallFix p m c cc nL s args UW own) (hM : Met l y (Cond.code y bytes maxL none :: UW) rm (va_Pc (.ref b :: As) (gPre G wc H.size)) Qc mc ms free) (um : Cond.methodLink own index y ∈ UW) (ok : gOk y bytes maxL none n) (oi : Cond.instanceMethod y ∈ UW) (hi : y.name = "<init>") (hrc : rm.cells = mc) (hrs : rm.slots = ms)
    (hR : rm.frames + 1 ≤ R.frames ∧ 8 + (maxL + 11) + rm.locals ≤ R.locals) (hK : gK G s) (hP : va_P G.1 vwCl ws H) (hD : va_D A ws) (hS : va_S A s.heap H locs) (hA : ∀ q : Nat, s.heap.size ≤ q → A q) (hZ : gZ G A s s.heap) (isC : List Nat) (hC : isC.map (fun i => ws[i]?) = wc.map some) (hnd : va_nd isC = true)
    (hn : As.length = n) (hsz : ls.size = nL) (hst : st0 = As.reverse ++ .ref b :: rest) (hW : (rest.map fun v => v.category).sum ≤ 8) (hdg : decode cc pc = .ok (.invokespecial index, 3)) (hf : cells + mc ≤ R.cells ∧ slots + ms ≤ R.slots) :
    va_Run p l e R s m args below meth c H locs cells slots mc ms (F0 m pc ls st0) rest (Qc (Value.ref b :: As).toArray) free :=
  va_runI (As := As) (rest := rest) S hM ⟨gB S.2.2.2.2 um ok hrc hrs hR, hi, S.2.2.2.2 _ oi⟩ ⟨gPre.blind, gPre_sub hK hP hD hS hA hZ isC hC hnd⟩ rfl hn hsz hst (lv_room hW) hdg hf
end BaseRun
section BaseCall
variable {p : Program} {l : Launch} {e : Env} {R : Room} {s : State} {m : MethodId} {args : Array Value} {below : List Frame} {meth : Method} {c : Code} {H : Heap} {locs : List Loc} {cells slots : Nat} {Q : State → Prop} {pc mc ms : Nat} {ls : Array Slot} {rest st0 : List Value} {a : Array Value} {A : Nat → Prop} {G : GW} {ws wc : va_W} {S : Type} {w1 : S → va_W}
theorem g_back {H1 : Heap} {u : S} {t : State} (ht : t.heap = H1) (hB : gPost G (va_A wc H.size) (w1 u) t) (hk : ∀ q : Nat, q < H.size → ¬ va_A wc H.size q → H1[q]? = H[q]?) (hP : va_P G.1 vwCl ws H) (hD : va_D A ws) (hS : va_S A s.heap H locs) (hA : ∀ q : Nat, s.heap.size ≤ q → A q) (isC : List Nat) (hC : isC.map (fun i => ws[i]?) = wc.map some) :
    va_P G.1 vwCl ((gRest ws.length isC).filterMap (fun i => ws[i]?) ++ w1 u) H1 ∧ va_D A ((gRest ws.length isC).filterMap (fun i => ws[i]?) ++ w1 u) := by
  obtain ⟨hP1, hD1⟩ := hB
  rw [ht] at hP1
  obtain ⟨r1, r2, r3⟩ := gRest_ok ws isC
  exact va_join hP hD isC (gRest ws.length isC) hC r1 r2 r3 hk (va_free (wc := wc) hD hS hA isC hC) hP1 hD1
theorem g_calli {post : Int32 → S → Prop} (hr : va_Run p l e R s m args below meth c H locs cells slots mc ms (F0 m pc ls st0) rest (va_Qi post (fun u => gPost G (va_A wc H.size) (w1 u)) (va_A wc H.size) a) (va_A wc H.size)) (hP : va_P G.1 vwCl ws H) (hD : va_D A ws) (hS : va_S A s.heap H locs) (hA : ∀ q : Nat, s.heap.size ≤ q → A q) (isC : List Nat) (hC : isC.map (fun i => ws[i]?) = wc.map some)
    (kk : ∀ (r : Int32) (u : S) (H1 : Heap) (locs1 : List Loc), post r u → va_P G.1 vwCl ((gRest ws.length isC).filterMap (fun i => ws[i]?) ++ w1 u) H1 → va_D A ((gRest ws.length isC).filterMap (fun i => ws[i]?) ++ w1 u) → va_S A s.heap H1 locs1 → W p l e R s m args below meth c H1 locs1 (cells + mc) (slots + ms) Q (F0 m (pc + 3) ls (.int r :: rest))) : W p l e R s m args below meth c H locs cells slots Q (F0 m pc ls st0) :=
  va_calli hr hS (fun q _ h => va_free (wc := wc) hD hS hA isC hC q h) (va_free (wc := wc) hD hS hA isC hC) (fun r u t H1 locs1 ht _ hw hB _ hk1 hS1 => kk r u H1 locs1 hw (g_back ht hB hk1 hP hD hS hA isC hC).1 (g_back ht hB hk1 hP hD hS hA isC hC).2 hS1)
theorem g_calll {post : Int64 → S → Prop} (hr : va_Run p l e R s m args below meth c H locs cells slots mc ms (F0 m pc ls st0) rest (va_Ql post (fun u => gPost G (va_A wc H.size) (w1 u)) (va_A wc H.size) a) (va_A wc H.size)) (hP : va_P G.1 vwCl ws H) (hD : va_D A ws) (hS : va_S A s.heap H locs) (hA : ∀ q : Nat, s.heap.size ≤ q → A q) (isC : List Nat) (hC : isC.map (fun i => ws[i]?) = wc.map some)
    (kk : ∀ (r : Int64) (u : S) (H1 : Heap) (locs1 : List Loc), post r u → va_P G.1 vwCl ((gRest ws.length isC).filterMap (fun i => ws[i]?) ++ w1 u) H1 → va_D A ((gRest ws.length isC).filterMap (fun i => ws[i]?) ++ w1 u) → va_S A s.heap H1 locs1 → W p l e R s m args below meth c H1 locs1 (cells + mc) (slots + ms) Q (F0 m (pc + 3) ls (.long r :: rest))) : W p l e R s m args below meth c H locs cells slots Q (F0 m pc ls st0) :=
  va_calll hr hS (fun q _ h => va_free (wc := wc) hD hS hA isC hC q h) (va_free (wc := wc) hD hS hA isC hC) (fun r u t H1 locs1 ht _ hw hB _ hk1 hS1 => kk r u H1 locs1 hw (g_back ht hB hk1 hP hD hS hA isC hC).1 (g_back ht hB hk1 hP hD hS hA isC hC).2 hS1)
theorem g_callv {post : S → Prop} (hr : va_Run p l e R s m args below meth c H locs cells slots mc ms (F0 m pc ls st0) rest (va_Qv post (fun u => gPost G (va_A wc H.size) (w1 u)) (va_A wc H.size) a) (va_A wc H.size)) (hP : va_P G.1 vwCl ws H) (hD : va_D A ws) (hS : va_S A s.heap H locs) (hA : ∀ q : Nat, s.heap.size ≤ q → A q) (isC : List Nat) (hC : isC.map (fun i => ws[i]?) = wc.map some)
    (kk : ∀ (u : S) (H1 : Heap) (locs1 : List Loc), post u → va_P G.1 vwCl ((gRest ws.length isC).filterMap (fun i => ws[i]?) ++ w1 u) H1 → va_D A ((gRest ws.length isC).filterMap (fun i => ws[i]?) ++ w1 u) → va_S A s.heap H1 locs1 → W p l e R s m args below meth c H1 locs1 (cells + mc) (slots + ms) Q (F0 m (pc + 3) ls rest)) : W p l e R s m args below meth c H locs cells slots Q (F0 m pc ls st0) :=
  va_callv hr hS (fun q _ h => va_free (wc := wc) hD hS hA isC hC q h) (va_free (wc := wc) hD hS hA isC hC) (fun u t H1 locs1 ht _ hw hB _ hk1 hS1 => kk u H1 locs1 hw (g_back ht hB hk1 hP hD hS hA isC hC).1 (g_back ht hB hk1 hP hD hS hA isC hC).2 hS1)
end BaseCall
section BaseLoop
variable {p : Program} {l : Launch} {e : Env} {R : Room} {s : State} {m : MethodId} {args : Array Value} {below : List Frame} {meth : Method} {c : Code} {cells slots : Nat} {Q : State → Prop} {pc nL : Nat} {A : Nat → Prop} {G : GW} {σ : Type}
/-- a loop: a state σ, its cells, its locals, its invariant, a measure that falls -/
theorem g_loop (wsf : σ → va_W) (lvf : σ → List (Nat × Value)) (I : σ → Prop) (μ : σ → Nat)
    (step : ∀ x : σ, I x → (∀ x' : σ, I x' → μ x' < μ x → ∀ (H : Heap) (locs : List Loc) (ls : Array Slot), va_P G.1 vwCl (wsf x') H → va_D A (wsf x') → va_S A s.heap H locs → lv_has ls nL (lvf x') → W p l e R s m args below meth c H locs cells slots Q (F0 m pc ls [])) →
      ∀ (H : Heap) (locs : List Loc) (ls : Array Slot), va_P G.1 vwCl (wsf x) H → va_D A (wsf x) → va_S A s.heap H locs → lv_has ls nL (lvf x) → W p l e R s m args below meth c H locs cells slots Q (F0 m pc ls []))
    (x0 : σ) (h0 : I x0) {H : Heap} {locs : List Loc} {ls : Array Slot} (hP : va_P G.1 vwCl (wsf x0) H) (hD : va_D A (wsf x0)) (hS : va_S A s.heap H locs) (hl : lv_has ls nL (lvf x0)) : W p l e R s m args below meth c H locs cells slots Q (F0 m pc ls []) := by
  have all : ∀ (k : Nat) (x : σ), μ x < k → I x → ∀ (H : Heap) (locs : List Loc) (ls : Array Slot), va_P G.1 vwCl (wsf x) H → va_D A (wsf x) → va_S A s.heap H locs → lv_has ls nL (lvf x) → W p l e R s m args below meth c H locs cells slots Q (F0 m pc ls []) := by
    intro k
    induction k with
    | zero => intro x h; exact absurd h (Nat.not_lt_zero _)
    | succ k ih =>
      intro x hx hI H locs ls h1 h2 h3 h4
      exact step x hI (fun x' hI' hμ H' locs' ls' => ih x' (by omega) hI' H' locs' ls') H locs ls h1 h2 h3 h4
  exact all (μ x0 + 1) x0 (Nat.lt_succ_self _) h0 _ _ _ hP hD hS hl
/-- a place where ways meet -/
theorem g_meet (pcJ : Nat) (wsf : σ → va_W) (lvf : σ → List (Nat × Value)) (stf : σ → List Value) (I : σ → Prop) {H0 : Heap} {locs0 : List Loc} {g0 : JFrame}
    (kJ : ∀ x : σ, I x → ∀ (H : Heap) (locs : List Loc) (ls : Array Slot), va_P G.1 vwCl (wsf x) H → va_D A (wsf x) → va_S A s.heap H locs → lv_has ls nL (lvf x) → W p l e R s m args below meth c H locs cells slots Q (F0 m pcJ ls (stf x)))
    (k : (∀ x : σ, I x → ∀ (H : Heap) (locs : List Loc) (ls : Array Slot), va_P G.1 vwCl (wsf x) H → va_D A (wsf x) → va_S A s.heap H locs → lv_has ls nL (lvf x) → W p l e R s m args below meth c H locs cells slots Q (F0 m pcJ ls (stf x))) → W p l e R s m args below meth c H0 locs0 cells slots Q g0) : W p l e R s m args below meth c H0 locs0 cells slots Q g0 := k kJ
end BaseLoop
