/-! MY LAYER: contracts whose start heap is a parameter; cells by address; what a method may change is a set A -/
/-- the classes, the array classes, where the law's cells begin, the empty list's array, the mirror of Object[] -/
abbrev hk_E : Type := va_G × (Nat → ClassId) × Nat × Nat × Nat
def hk_A (E : hk_E) : Nat → Prop := fun q => E.2.2.1 ≤ q
abbrev hk_T (E : hk_E) : List (ClassId × FieldType) := [(E.2.1 0, .int), (E.2.1 0, .int), (E.2.1 0, .int), (E.2.1 3, .object "java/lang/Object")]
abbrev hk_O (E : hk_E) (a ci : Nat) (fs : List Value) (H : Heap) : Prop := va_at E.1 vwCl (a, .inr (ci, fs)) H
abbrev hk_I (E : hk_E) (t a n : Nat) (f : Nat → Int32) (H : Heap) : Prop := H[a]? = some (vp_cell (E.2.1 t) (n, .inl f))
abbrev hk_L (E : hk_E) (a n : Nat) (f : Nat → Int64) (H : Heap) : Prop := H[a]? = some (vp_cell (E.2.1 2) (n, .inr (.inl f)))
abbrev hk_Q (E : hk_E) (a n : Nat) (f : Nat → Option Nat) (H : Heap) : Prop := H[a]? = some (vp_cell (E.2.1 3) (n, .inr (.inr (.inr (.inr f)))))
def hk_cs : List (String × String) := [(RX1, RX2), (RX8, RX2), (RX0, "java/lang/Object"), (RX1, "java/lang/Object"), (RX3, "java/lang/Object"), (RX4, "java/lang/Object"), (RX6, "java/lang/Object"), (RX7, "java/lang/Object"), (RX8, "java/lang/Object"), (RX9, "java/lang/Object"), ("java/lang/IndexOutOfBoundsException", "java/lang/IndexOutOfBoundsException"), ("java/lang/IllegalArgumentException", "java/lang/IllegalArgumentException"), ("java/lang/IllegalStateException", "java/lang/IllegalStateException")]
/-- private methods that nest mates call -/
def hk_ns : List (String × Nat × MethodName × String) := [(RX10, 62, yX0_init, RX10), (RX10, 69, yX9_init, RX10), (RX1, 27, yX10_quotient, RX10), (RX8, 37, yX10_quotient, RX10), (RX7, 27, yX10_quotient, RX10), (RX7, 31, yX10_remainder, RX10)]
def hk_nc : List (String × String) := [("java/lang/IllegalArgumentException", "java/lang/IndexOutOfBoundsException"), ("java/lang/IllegalStateException", "java/lang/IndexOutOfBoundsException"), ("java/lang/IllegalStateException", "java/lang/IllegalArgumentException")]
def hk_ss : List (Nat × String) := [(124, "a step needs two comparisons with a way between them"), (159, "the stars are of one entry"), (178, "the star is an entry by itself"), (185, "no such place"), (212, "no such thing to tell of a look"), (247, "a rule gives votes"), (283, "the entry has no look"), (307, "no such comparison"), (309, "no such watcher"), (311, "no such star"), (313, "no such plate"), (315, "no such look"), (317, "no such rule"), (319, "an argument is out of its range"), (321, "no more of these are kept"), (326, "the entry has too few looks"), (328, "the entry has no claim, or no look")]
/-- methods that classes declare: the throwables' constructors, what a look must do -/
def hk_ds : List MethodName := [⟨"java/lang/RuntimeException", "<init>", "(Ljava/lang/String;)V"⟩, ⟨"java/lang/Exception", "<init>", "(Ljava/lang/String;)V"⟩, ⟨"java/lang/Throwable", "<init>", "(Ljava/lang/String;)V"⟩, ⟨"LightcurveHouse$Look", "rawLight", "()I"⟩, ⟨"LightcurveHouse$Look", "trueLight", "()I"⟩, ⟨"LightcurveHouse$Look", "trueTime", "()I"⟩, ⟨"LightcurveHouse$Look", "sort", "()I"⟩]
/-- what the tables say, of use to any method -/
def hk_V (E : hk_E) (U : State) : Prop := va_AO "java/lang/Object" U ∧ va_Mi "[Ljava/lang/Object;" E.2.2.2.2 U ∧ va_Dc U ∧ (∀ q ∈ hk_cs, va_Nw (.castable q.1 q.2) U) ∧ (∀ q ∈ hk_ss, ∃ sa, vk_R RX10 q.1 q.2 sa U) ∧ (∀ q ∈ hk_ns, va_Nw (.methodLinkNest q.1 q.2.1 q.2.2.1 q.2.2.2) U) ∧ (∀ q ∈ hk_nc, va_Nc q.1 q.2 U) ∧ ∀ q ∈ hk_ds, va_Nw (.declares q) U
theorem hk_V.warm {E : hk_E} {s U : State} (hW : s.WarmedH U.vm) (h : hk_V E s) : hk_V E U := by
  obtain ⟨h1, h2, h3, h4, h5, h7, h8, h9⟩ := h
  refine ⟨h1.moved hW.alike, h2.moved hW.alike, h3.moved hW.alike, fun q hq => va_Nw.warmC hW (h4 q hq), fun q hq => ?_, fun q hq => va_Nw.warmM hW (h7 q hq), fun q hq => (h8 q hq).moved hW.alike, fun q hq => va_Nw.warmD hW (h9 q hq)⟩
  obtain ⟨sa, h6⟩ := h5 q hq
  exact ⟨sa, vk_R.warm hW h6⟩
/-- the empty list's array: no place in it -/
def hk_emp (E : hk_E) (H : Heap) : Prop := ∃ cell : Cell, H[E.2.2.2.1]? = some cell ∧ cell.cls = E.2.1 3 ∧ cell.vm.isStatics = false ∧ cell.slots.size = 0
def hk_K (E : hk_E) (U : State) (H : Heap) : Prop :=
  va_K E.1 vwCl (hk_T E) U ∧ va_Z "java/util/ArrayList" "DEFAULTCAPACITY_EMPTY_ELEMENTDATA" "[Ljava/lang/Object;" (.ref E.2.2.2.1) (hk_A E) U H ∧ hk_emp E H ∧ ¬ hk_A E E.2.2.2.1 ∧ hk_V E U ∧
  vx_Zq Bundle.tN "UNASSIGNED_STACK" Bundle.steD (hk_A E) U H ∧ vx_Zq Bundle.tN "SUPPRESSED_SENTINEL" Bundle.listD (hk_A E) U H ∧ E.2.2.1 ≤ H.size
theorem hk_K.warm {E : hk_E} {s U : State} {H : Heap} (hW : s.WarmedH U.vm) (h : hk_K E s H) : hk_K E U H := by
  obtain ⟨h1, h2, h3, h4, h5, h6, h7, h8⟩ := h
  exact ⟨h1.moved hW.alike, h2.moved hW.alike, h3, h4, h5.warm hW, h6.moved hW.alike, h7.moved hW.alike, h8⟩
/-- the heap has moved on, within A -/
theorem hk_K.at {E : hk_E} {A : Nat → Prop} {s : State} {H : Heap} {locs : List Loc} (h : hk_K E s s.heap) (hA : ∀ q, A q → hk_A E q) (hS : va_S A s.heap H locs) : hk_K E s H := by
  obtain ⟨h1, h2, h3, h4, h5, h6, h7, h8⟩ := h
  have hk : ∀ a : Nat, a < s.heap.size → ¬ hk_A E a → H[a]? = s.heap[a]? := fun a g1 g2 => hS.2.1 a g1 (fun z => g2 (hA a z))
  obtain ⟨cell, e1, e2⟩ := h3
  exact ⟨h1, h2.kept hk, ⟨cell, (hk _ (Array.getElem?_eq_some_iff.mp e1).1 h4).trans e1, e2⟩, h4, h5, h6.kept hk, h7.kept hk, Nat.le_trans h8 hS.1⟩
/-- a method that returns: its arguments, its start heap, what its answer and its last heap are; it writes within A alone -/
def hk_Pc (E : hk_E) (av : List Value) (H0 : Heap) : Array Value → State → Prop := va_Pc av (fun U => U.heap = H0 ∧ hk_K E U U.heap)
def hk_Qc (A : Nat → Prop) (post : Option Value → Heap → Prop) : Array Value → State → Outcome → State → Prop := fun _ st o t => (∃ v, o = .returned v ∧ post v t.heap) ∧ va_F A st t
def hk_M (E : hk_E) (l : Launch) (y : MethodName) (ws : List Cond) (rm : Room) (A : Nat → Prop) (av : List Value) (H0 : Heap) (post : Option Value → Heap → Prop) : Prop :=
  Met l y ws rm (hk_Pc E av H0) (hk_Qc A post) rm.cells rm.slots A
def hk_Xc (A : Nat → Prop) (px : String → Heap → Prop) : String → State → State → Prop := fun c st t => px c t.heap ∧ va_F A st t
def hk_X (E : hk_E) (l : Launch) (y : MethodName) (ws : List Cond) (rm : Room) (A : Nat → Prop) (av : List Value) (H0 : Heap) (post : Option Value → Heap → Prop) (px : String → Heap → Prop) : Prop :=
  vx_Met l y ws rm (hk_Pc E av H0) (hk_Qc A post) (hk_Xc A px) rm.cells rm.slots A
theorem hk_blind (E : hk_E) (av : List Value) (H0 : Heap) : FrameBlind (hk_Pc E av H0) := fun _ U _ _ h => ⟨h.1, h.2.1, hk_K.warm (State.WarmedH.refl U) h.2.2⟩
theorem hk_pre {E : hk_E} {A : Nat → Prop} {av : List Value} {s : State} {H : Heap} {locs : List Loc} (K : hk_K E s s.heap) (hA : ∀ q, A q → hk_A E q) (hS : va_S A s.heap H locs) : ∀ U : State, U.heap = H → s.WarmedH U.vm → hk_Pc E av H av.toArray U :=
  fun U hU hW => ⟨rfl, hU, by rw [hU]; exact hk_K.warm hW (K.at hA hS)⟩
theorem hk_M.ofW {E : hk_E} {l : Launch} {y : MethodName} {ws ws' : List Cond} {rm : Room} {A : Nat → Prop} {av : List Value} {H0 : Heap} {post : Option Value → Heap → Prop} {cc : ByteArray} {maxL : Nat} {ret : Option FieldType}
    (hy : plainFor y = true) (hw : ws = Cond.code y cc maxL ret :: ws') (hn : (lg_sl av).length ≤ maxL)
    (body : ∀ (p : Program) (e : Env) (s : State) (m : MethodId) (args : Array Value) (below : List Frame) (meth : Method) (c : Code) (ls : Array Slot) (Q : State → Prop), Q = MQ below (hk_Qc A post) args s rm.cells rm.slots A → CallFix p m c cc maxL s args ws y.cls → meth.sig.returnType = ret → meth.locks = false → meth.name = y.name → hk_K E s s.heap → s.heap = H0 → va_S A s.heap H0 [] → lv_has ls maxL (lv_args 0 av) →
      W p l e rm s m args below meth c H0 [] 0 0 Q (F0 m 0 ls [])) : hk_M E l y ws rm A av H0 post := by
  refine va_MetF (cc := cc) (maxL := maxL) (ret := ret) hy hw ?_
  intro p e s m args below meth c s₁ B hml hv
  obtain ⟨rfl, hH, hK⟩ := hv
  have hts := atoms_spec (ws := ws) B.pre
  have hown : s.vm.findClass y.cls = some m.cls := findClass_of_methodNamed B.named
  have hl := lv_entry av (n := maxL) hn
  rw [lg_entry_eq]
  generalize (lg_sl av ++ List.replicate (maxL - (lg_sl av).length) Slot.unset).toArray = ls at hl ⊢
  rw [hH]
  exact body p e s m av.toArray below meth c ls _ rfl ⟨B.exec, B.bytes, hml, hown, hts⟩ B.returns B.notSynchronized (name_of_methodNamed B.named B.method).1 hK hH (by rw [hH]; exact va_S.rf) hl
theorem hk_X.ofW {E : hk_E} {l : Launch} {y : MethodName} {ws ws' : List Cond} {rm : Room} {A : Nat → Prop} {av : List Value} {H0 : Heap} {post : Option Value → Heap → Prop} {px : String → Heap → Prop} {cc : ByteArray} {maxL : Nat} {ret : Option FieldType}
    (hy : plainName y.cls = true) (hw : ws = Cond.code y cc maxL ret :: ws') (hn : (lg_sl av).length ≤ maxL)
    (body : ∀ (p : Program) (e : Env) (s : State) (m : MethodId) (args : Array Value) (below : List Frame) (meth : Method) (c : Code) (ls : Array Slot) (Q : State → Prop), Q = vx_MQ below (hk_Qc A post) (hk_Xc A px) args s rm.cells rm.slots A → CallFix p m c cc maxL s args ws y.cls → meth.sig.returnType = ret → meth.locks = false → (∀ x ∈ c.exceptionTable.toList, False) → hk_K E s s.heap → s.heap = H0 → va_S A s.heap H0 [] → lv_has ls maxL (lv_args 0 av) →
      W p l e rm s m args below meth c H0 [] 0 0 Q (F0 m 0 ls [])) : hk_X E l y ws rm A av H0 post px := by
  refine vx_ofW (cc := cc) (maxL := maxL) (ret := ret) hy hw ?_
  intro p e s m args below meth c s₁ B hml hx hv
  obtain ⟨rfl, hH, hK⟩ := hv
  have hts := atoms_spec (ws := ws) B.pre
  have hown : s.vm.findClass y.cls = some m.cls := findClass_of_methodNamed B.named
  have hl := lv_entry av (n := maxL) hn
  rw [lg_entry_eq]
  generalize (lg_sl av ++ List.replicate (maxL - (lg_sl av).length) Slot.unset).toArray = ls at hl ⊢
  rw [hH]
  exact body p e s m av.toArray below meth c ls _ rfl ⟨B.exec, B.bytes, hml, hown, hts⟩ B.returns B.notSynchronized hx hK hH (by rw [hH]; exact va_S.rf) hl
section HKR
variable {p : Program} {l : Launch} {e : Env} {R : Room} {s : State} {m : MethodId} {args : Array Value} {below : List Frame} {meth : Method} {c : Code} {H : Heap} {locs : List Loc} {cells slots : Nat} {Q : State → Prop}
variable {cc : ByteArray} {pc nL : Nat} {ls : Array Slot} {rest st0 : List Value} {E : hk_E} {A A0 : Nat → Prop} {H0 : Heap} {Ts : List Cond} {own : String} {mc ms : Nat}
variable {post : Option Value → Heap → Prop} {px : String → Heap → Prop}
-- ends
theorem hk_iret {v : Int32} (X : CallFix p m c cc nL s args Ts own) (hr : meth.sig.returnType = some .int) (hlk : meth.locks = false) (hQ : Q = MQ below (hk_Qc A post) args s mc ms A) (hS : va_S A s.heap H locs) (hc : cells ≤ mc) (hs : slots ≤ ms) (hdg : decode cc pc = .ok (.ireturn, 1)) (hp : post (some (.int v)) H) :
    W p l e R s m args below meth c H locs cells slots Q (F0 m pc ls [.int v]) := by
  subst hQ
  refine W.widen hc hs ?_
  exact W.iret X.1 X.2.1 hr (fun t ht hW => ⟨⟨_, rfl, by rw [ht]; exact hp⟩, hS.F ht⟩) hS.2.2 hdg hlk
theorem hk_zret {v : Int32} (X : CallFix p m c cc nL s args Ts own) (hr : meth.sig.returnType = some .boolean) (hlk : meth.locks = false) (hQ : Q = MQ below (hk_Qc A post) args s mc ms A) (hS : va_S A s.heap H locs) (hc : cells ≤ mc) (hs : slots ≤ ms) (hdg : decode cc pc = .ok (.ireturn, 1)) (hn : v = 0 ∨ v = 1) (hp : post (some (.int v)) H) :
    W p l e R s m args below meth c H locs cells slots Q (F0 m pc ls [.int v]) := by
  subst hQ
  refine W.widen hc hs ?_
  exact W.zret X.1 X.2.1 hr (by rcases hn with h | h <;> subst h <;> rfl) (fun t ht hW => ⟨⟨_, rfl, by rw [ht]; exact hp⟩, hS.F ht⟩) hS.2.2 hdg hlk
theorem hk_vret (X : CallFix p m c cc nL s args Ts own) (hr : meth.sig.returnType = none) (hlk : meth.locks = false) (hQ : Q = MQ below (hk_Qc A post) args s mc ms A) (hS : va_S A s.heap H locs) (hc : cells ≤ mc) (hs : slots ≤ ms) (hdg : decode cc pc = .ok (.return_, 1)) (hp : post none H) :
    W p l e R s m args below meth c H locs cells slots Q (F0 m pc ls []) := by
  subst hQ
  refine W.widen hc hs ?_
  exact W.vret X.1 X.2.1 hr (fun t ht hW => ⟨⟨_, rfl, by rw [ht]; exact hp⟩, hS.F ht⟩) hS.2.2 hdg hlk
theorem hk_aret {a : Nat} {rt : FieldType} (X : CallFix p m c cc nL s args Ts own) (hr : meth.sig.returnType = some rt) (hrt : (∃ n, rt = .object n) ∨ ∃ t, rt = .array t) (hlk : meth.locks = false) (hQ : Q = MQ below (hk_Qc A post) args s mc ms A) (hS : va_S A s.heap H locs) (hc : cells ≤ mc) (hs : slots ≤ ms) (hdg : decode cc pc = .ok (.areturn, 1)) (hp : post (some (.ref a)) H) :
    W p l e R s m args below meth c H locs cells slots Q (F0 m pc ls [.ref a]) := by
  subst hQ
  refine W.widen hc hs ?_
  exact W.aret X.1 X.2.1 hr hrt (Or.inr ⟨a, rfl⟩) (fun t ht hW => ⟨⟨_, rfl, by rw [ht]; exact hp⟩, hS.F ht⟩) hS.2.2 hdg hlk
theorem hk_iretx {v : Int32} (X : CallFix p m c cc nL s args Ts own) (hr : meth.sig.returnType = some .int) (hlk : meth.locks = false) (hQ : Q = vx_MQ below (hk_Qc A post) (hk_Xc A px) args s mc ms A) (hS : va_S A s.heap H locs) (hc : cells ≤ mc) (hs : slots ≤ ms) (hdg : decode cc pc = .ok (.ireturn, 1)) (hp : post (some (.int v)) H) :
    W p l e R s m args below meth c H locs cells slots Q (F0 m pc ls [.int v]) := by
  subst hQ
  exact vx_ret (hk_iret X hr hlk rfl hS hc hs hdg hp)
theorem hk_zretx {v : Int32} (X : CallFix p m c cc nL s args Ts own) (hr : meth.sig.returnType = some .boolean) (hlk : meth.locks = false) (hQ : Q = vx_MQ below (hk_Qc A post) (hk_Xc A px) args s mc ms A) (hS : va_S A s.heap H locs) (hc : cells ≤ mc) (hs : slots ≤ ms) (hdg : decode cc pc = .ok (.ireturn, 1)) (hn : v = 0 ∨ v = 1) (hp : post (some (.int v)) H) :
    W p l e R s m args below meth c H locs cells slots Q (F0 m pc ls [.int v]) := by
  subst hQ
  exact vx_ret (hk_zret X hr hlk rfl hS hc hs hdg hn hp)
theorem hk_vretx (X : CallFix p m c cc nL s args Ts own) (hr : meth.sig.returnType = none) (hlk : meth.locks = false) (hQ : Q = vx_MQ below (hk_Qc A post) (hk_Xc A px) args s mc ms A) (hS : va_S A s.heap H locs) (hc : cells ≤ mc) (hs : slots ≤ ms) (hdg : decode cc pc = .ok (.return_, 1)) (hp : post none H) :
    W p l e R s m args below meth c H locs cells slots Q (F0 m pc ls []) := by
  subst hQ
  exact vx_ret (hk_vret X hr hlk rfl hS hc hs hdg hp)
theorem hk_aretx {a : Nat} {rt : FieldType} (X : CallFix p m c cc nL s args Ts own) (hr : meth.sig.returnType = some rt) (hrt : (∃ n, rt = .object n) ∨ ∃ t, rt = .array t) (hlk : meth.locks = false) (hQ : Q = vx_MQ below (hk_Qc A post) (hk_Xc A px) args s mc ms A) (hS : va_S A s.heap H locs) (hc : cells ≤ mc) (hs : slots ≤ ms) (hdg : decode cc pc = .ok (.areturn, 1)) (hp : post (some (.ref a)) H) :
    W p l e R s m args below meth c H locs cells slots Q (F0 m pc ls [.ref a]) := by
  subst hQ
  exact vx_ret (hk_aret X hr hrt hlk rfl hS hc hs hdg hp)
-- fields
theorem hk_get {C ref : String} {T : u_T} {N ci a index : Nat} {fs : List Value} (X : CallFix p m c cc nL s args Ts own) (K : hk_K E s s.heap) (hO : hk_O E a ci fs H) (hc : vwCl[ci]? = some (C, T, N)) (hin : ∀ w ∈ u_ws C T N, w ∈ Ts) (k : Nat) (hk : k < N) (hlink : Cond.fieldLink own index ref (T k).2.1 (T k).2.2.1 ∈ Ts)
    (hsame : ∀ x, s.fieldFound? (T k).1 (T k).2.1 (T k).2.2.1 = some x → s.fieldFound? ref (T k).2.1 (T k).2.2.1 = some x) {v : Value} (hv : fs[k]? = some v) (hdg : decode cc pc = .ok (.getfield index, 3))
    (kk : W p l e R s m args below meth c H locs cells slots Q (F0 m (pc + 3) ls (v :: rest))) : W p l e R s m args below meth c H locs cells slots Q (F0 m pc ls (.ref a :: rest)) :=
  va_get (ws := [(a, .inr (ci, fs))]) X.1 X.2.1 X.2.2.2.2 hin X.2.2.2.1 K.1 (fun k q h => by
    cases k with
    | zero => cases h; exact hO
    | succ k => simp at h) 0 rfl hc k hk (X.2.2.2.2 _ hlink) hsame hv hdg kk
theorem hk_put {C ref : String} {T : u_T} {N ci a index : Nat} {fs : List Value} (X : CallFix p m c cc nL s args Ts own) (K : hk_K E s s.heap) (hO : hk_O E a ci fs H) (hc : vwCl[ci]? = some (C, T, N)) (hin : ∀ w ∈ u_ws C T N, w ∈ Ts) (ty0 : Nat → FieldType) (hty : ∀ k, k < N → parseFieldDescriptor (T k).2.2.1 = some (ty0 k)) (hnm : ∀ a, a < N → ∀ b, b < N → a ≠ b → (T a).2.1 ≠ (T b).2.1)
    (hS : va_S A s.heap H locs) (haA : A a) (k : Nat) (hk : k < N) (hlink : Cond.fieldLink own index ref (T k).2.1 (T k).2.2.1 ∈ Ts)
    (hsame : ∀ x, s.fieldFound? (T k).1 (T k).2.1 (T k).2.2.1 = some x → s.fieldFound? ref (T k).2.1 (T k).2.2.1 = some x) (hfin : (T k).2.2.2 = false) {v : Value} (hn : narrow (ty0 k) v = v) (hfit : fits (ty0 k) v = true) (hl : k < fs.length) (hdg : decode cc pc = .ok (.putfield index, 3))
    (kk : ∀ (H1 : Heap) (locs1 : List Loc), hk_O E a ci (fs.set k v) H1 → H1.size = H.size → (∀ q : Nat, q ≠ a → H1[q]? = H[q]?) → va_S A s.heap H1 locs1 → W p l e R s m args below meth c H1 locs1 cells slots Q (F0 m (pc + 3) ls rest)) : W p l e R s m args below meth c H locs cells slots Q (F0 m pc ls (v :: .ref a :: rest)) := by
  have hts := X.2.2.2.2
  have hap := va_apart (own := own) hts hin ty0 hty hnm K.1 hc
  obtain ⟨r, h1, cell, q1, q2, q3, q4⟩ := hO
  have hr : r = (C, T, N) := Option.some.inj (h1.symm.trans hc)
  subst hr
  obtain ⟨hSl, hfc, kC, hkC, hkind⟩ := K.1.1 ci _ hc
  obtain ⟨cf, kf, fi, f, hi, hsl⟩ := hSl k hk
  have hlay := hts _ (hin _ (u_in_lay hk))
  unfold u_lay at hlay
  rw [if_neg (by rw [hfin]; decide)] at hlay
  have hst := (u_facts hfc hkC (u_lays hts hin hk) hi).1
  have h6 := u_store hfc hkC hkind hlay hi (hty k hk) hn hfit
  refine W.putK X.1 X.2.1 (f := f) ⟨X.2.2.2.1, hts _ hlink, ⟨_, _, _, hsame _ hi⟩, hst⟩ (by rw [q2]; exact h6) q1 q3 (by rw [hsl]; exact k2_hasslot (q4 k hk)) rfl rfl hdg fun H' e1 e2 e3 => ?_
  rw [hsl] at e1 ⊢
  exact kk H' _ ⟨_, hc, t_OB.to (V := updV (vp_V fs) k v) ⟨_, e1, q2, q3, t_set q4 hap hk v⟩ (fun j _ => vp_updV_set hl v j)⟩ e2 e3 (hS.put e2 e3 haA)
end HKR
