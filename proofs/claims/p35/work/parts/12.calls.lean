section HKC
variable {p : Program} {l : Launch} {e : Env} {R : Room} {s : State} {m : MethodId} {args : Array Value} {below : List Frame} {meth : Method} {c : Code} {H : Heap} {locs : List Loc} {cells slots : Nat} {Q : State → Prop}
variable {cc : ByteArray} {pc nL : Nat} {ls : Array Slot} {rest st0 : List Value} {E : hk_E} {A A0 : Nat → Prop} {H0 : Heap} {Ts : List Cond} {own : String} {mc ms : Nat}
variable {post : Option Value → Heap → Prop} {px : String → Heap → Prop}
/-- what comes behind a call: the answer, the heap behind it, what the frame keeps -/
abbrev hk_kk (p : Program) (l : Launch) (e : Env) (R : Room) (s : State) (m : MethodId) (args : Array Value) (below : List Frame) (meth : Method) (c : Code) (H : Heap) (cells slots : Nat) (Q : State → Prop) (pc : Nat) (ls : Array Slot) (rest : List Value) (A A0 : Nat → Prop) (post : Option Value → Heap → Prop) : Prop :=
  ∀ (v : Option Value) (H1 : Heap) (locs1 : List Loc), post v H1 → va_S A0 s.heap H1 locs1 → H.size ≤ H1.size → (∀ q : Nat, q < H.size → ¬ A q → H1[q]? = H[q]?) → W p l e R s m args below meth c H1 locs1 cells slots Q (F0 m (pc + 3) ls (v.toList ++ rest))
abbrev hk_kx (p : Program) (l : Launch) (e : Env) (R : Room) (s : State) (m : MethodId) (args : Array Value) (below : List Frame) (meth : Method) (c : Code) (H : Heap) (cells slots : Nat) (Q : State → Prop) (pc : Nat) (ls : Array Slot) (rest : List Value) (A A0 : Nat → Prop) (px : String → Heap → Prop) : Prop :=
  ∀ (x : String) (ce : Cell) (q9 : Nat) (H1 : Heap) (locs1 : List Loc), px x H1 → va_S A0 s.heap H1 locs1 → H.size ≤ H1.size → (∀ q : Nat, q < H.size → ¬ A q → H1[q]? = H[q]?) → H1[q9]? = some ce → ce.vm = .none → s.vm.findClass x = some ce.cls → vx_W p l e R s m args below meth c H1 locs1 cells slots Q (F0 m pc ls rest) q9
theorem hk_S1 {H1 : Heap} {L : List Loc} (hS : va_S A0 s.heap H locs) (hA : ∀ q, A q → A0 q) (hz : H.size ≤ H1.size) (hk : ∀ q : Nat, q < H.size → ¬ A q → H1[q]? = H[q]?) (hL : ∀ q ∈ L, A q.base) : va_S A0 s.heap H1 (locs ++ L) :=
  ⟨Nat.le_trans hS.1 hz, fun q h1 h2 => by rw [hk q (Nat.lt_of_lt_of_le h1 hS.1) (fun z => h2 (hA q z))]; exact hS.2.1 q h1 h2, fun q hq => by
    rcases List.mem_append.mp hq with h | h
    · exact hS.2.2 q h
    · exact hA _ (hL q h)⟩
theorem hk_go {a : Array Value} (hr : va_Run p l e R s m args below meth c H locs cells slots mc ms (F0 m pc ls st0) rest (hk_Qc A post a) A) (hS : va_S A0 s.heap H locs) (hA : ∀ q, A q → A0 q)
    (kk : hk_kk p l e R s m args below meth c H (cells + mc) (slots + ms) Q pc ls rest A A0 post) : W p l e R s m args below meth c H locs cells slots Q (F0 m pc ls st0) := by
  intro T hT X
  obtain ⟨v, st₀, t, T', L, h0, X', hL, e1, e2, ⟨⟨v', hv, hp⟩, hz, hk⟩, st⟩ := hr T hT X
  cases hv
  rw [h0] at hz hk
  obtain ⟨t2, a1, b1⟩ := kk v t.heap (locs ++ L) hp (hk_S1 hS hA hz hk hL) hz hk T' e1 X'
  exact ⟨t2, st t2 a1, b1⟩
theorem hk_gox {a : Array Value} (hr : vx_Run p l e R s m args below meth c H locs cells slots mc ms (F0 m pc ls st0) rest (hk_Qc A post a) (hk_Xc A px) A) (hS : va_S A0 s.heap H locs) (hA : ∀ q, A q → A0 q)
    (kx : hk_kx p l e R s m args below meth c H (cells + mc) (slots + ms) Q pc ls rest A A0 px)
    (kk : hk_kk p l e R s m args below meth c H (cells + mc) (slots + ms) Q pc ls rest A A0 post) : W p l e R s m args below meth c H locs cells slots Q (F0 m pc ls st0) := by
  intro T hT X
  rcases hr T hT X with ⟨v, st₀, t, T', L, h0, X', hL, e1, e2, ⟨⟨v', hv, hp⟩, hz, hk⟩, st⟩ | ⟨q, st₀, t, T', L, x, ce, h0, X', hL, e1, e2, ⟨hp, hz, hk⟩, hce, hcv, hcl, st⟩
  · cases hv
    rw [h0] at hz hk
    obtain ⟨t2, a1, b1⟩ := kk v t.heap (locs ++ L) hp (hk_S1 hS hA hz hk hL) hz hk T' e1 X'
    exact ⟨t2, st t2 a1, b1⟩
  · rw [h0] at hz hk
    obtain ⟨t2, a1, b1⟩ := kx x ce q t.heap (locs ++ L) hp (hk_S1 hS hA hz hk hL) hz hk hce hcv hcl T' e1 X'
    exact ⟨t2, st.trans a1, b1⟩
variable {y : MethodName} {bytes : ByteArray} {maxL index b ci : Nat} {ret : Option FieldType} {ws ws' : List Cond} {rm : Room} {As fs : List Value} {r : vw_C}
/-- what a callee's room asks of the caller's -/
abbrev hk_rm (rm R : Room) (maxL cells slots : Nat) : Prop := (rm.frames + 1 ≤ R.frames ∧ 8 + (maxL + 11) + rm.locals ≤ R.locals) ∧ cells + rm.cells ≤ R.cells ∧ slots + rm.slots ≤ R.slots
theorem hk_callV (n : Nat) (X : CallFix p m c cc nL s args Ts own) (K : hk_K E s s.heap) (hA0 : ∀ q, A0 q → hk_A E q) (hS : va_S A0 s.heap H locs) (hsz : ls.size = nL) (hO : hk_O E b ci fs H) (hc : vwCl[ci]? = some r)
    (hM : hk_M E l y ws rm A (.ref b :: As) H post) (hA : ∀ q, A q → A0 q) (hT : GoodIn Ts (wsV own index r.1 y ws)) (hw : ws = Cond.code y bytes maxL ret :: ws')
    (hd : y.cls = r.1 ∧ y.cls ≠ "java/lang/invoke/MethodHandle" ∧ y.cls ≠ "java/lang/invoke/VarHandle" ∧ (parseMethodDescriptor y.desc).map (fun d => d.parameters.length) = some n) (hn : As.length = n)
    (hrm : hk_rm rm R maxL cells slots) (hst : st0 = As.reverse ++ .ref b :: rest) (hcat : (rest.map fun v => v.category).sum ≤ 8) (hdg : decode cc pc = .ok (.invokevirtual index, 3))
    (kk : hk_kk p l e R s m args below meth c H (cells + rm.cells) (slots + rm.slots) Q pc ls rest A A0 post) : W p l e R s m args below meth c H locs cells slots Q (F0 m pc ls st0) :=
  hk_go (va_runV X hM (cwV n X.2.2.2.2 hT hw rfl rfl hd hrm.1) ⟨hk_blind E _ H, hk_recv K hO hc, hk_pre K hA0 hS⟩ rfl hn hsz hst (lv_room hcat) hdg hrm.2) hS hA kk
theorem hk_callVx (n : Nat) (X : CallFix p m c cc nL s args Ts own) (K : hk_K E s s.heap) (hA0 : ∀ q, A0 q → hk_A E q) (hS : va_S A0 s.heap H locs) (hsz : ls.size = nL) (hO : hk_O E b ci fs H) (hc : vwCl[ci]? = some r)
    (hM : hk_X E l y ws rm A (.ref b :: As) H post px) (hA : ∀ q, A q → A0 q) (hT : GoodIn Ts (wsV own index r.1 y ws)) (hw : ws = Cond.code y bytes maxL ret :: ws')
    (hd : y.cls = r.1 ∧ y.cls ≠ "java/lang/invoke/MethodHandle" ∧ y.cls ≠ "java/lang/invoke/VarHandle" ∧ (parseMethodDescriptor y.desc).map (fun d => d.parameters.length) = some n) (hn : As.length = n)
    (hrm : hk_rm rm R maxL cells slots) (hst : st0 = As.reverse ++ .ref b :: rest) (hcat : (rest.map fun v => v.category).sum ≤ 8) (hdg : decode cc pc = .ok (.invokevirtual index, 3))
    (kx : hk_kx p l e R s m args below meth c H (cells + rm.cells) (slots + rm.slots) Q pc ls rest A A0 px)
    (kk : hk_kk p l e R s m args below meth c H (cells + rm.cells) (slots + rm.slots) Q pc ls rest A A0 post) : W p l e R s m args below meth c H locs cells slots Q (F0 m pc ls st0) :=
  hk_gox (vx_runV X hM (cwV n X.2.2.2.2 hT hw rfl rfl hd hrm.1) ⟨hk_blind E _ H, hk_recv K hO hc, hk_pre K hA0 hS⟩ rfl hn hsz hst (lv_room hcat) hdg hrm.2) hS hA kx kk
theorem hk_callS (n : Nat) (X : CallFix p m c cc nL s args Ts own) (K : hk_K E s s.heap) (hA0 : ∀ q, A0 q → hk_A E q) (hS : va_S A0 s.heap H locs) (hsz : ls.size = nL)
    (hM : hk_M E l y ws rm A As H post) (hA : ∀ q, A q → A0 q) (hT : GoodIn Ts (va_wsS own index y ws)) (hw : ws = Cond.code y bytes maxL ret :: ws')
    (hd : y.cls ≠ "java/lang/invoke/MethodHandle" ∧ y.cls ≠ "java/lang/invoke/VarHandle" ∧ (parseMethodDescriptor y.desc).map (fun d => d.parameters.length) = some n) (hn : As.length = n)
    (hrm : hk_rm rm R maxL cells slots) (hst : st0 = As.reverse ++ rest) (hcat : (rest.map fun v => v.category).sum ≤ 8) (hdg : decode cc pc = .ok (.invokestatic index, 3))
    (kk : hk_kk p l e R s m args below meth c H (cells + rm.cells) (slots + rm.slots) Q pc ls rest A A0 post) : W p l e R s m args below meth c H locs cells slots Q (F0 m pc ls st0) :=
  hk_go (va_runS X hM (va_cwS n X.2.2.2.2 hT hw rfl rfl hd hrm.1) ⟨hk_blind E _ H, hk_pre K hA0 hS⟩ rfl hn hsz hst (lv_room hcat) hdg hrm.2) hS hA kk
theorem hk_callSx (n : Nat) (X : CallFix p m c cc nL s args Ts own) (K : hk_K E s s.heap) (hA0 : ∀ q, A0 q → hk_A E q) (hS : va_S A0 s.heap H locs) (hsz : ls.size = nL)
    (hM : hk_X E l y ws rm A As H post px) (hA : ∀ q, A q → A0 q) (hT : GoodIn Ts (va_wsS own index y ws)) (hw : ws = Cond.code y bytes maxL ret :: ws')
    (hd : y.cls ≠ "java/lang/invoke/MethodHandle" ∧ y.cls ≠ "java/lang/invoke/VarHandle" ∧ (parseMethodDescriptor y.desc).map (fun d => d.parameters.length) = some n) (hn : As.length = n)
    (hrm : hk_rm rm R maxL cells slots) (hst : st0 = As.reverse ++ rest) (hcat : (rest.map fun v => v.category).sum ≤ 8) (hdg : decode cc pc = .ok (.invokestatic index, 3))
    (kx : hk_kx p l e R s m args below meth c H (cells + rm.cells) (slots + rm.slots) Q pc ls rest A A0 px)
    (kk : hk_kk p l e R s m args below meth c H (cells + rm.cells) (slots + rm.slots) Q pc ls rest A A0 post) : W p l e R s m args below meth c H locs cells slots Q (F0 m pc ls st0) :=
  hk_gox (vx_runS X hM (va_cwS n X.2.2.2.2 hT hw rfl rfl hd hrm.1) ⟨hk_blind E _ H, hk_pre K hA0 hS⟩ rfl hn hsz hst (lv_room hcat) hdg hrm.2) hS hA kx kk
theorem hk_callI (n : Nat) (X : CallFix p m c cc nL s args Ts own) (K : hk_K E s s.heap) (hA0 : ∀ q, A0 q → hk_A E q) (hS : va_S A0 s.heap H locs) (hsz : ls.size = nL)
    (hM : hk_M E l y ws rm A (.ref b :: As) H post) (hA : ∀ q, A q → A0 q) (hT : GoodIn Ts ws) (hw : ws = Cond.code y bytes maxL none :: ws') (hini : Cond.initialized y.cls ∈ Ts) (hlk : Cond.methodLink own index y ∈ Ts) (him : Cond.instanceMethod y ∈ Ts) (hy1 : y.name = "<init>")
    (hd : y.cls ≠ "java/lang/invoke/MethodHandle" ∧ y.cls ≠ "java/lang/invoke/VarHandle" ∧ (parseMethodDescriptor y.desc).map (fun d => d.parameters.length) = some n) (hn : As.length = n)
    (hrm : hk_rm rm R maxL cells slots) (hst : st0 = As.reverse ++ .ref b :: rest) (hcat : (rest.map fun v => v.category).sum ≤ 8) (hdg : decode cc pc = .ok (.invokespecial index, 3))
    (kk : hk_kk p l e R s m args below meth c H (cells + rm.cells) (slots + rm.slots) Q pc ls rest A A0 post) : W p l e R s m args below meth c H locs cells slots Q (F0 m pc ls st0) :=
  hk_go (va_runI X hM (cwI n X.2.2.2.2 hT hw rfl rfl (X.2.2.2.2 _ hini) (X.2.2.2.2 _ hlk) (X.2.2.2.2 _ him) hy1 hd hrm.1) ⟨hk_blind E _ H, hk_pre K hA0 hS⟩ rfl hn hsz hst (lv_room hcat) hdg hrm.2) hS hA kk
theorem hk_callU {x : MethodName} {owner : String} (n : Nat) (X : CallFix p m c cc nL s args Ts own) (K : hk_K E s s.heap) (hA0 : ∀ q, A0 q → hk_A E q) (hS : va_S A0 s.heap H locs) (hsz : ls.size = nL) (hO : hk_O E b ci fs H) (hc : vwCl[ci]? = some r)
    (hM : hk_M E l y ws rm A (.ref b :: As) H post) (hA : ∀ q, A q → A0 q) (cw : va_CU R s args own r.1 owner index x y bytes maxL ret ws rm rm.cells rm.slots n) (hn : As.length = n)
    (hf : cells + rm.cells ≤ R.cells ∧ slots + rm.slots ≤ R.slots) (hst : st0 = As.reverse ++ .ref b :: rest) (hcat : (rest.map fun v => v.category).sum ≤ 8) (hdg : decode cc pc = .ok (.invokevirtual index, 3))
    (kk : hk_kk p l e R s m args below meth c H (cells + rm.cells) (slots + rm.slots) Q pc ls rest A A0 post) : W p l e R s m args below meth c H locs cells slots Q (F0 m pc ls st0) :=
  hk_go (va_runU X hM cw ⟨hk_blind E _ H, hk_recv K hO hc, hk_pre K hA0 hS⟩ rfl hn hsz hst (lv_room hcat) hdg hf) hS hA kk
theorem hk_callSN {host : String} (n : Nat) (X : CallFix p m c cc nL s args Ts own) (K : hk_K E s s.heap) (hA0 : ∀ q, A0 q → hk_A E q) (hS : va_S A0 s.heap H locs) (hsz : ls.size = nL)
    (hM : hk_M E l y ws rm A As H post) (hA : ∀ q, A q → A0 q) (hT : GoodIn Ts ws) (hw : ws = Cond.code y bytes maxL ret :: ws') (hnest : (own, index, y, host) ∈ hk_ns) (hini : Cond.initialized y.cls ∈ Ts) (hstt : Cond.static y ∈ Ts)
    (hd : y.cls ≠ "java/lang/invoke/MethodHandle" ∧ y.cls ≠ "java/lang/invoke/VarHandle" ∧ (parseMethodDescriptor y.desc).map (fun d => d.parameters.length) = some n) (hn : As.length = n)
    (hrm : hk_rm rm R maxL cells slots) (hst : st0 = As.reverse ++ rest) (hcat : (rest.map fun v => v.category).sum ≤ 8) (hdg : decode cc pc = .ok (.invokestatic index, 3))
    (kk : hk_kk p l e R s m args below meth c H (cells + rm.cells) (slots + rm.slots) Q pc ls rest A A0 post) : W p l e R s m args below meth c H locs cells slots Q (F0 m pc ls st0) :=
  hk_go (va_runSN X hM ⟨va_cnB n X.2.2.2.2 hT hw rfl rfl (K.2.2.2.2.1.2.2.2.2.2.1 _ hnest) (X.2.2.2.2 _ hini) hd hrm.1, X.2.2.2.2 _ hstt, trivial⟩ ⟨hk_blind E _ H, hk_pre K hA0 hS⟩ rfl hn hsz hst (lv_room hcat) hdg hrm.2) hS hA kk
theorem hk_callIN {host : String} (n : Nat) (X : CallFix p m c cc nL s args Ts own) (K : hk_K E s s.heap) (hA0 : ∀ q, A0 q → hk_A E q) (hS : va_S A0 s.heap H locs) (hsz : ls.size = nL)
    (hM : hk_M E l y ws rm A (.ref b :: As) H post) (hA : ∀ q, A q → A0 q) (hT : GoodIn Ts ws) (hw : ws = Cond.code y bytes maxL none :: ws') (hnest : (own, index, y, host) ∈ hk_ns) (hini : Cond.initialized y.cls ∈ Ts) (him : Cond.instanceMethod y ∈ Ts) (hy1 : y.name = "<init>")
    (hd : y.cls ≠ "java/lang/invoke/MethodHandle" ∧ y.cls ≠ "java/lang/invoke/VarHandle" ∧ (parseMethodDescriptor y.desc).map (fun d => d.parameters.length) = some n) (hn : As.length = n)
    (hrm : hk_rm rm R maxL cells slots) (hst : st0 = As.reverse ++ .ref b :: rest) (hcat : (rest.map fun v => v.category).sum ≤ 8) (hdg : decode cc pc = .ok (.invokespecial index, 3))
    (kk : hk_kk p l e R s m args below meth c H (cells + rm.cells) (slots + rm.slots) Q pc ls rest A A0 post) : W p l e R s m args below meth c H locs cells slots Q (F0 m pc ls st0) :=
  hk_go (va_runIN X hM ⟨va_cnB n X.2.2.2.2 hT hw rfl rfl (K.2.2.2.2.1.2.2.2.2.2.1 _ hnest) (X.2.2.2.2 _ hini) hd hrm.1, hy1, X.2.2.2.2 _ him⟩ ⟨hk_blind E _ H, hk_pre K hA0 hS⟩ rfl hn hsz hst (lv_room hcat) hdg hrm.2) hS hA kk
/-- an exception that the method lets go -/
theorem hk_out {x : String} {ce : Cell} {q9 : Nat} (hx : ∀ z ∈ c.exceptionTable.toList, False) (hlk : meth.locks = false) (hQ : Q = vx_MQ below (hk_Qc A post) (hk_Xc A px) args s mc ms A) (hS : va_S A s.heap H locs) (hce : H[q9]? = some ce) (hcv : ce.vm = .none) (hcl : s.vm.findClass x = some ce.cls) (hc : cells ≤ mc) (hs : slots ≤ ms) (hp : px x H) :
    vx_W p l e R s m args below meth c H locs cells slots Q (F0 m pc ls rest) q9 := by
  subst hQ
  exact vx_out (fun z hz => (hx z hz).elim) hlk hce hcv hcl (fun t ht _ => ⟨by rw [ht]; exact hp, hS.F ht⟩) hS.2.2 hc hs
/-- the words of a throw out of this class: the method's own words, and the tables' castable -/
theorem hk_words {cls : String} {ic : Nat} (hts : ∀ w ∈ Ts, w.before args s = true) (K : hk_K E s s.heap) (hat : ∀ w ∈ (vx_atS own ic cls ["java/lang/RuntimeException", "java/lang/Exception"]).filter goodWord, w ∈ Ts)
    (hbad : (vx_atS own ic cls ["java/lang/RuntimeException", "java/lang/Exception"]).filter (fun w => !goodWord w) = [.declares (Bundle.initS "java/lang/RuntimeException"), .declares (Bundle.initS "java/lang/Exception"), .declares (Bundle.initS Bundle.tN), .castable cls cls]) (hm : (cls, cls) ∈ hk_cs) : ∀ w ∈ vx_atS own ic cls ["java/lang/RuntimeException", "java/lang/Exception"], w.before args s = true := by
  intro w hw
  by_cases g : goodWord w = true
  · exact hts _ (hat w (List.mem_filter.mpr ⟨hw, g⟩))
  · have h1 : w ∈ (vx_atS own ic cls ["java/lang/RuntimeException", "java/lang/Exception"]).filter (fun w => !goodWord w) := List.mem_filter.mpr ⟨hw, by simpa using g⟩
    rw [hbad] at h1
    rcases List.mem_cons.mp h1 with e | h1
    · rw [e]; exact va_Nw.use rfl (K.2.2.2.2.1.2.2.2.2.2.2.2 _ (by decide +kernel))
    rcases List.mem_cons.mp h1 with e | h1
    · rw [e]; exact va_Nw.use rfl (K.2.2.2.2.1.2.2.2.2.2.2.2 _ (by decide +kernel))
    rcases List.mem_cons.mp h1 with e | h1
    · rw [e]; exact va_Nw.use rfl (K.2.2.2.2.1.2.2.2.2.2.2.2 _ (by decide +kernel))
    rw [List.mem_singleton.mp h1]
    exact va_Nw.use rfl (K.2.2.2.2.1.2.2.2.1 _ hm)
/-- throw new cls(text) -/
theorem hk_throw {cls text : String} {ik is ic : Nat} (X : CallFix p m c cc nL s args Ts own) (hown : own = RX10) (K : hk_K E s s.heap) (hl : l.stackTraces = false) (hx : ∀ z ∈ c.exceptionTable.toList, False) (hlk : meth.locks = false) (hQ : Q = vx_MQ below (hk_Qc A post) (hk_Xc A px) args s mc ms A) (hS : va_S A s.heap H locs) (hA : ∀ q, A q → hk_A E q)
    (hcls : Bundle.fit cls = true) (hk : Cond.classLink own ik cls ∈ Ts) (hini : Cond.initialized cls ∈ Ts) (hstr : (is, text) ∈ hk_ss)
    (hat : ∀ w ∈ (vx_atS own ic cls ["java/lang/RuntimeException", "java/lang/Exception"]).filter goodWord, w ∈ Ts)
    (hbad : (vx_atS own ic cls ["java/lang/RuntimeException", "java/lang/Exception"]).filter (fun w => !goodWord w) = [.declares (Bundle.initS "java/lang/RuntimeException"), .declares (Bundle.initS "java/lang/Exception"), .declares (Bundle.initS Bundle.tN), .castable cls cls]) (hm : (cls, cls) ∈ hk_cs)
    (hgood : ∀ w ∈ Cond.classLink own ik cls :: Cond.initialized cls :: vx_atS own ic cls ["java/lang/RuntimeException", "java/lang/Exception"], vx_ot w = true)
    (hsz : ls.size = nL)
    (d0 : decode cc pc = .ok (.new ik, 3)) (d3 : decode cc (pc + 3) = .ok (.dup, 1)) (d4 : decode cc (pc + 4) = .ok (.ldc is, 2)) (d6 : decode cc (pc + 6) = .ok (.invokespecial ic, 3)) (d9 : decode cc (pc + 9) = .ok (.athrow, 1))
    (hRf : 5 < R.frames) (hRl : (rest.map fun v => v.category).sum + 82 ≤ R.locals) (hRc : cells + 1 ≤ R.cells) (hRs : slots + 6 ≤ R.slots)
    (hp : ∀ H1 : Heap, H.size ≤ H1.size → (∀ q : Nat, q < H.size → H1[q]? = H[q]?) → px cls H1) (hc : cells + 1 ≤ mc) (hs : slots + 6 ≤ ms) :
    W p l e R s m args below meth c H locs cells slots Q (F0 m pc ls rest) := by
  subst hQ
  obtain ⟨sa, hsa⟩ := K.2.2.2.2.1.2.2.2.2.1 _ hstr
  have hts := X.2.2.2.2
  subst hown
  exact vx_throwS (A := A) (names := ["java/lang/RuntimeException", "java/lang/Exception"]) X.1 X.2.1 hl X.2.2.2.1 hcls (by decide) (hts _ hk) (hts _ hini) hsa (hk_words hts K hat hbad hm) hgood (K.2.2.2.2.2.1.narrow hA) (K.2.2.2.2.2.2.1.narrow hA) hS (by rw [hsz]; exact X.2.2.1.symm) d0 d3 d4 d6 d9 (fun z hz => (hx z hz).elim) (by simpa using hRf) (by simpa using hRl) hRc hRs hlk (fun t _ hz hq => ⟨hp _ hz hq, Nat.le_trans hS.1 hz, fun q h1 h2 => by rw [hq q (Nat.lt_of_lt_of_le h1 hS.1)]; exact hS.2.1 q h1 h2⟩) hS.2.2 hc hs
theorem hk_throwW {cls text : String} {ik is ic : Nat} (X : CallFix p m c cc nL s args Ts own) (hown : own = RX10) (K : hk_K E s s.heap) (hl : l.stackTraces = false) (hx : ∀ z ∈ c.exceptionTable.toList, False) (hlk : meth.locks = false) (hQ : Q = vx_MQ below (hk_Qc A post) (hk_Xc A px) args s mc ms A) (hS : va_S A s.heap H locs) (hA : ∀ q, A q → hk_A E q)
    (hcls : Bundle.fit cls = true) (hk : Cond.classLink own ik cls ∈ Ts) (hini : Cond.initialized cls ∈ Ts) (hstr : (is, text) ∈ hk_ss)
    (hat : ∀ w ∈ (vx_atS own ic cls ["java/lang/RuntimeException", "java/lang/Exception"]).filter goodWord, w ∈ Ts)
    (hbad : (vx_atS own ic cls ["java/lang/RuntimeException", "java/lang/Exception"]).filter (fun w => !goodWord w) = [.declares (Bundle.initS "java/lang/RuntimeException"), .declares (Bundle.initS "java/lang/Exception"), .declares (Bundle.initS Bundle.tN), .castable cls cls]) (hm : (cls, cls) ∈ hk_cs)
    (hgood : ∀ w ∈ Cond.classLink own ik cls :: Cond.initialized cls :: vx_atS own ic cls ["java/lang/RuntimeException", "java/lang/Exception"], vx_ot w = true)
    (hsz : ls.size = nL)
    (d0 : decode cc pc = .ok (.new ik, 3)) (d3 : decode cc (pc + 3) = .ok (.dup, 1)) (d4 : decode cc (pc + 4) = .ok (.ldc_w is, 3)) (d7 : decode cc (pc + 7) = .ok (.invokespecial ic, 3)) (d10 : decode cc (pc + 10) = .ok (.athrow, 1))
    (hRf : 5 < R.frames) (hRl : (rest.map fun v => v.category).sum + 82 ≤ R.locals) (hRc : cells + 1 ≤ R.cells) (hRs : slots + 6 ≤ R.slots)
    (hp : ∀ H1 : Heap, H.size ≤ H1.size → (∀ q : Nat, q < H.size → H1[q]? = H[q]?) → px cls H1) (hc : cells + 1 ≤ mc) (hs : slots + 6 ≤ ms) :
    W p l e R s m args below meth c H locs cells slots Q (F0 m pc ls rest) := by
  subst hQ
  obtain ⟨sa, hsa⟩ := K.2.2.2.2.1.2.2.2.2.1 _ hstr
  have hts := X.2.2.2.2
  subst hown
  exact vx_throwSW (A := A) (names := ["java/lang/RuntimeException", "java/lang/Exception"]) X.1 X.2.1 hl X.2.2.2.1 hcls (by decide) (hts _ hk) (hts _ hini) hsa (hk_words hts K hat hbad hm) hgood (K.2.2.2.2.2.1.narrow hA) (K.2.2.2.2.2.2.1.narrow hA) hS (by rw [hsz]; exact X.2.2.1.symm) d0 d3 d4 d7 d10 (fun z hz => (hx z hz).elim) (by simpa using hRf) (by simpa using hRl) hRc hRs hlk (fun t _ hz hq => ⟨hp _ hz hq, Nat.le_trans hS.1 hz, fun q h1 h2 => by rw [hq q (Nat.lt_of_lt_of_le h1 hS.1)]; exact hS.2.1 q h1 h2⟩) hS.2.2 hc hs
end HKC
