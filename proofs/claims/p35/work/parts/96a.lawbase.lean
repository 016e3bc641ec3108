def R_law : String := "LightcurveHouseLaw"
def lw_P (b : Addr) (xs : List Int32) (args : Array Value) (s : State) : Prop := args = #[.ref b] ∧ s.IntsAt b xs ∧ xs.length ≤ 260 ∧ (Jvm.Cond.and given_1 narrow_1).before args s = true
def lw_Q (_ : Array Value) (s : State) (o : Outcome) (t : State) : Prop := o = .returned (some (.int 1)) ∧ Framed s o t [] 664990 7106859
def lw_Z (below : List Frame) (a : Array Value) (s : State) : State → Prop := fun t => ∃ o, t.status = .running ∧ Ended t below o ∧ lw_Q a s o t
/-- the law's own end, with 1 on the stack, nothing written that was there before, its room as the claim has it -/
theorem lw_ret {p : Program} {l : Launch} {e : Env} {s : State} {m : MethodId} {below : List Frame} {meth : Method} {c : Code} {b : Nat} (hx : p.tables.exec = Jvm.exec) (hb : c.code = code) (hr : meth.sig.returnType = ret) (hlocks : meth.locks = false) {pc : Nat} {H : Heap} {ls : Array Slot} (hdg : decode code pc = .ok (.ireturn, 1)) : W p l e room_1 s m #[Value.ref b] below meth c H [] 664990 7106859 (lw_Z below #[Value.ref b] s) (F0 m pc ls [.int 1]) := by
  intro T hT X
  obtain ⟨fs, hret, hrun, hended, hW, hframe⟩ := X.leave (v := some (.int 1)) (hlocks := hlocks) (fun h => by rw [hr] at h; cases h)
  have hmeth' : T.vm.method? m = some meth := X.method'
  refine ⟨T.setFrames fs, ?_, .returned (some (.int 1)), hrun, hended, rfl, ⟨_, rfl⟩, hW, hframe⟩
  jvm_step X.here [X.here.top, hx, hb, hdg, hmeth', hr, ret, narrow_b1]
  (try refine ⟨rfl, ?_⟩); (try refine ⟨rfl, ?_⟩)
  first | (intro acts; rw [hret _ acts rfl rfl rfl]) | rw [hret _ _ rfl rfl rfl]
  exact Steps.refl _
/-- what holds at the law's entry: the machine, the code, the tables' words (any of lw_tbl by 'hts w (by decide +kernel)'), the script of L ints xs at the cell b, what the Statement gives of the start (any of its parts by flat_of_before) -/
def lw_At (p : Program) (s : State) (m : MethodId) (meth : Method) (c : Code) (b L : Nat) (xs : Nat → Int32) : Prop :=
  p.tables.exec = Jvm.exec ∧ c.code = code ∧ meth.sig.returnType = ret ∧ c.maxLocals = 26 ∧ s.vm.findClass R_law = some m.cls ∧ (∀ w ∈ lw_tbl, w.before #[Value.ref b] s = true) ∧ va_X b L xs s s.heap ∧ b < s.heap.size ∧ meth.locks = false ∧ (Jvm.Cond.and given_1 narrow_1).before #[Value.ref b] s = true
/-! ===== the law begins: what the machine's tables say ===== -/
theorem cs_in : ∀ q ∈ hk_cs, Cond.castable q.1 q.2 ∈ lw_tbl := by decide +kernel
theorem ss_in : ∀ q ∈ hk_ss, Cond.stringRef RX10 q.1 q.2 ∈ lw_tbl := by decide +kernel
theorem ns_in : ∀ q ∈ hk_ns, Cond.methodLinkNest q.1 q.2.1 q.2.2.1 q.2.2.2 ∈ lw_tbl := by decide +kernel
theorem ds_in : ∀ q ∈ hk_ds, Cond.declares q ∈ lw_tbl := by decide +kernel
theorem nc_in : ∀ q ∈ hk_nc, Cond.not (.castable q.1 q.2) ∈ flatC (Cond.and given_1 narrow_1) := by decide +kernel
theorem hk_arrC {s : State} {args : Array Value} {ty : FieldType} (h : (Cond.arrayClass ty).before args s = true) : ∃ cA : ClassId, ArrOfT s cA ty ∧ s.vm.findClass ("[" ++ ty.toString) = some cA := by
  obtain ⟨cA, k, comp, h1, h2, h3⟩ := Cond.arrayClass_spec h
  exact ⟨cA, fun n z => ⟨fun k g => (by cases g), k, h2, comp, h3⟩, h1⟩
theorem len_spec2 {args : Array Value} {first s : State} {o : Option Outcome} {idx : List Nat} {t : Term} {v : Value} (h : (Term.length t).eval args first o idx s = some v) : ∃ a cell, t.eval args first o idx s = some (.ref a) ∧ s.arrayAt? a = some cell ∧ v = .int cell.slots.size.toInt32 ∧ cell.slots.size < 2147483648 := by
  obtain ⟨a, cell, h1, h2, h3⟩ := Term.length_spec h
  refine ⟨a, cell, h1, h2, h3, ?_⟩
  by_cases hn : cell.slots.size < 2147483648
  · exact hn
  · exfalso
    simp only [Term.eval, Option.bind_eq_bind] at h
    simp [h1, h2, hn] at h
abbrev eaT : Term := .static "java/util/ArrayList" "DEFAULTCAPACITY_EMPTY_ELEMENTDATA" "[Ljava/lang/Object;"
theorem law_start {p : Program} {s : State} {m : MethodId} {meth : Method} {c : Code} {b L : Nat} {xs : Nat → Int32} (C0 : lw_At p s m meth c b L xs) : ∃ E : hk_E, E.2.2.1 = s.heap.size ∧ hk_K E s s.heap := by
  obtain ⟨hx, hb, hr, hml, hown, hts, hX, hbl, hlocks, hgv⟩ := id C0
  have hnw := flat_of_before _ hgv
  obtain ⟨c0, i0, hKn0⟩ := u_known (C := RJx4a65c) (T := TJx4a65c) (N := 3) (n := 3) hts inJx4a65c (hts (.instantiable RJx4a65c 3) (by decide +kernel))
  obtain ⟨c1, i1, hKn1⟩ := u_known (C := RX0) (T := TX0) (N := 1) (n := 1) hts inX0 (hts (.instantiable RX0 1) (by decide +kernel))
  obtain ⟨c2, i2, hKn2⟩ := u_known (C := RX1) (T := TX1) (N := 4) (n := 4) hts inX1 (hts (.instantiable RX1 4) (by decide +kernel))
  obtain ⟨c3, i3, hKn3⟩ := u_known (C := RX3) (T := TX3) (N := 2) (n := 2) hts inX3 (hts (.instantiable RX3 2) (by decide +kernel))
  obtain ⟨c4, i4, hKn4⟩ := u_known (C := RX4) (T := TX4) (N := 3) (n := 3) hts inX4 (hts (.instantiable RX4 3) (by decide +kernel))
  obtain ⟨c5, i5, hKn5⟩ := u_known (C := RX5) (T := TX5) (N := 3) (n := 3) hts inX5 (hts (.instantiable RX5 3) (by decide +kernel))
  obtain ⟨c6, i6, hKn6⟩ := u_known (C := RX6) (T := TX6) (N := 6) (n := 6) hts inX6 (hts (.instantiable RX6 6) (by decide +kernel))
  obtain ⟨c7, i7, hKn7⟩ := u_known (C := RX7) (T := TX7) (N := 5) (n := 5) hts inX7 (hts (.instantiable RX7 5) (by decide +kernel))
  obtain ⟨c8, i8, hKn8⟩ := u_known (C := RX8) (T := TX8) (N := 8) (n := 8) hts inX8 (hts (.instantiable RX8 8) (by decide +kernel))
  obtain ⟨c9, i9, hKn9⟩ := u_known (C := RX9) (T := TX9) (N := 2) (n := 2) hts inX9 (hts (.instantiable RX9 2) (by decide +kernel))
  obtain ⟨c10, i10, hKn10⟩ := u_known (C := RX10) (T := TX10) (N := 13) (n := 13) hts inX10 (hts (.instantiable RX10 13) (by decide +kernel))
  obtain ⟨dC, dI, hKc⟩ : ∃ (dC : Nat → ClassId) (dI : Nat → Nat → Nat), ∀ (k : Nat) (q : vw_C), vwCl[k]? = some q → u_Kn s q.1 q.2.1 q.2.2 (dC k) (dI k) := by
    refine ⟨fun k => if k = 0 then c0 else if k = 1 then c1 else if k = 2 then c2 else if k = 3 then c3 else if k = 4 then c4 else if k = 5 then c5 else if k = 6 then c6 else if k = 7 then c7 else if k = 8 then c8 else if k = 9 then c9 else c10, fun k => if k = 0 then i0 else if k = 1 then i1 else if k = 2 then i2 else if k = 3 then i3 else if k = 4 then i4 else if k = 5 then i5 else if k = 6 then i6 else if k = 7 then i7 else if k = 8 then i8 else if k = 9 then i9 else i10, ?_⟩
    intro k q hq
    have hk : k < 11 := (List.getElem?_eq_some_iff.mp hq).1
    rcases (show k = 0 ∨ k = 1 ∨ k = 2 ∨ k = 3 ∨ k = 4 ∨ k = 5 ∨ k = 6 ∨ k = 7 ∨ k = 8 ∨ k = 9 ∨ k = 10 by omega) with g | g | g | g | g | g | g | g | g | g | g <;> subst g
    · cases hq; exact hKn0
    · cases hq; exact hKn1
    · cases hq; exact hKn2
    · cases hq; exact hKn3
    · cases hq; exact hKn4
    · cases hq; exact hKn5
    · cases hq; exact hKn6
    · cases hq; exact hKn7
    · cases hq; exact hKn8
    · cases hq; exact hKn9
    · cases hq; exact hKn10
  obtain ⟨aI, aI1, aI2⟩ := hk_arrC (hts (.arrayClass .int) (by decide +kernel))
  have hAO : (Cond.arrayOver (.object "java/lang/Object")).before #[.ref b] s = true := hts _ (by decide +kernel)
  obtain ⟨comp, aO, kO, o1, -, o3, o4, o5⟩ := Cond.arrayOver_spec hAO
  obtain ⟨mi, hmi⟩ := va_Mi.of (hnw (.isRef (.mirror "[Ljava/lang/Object;")) (by decide +kernel))
  obtain ⟨ea, cE, cell, kE, e1, e2, e3, e4, e5, e6, -⟩ := Cond.exactly_spec (hnw (.exactly eaT "[Ljava/lang/Object;") (by decide +kernel))
  have hlen : cell.slots.size = 0 := by
    have h1 : (Cond.eq (.length eaT) (.int 0)).before #[.ref b] s = true := hnw _ (by decide +kernel)
    simp only [Cond.before, Cond.holds, Cond.value] at h1
    cases hv : (Term.length eaT).eval #[.ref b] s none [] s with
    | none => simp [hv] at h1
    | some v =>
      obtain ⟨a9, cell9, g1, g2, g3, hlt⟩ := len_spec2 hv
      cases g1.symm.trans e1
      obtain ⟨g4, -, -, g5⟩ := State.arrayAt?_spec g2
      cases g4.symm.trans e3
      subst g3
      rw [hv] at h1
      have h2 : cell.slots.size.toInt32 = 0 := by simpa [Term.eval] using h1
      have h3 := congrArg Int32.toInt h2
      have h4 : (Int32.ofNat cell.slots.size).toInt = (cell.slots.size : Int) := nI_toInt hlt
      rw [show cell.slots.size.toInt32 = Int32.ofNat cell.slots.size from rfl, h4, i_0] at h3
      omega
  have hZ0 : va_Z "java/util/ArrayList" "DEFAULTCAPACITY_EMPTY_ELEMENTDATA" "[Ljava/lang/Object;" (.ref ea) (fun q => s.heap.size ≤ q) s s.heap := va_Zof (hts _ (by decide +kernel)) (hts _ (by decide +kernel)) e1 (fun a h g => absurd h (by omega))
  have hcO : cE = aO := by
    have q : s.vm.findClass "[Ljava/lang/Object;" = some aO := o5
    exact Option.some.inj (e2.symm.trans q)
  refine ⟨((dC, dI), fun k => if k = 0 then aI else aO, s.heap.size, ea, mi), rfl, ⟨hKc, ?_⟩, hZ0, ⟨cell, e3, by rw [e6, hcO]; rfl, e5, hlen⟩, ?_, ⟨va_AO.of hAO, hmi, va_Dc.of (hts _ (by decide +kernel)), fun q hq => va_Nw.of rfl (hts _ (cs_in q hq)), ?_, fun q hq => va_Nw.of rfl (hts _ (ns_in q hq)), fun q hq => va_Nc.of (hnw _ (nc_in q hq)), fun q hq => va_Nw.of rfl (hts _ (ds_in q hq))⟩, ?_, ?_, Nat.le_refl _⟩
  · intro k q hq
    have hk : k < 4 := (List.getElem?_eq_some_iff.mp hq).1
    rcases (show k = 0 ∨ k = 1 ∨ k = 2 ∨ k = 3 by omega) with g | g | g | g <;> subst g <;> cases hq
    · exact ⟨aI1, aI2⟩
    · exact ⟨aI1, aI2⟩
    · exact ⟨aI1, aI2⟩
    · exact ⟨fun n z => ⟨fun k g => (by cases g), kO, o3, comp, o4⟩, kO, comp, o3, o4, o1, o5⟩
  · exact fun g => absurd (Array.getElem?_eq_some_iff.mp e3).1 (Nat.not_lt.mpr g)
  · intro q hq
    obtain ⟨cX, -, hcX, -⟩ := Cond.instantiable_spec (hts (.instantiable RX10 13) (by decide +kernel))
    have h1 : (Cond.stringRef RX10 q.1 q.2).before #[.ref b] s = true := hts _ (ss_in q hq)
    obtain ⟨-, -, -, a9, -, -, -, -, -, g6⟩ := Cond.stringRef_spec hcX h1
    exact ⟨a9, vk_R.of h1 g6⟩
  · exact vx_Zqof (hts _ (by decide +kernel)) (hts _ (by decide +kernel)) (hnw _ (by decide +kernel)) (fun a h g => absurd h (Nat.not_lt.mpr g))
  · exact vx_Zqof (hts _ (by decide +kernel)) (hts _ (by decide +kernel)) (hnw _ (by decide +kernel)) (fun a h g => absurd h (Nat.not_lt.mpr g))
