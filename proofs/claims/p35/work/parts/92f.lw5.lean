theorem hk_X.ofWH {E : hk_E} {l : Launch} {y : MethodName} {ws ws' : List Cond} {rm : Room} {A : Nat → Prop} {av : List Value} {H0 : Heap} {post : Option Value → Heap → Prop} {px : String → Heap → Prop} {cc : ByteArray} {maxL : Nat} {ret : Option FieldType} {hh : List (Nat × Nat × Nat × Nat)}
    (hy : plainName y.cls = true) (hw : ws = Cond.codeWith y cc maxL ret hh :: ws') (hn : (lg_sl av).length ≤ maxL)
    (body : ∀ (p : Program) (e : Env) (s : State) (m : MethodId) (args : Array Value) (below : List Frame) (meth : Method) (c : Code) (ls : Array Slot) (Q : State → Prop), Q = vx_MQ below (hk_Qc A post) (hk_Xc A px) args s rm.cells rm.slots A → CallFix p m c cc maxL s args ws y.cls → meth.sig.returnType = ret → meth.locks = false → c.exceptionTable.toList = tableOf hh → hk_K E s s.heap → s.heap = H0 → va_S A s.heap H0 [] → lv_has ls maxL (lv_args 0 av) →
      W p l e rm s m args below meth c H0 [] 0 0 Q (F0 m 0 ls [])) : hk_X E l y ws rm A av H0 post px := by
  refine vx_ofWH (cc := cc) (maxL := maxL) (ret := ret) (hh := hh) hy hw ?_
  intro p e s m args below meth c s₁ B hml hv
  obtain ⟨rfl, hH, hK⟩ := hv
  have hts := atoms_spec (ws := ws) B.pre
  have htab : c.exceptionTable.toList = tableOf hh := vx_table (x := y) B (hts _ (by rw [hw]; exact List.mem_cons_self))
  have hown : s.vm.findClass y.cls = some m.cls := findClass_of_methodNamed B.named
  have hl := lv_entry av (n := maxL) hn
  rw [lg_entry_eq]
  generalize (lg_sl av ++ List.replicate (maxL - (lg_sl av).length) Slot.unset).toArray = ls at hl ⊢
  rw [hH]
  exact body p e s m av.toArray below meth c ls _ rfl ⟨B.exec, B.bytes, hml, hown, hts⟩ B.returns B.notSynchronized htab hK hH (by rw [hH]; exact va_S.rf) hl

/-- the answer, or the exception's number -/
def dv (cd an c1 c2 c3 : Int32) : Int32 := if cd = 0 then an else if cd = 1 then c1 else if cd = 2 then c2 else c3
theorem dv_0 {cd an c1 c2 c3 : Int32} (h : cd = 0) : dv cd an c1 c2 c3 = an := if_pos h
theorem dv_1 {cd an c1 c2 c3 : Int32} (h : cd = 1) : dv cd an c1 c2 c3 = c1 := by subst h; rfl
theorem dv_2 {cd an c1 c2 c3 : Int32} (h : cd = 2) : dv cd an c1 c2 c3 = c2 := by subst h; rfl
theorem dv_3 {cd an c1 c2 c3 : Int32} (h : cd = 3) : dv cd an c1 c2 c3 = c3 := by subst h; rfl
def dpost (E : hk_E) (Z : Nat → Prop) (C : hC) (v : Int32) (S1 : mS) : Option Value → Heap → Prop := fun z H1 => z = some (.int v) ∧ ∃ G R, HW E Z C G R S1 H1
theorem cdn_merge {p0 p1 : Int32} {S : mS} : ¬ cd_merge p0 p1 S = 3 := by
  unfold cd_merge; (repeat' split) <;> decide
theorem hd_X10_merge : yX10_merge.cls ≠ "java/lang/invoke/MethodHandle" ∧ yX10_merge.cls ≠ "java/lang/invoke/VarHandle" ∧ (parseMethodDescriptor yX10_merge.desc).map (fun d => d.parameters.length) = some 2 := ⟨by decide, by decide, by decide +kernel⟩
abbrev rmL_does_merge : Room := { frames := 12, cells := 12, slots := 600, locals := 227 }
set_option maxHeartbeats 4000000 in
set_option maxRecDepth 100000 in
theorem c_L_does_merge (E : hk_E) (l : Launch) (hl9 : l.stackTraces = false) (H0 : Heap) {Z : Nat → Prop} {ho ts : Nat} {li : Nat → Nat} {rr : Nat → Nat → Nat} {G : hG} {R : hR} {cn : Nat → Nat} {sc : Nat → Int32} {μ : Nat → Nat → Int32} (hW : HW E Z (ho, li, rr, ts) G R (cn, sc, μ) H0) (hI : InvF (cn, sc, μ)) (hZn : ∀ q, H0.size ≤ q → Z q) {p0 p1 p2 p3 p4 : Int32} : hk_X E l yL_does wsL_does rmL_does_merge (fun q => Z q) [.ref ho, .int 0, .int p0, .int p1, .int p2, .int p3, .int p4] H0 (dpost E Z (ho, li, rr, ts) (dv (cd_merge p0 p1 (cn, sc, μ)) (an_merge p0 p1 (cn, sc, μ)) (-1111111) (-1111113) 0) (if cd_merge p0 p1 (cn, sc, μ) = 0 then st_merge p0 p1 (cn, sc, μ) else (cn, sc, μ))) (fun _ _ => False) := by
  refine hk_X.ofWH (cc := cL_does) (maxL := 8) (ret := (some .int)) (hh := [(0, 153, 154, 88), (0, 153, 159, 91), (0, 153, 164, 94)]) (by decide +kernel) rfl (Nat.le_of_ble_eq_true rfl) ?_
  intro p e s m args below meth c ls Q hQ X hr hlk htab K hs9 hS hl
  obtain ⟨hx, hb, hml, hown, hts⟩ := id X
  have hAE : ∀ q, (fun q => Z q) q → hk_A E q := fun q h => hW.2.2.2.2.2.2.2.2.2.2.2.2 q h
  have hl : lv_has ls 8 [(0, .ref ho), (1, .int 0), (2, .int p0), (3, .int p1), (4, .int p2), (5, .int p3), (6, .int p4)] := hl
  refine lv_iload_n hx hb dL_does_0 rfl (lv_at hl 1 rfl) ?_
  refine lv_if_ne (tgt := 13) hx hb dL_does_1 (by decide) (fun c_1 => ?_) (fun c_1 => ?_)
  · exact absurd rfl c_1
  · refine lv_aload_n hx hb dL_does_4 rfl (lv_at hl 0 rfl) ?_
    refine lv_iload_n hx hb dL_does_5 rfl (lv_at hl 2 rfl) ?_
    refine lv_iload_n hx hb dL_does_6 rfl (lv_at hl 3 rfl) ?_
    refine hk_callVx 2 (As := [.int p0, .int p1]) (rest := []) X K hAE hS hl.1 (HW.o hW) rfl (c_X10_merge E l hl9 H0 hW hI hZn (p0 := p0) (p1 := p1)) (fun q h => h) gL_does_X10_merge rfl ⟨rfl, hd_X10_merge⟩ rfl ⟨⟨(Nat.le_of_ble_eq_true rfl), (Nat.le_of_ble_eq_true rfl)⟩, (Nat.le_of_ble_eq_true rfl), (Nat.le_of_ble_eq_true rfl)⟩ rfl (Nat.le_of_ble_eq_true rfl) dL_does_7 (fun x9 ce9 q9 H1 locs1 hp hS hz1 hk1 hce hcv hcl => by
        obtain ⟨hcs, G, R, hW⟩ := hp
        rcases hcs with ⟨hcd, rfl⟩ | ⟨hcd, rfl⟩ | ⟨hcd, rfl⟩
        · refine vx_catch (own := RL) (name := "java/lang/IndexOutOfBoundsException") hown [] ⟨0, 153, 154, 88⟩ [⟨0, 153, 159, 91⟩, ⟨0, 153, 164, 94⟩] htab (fun z hz => absurd hz List.not_mem_nil) rfl (by decide) (hts (.classLink RL 88 "java/lang/IndexOutOfBoundsException") (by decide +kernel)) (va_Nw.use rfl (K.2.2.2.2.1.2.2.2.1 ("java/lang/IndexOutOfBoundsException", "java/lang/IndexOutOfBoundsException") (by decide +kernel))) hce hcv hcl ?_
          refine lv_astore (lv' := [(7, .ref q9), (0, .ref ho), (1, .int 0), (2, .int p0), (3, .int p1), (4, .int p2), (5, .int p3), (6, .int p4)]) hx hb dL_does_154 hl (by decide) rfl (fun ls hl => ?_)
          refine lv_ldc hx hb hown (hts (.constant RL 90 (-1111111)) (by decide +kernel)) dL_does_156 ?_
          exact hk_iretx X hr hlk hQ hS (Nat.le_of_ble_eq_true rfl) (Nat.le_of_ble_eq_true rfl) dL_does_158 (⟨congrArg (fun v => some (Value.int v)) (dv_1 hcd).symm, G, R, (by rw [if_neg (by rw [hcd]; decide)]; exact hW)⟩)
        · refine vx_catch (own := RL) (name := "java/lang/IllegalStateException") hown [⟨0, 153, 154, 88⟩, ⟨0, 153, 159, 91⟩] ⟨0, 153, 164, 94⟩ [] htab (fun z hz => by
                rcases List.mem_cons.mp hz with g | g
                · rw [g]; exact Or.inr ⟨by decide, "java/lang/IndexOutOfBoundsException", (hts (.classLink RL 88 "java/lang/IndexOutOfBoundsException") (by decide +kernel)), K.2.2.2.2.1.2.2.2.2.2.2.1 ("java/lang/IllegalStateException", "java/lang/IndexOutOfBoundsException") (by decide +kernel)⟩
                · rw [List.mem_singleton.mp g]; exact Or.inr ⟨by decide, "java/lang/IllegalArgumentException", (hts (.classLink RL 91 "java/lang/IllegalArgumentException") (by decide +kernel)), K.2.2.2.2.1.2.2.2.2.2.2.1 ("java/lang/IllegalStateException", "java/lang/IllegalArgumentException") (by decide +kernel)⟩) rfl (by decide) (hts (.classLink RL 94 "java/lang/IllegalStateException") (by decide +kernel)) (va_Nw.use rfl (K.2.2.2.2.1.2.2.2.1 ("java/lang/IllegalStateException", "java/lang/IllegalStateException") (by decide +kernel))) hce hcv hcl ?_
          refine lv_astore (lv' := [(7, .ref q9), (0, .ref ho), (1, .int 0), (2, .int p0), (3, .int p1), (4, .int p2), (5, .int p3), (6, .int p4)]) hx hb dL_does_164 hl (by decide) rfl (fun ls hl => ?_)
          refine lv_ldc hx hb hown (hts (.constant RL 96 (-1111113)) (by decide +kernel)) dL_does_166 ?_
          exact hk_iretx X hr hlk hQ hS (Nat.le_of_ble_eq_true rfl) (Nat.le_of_ble_eq_true rfl) dL_does_168 (⟨congrArg (fun v => some (Value.int v)) (dv_2 hcd).symm, G, R, (by rw [if_neg (by rw [hcd]; decide)]; exact hW)⟩)
        · exact absurd hcd cdn_merge
      ) (fun v9 H1 locs1 hp hS hz1 hk1 => ?_)
    obtain ⟨hcd, hv, G, R, hW⟩ := hp
    subst hv
    refine lv_goto (tgt := 153) hx hb dL_does_10 (by decide) ?_
    exact hk_iretx X hr hlk hQ hS (Nat.le_of_ble_eq_true rfl) (Nat.le_of_ble_eq_true rfl) dL_does_153 (⟨congrArg (fun v => some (Value.int v)) (dv_0 hcd).symm, G, R, (by rw [if_pos hcd]; exact hW)⟩)

theorem cdn_split {p0 : Int32} {S : mS} : ¬ cd_split p0 S = 3 := by
  unfold cd_split; (repeat' split) <;> decide
theorem hd_X10_split : yX10_split.cls ≠ "java/lang/invoke/MethodHandle" ∧ yX10_split.cls ≠ "java/lang/invoke/VarHandle" ∧ (parseMethodDescriptor yX10_split.desc).map (fun d => d.parameters.length) = some 1 := ⟨by decide, by decide, by decide +kernel⟩
abbrev rmL_does_split : Room := { frames := 12, cells := 12, slots := 600, locals := 227 }
set_option maxHeartbeats 4000000 in
set_option maxRecDepth 100000 in
theorem c_L_does_split (E : hk_E) (l : Launch) (hl9 : l.stackTraces = false) (H0 : Heap) {Z : Nat → Prop} {ho ts : Nat} {li : Nat → Nat} {rr : Nat → Nat → Nat} {G : hG} {R : hR} {cn : Nat → Nat} {sc : Nat → Int32} {μ : Nat → Nat → Int32} (hW : HW E Z (ho, li, rr, ts) G R (cn, sc, μ) H0) (hI : InvF (cn, sc, μ)) (hZn : ∀ q, H0.size ≤ q → Z q) {p0 p1 p2 p3 p4 : Int32} : hk_X E l yL_does wsL_does rmL_does_split (fun q => Z q) [.ref ho, .int 1, .int p0, .int p1, .int p2, .int p3, .int p4] H0 (dpost E Z (ho, li, rr, ts) (dv (cd_split p0 (cn, sc, μ)) (an_split p0 (cn, sc, μ)) (-1111111) (-1111113) 0) (if cd_split p0 (cn, sc, μ) = 0 then st_split p0 (cn, sc, μ) else (cn, sc, μ))) (fun _ _ => False) := by
  refine hk_X.ofWH (cc := cL_does) (maxL := 8) (ret := (some .int)) (hh := [(0, 153, 154, 88), (0, 153, 159, 91), (0, 153, 164, 94)]) (by decide +kernel) rfl (Nat.le_of_ble_eq_true rfl) ?_
  intro p e s m args below meth c ls Q hQ X hr hlk htab K hs9 hS hl
  obtain ⟨hx, hb, hml, hown, hts⟩ := id X
  have hAE : ∀ q, (fun q => Z q) q → hk_A E q := fun q h => hW.2.2.2.2.2.2.2.2.2.2.2.2 q h
  have hl : lv_has ls 8 [(0, .ref ho), (1, .int 1), (2, .int p0), (3, .int p1), (4, .int p2), (5, .int p3), (6, .int p4)] := hl
  refine lv_iload_n hx hb dL_does_0 rfl (lv_at hl 1 rfl) ?_
  refine lv_if_ne (tgt := 13) hx hb dL_does_1 (by decide) (fun c_1 => ?_) (fun c_1 => ?_)
  · refine lv_iload_n hx hb dL_does_13 rfl (lv_at hl 1 rfl) ?_
    refine lv_iconst (v := 1) hx hb dL_does_14 (by decide) ?_
    refine lv_icmp_ne (tgt := 26) hx hb dL_does_15 (by decide) (fun c_15 => ?_) (fun c_15 => ?_)
    · exact absurd rfl c_15
    · refine lv_aload_n hx hb dL_does_18 rfl (lv_at hl 0 rfl) ?_
      refine lv_iload_n hx hb dL_does_19 rfl (lv_at hl 2 rfl) ?_
      refine hk_callVx 1 (As := [.int p0]) (rest := []) X K hAE hS hl.1 (HW.o hW) rfl (c_X10_split E l hl9 H0 hW hI hZn (p0 := p0)) (fun q h => h) gL_does_X10_split rfl ⟨rfl, hd_X10_split⟩ rfl ⟨⟨(Nat.le_of_ble_eq_true rfl), (Nat.le_of_ble_eq_true rfl)⟩, (Nat.le_of_ble_eq_true rfl), (Nat.le_of_ble_eq_true rfl)⟩ rfl (Nat.le_of_ble_eq_true rfl) dL_does_20 (fun x9 ce9 q9 H1 locs1 hp hS hz1 hk1 hce hcv hcl => by
          obtain ⟨hcs, G, R, hW⟩ := hp
          rcases hcs with ⟨hcd, rfl⟩ | ⟨hcd, rfl⟩ | ⟨hcd, rfl⟩
          · refine vx_catch (own := RL) (name := "java/lang/IndexOutOfBoundsException") hown [] ⟨0, 153, 154, 88⟩ [⟨0, 153, 159, 91⟩, ⟨0, 153, 164, 94⟩] htab (fun z hz => absurd hz List.not_mem_nil) rfl (by decide) (hts (.classLink RL 88 "java/lang/IndexOutOfBoundsException") (by decide +kernel)) (va_Nw.use rfl (K.2.2.2.2.1.2.2.2.1 ("java/lang/IndexOutOfBoundsException", "java/lang/IndexOutOfBoundsException") (by decide +kernel))) hce hcv hcl ?_
            refine lv_astore (lv' := [(7, .ref q9), (0, .ref ho), (1, .int 1), (2, .int p0), (3, .int p1), (4, .int p2), (5, .int p3), (6, .int p4)]) hx hb dL_does_154 hl (by decide) rfl (fun ls hl => ?_)
            refine lv_ldc hx hb hown (hts (.constant RL 90 (-1111111)) (by decide +kernel)) dL_does_156 ?_
            exact hk_iretx X hr hlk hQ hS (Nat.le_of_ble_eq_true rfl) (Nat.le_of_ble_eq_true rfl) dL_does_158 (⟨congrArg (fun v => some (Value.int v)) (dv_1 hcd).symm, G, R, (by rw [if_neg (by rw [hcd]; decide)]; exact hW)⟩)
          · refine vx_catch (own := RL) (name := "java/lang/IllegalStateException") hown [⟨0, 153, 154, 88⟩, ⟨0, 153, 159, 91⟩] ⟨0, 153, 164, 94⟩ [] htab (fun z hz => by
                  rcases List.mem_cons.mp hz with g | g
                  · rw [g]; exact Or.inr ⟨by decide, "java/lang/IndexOutOfBoundsException", (hts (.classLink RL 88 "java/lang/IndexOutOfBoundsException") (by decide +kernel)), K.2.2.2.2.1.2.2.2.2.2.2.1 ("java/lang/IllegalStateException", "java/lang/IndexOutOfBoundsException") (by decide +kernel)⟩
                  · rw [List.mem_singleton.mp g]; exact Or.inr ⟨by decide, "java/lang/IllegalArgumentException", (hts (.classLink RL 91 "java/lang/IllegalArgumentException") (by decide +kernel)), K.2.2.2.2.1.2.2.2.2.2.2.1 ("java/lang/IllegalStateException", "java/lang/IllegalArgumentException") (by decide +kernel)⟩) rfl (by decide) (hts (.classLink RL 94 "java/lang/IllegalStateException") (by decide +kernel)) (va_Nw.use rfl (K.2.2.2.2.1.2.2.2.1 ("java/lang/IllegalStateException", "java/lang/IllegalStateException") (by decide +kernel))) hce hcv hcl ?_
            refine lv_astore (lv' := [(7, .ref q9), (0, .ref ho), (1, .int 1), (2, .int p0), (3, .int p1), (4, .int p2), (5, .int p3), (6, .int p4)]) hx hb dL_does_164 hl (by decide) rfl (fun ls hl => ?_)
            refine lv_ldc hx hb hown (hts (.constant RL 96 (-1111113)) (by decide +kernel)) dL_does_166 ?_
            exact hk_iretx X hr hlk hQ hS (Nat.le_of_ble_eq_true rfl) (Nat.le_of_ble_eq_true rfl) dL_does_168 (⟨congrArg (fun v => some (Value.int v)) (dv_2 hcd).symm, G, R, (by rw [if_neg (by rw [hcd]; decide)]; exact hW)⟩)
          · exact absurd hcd cdn_split
        ) (fun v9 H1 locs1 hp hS hz1 hk1 => ?_)
      obtain ⟨hcd, hv, G, R, hW⟩ := hp
      subst hv
      refine lv_goto (tgt := 153) hx hb dL_does_23 (by decide) ?_
      exact hk_iretx X hr hlk hQ hS (Nat.le_of_ble_eq_true rfl) (Nat.le_of_ble_eq_true rfl) dL_does_153 (⟨congrArg (fun v => some (Value.int v)) (dv_0 hcd).symm, G, R, (by rw [if_pos hcd]; exact hW)⟩)
  · exact absurd c_1 (by decide)

theorem hd_X10_period : yX10_period.cls ≠ "java/lang/invoke/MethodHandle" ∧ yX10_period.cls ≠ "java/lang/invoke/VarHandle" ∧ (parseMethodDescriptor yX10_period.desc).map (fun d => d.parameters.length) = some 4 := ⟨by decide, by decide, by decide +kernel⟩
abbrev rmL_does_period : Room := { frames := 12, cells := 12, slots := 600, locals := 227 }
set_option maxHeartbeats 4000000 in
set_option maxRecDepth 100000 in
theorem c_L_does_period (E : hk_E) (l : Launch) (hl9 : l.stackTraces = false) (H0 : Heap) {Z : Nat → Prop} {ho ts : Nat} {li : Nat → Nat} {rr : Nat → Nat → Nat} {G : hG} {R : hR} {cn : Nat → Nat} {sc : Nat → Int32} {μ : Nat → Nat → Int32} (hW : HW E Z (ho, li, rr, ts) G R (cn, sc, μ) H0) (hI : InvF (cn, sc, μ)) (hZn : ∀ q, H0.size ≤ q → Z q) {p0 p1 p2 p3 p4 : Int32} : hk_X E l yL_does wsL_does rmL_does_period (fun q => Z q) [.ref ho, .int 2, .int p0, .int p1, .int p2, .int p3, .int p4] H0 (dpost E Z (ho, li, rr, ts) (dv (cd_period p0 p1 p2 p3 (cn, sc, μ)) (an_period p0 p1 p2 p3 (cn, sc, μ)) (-1111111) (-1111112) (-1111113)) (cn, sc, μ)) (fun _ _ => False) := by
  refine hk_X.ofWH (cc := cL_does) (maxL := 8) (ret := (some .int)) (hh := [(0, 153, 154, 88), (0, 153, 159, 91), (0, 153, 164, 94)]) (by decide +kernel) rfl (Nat.le_of_ble_eq_true rfl) ?_
  intro p e s m args below meth c ls Q hQ X hr hlk htab K hs9 hS hl
  obtain ⟨hx, hb, hml, hown, hts⟩ := id X
  have hAE : ∀ q, (fun q => Z q) q → hk_A E q := fun q h => hW.2.2.2.2.2.2.2.2.2.2.2.2 q h
  have hl : lv_has ls 8 [(0, .ref ho), (1, .int 2), (2, .int p0), (3, .int p1), (4, .int p2), (5, .int p3), (6, .int p4)] := hl
  refine lv_iload_n hx hb dL_does_0 rfl (lv_at hl 1 rfl) ?_
  refine lv_if_ne (tgt := 13) hx hb dL_does_1 (by decide) (fun c_1 => ?_) (fun c_1 => ?_)
  · refine lv_iload_n hx hb dL_does_13 rfl (lv_at hl 1 rfl) ?_
    refine lv_iconst (v := 1) hx hb dL_does_14 (by decide) ?_
    refine lv_icmp_ne (tgt := 26) hx hb dL_does_15 (by decide) (fun c_15 => ?_) (fun c_15 => ?_)
    · refine lv_iload_n hx hb dL_does_26 rfl (lv_at hl 1 rfl) ?_
      refine lv_iconst (v := 2) hx hb dL_does_27 (by decide) ?_
      refine lv_icmp_ne (tgt := 44) hx hb dL_does_28 (by decide) (fun c_28 => ?_) (fun c_28 => ?_)
      · exact absurd rfl c_28
      · refine lv_aload_n hx hb dL_does_31 rfl (lv_at hl 0 rfl) ?_
        refine lv_iload_n hx hb dL_does_32 rfl (lv_at hl 2 rfl) ?_
        refine lv_iload_n hx hb dL_does_33 rfl (lv_at hl 3 rfl) ?_
        refine lv_iload hx hb dL_does_34 (lv_at hl 4 rfl) ?_
        refine lv_iload hx hb dL_does_36 (lv_at hl 5 rfl) ?_
        refine hk_callVx 4 (As := [.int p0, .int p1, .int p2, .int p3]) (rest := []) X K hAE hS hl.1 (HW.o hW) rfl (c_X10_period E l hl9 H0 hW hI hZn (p0 := p0) (p1 := p1) (p2 := p2) (p3 := p3)) (fun q h => h) gL_does_X10_period rfl ⟨rfl, hd_X10_period⟩ rfl ⟨⟨(Nat.le_of_ble_eq_true rfl), (Nat.le_of_ble_eq_true rfl)⟩, (Nat.le_of_ble_eq_true rfl), (Nat.le_of_ble_eq_true rfl)⟩ rfl (Nat.le_of_ble_eq_true rfl) dL_does_38 (fun x9 ce9 q9 H1 locs1 hp hS hz1 hk1 hce hcv hcl => by
            obtain ⟨hcs, G, R, hW⟩ := hp
            rcases hcs with ⟨hcd, rfl⟩ | ⟨hcd, rfl⟩ | ⟨hcd, rfl⟩
            · refine vx_catch (own := RL) (name := "java/lang/IndexOutOfBoundsException") hown [] ⟨0, 153, 154, 88⟩ [⟨0, 153, 159, 91⟩, ⟨0, 153, 164, 94⟩] htab (fun z hz => absurd hz List.not_mem_nil) rfl (by decide) (hts (.classLink RL 88 "java/lang/IndexOutOfBoundsException") (by decide +kernel)) (va_Nw.use rfl (K.2.2.2.2.1.2.2.2.1 ("java/lang/IndexOutOfBoundsException", "java/lang/IndexOutOfBoundsException") (by decide +kernel))) hce hcv hcl ?_
              refine lv_astore (lv' := [(7, .ref q9), (0, .ref ho), (1, .int 2), (2, .int p0), (3, .int p1), (4, .int p2), (5, .int p3), (6, .int p4)]) hx hb dL_does_154 hl (by decide) rfl (fun ls hl => ?_)
              refine lv_ldc hx hb hown (hts (.constant RL 90 (-1111111)) (by decide +kernel)) dL_does_156 ?_
              exact hk_iretx X hr hlk hQ hS (Nat.le_of_ble_eq_true rfl) (Nat.le_of_ble_eq_true rfl) dL_does_158 (⟨congrArg (fun v => some (Value.int v)) (dv_1 hcd).symm, G, R, hW⟩)
            · refine vx_catch (own := RL) (name := "java/lang/IllegalArgumentException") hown [⟨0, 153, 154, 88⟩] ⟨0, 153, 159, 91⟩ [⟨0, 153, 164, 94⟩] htab (fun z hz => by rw [List.mem_singleton.mp hz]; exact Or.inr ⟨by decide, "java/lang/IndexOutOfBoundsException", (hts (.classLink RL 88 "java/lang/IndexOutOfBoundsException") (by decide +kernel)), K.2.2.2.2.1.2.2.2.2.2.2.1 ("java/lang/IllegalArgumentException", "java/lang/IndexOutOfBoundsException") (by decide +kernel)⟩) rfl (by decide) (hts (.classLink RL 91 "java/lang/IllegalArgumentException") (by decide +kernel)) (va_Nw.use rfl (K.2.2.2.2.1.2.2.2.1 ("java/lang/IllegalArgumentException", "java/lang/IllegalArgumentException") (by decide +kernel))) hce hcv hcl ?_
              refine lv_astore (lv' := [(7, .ref q9), (0, .ref ho), (1, .int 2), (2, .int p0), (3, .int p1), (4, .int p2), (5, .int p3), (6, .int p4)]) hx hb dL_does_159 hl (by decide) rfl (fun ls hl => ?_)
              refine lv_ldc hx hb hown (hts (.constant RL 93 (-1111112)) (by decide +kernel)) dL_does_161 ?_
              exact hk_iretx X hr hlk hQ hS (Nat.le_of_ble_eq_true rfl) (Nat.le_of_ble_eq_true rfl) dL_does_163 (⟨congrArg (fun v => some (Value.int v)) (dv_2 hcd).symm, G, R, hW⟩)
            · refine vx_catch (own := RL) (name := "java/lang/IllegalStateException") hown [⟨0, 153, 154, 88⟩, ⟨0, 153, 159, 91⟩] ⟨0, 153, 164, 94⟩ [] htab (fun z hz => by
                    rcases List.mem_cons.mp hz with g | g
                    · rw [g]; exact Or.inr ⟨by decide, "java/lang/IndexOutOfBoundsException", (hts (.classLink RL 88 "java/lang/IndexOutOfBoundsException") (by decide +kernel)), K.2.2.2.2.1.2.2.2.2.2.2.1 ("java/lang/IllegalStateException", "java/lang/IndexOutOfBoundsException") (by decide +kernel)⟩
                    · rw [List.mem_singleton.mp g]; exact Or.inr ⟨by decide, "java/lang/IllegalArgumentException", (hts (.classLink RL 91 "java/lang/IllegalArgumentException") (by decide +kernel)), K.2.2.2.2.1.2.2.2.2.2.2.1 ("java/lang/IllegalStateException", "java/lang/IllegalArgumentException") (by decide +kernel)⟩) rfl (by decide) (hts (.classLink RL 94 "java/lang/IllegalStateException") (by decide +kernel)) (va_Nw.use rfl (K.2.2.2.2.1.2.2.2.1 ("java/lang/IllegalStateException", "java/lang/IllegalStateException") (by decide +kernel))) hce hcv hcl ?_
              refine lv_astore (lv' := [(7, .ref q9), (0, .ref ho), (1, .int 2), (2, .int p0), (3, .int p1), (4, .int p2), (5, .int p3), (6, .int p4)]) hx hb dL_does_164 hl (by decide) rfl (fun ls hl => ?_)
              refine lv_ldc hx hb hown (hts (.constant RL 96 (-1111113)) (by decide +kernel)) dL_does_166 ?_
              exact hk_iretx X hr hlk hQ hS (Nat.le_of_ble_eq_true rfl) (Nat.le_of_ble_eq_true rfl) dL_does_168 (⟨congrArg (fun v => some (Value.int v)) (dv_3 hcd).symm, G, R, hW⟩)
          ) (fun v9 H1 locs1 hp hS hz1 hk1 => ?_)
        obtain ⟨hcd, hv, G, R, hW⟩ := hp
        subst hv
        refine lv_goto (tgt := 153) hx hb dL_does_41 (by decide) ?_
        exact hk_iretx X hr hlk hQ hS (Nat.le_of_ble_eq_true rfl) (Nat.le_of_ble_eq_true rfl) dL_does_153 (⟨congrArg (fun v => some (Value.int v)) (dv_0 hcd).symm, G, R, hW⟩)
    · exact absurd c_15 (by decide)
  · exact absurd c_1 (by decide)

theorem hd_X10_aliases : yX10_aliases.cls ≠ "java/lang/invoke/MethodHandle" ∧ yX10_aliases.cls ≠ "java/lang/invoke/VarHandle" ∧ (parseMethodDescriptor yX10_aliases.desc).map (fun d => d.parameters.length) = some 5 := ⟨by decide, by decide, by decide +kernel⟩
abbrev rmL_does_aliases : Room := { frames := 12, cells := 12, slots := 600, locals := 227 }
set_option maxHeartbeats 4000000 in
set_option maxRecDepth 100000 in
theorem c_L_does_aliases (E : hk_E) (l : Launch) (hl9 : l.stackTraces = false) (H0 : Heap) {Z : Nat → Prop} {ho ts : Nat} {li : Nat → Nat} {rr : Nat → Nat → Nat} {G : hG} {R : hR} {cn : Nat → Nat} {sc : Nat → Int32} {μ : Nat → Nat → Int32} (hW : HW E Z (ho, li, rr, ts) G R (cn, sc, μ) H0) (hI : InvF (cn, sc, μ)) (hZn : ∀ q, H0.size ≤ q → Z q) {p0 p1 p2 p3 p4 : Int32} : hk_X E l yL_does wsL_does rmL_does_aliases (fun q => Z q) [.ref ho, .int 3, .int p0, .int p1, .int p2, .int p3, .int p4] H0 (dpost E Z (ho, li, rr, ts) (dv (cd_aliases p0 p1 p2 p3 p4 (cn, sc, μ)) (an_aliases p0 p1 p2 p3 p4 (cn, sc, μ)) (-1111111) (-1111112) (-1111113)) (cn, sc, μ)) (fun _ _ => False) := by
  refine hk_X.ofWH (cc := cL_does) (maxL := 8) (ret := (some .int)) (hh := [(0, 153, 154, 88), (0, 153, 159, 91), (0, 153, 164, 94)]) (by decide +kernel) rfl (Nat.le_of_ble_eq_true rfl) ?_
  intro p e s m args below meth c ls Q hQ X hr hlk htab K hs9 hS hl
  obtain ⟨hx, hb, hml, hown, hts⟩ := id X
  have hAE : ∀ q, (fun q => Z q) q → hk_A E q := fun q h => hW.2.2.2.2.2.2.2.2.2.2.2.2 q h
  have hl : lv_has ls 8 [(0, .ref ho), (1, .int 3), (2, .int p0), (3, .int p1), (4, .int p2), (5, .int p3), (6, .int p4)] := hl
  refine lv_iload_n hx hb dL_does_0 rfl (lv_at hl 1 rfl) ?_
  refine lv_if_ne (tgt := 13) hx hb dL_does_1 (by decide) (fun c_1 => ?_) (fun c_1 => ?_)
  · refine lv_iload_n hx hb dL_does_13 rfl (lv_at hl 1 rfl) ?_
    refine lv_iconst (v := 1) hx hb dL_does_14 (by decide) ?_
    refine lv_icmp_ne (tgt := 26) hx hb dL_does_15 (by decide) (fun c_15 => ?_) (fun c_15 => ?_)
    · refine lv_iload_n hx hb dL_does_26 rfl (lv_at hl 1 rfl) ?_
      refine lv_iconst (v := 2) hx hb dL_does_27 (by decide) ?_
      refine lv_icmp_ne (tgt := 44) hx hb dL_does_28 (by decide) (fun c_28 => ?_) (fun c_28 => ?_)
      · refine lv_iload_n hx hb dL_does_44 rfl (lv_at hl 1 rfl) ?_
        refine lv_iconst (v := 3) hx hb dL_does_45 (by decide) ?_
        refine lv_icmp_ne (tgt := 64) hx hb dL_does_46 (by decide) (fun c_46 => ?_) (fun c_46 => ?_)
        · exact absurd rfl c_46
        · refine lv_aload_n hx hb dL_does_49 rfl (lv_at hl 0 rfl) ?_
          refine lv_iload_n hx hb dL_does_50 rfl (lv_at hl 2 rfl) ?_
          refine lv_iload_n hx hb dL_does_51 rfl (lv_at hl 3 rfl) ?_
          refine lv_iload hx hb dL_does_52 (lv_at hl 4 rfl) ?_
          refine lv_iload hx hb dL_does_54 (lv_at hl 5 rfl) ?_
          refine lv_iload hx hb dL_does_56 (lv_at hl 6 rfl) ?_
          refine hk_callVx 5 (As := [.int p0, .int p1, .int p2, .int p3, .int p4]) (rest := []) X K hAE hS hl.1 (HW.o hW) rfl (c_X10_aliases E l hl9 H0 hW hI hZn (p0 := p0) (p1 := p1) (p2 := p2) (p3 := p3) (p4 := p4)) (fun q h => h) gL_does_X10_aliases rfl ⟨rfl, hd_X10_aliases⟩ rfl ⟨⟨(Nat.le_of_ble_eq_true rfl), (Nat.le_of_ble_eq_true rfl)⟩, (Nat.le_of_ble_eq_true rfl), (Nat.le_of_ble_eq_true rfl)⟩ rfl (Nat.le_of_ble_eq_true rfl) dL_does_58 (fun x9 ce9 q9 H1 locs1 hp hS hz1 hk1 hce hcv hcl => by
              obtain ⟨hcs, G, R, hW⟩ := hp
              rcases hcs with ⟨hcd, rfl⟩ | ⟨hcd, rfl⟩ | ⟨hcd, rfl⟩
              · refine vx_catch (own := RL) (name := "java/lang/IndexOutOfBoundsException") hown [] ⟨0, 153, 154, 88⟩ [⟨0, 153, 159, 91⟩, ⟨0, 153, 164, 94⟩] htab (fun z hz => absurd hz List.not_mem_nil) rfl (by decide) (hts (.classLink RL 88 "java/lang/IndexOutOfBoundsException") (by decide +kernel)) (va_Nw.use rfl (K.2.2.2.2.1.2.2.2.1 ("java/lang/IndexOutOfBoundsException", "java/lang/IndexOutOfBoundsException") (by decide +kernel))) hce hcv hcl ?_
                refine lv_astore (lv' := [(7, .ref q9), (0, .ref ho), (1, .int 3), (2, .int p0), (3, .int p1), (4, .int p2), (5, .int p3), (6, .int p4)]) hx hb dL_does_154 hl (by decide) rfl (fun ls hl => ?_)
                refine lv_ldc hx hb hown (hts (.constant RL 90 (-1111111)) (by decide +kernel)) dL_does_156 ?_
                exact hk_iretx X hr hlk hQ hS (Nat.le_of_ble_eq_true rfl) (Nat.le_of_ble_eq_true rfl) dL_does_158 (⟨congrArg (fun v => some (Value.int v)) (dv_1 hcd).symm, G, R, hW⟩)
              · refine vx_catch (own := RL) (name := "java/lang/IllegalArgumentException") hown [⟨0, 153, 154, 88⟩] ⟨0, 153, 159, 91⟩ [⟨0, 153, 164, 94⟩] htab (fun z hz => by rw [List.mem_singleton.mp hz]; exact Or.inr ⟨by decide, "java/lang/IndexOutOfBoundsException", (hts (.classLink RL 88 "java/lang/IndexOutOfBoundsException") (by decide +kernel)), K.2.2.2.2.1.2.2.2.2.2.2.1 ("java/lang/IllegalArgumentException", "java/lang/IndexOutOfBoundsException") (by decide +kernel)⟩) rfl (by decide) (hts (.classLink RL 91 "java/lang/IllegalArgumentException") (by decide +kernel)) (va_Nw.use rfl (K.2.2.2.2.1.2.2.2.1 ("java/lang/IllegalArgumentException", "java/lang/IllegalArgumentException") (by decide +kernel))) hce hcv hcl ?_
                refine lv_astore (lv' := [(7, .ref q9), (0, .ref ho), (1, .int 3), (2, .int p0), (3, .int p1), (4, .int p2), (5, .int p3), (6, .int p4)]) hx hb dL_does_159 hl (by decide) rfl (fun ls hl => ?_)
                refine lv_ldc hx hb hown (hts (.constant RL 93 (-1111112)) (by decide +kernel)) dL_does_161 ?_
                exact hk_iretx X hr hlk hQ hS (Nat.le_of_ble_eq_true rfl) (Nat.le_of_ble_eq_true rfl) dL_does_163 (⟨congrArg (fun v => some (Value.int v)) (dv_2 hcd).symm, G, R, hW⟩)
              · refine vx_catch (own := RL) (name := "java/lang/IllegalStateException") hown [⟨0, 153, 154, 88⟩, ⟨0, 153, 159, 91⟩] ⟨0, 153, 164, 94⟩ [] htab (fun z hz => by
                      rcases List.mem_cons.mp hz with g | g
                      · rw [g]; exact Or.inr ⟨by decide, "java/lang/IndexOutOfBoundsException", (hts (.classLink RL 88 "java/lang/IndexOutOfBoundsException") (by decide +kernel)), K.2.2.2.2.1.2.2.2.2.2.2.1 ("java/lang/IllegalStateException", "java/lang/IndexOutOfBoundsException") (by decide +kernel)⟩
                      · rw [List.mem_singleton.mp g]; exact Or.inr ⟨by decide, "java/lang/IllegalArgumentException", (hts (.classLink RL 91 "java/lang/IllegalArgumentException") (by decide +kernel)), K.2.2.2.2.1.2.2.2.2.2.2.1 ("java/lang/IllegalStateException", "java/lang/IllegalArgumentException") (by decide +kernel)⟩) rfl (by decide) (hts (.classLink RL 94 "java/lang/IllegalStateException") (by decide +kernel)) (va_Nw.use rfl (K.2.2.2.2.1.2.2.2.1 ("java/lang/IllegalStateException", "java/lang/IllegalStateException") (by decide +kernel))) hce hcv hcl ?_
                refine lv_astore (lv' := [(7, .ref q9), (0, .ref ho), (1, .int 3), (2, .int p0), (3, .int p1), (4, .int p2), (5, .int p3), (6, .int p4)]) hx hb dL_does_164 hl (by decide) rfl (fun ls hl => ?_)
                refine lv_ldc hx hb hown (hts (.constant RL 96 (-1111113)) (by decide +kernel)) dL_does_166 ?_
                exact hk_iretx X hr hlk hQ hS (Nat.le_of_ble_eq_true rfl) (Nat.le_of_ble_eq_true rfl) dL_does_168 (⟨congrArg (fun v => some (Value.int v)) (dv_3 hcd).symm, G, R, hW⟩)
            ) (fun v9 H1 locs1 hp hS hz1 hk1 => ?_)
          obtain ⟨hcd, hv, G, R, hW⟩ := hp
          subst hv
          refine lv_goto (tgt := 153) hx hb dL_does_61 (by decide) ?_
          exact hk_iretx X hr hlk hQ hS (Nat.le_of_ble_eq_true rfl) (Nat.le_of_ble_eq_true rfl) dL_does_153 (⟨congrArg (fun v => some (Value.int v)) (dv_0 hcd).symm, G, R, hW⟩)
      · exact absurd c_28 (by decide)
    · exact absurd c_15 (by decide)
  · exact absurd c_1 (by decide)

theorem hd_X10_feature : yX10_feature.cls ≠ "java/lang/invoke/MethodHandle" ∧ yX10_feature.cls ≠ "java/lang/invoke/VarHandle" ∧ (parseMethodDescriptor yX10_feature.desc).map (fun d => d.parameters.length) = some 2 := ⟨by decide, by decide, by decide +kernel⟩
abbrev rmL_does_feature : Room := { frames := 12, cells := 12, slots := 600, locals := 227 }
set_option maxHeartbeats 4000000 in
set_option maxRecDepth 100000 in
theorem c_L_does_feature (E : hk_E) (l : Launch) (hl9 : l.stackTraces = false) (H0 : Heap) {Z : Nat → Prop} {ho ts : Nat} {li : Nat → Nat} {rr : Nat → Nat → Nat} {G : hG} {R : hR} {cn : Nat → Nat} {sc : Nat → Int32} {μ : Nat → Nat → Int32} (hW : HW E Z (ho, li, rr, ts) G R (cn, sc, μ) H0) (hI : InvF (cn, sc, μ)) (hZn : ∀ q, H0.size ≤ q → Z q) {p0 p1 p2 p3 p4 : Int32} : hk_X E l yL_does wsL_does rmL_does_feature (fun q => Z q) [.ref ho, .int 4, .int p0, .int p1, .int p2, .int p3, .int p4] H0 (dpost E Z (ho, li, rr, ts) (dv (cd_feature p0 p1 (cn, sc, μ)) (an_feature p0 p1 (cn, sc, μ)) (-1111111) (-1111112) (-1111113)) (cn, sc, μ)) (fun _ _ => False) := by
  refine hk_X.ofWH (cc := cL_does) (maxL := 8) (ret := (some .int)) (hh := [(0, 153, 154, 88), (0, 153, 159, 91), (0, 153, 164, 94)]) (by decide +kernel) rfl (Nat.le_of_ble_eq_true rfl) ?_
  intro p e s m args below meth c ls Q hQ X hr hlk htab K hs9 hS hl
  obtain ⟨hx, hb, hml, hown, hts⟩ := id X
  have hAE : ∀ q, (fun q => Z q) q → hk_A E q := fun q h => hW.2.2.2.2.2.2.2.2.2.2.2.2 q h
  have hl : lv_has ls 8 [(0, .ref ho), (1, .int 4), (2, .int p0), (3, .int p1), (4, .int p2), (5, .int p3), (6, .int p4)] := hl
  refine lv_iload_n hx hb dL_does_0 rfl (lv_at hl 1 rfl) ?_
  refine lv_if_ne (tgt := 13) hx hb dL_does_1 (by decide) (fun c_1 => ?_) (fun c_1 => ?_)
  · refine lv_iload_n hx hb dL_does_13 rfl (lv_at hl 1 rfl) ?_
    refine lv_iconst (v := 1) hx hb dL_does_14 (by decide) ?_
    refine lv_icmp_ne (tgt := 26) hx hb dL_does_15 (by decide) (fun c_15 => ?_) (fun c_15 => ?_)
    · refine lv_iload_n hx hb dL_does_26 rfl (lv_at hl 1 rfl) ?_
      refine lv_iconst (v := 2) hx hb dL_does_27 (by decide) ?_
      refine lv_icmp_ne (tgt := 44) hx hb dL_does_28 (by decide) (fun c_28 => ?_) (fun c_28 => ?_)
      · refine lv_iload_n hx hb dL_does_44 rfl (lv_at hl 1 rfl) ?_
        refine lv_iconst (v := 3) hx hb dL_does_45 (by decide) ?_
        refine lv_icmp_ne (tgt := 64) hx hb dL_does_46 (by decide) (fun c_46 => ?_) (fun c_46 => ?_)
        · refine lv_iload_n hx hb dL_does_64 rfl (lv_at hl 1 rfl) ?_
          refine lv_iconst (v := 4) hx hb dL_does_65 (by decide) ?_
          refine lv_icmp_ne (tgt := 78) hx hb dL_does_66 (by decide) (fun c_66 => ?_) (fun c_66 => ?_)
          · exact absurd rfl c_66
          · refine lv_aload_n hx hb dL_does_69 rfl (lv_at hl 0 rfl) ?_
            refine lv_iload_n hx hb dL_does_70 rfl (lv_at hl 2 rfl) ?_
            refine lv_iload_n hx hb dL_does_71 rfl (lv_at hl 3 rfl) ?_
            refine hk_callVx 2 (As := [.int p0, .int p1]) (rest := []) X K hAE hS hl.1 (HW.o hW) rfl (c_X10_feature E l hl9 H0 hW hI hZn (p0 := p0) (p1 := p1)) (fun q h => h) gL_does_X10_feature rfl ⟨rfl, hd_X10_feature⟩ rfl ⟨⟨(Nat.le_of_ble_eq_true rfl), (Nat.le_of_ble_eq_true rfl)⟩, (Nat.le_of_ble_eq_true rfl), (Nat.le_of_ble_eq_true rfl)⟩ rfl (Nat.le_of_ble_eq_true rfl) dL_does_72 (fun x9 ce9 q9 H1 locs1 hp hS hz1 hk1 hce hcv hcl => by
                obtain ⟨hcs, G, R, hW⟩ := hp
                rcases hcs with ⟨hcd, rfl⟩ | ⟨hcd, rfl⟩ | ⟨hcd, rfl⟩
                · refine vx_catch (own := RL) (name := "java/lang/IndexOutOfBoundsException") hown [] ⟨0, 153, 154, 88⟩ [⟨0, 153, 159, 91⟩, ⟨0, 153, 164, 94⟩] htab (fun z hz => absurd hz List.not_mem_nil) rfl (by decide) (hts (.classLink RL 88 "java/lang/IndexOutOfBoundsException") (by decide +kernel)) (va_Nw.use rfl (K.2.2.2.2.1.2.2.2.1 ("java/lang/IndexOutOfBoundsException", "java/lang/IndexOutOfBoundsException") (by decide +kernel))) hce hcv hcl ?_
                  refine lv_astore (lv' := [(7, .ref q9), (0, .ref ho), (1, .int 4), (2, .int p0), (3, .int p1), (4, .int p2), (5, .int p3), (6, .int p4)]) hx hb dL_does_154 hl (by decide) rfl (fun ls hl => ?_)
                  refine lv_ldc hx hb hown (hts (.constant RL 90 (-1111111)) (by decide +kernel)) dL_does_156 ?_
                  exact hk_iretx X hr hlk hQ hS (Nat.le_of_ble_eq_true rfl) (Nat.le_of_ble_eq_true rfl) dL_does_158 (⟨congrArg (fun v => some (Value.int v)) (dv_1 hcd).symm, G, R, hW⟩)
                · refine vx_catch (own := RL) (name := "java/lang/IllegalArgumentException") hown [⟨0, 153, 154, 88⟩] ⟨0, 153, 159, 91⟩ [⟨0, 153, 164, 94⟩] htab (fun z hz => by rw [List.mem_singleton.mp hz]; exact Or.inr ⟨by decide, "java/lang/IndexOutOfBoundsException", (hts (.classLink RL 88 "java/lang/IndexOutOfBoundsException") (by decide +kernel)), K.2.2.2.2.1.2.2.2.2.2.2.1 ("java/lang/IllegalArgumentException", "java/lang/IndexOutOfBoundsException") (by decide +kernel)⟩) rfl (by decide) (hts (.classLink RL 91 "java/lang/IllegalArgumentException") (by decide +kernel)) (va_Nw.use rfl (K.2.2.2.2.1.2.2.2.1 ("java/lang/IllegalArgumentException", "java/lang/IllegalArgumentException") (by decide +kernel))) hce hcv hcl ?_
                  refine lv_astore (lv' := [(7, .ref q9), (0, .ref ho), (1, .int 4), (2, .int p0), (3, .int p1), (4, .int p2), (5, .int p3), (6, .int p4)]) hx hb dL_does_159 hl (by decide) rfl (fun ls hl => ?_)
                  refine lv_ldc hx hb hown (hts (.constant RL 93 (-1111112)) (by decide +kernel)) dL_does_161 ?_
                  exact hk_iretx X hr hlk hQ hS (Nat.le_of_ble_eq_true rfl) (Nat.le_of_ble_eq_true rfl) dL_does_163 (⟨congrArg (fun v => some (Value.int v)) (dv_2 hcd).symm, G, R, hW⟩)
                · refine vx_catch (own := RL) (name := "java/lang/IllegalStateException") hown [⟨0, 153, 154, 88⟩, ⟨0, 153, 159, 91⟩] ⟨0, 153, 164, 94⟩ [] htab (fun z hz => by
                        rcases List.mem_cons.mp hz with g | g
                        · rw [g]; exact Or.inr ⟨by decide, "java/lang/IndexOutOfBoundsException", (hts (.classLink RL 88 "java/lang/IndexOutOfBoundsException") (by decide +kernel)), K.2.2.2.2.1.2.2.2.2.2.2.1 ("java/lang/IllegalStateException", "java/lang/IndexOutOfBoundsException") (by decide +kernel)⟩
                        · rw [List.mem_singleton.mp g]; exact Or.inr ⟨by decide, "java/lang/IllegalArgumentException", (hts (.classLink RL 91 "java/lang/IllegalArgumentException") (by decide +kernel)), K.2.2.2.2.1.2.2.2.2.2.2.1 ("java/lang/IllegalStateException", "java/lang/IllegalArgumentException") (by decide +kernel)⟩) rfl (by decide) (hts (.classLink RL 94 "java/lang/IllegalStateException") (by decide +kernel)) (va_Nw.use rfl (K.2.2.2.2.1.2.2.2.1 ("java/lang/IllegalStateException", "java/lang/IllegalStateException") (by decide +kernel))) hce hcv hcl ?_
                  refine lv_astore (lv' := [(7, .ref q9), (0, .ref ho), (1, .int 4), (2, .int p0), (3, .int p1), (4, .int p2), (5, .int p3), (6, .int p4)]) hx hb dL_does_164 hl (by decide) rfl (fun ls hl => ?_)
                  refine lv_ldc hx hb hown (hts (.constant RL 96 (-1111113)) (by decide +kernel)) dL_does_166 ?_
                  exact hk_iretx X hr hlk hQ hS (Nat.le_of_ble_eq_true rfl) (Nat.le_of_ble_eq_true rfl) dL_does_168 (⟨congrArg (fun v => some (Value.int v)) (dv_3 hcd).symm, G, R, hW⟩)
              ) (fun v9 H1 locs1 hp hS hz1 hk1 => ?_)
            obtain ⟨hcd, hv, G, R, hW⟩ := hp
            subst hv
            refine lv_goto (tgt := 153) hx hb dL_does_75 (by decide) ?_
            exact hk_iretx X hr hlk hQ hS (Nat.le_of_ble_eq_true rfl) (Nat.le_of_ble_eq_true rfl) dL_does_153 (⟨congrArg (fun v => some (Value.int v)) (dv_0 hcd).symm, G, R, hW⟩)
        · exact absurd c_46 (by decide)
      · exact absurd c_28 (by decide)
    · exact absurd c_15 (by decide)
  · exact absurd c_1 (by decide)

theorem hd_X10_votes : yX10_votes.cls ≠ "java/lang/invoke/MethodHandle" ∧ yX10_votes.cls ≠ "java/lang/invoke/VarHandle" ∧ (parseMethodDescriptor yX10_votes.desc).map (fun d => d.parameters.length) = some 2 := ⟨by decide, by decide, by decide +kernel⟩
abbrev rmL_does_votes : Room := { frames := 12, cells := 12, slots := 600, locals := 227 }
set_option maxHeartbeats 4000000 in
set_option maxRecDepth 100000 in
theorem c_L_does_votes (E : hk_E) (l : Launch) (hl9 : l.stackTraces = false) (H0 : Heap) {Z : Nat → Prop} {ho ts : Nat} {li : Nat → Nat} {rr : Nat → Nat → Nat} {G : hG} {R : hR} {cn : Nat → Nat} {sc : Nat → Int32} {μ : Nat → Nat → Int32} (hW : HW E Z (ho, li, rr, ts) G R (cn, sc, μ) H0) (hI : InvF (cn, sc, μ)) (hZn : ∀ q, H0.size ≤ q → Z q) {p0 p1 p2 p3 p4 : Int32} : hk_X E l yL_does wsL_does rmL_does_votes (fun q => Z q) [.ref ho, .int 5, .int p0, .int p1, .int p2, .int p3, .int p4] H0 (dpost E Z (ho, li, rr, ts) (dv (cd_votes p0 p1 (cn, sc, μ)) (an_votes p0 p1 (cn, sc, μ)) (-1111111) (-1111112) (-1111113)) (cn, sc, μ)) (fun _ _ => False) := by
  refine hk_X.ofWH (cc := cL_does) (maxL := 8) (ret := (some .int)) (hh := [(0, 153, 154, 88), (0, 153, 159, 91), (0, 153, 164, 94)]) (by decide +kernel) rfl (Nat.le_of_ble_eq_true rfl) ?_
  intro p e s m args below meth c ls Q hQ X hr hlk htab K hs9 hS hl
  obtain ⟨hx, hb, hml, hown, hts⟩ := id X
  have hAE : ∀ q, (fun q => Z q) q → hk_A E q := fun q h => hW.2.2.2.2.2.2.2.2.2.2.2.2 q h
  have hl : lv_has ls 8 [(0, .ref ho), (1, .int 5), (2, .int p0), (3, .int p1), (4, .int p2), (5, .int p3), (6, .int p4)] := hl
  refine lv_iload_n hx hb dL_does_0 rfl (lv_at hl 1 rfl) ?_
  refine lv_if_ne (tgt := 13) hx hb dL_does_1 (by decide) (fun c_1 => ?_) (fun c_1 => ?_)
  · refine lv_iload_n hx hb dL_does_13 rfl (lv_at hl 1 rfl) ?_
    refine lv_iconst (v := 1) hx hb dL_does_14 (by decide) ?_
    refine lv_icmp_ne (tgt := 26) hx hb dL_does_15 (by decide) (fun c_15 => ?_) (fun c_15 => ?_)
    · refine lv_iload_n hx hb dL_does_26 rfl (lv_at hl 1 rfl) ?_
      refine lv_iconst (v := 2) hx hb dL_does_27 (by decide) ?_
      refine lv_icmp_ne (tgt := 44) hx hb dL_does_28 (by decide) (fun c_28 => ?_) (fun c_28 => ?_)
      · refine lv_iload_n hx hb dL_does_44 rfl (lv_at hl 1 rfl) ?_
        refine lv_iconst (v := 3) hx hb dL_does_45 (by decide) ?_
        refine lv_icmp_ne (tgt := 64) hx hb dL_does_46 (by decide) (fun c_46 => ?_) (fun c_46 => ?_)
        · refine lv_iload_n hx hb dL_does_64 rfl (lv_at hl 1 rfl) ?_
          refine lv_iconst (v := 4) hx hb dL_does_65 (by decide) ?_
          refine lv_icmp_ne (tgt := 78) hx hb dL_does_66 (by decide) (fun c_66 => ?_) (fun c_66 => ?_)
          · refine lv_iload_n hx hb dL_does_78 rfl (lv_at hl 1 rfl) ?_
            refine lv_iconst (v := 5) hx hb dL_does_79 (by decide) ?_
            refine lv_icmp_ne (tgt := 92) hx hb dL_does_80 (by decide) (fun c_80 => ?_) (fun c_80 => ?_)
            · exact absurd rfl c_80
            · refine lv_aload_n hx hb dL_does_83 rfl (lv_at hl 0 rfl) ?_
              refine lv_iload_n hx hb dL_does_84 rfl (lv_at hl 2 rfl) ?_
              refine lv_iload_n hx hb dL_does_85 rfl (lv_at hl 3 rfl) ?_
              refine hk_callVx 2 (As := [.int p0, .int p1]) (rest := []) X K hAE hS hl.1 (HW.o hW) rfl (c_X10_votes E l hl9 H0 hW hI hZn (p0 := p0) (p1 := p1)) (fun q h => h) gL_does_X10_votes rfl ⟨rfl, hd_X10_votes⟩ rfl ⟨⟨(Nat.le_of_ble_eq_true rfl), (Nat.le_of_ble_eq_true rfl)⟩, (Nat.le_of_ble_eq_true rfl), (Nat.le_of_ble_eq_true rfl)⟩ rfl (Nat.le_of_ble_eq_true rfl) dL_does_86 (fun x9 ce9 q9 H1 locs1 hp hS hz1 hk1 hce hcv hcl => by
                  obtain ⟨hcs, G, R, hW⟩ := hp
                  rcases hcs with ⟨hcd, rfl⟩ | ⟨hcd, rfl⟩ | ⟨hcd, rfl⟩
                  · refine vx_catch (own := RL) (name := "java/lang/IndexOutOfBoundsException") hown [] ⟨0, 153, 154, 88⟩ [⟨0, 153, 159, 91⟩, ⟨0, 153, 164, 94⟩] htab (fun z hz => absurd hz List.not_mem_nil) rfl (by decide) (hts (.classLink RL 88 "java/lang/IndexOutOfBoundsException") (by decide +kernel)) (va_Nw.use rfl (K.2.2.2.2.1.2.2.2.1 ("java/lang/IndexOutOfBoundsException", "java/lang/IndexOutOfBoundsException") (by decide +kernel))) hce hcv hcl ?_
                    refine lv_astore (lv' := [(7, .ref q9), (0, .ref ho), (1, .int 5), (2, .int p0), (3, .int p1), (4, .int p2), (5, .int p3), (6, .int p4)]) hx hb dL_does_154 hl (by decide) rfl (fun ls hl => ?_)
                    refine lv_ldc hx hb hown (hts (.constant RL 90 (-1111111)) (by decide +kernel)) dL_does_156 ?_
                    exact hk_iretx X hr hlk hQ hS (Nat.le_of_ble_eq_true rfl) (Nat.le_of_ble_eq_true rfl) dL_does_158 (⟨congrArg (fun v => some (Value.int v)) (dv_1 hcd).symm, G, R, hW⟩)
                  · refine vx_catch (own := RL) (name := "java/lang/IllegalArgumentException") hown [⟨0, 153, 154, 88⟩] ⟨0, 153, 159, 91⟩ [⟨0, 153, 164, 94⟩] htab (fun z hz => by rw [List.mem_singleton.mp hz]; exact Or.inr ⟨by decide, "java/lang/IndexOutOfBoundsException", (hts (.classLink RL 88 "java/lang/IndexOutOfBoundsException") (by decide +kernel)), K.2.2.2.2.1.2.2.2.2.2.2.1 ("java/lang/IllegalArgumentException", "java/lang/IndexOutOfBoundsException") (by decide +kernel)⟩) rfl (by decide) (hts (.classLink RL 91 "java/lang/IllegalArgumentException") (by decide +kernel)) (va_Nw.use rfl (K.2.2.2.2.1.2.2.2.1 ("java/lang/IllegalArgumentException", "java/lang/IllegalArgumentException") (by decide +kernel))) hce hcv hcl ?_
                    refine lv_astore (lv' := [(7, .ref q9), (0, .ref ho), (1, .int 5), (2, .int p0), (3, .int p1), (4, .int p2), (5, .int p3), (6, .int p4)]) hx hb dL_does_159 hl (by decide) rfl (fun ls hl => ?_)
                    refine lv_ldc hx hb hown (hts (.constant RL 93 (-1111112)) (by decide +kernel)) dL_does_161 ?_
                    exact hk_iretx X hr hlk hQ hS (Nat.le_of_ble_eq_true rfl) (Nat.le_of_ble_eq_true rfl) dL_does_163 (⟨congrArg (fun v => some (Value.int v)) (dv_2 hcd).symm, G, R, hW⟩)
                  · refine vx_catch (own := RL) (name := "java/lang/IllegalStateException") hown [⟨0, 153, 154, 88⟩, ⟨0, 153, 159, 91⟩] ⟨0, 153, 164, 94⟩ [] htab (fun z hz => by
                          rcases List.mem_cons.mp hz with g | g
                          · rw [g]; exact Or.inr ⟨by decide, "java/lang/IndexOutOfBoundsException", (hts (.classLink RL 88 "java/lang/IndexOutOfBoundsException") (by decide +kernel)), K.2.2.2.2.1.2.2.2.2.2.2.1 ("java/lang/IllegalStateException", "java/lang/IndexOutOfBoundsException") (by decide +kernel)⟩
                          · rw [List.mem_singleton.mp g]; exact Or.inr ⟨by decide, "java/lang/IllegalArgumentException", (hts (.classLink RL 91 "java/lang/IllegalArgumentException") (by decide +kernel)), K.2.2.2.2.1.2.2.2.2.2.2.1 ("java/lang/IllegalStateException", "java/lang/IllegalArgumentException") (by decide +kernel)⟩) rfl (by decide) (hts (.classLink RL 94 "java/lang/IllegalStateException") (by decide +kernel)) (va_Nw.use rfl (K.2.2.2.2.1.2.2.2.1 ("java/lang/IllegalStateException", "java/lang/IllegalStateException") (by decide +kernel))) hce hcv hcl ?_
                    refine lv_astore (lv' := [(7, .ref q9), (0, .ref ho), (1, .int 5), (2, .int p0), (3, .int p1), (4, .int p2), (5, .int p3), (6, .int p4)]) hx hb dL_does_164 hl (by decide) rfl (fun ls hl => ?_)
                    refine lv_ldc hx hb hown (hts (.constant RL 96 (-1111113)) (by decide +kernel)) dL_does_166 ?_
                    exact hk_iretx X hr hlk hQ hS (Nat.le_of_ble_eq_true rfl) (Nat.le_of_ble_eq_true rfl) dL_does_168 (⟨congrArg (fun v => some (Value.int v)) (dv_3 hcd).symm, G, R, hW⟩)
                ) (fun v9 H1 locs1 hp hS hz1 hk1 => ?_)
              obtain ⟨hcd, hv, G, R, hW⟩ := hp
              subst hv
              refine lv_goto (tgt := 153) hx hb dL_does_89 (by decide) ?_
              exact hk_iretx X hr hlk hQ hS (Nat.le_of_ble_eq_true rfl) (Nat.le_of_ble_eq_true rfl) dL_does_153 (⟨congrArg (fun v => some (Value.int v)) (dv_0 hcd).symm, G, R, hW⟩)
          · exact absurd c_66 (by decide)
        · exact absurd c_46 (by decide)
      · exact absurd c_28 (by decide)
    · exact absurd c_15 (by decide)
  · exact absurd c_1 (by decide)

theorem cdn_kind {p0 : Int32} {S : mS} : ¬ cd_kind p0 S = 3 := by
  unfold cd_kind; (repeat' split) <;> decide
theorem hd_X10_kind : yX10_kind.cls ≠ "java/lang/invoke/MethodHandle" ∧ yX10_kind.cls ≠ "java/lang/invoke/VarHandle" ∧ (parseMethodDescriptor yX10_kind.desc).map (fun d => d.parameters.length) = some 1 := ⟨by decide, by decide, by decide +kernel⟩
abbrev rmL_does_kind : Room := { frames := 12, cells := 12, slots := 600, locals := 227 }
set_option maxHeartbeats 4000000 in
set_option maxRecDepth 100000 in
theorem c_L_does_kind (E : hk_E) (l : Launch) (hl9 : l.stackTraces = false) (H0 : Heap) {Z : Nat → Prop} {ho ts : Nat} {li : Nat → Nat} {rr : Nat → Nat → Nat} {G : hG} {R : hR} {cn : Nat → Nat} {sc : Nat → Int32} {μ : Nat → Nat → Int32} (hW : HW E Z (ho, li, rr, ts) G R (cn, sc, μ) H0) (hI : InvF (cn, sc, μ)) (hZn : ∀ q, H0.size ≤ q → Z q) {p0 p1 p2 p3 p4 : Int32} : hk_X E l yL_does wsL_does rmL_does_kind (fun q => Z q) [.ref ho, .int 6, .int p0, .int p1, .int p2, .int p3, .int p4] H0 (dpost E Z (ho, li, rr, ts) (dv (cd_kind p0 (cn, sc, μ)) (an_kind p0 (cn, sc, μ)) (-1111111) (-1111113) 0) (cn, sc, μ)) (fun _ _ => False) := by
  refine hk_X.ofWH (cc := cL_does) (maxL := 8) (ret := (some .int)) (hh := [(0, 153, 154, 88), (0, 153, 159, 91), (0, 153, 164, 94)]) (by decide +kernel) rfl (Nat.le_of_ble_eq_true rfl) ?_
  intro p e s m args below meth c ls Q hQ X hr hlk htab K hs9 hS hl
  obtain ⟨hx, hb, hml, hown, hts⟩ := id X
  have hAE : ∀ q, (fun q => Z q) q → hk_A E q := fun q h => hW.2.2.2.2.2.2.2.2.2.2.2.2 q h
  have hl : lv_has ls 8 [(0, .ref ho), (1, .int 6), (2, .int p0), (3, .int p1), (4, .int p2), (5, .int p3), (6, .int p4)] := hl
  refine lv_iload_n hx hb dL_does_0 rfl (lv_at hl 1 rfl) ?_
  refine lv_if_ne (tgt := 13) hx hb dL_does_1 (by decide) (fun c_1 => ?_) (fun c_1 => ?_)
  · refine lv_iload_n hx hb dL_does_13 rfl (lv_at hl 1 rfl) ?_
    refine lv_iconst (v := 1) hx hb dL_does_14 (by decide) ?_
    refine lv_icmp_ne (tgt := 26) hx hb dL_does_15 (by decide) (fun c_15 => ?_) (fun c_15 => ?_)
    · refine lv_iload_n hx hb dL_does_26 rfl (lv_at hl 1 rfl) ?_
      refine lv_iconst (v := 2) hx hb dL_does_27 (by decide) ?_
      refine lv_icmp_ne (tgt := 44) hx hb dL_does_28 (by decide) (fun c_28 => ?_) (fun c_28 => ?_)
      · refine lv_iload_n hx hb dL_does_44 rfl (lv_at hl 1 rfl) ?_
        refine lv_iconst (v := 3) hx hb dL_does_45 (by decide) ?_
        refine lv_icmp_ne (tgt := 64) hx hb dL_does_46 (by decide) (fun c_46 => ?_) (fun c_46 => ?_)
        · refine lv_iload_n hx hb dL_does_64 rfl (lv_at hl 1 rfl) ?_
          refine lv_iconst (v := 4) hx hb dL_does_65 (by decide) ?_
          refine lv_icmp_ne (tgt := 78) hx hb dL_does_66 (by decide) (fun c_66 => ?_) (fun c_66 => ?_)
          · refine lv_iload_n hx hb dL_does_78 rfl (lv_at hl 1 rfl) ?_
            refine lv_iconst (v := 5) hx hb dL_does_79 (by decide) ?_
            refine lv_icmp_ne (tgt := 92) hx hb dL_does_80 (by decide) (fun c_80 => ?_) (fun c_80 => ?_)
            · refine lv_iload_n hx hb dL_does_92 rfl (lv_at hl 1 rfl) ?_
              refine lv_bipush (v := 6) hx hb dL_does_93 (by decide) ?_
              refine lv_icmp_ne (tgt := 106) hx hb dL_does_95 (by decide) (fun c_95 => ?_) (fun c_95 => ?_)
              · exact absurd rfl c_95
              · refine lv_aload_n hx hb dL_does_98 rfl (lv_at hl 0 rfl) ?_
                refine lv_iload_n hx hb dL_does_99 rfl (lv_at hl 2 rfl) ?_
                refine hk_callVx 1 (As := [.int p0]) (rest := []) X K hAE hS hl.1 (HW.o hW) rfl (c_X10_kind E l hl9 H0 hW hI hZn (p0 := p0)) (fun q h => h) gL_does_X10_kind rfl ⟨rfl, hd_X10_kind⟩ rfl ⟨⟨(Nat.le_of_ble_eq_true rfl), (Nat.le_of_ble_eq_true rfl)⟩, (Nat.le_of_ble_eq_true rfl), (Nat.le_of_ble_eq_true rfl)⟩ rfl (Nat.le_of_ble_eq_true rfl) dL_does_100 (fun x9 ce9 q9 H1 locs1 hp hS hz1 hk1 hce hcv hcl => by
                    obtain ⟨hcs, G, R, hW⟩ := hp
                    rcases hcs with ⟨hcd, rfl⟩ | ⟨hcd, rfl⟩ | ⟨hcd, rfl⟩
                    · refine vx_catch (own := RL) (name := "java/lang/IndexOutOfBoundsException") hown [] ⟨0, 153, 154, 88⟩ [⟨0, 153, 159, 91⟩, ⟨0, 153, 164, 94⟩] htab (fun z hz => absurd hz List.not_mem_nil) rfl (by decide) (hts (.classLink RL 88 "java/lang/IndexOutOfBoundsException") (by decide +kernel)) (va_Nw.use rfl (K.2.2.2.2.1.2.2.2.1 ("java/lang/IndexOutOfBoundsException", "java/lang/IndexOutOfBoundsException") (by decide +kernel))) hce hcv hcl ?_
                      refine lv_astore (lv' := [(7, .ref q9), (0, .ref ho), (1, .int 6), (2, .int p0), (3, .int p1), (4, .int p2), (5, .int p3), (6, .int p4)]) hx hb dL_does_154 hl (by decide) rfl (fun ls hl => ?_)
                      refine lv_ldc hx hb hown (hts (.constant RL 90 (-1111111)) (by decide +kernel)) dL_does_156 ?_
                      exact hk_iretx X hr hlk hQ hS (Nat.le_of_ble_eq_true rfl) (Nat.le_of_ble_eq_true rfl) dL_does_158 (⟨congrArg (fun v => some (Value.int v)) (dv_1 hcd).symm, G, R, hW⟩)
                    · refine vx_catch (own := RL) (name := "java/lang/IllegalStateException") hown [⟨0, 153, 154, 88⟩, ⟨0, 153, 159, 91⟩] ⟨0, 153, 164, 94⟩ [] htab (fun z hz => by
                            rcases List.mem_cons.mp hz with g | g
                            · rw [g]; exact Or.inr ⟨by decide, "java/lang/IndexOutOfBoundsException", (hts (.classLink RL 88 "java/lang/IndexOutOfBoundsException") (by decide +kernel)), K.2.2.2.2.1.2.2.2.2.2.2.1 ("java/lang/IllegalStateException", "java/lang/IndexOutOfBoundsException") (by decide +kernel)⟩
                            · rw [List.mem_singleton.mp g]; exact Or.inr ⟨by decide, "java/lang/IllegalArgumentException", (hts (.classLink RL 91 "java/lang/IllegalArgumentException") (by decide +kernel)), K.2.2.2.2.1.2.2.2.2.2.2.1 ("java/lang/IllegalStateException", "java/lang/IllegalArgumentException") (by decide +kernel)⟩) rfl (by decide) (hts (.classLink RL 94 "java/lang/IllegalStateException") (by decide +kernel)) (va_Nw.use rfl (K.2.2.2.2.1.2.2.2.1 ("java/lang/IllegalStateException", "java/lang/IllegalStateException") (by decide +kernel))) hce hcv hcl ?_
                      refine lv_astore (lv' := [(7, .ref q9), (0, .ref ho), (1, .int 6), (2, .int p0), (3, .int p1), (4, .int p2), (5, .int p3), (6, .int p4)]) hx hb dL_does_164 hl (by decide) rfl (fun ls hl => ?_)
                      refine lv_ldc hx hb hown (hts (.constant RL 96 (-1111113)) (by decide +kernel)) dL_does_166 ?_
                      exact hk_iretx X hr hlk hQ hS (Nat.le_of_ble_eq_true rfl) (Nat.le_of_ble_eq_true rfl) dL_does_168 (⟨congrArg (fun v => some (Value.int v)) (dv_2 hcd).symm, G, R, hW⟩)
                    · exact absurd hcd cdn_kind
                  ) (fun v9 H1 locs1 hp hS hz1 hk1 => ?_)
                obtain ⟨hcd, hv, G, R, hW⟩ := hp
                subst hv
                refine lv_goto (tgt := 153) hx hb dL_does_103 (by decide) ?_
                exact hk_iretx X hr hlk hQ hS (Nat.le_of_ble_eq_true rfl) (Nat.le_of_ble_eq_true rfl) dL_does_153 (⟨congrArg (fun v => some (Value.int v)) (dv_0 hcd).symm, G, R, hW⟩)
            · exact absurd c_80 (by decide)
          · exact absurd c_66 (by decide)
        · exact absurd c_46 (by decide)
      · exact absurd c_28 (by decide)
    · exact absurd c_15 (by decide)
  · exact absurd c_1 (by decide)

theorem cdn_cycle {p0 p1 p2 p3 : Int32} {S : mS} : ¬ cd_cycle p0 p1 p2 p3 S = 3 := by
  unfold cd_cycle; (repeat' split) <;> decide
theorem hd_X10_cycle : yX10_cycle.cls ≠ "java/lang/invoke/MethodHandle" ∧ yX10_cycle.cls ≠ "java/lang/invoke/VarHandle" ∧ (parseMethodDescriptor yX10_cycle.desc).map (fun d => d.parameters.length) = some 4 := ⟨by decide, by decide, by decide +kernel⟩
abbrev rmL_does_cycle : Room := { frames := 12, cells := 12, slots := 600, locals := 227 }
set_option maxHeartbeats 4000000 in
set_option maxRecDepth 100000 in
theorem c_L_does_cycle (E : hk_E) (l : Launch) (hl9 : l.stackTraces = false) (H0 : Heap) {Z : Nat → Prop} {ho ts : Nat} {li : Nat → Nat} {rr : Nat → Nat → Nat} {G : hG} {R : hR} {cn : Nat → Nat} {sc : Nat → Int32} {μ : Nat → Nat → Int32} (hW : HW E Z (ho, li, rr, ts) G R (cn, sc, μ) H0) (hI : InvF (cn, sc, μ)) (hZn : ∀ q, H0.size ≤ q → Z q) {p0 p1 p2 p4 : Int32} : hk_X E l yL_does wsL_does rmL_does_cycle (fun q => Z q) [.ref ho, .int 7, .int p0, .int p1, .int p2, .int 0, .int p4] H0 (dpost E Z (ho, li, rr, ts) (dv (cd_cycle p0 p1 p2 0 (cn, sc, μ)) (an_cycle p0 p1 p2 0 (cn, sc, μ)) (-1111111) (-1111112) 0) (cn, sc, μ)) (fun _ _ => False) := by
  refine hk_X.ofWH (cc := cL_does) (maxL := 8) (ret := (some .int)) (hh := [(0, 153, 154, 88), (0, 153, 159, 91), (0, 153, 164, 94)]) (by decide +kernel) rfl (Nat.le_of_ble_eq_true rfl) ?_
  intro p e s m args below meth c ls Q hQ X hr hlk htab K hs9 hS hl
  obtain ⟨hx, hb, hml, hown, hts⟩ := id X
  have hAE : ∀ q, (fun q => Z q) q → hk_A E q := fun q h => hW.2.2.2.2.2.2.2.2.2.2.2.2 q h
  have hl : lv_has ls 8 [(0, .ref ho), (1, .int 7), (2, .int p0), (3, .int p1), (4, .int p2), (5, .int 0), (6, .int p4)] := hl
  refine lv_iload_n hx hb dL_does_0 rfl (lv_at hl 1 rfl) ?_
  refine lv_if_ne (tgt := 13) hx hb dL_does_1 (by decide) (fun c_1 => ?_) (fun c_1 => ?_)
  · refine lv_iload_n hx hb dL_does_13 rfl (lv_at hl 1 rfl) ?_
    refine lv_iconst (v := 1) hx hb dL_does_14 (by decide) ?_
    refine lv_icmp_ne (tgt := 26) hx hb dL_does_15 (by decide) (fun c_15 => ?_) (fun c_15 => ?_)
    · refine lv_iload_n hx hb dL_does_26 rfl (lv_at hl 1 rfl) ?_
      refine lv_iconst (v := 2) hx hb dL_does_27 (by decide) ?_
      refine lv_icmp_ne (tgt := 44) hx hb dL_does_28 (by decide) (fun c_28 => ?_) (fun c_28 => ?_)
      · refine lv_iload_n hx hb dL_does_44 rfl (lv_at hl 1 rfl) ?_
        refine lv_iconst (v := 3) hx hb dL_does_45 (by decide) ?_
        refine lv_icmp_ne (tgt := 64) hx hb dL_does_46 (by decide) (fun c_46 => ?_) (fun c_46 => ?_)
        · refine lv_iload_n hx hb dL_does_64 rfl (lv_at hl 1 rfl) ?_
          refine lv_iconst (v := 4) hx hb dL_does_65 (by decide) ?_
          refine lv_icmp_ne (tgt := 78) hx hb dL_does_66 (by decide) (fun c_66 => ?_) (fun c_66 => ?_)
          · refine lv_iload_n hx hb dL_does_78 rfl (lv_at hl 1 rfl) ?_
            refine lv_iconst (v := 5) hx hb dL_does_79 (by decide) ?_
            refine lv_icmp_ne (tgt := 92) hx hb dL_does_80 (by decide) (fun c_80 => ?_) (fun c_80 => ?_)
            · refine lv_iload_n hx hb dL_does_92 rfl (lv_at hl 1 rfl) ?_
              refine lv_bipush (v := 6) hx hb dL_does_93 (by decide) ?_
              refine lv_icmp_ne (tgt := 106) hx hb dL_does_95 (by decide) (fun c_95 => ?_) (fun c_95 => ?_)
              · refine lv_iload_n hx hb dL_does_106 rfl (lv_at hl 1 rfl) ?_
                refine lv_bipush (v := 7) hx hb dL_does_107 (by decide) ?_
                refine lv_icmp_ne (tgt := 134) hx hb dL_does_109 (by decide) (fun c_109 => ?_) (fun c_109 => ?_)
                · exact absurd rfl c_109
                · refine lv_aload_n hx hb dL_does_112 rfl (lv_at hl 0 rfl) ?_
                  refine lv_iload_n hx hb dL_does_113 rfl (lv_at hl 2 rfl) ?_
                  refine lv_iload_n hx hb dL_does_114 rfl (lv_at hl 3 rfl) ?_
                  refine lv_iload hx hb dL_does_115 (lv_at hl 4 rfl) ?_
                  refine lv_iload hx hb dL_does_117 (lv_at hl 5 rfl) ?_
                  refine lv_iconst (v := 1) hx hb dL_does_119 (by decide) ?_
                  refine lv_icmp_ne (tgt := 127) hx hb dL_does_120 (by decide) (fun c_120 => ?_) (fun c_120 => ?_)
                  · refine lv_iconst (v := 0) hx hb dL_does_127 (by decide) ?_
                    refine hk_callVx 4 (As := [.int p0, .int p1, .int p2, .int 0]) (rest := []) X K hAE hS hl.1 (HW.o hW) rfl (c_X10_cycle E l hl9 H0 hW hI hZn (p0 := p0) (p1 := p1) (p2 := p2) (p3 := 0)) (fun q h => h) gL_does_X10_cycle rfl ⟨rfl, hd_X10_cycle⟩ rfl ⟨⟨(Nat.le_of_ble_eq_true rfl), (Nat.le_of_ble_eq_true rfl)⟩, (Nat.le_of_ble_eq_true rfl), (Nat.le_of_ble_eq_true rfl)⟩ rfl (Nat.le_of_ble_eq_true rfl) dL_does_128 (fun x9 ce9 q9 H1 locs1 hp hS hz1 hk1 hce hcv hcl => by
                        obtain ⟨hcs, G, R, hW⟩ := hp
                        rcases hcs with ⟨hcd, rfl⟩ | ⟨hcd, rfl⟩ | ⟨hcd, rfl⟩
                        · refine vx_catch (own := RL) (name := "java/lang/IndexOutOfBoundsException") hown [] ⟨0, 153, 154, 88⟩ [⟨0, 153, 159, 91⟩, ⟨0, 153, 164, 94⟩] htab (fun z hz => absurd hz List.not_mem_nil) rfl (by decide) (hts (.classLink RL 88 "java/lang/IndexOutOfBoundsException") (by decide +kernel)) (va_Nw.use rfl (K.2.2.2.2.1.2.2.2.1 ("java/lang/IndexOutOfBoundsException", "java/lang/IndexOutOfBoundsException") (by decide +kernel))) hce hcv hcl ?_
                          refine lv_astore (lv' := [(7, .ref q9), (0, .ref ho), (1, .int 7), (2, .int p0), (3, .int p1), (4, .int p2), (5, .int 0), (6, .int p4)]) hx hb dL_does_154 hl (by decide) rfl (fun ls hl => ?_)
                          refine lv_ldc hx hb hown (hts (.constant RL 90 (-1111111)) (by decide +kernel)) dL_does_156 ?_
                          exact hk_iretx X hr hlk hQ hS (Nat.le_of_ble_eq_true rfl) (Nat.le_of_ble_eq_true rfl) dL_does_158 (⟨congrArg (fun v => some (Value.int v)) (dv_1 hcd).symm, G, R, hW⟩)
                        · refine vx_catch (own := RL) (name := "java/lang/IllegalArgumentException") hown [⟨0, 153, 154, 88⟩] ⟨0, 153, 159, 91⟩ [⟨0, 153, 164, 94⟩] htab (fun z hz => by rw [List.mem_singleton.mp hz]; exact Or.inr ⟨by decide, "java/lang/IndexOutOfBoundsException", (hts (.classLink RL 88 "java/lang/IndexOutOfBoundsException") (by decide +kernel)), K.2.2.2.2.1.2.2.2.2.2.2.1 ("java/lang/IllegalArgumentException", "java/lang/IndexOutOfBoundsException") (by decide +kernel)⟩) rfl (by decide) (hts (.classLink RL 91 "java/lang/IllegalArgumentException") (by decide +kernel)) (va_Nw.use rfl (K.2.2.2.2.1.2.2.2.1 ("java/lang/IllegalArgumentException", "java/lang/IllegalArgumentException") (by decide +kernel))) hce hcv hcl ?_
                          refine lv_astore (lv' := [(7, .ref q9), (0, .ref ho), (1, .int 7), (2, .int p0), (3, .int p1), (4, .int p2), (5, .int 0), (6, .int p4)]) hx hb dL_does_159 hl (by decide) rfl (fun ls hl => ?_)
                          refine lv_ldc hx hb hown (hts (.constant RL 93 (-1111112)) (by decide +kernel)) dL_does_161 ?_
                          exact hk_iretx X hr hlk hQ hS (Nat.le_of_ble_eq_true rfl) (Nat.le_of_ble_eq_true rfl) dL_does_163 (⟨congrArg (fun v => some (Value.int v)) (dv_2 hcd).symm, G, R, hW⟩)
                        · exact absurd hcd cdn_cycle
                      ) (fun v9 H1 locs1 hp hS hz1 hk1 => ?_)
                    obtain ⟨hcd, hv, G, R, hW⟩ := hp
                    subst hv
                    refine lv_goto (tgt := 153) hx hb dL_does_131 (by decide) ?_
                    exact hk_iretx X hr hlk hQ hS (Nat.le_of_ble_eq_true rfl) (Nat.le_of_ble_eq_true rfl) dL_does_153 (⟨congrArg (fun v => some (Value.int v)) (dv_0 hcd).symm, G, R, hW⟩)
                  · exact absurd c_120 (by decide)
              · exact absurd c_95 (by decide)
            · exact absurd c_80 (by decide)
          · exact absurd c_66 (by decide)
        · exact absurd c_46 (by decide)
      · exact absurd c_28 (by decide)
    · exact absurd c_15 (by decide)
  · exact absurd c_1 (by decide)

abbrev rmL_does_cycle1 : Room := { frames := 12, cells := 12, slots := 600, locals := 227 }
set_option maxHeartbeats 4000000 in
set_option maxRecDepth 100000 in
theorem c_L_does_cycle1 (E : hk_E) (l : Launch) (hl9 : l.stackTraces = false) (H0 : Heap) {Z : Nat → Prop} {ho ts : Nat} {li : Nat → Nat} {rr : Nat → Nat → Nat} {G : hG} {R : hR} {cn : Nat → Nat} {sc : Nat → Int32} {μ : Nat → Nat → Int32} (hW : HW E Z (ho, li, rr, ts) G R (cn, sc, μ) H0) (hI : InvF (cn, sc, μ)) (hZn : ∀ q, H0.size ≤ q → Z q) {p0 p1 p2 p4 : Int32} : hk_X E l yL_does wsL_does rmL_does_cycle1 (fun q => Z q) [.ref ho, .int 7, .int p0, .int p1, .int p2, .int 1, .int p4] H0 (dpost E Z (ho, li, rr, ts) (dv (cd_cycle p0 p1 p2 1 (cn, sc, μ)) (an_cycle p0 p1 p2 1 (cn, sc, μ)) (-1111111) (-1111112) 0) (cn, sc, μ)) (fun _ _ => False) := by
  refine hk_X.ofWH (cc := cL_does) (maxL := 8) (ret := (some .int)) (hh := [(0, 153, 154, 88), (0, 153, 159, 91), (0, 153, 164, 94)]) (by decide +kernel) rfl (Nat.le_of_ble_eq_true rfl) ?_
  intro p e s m args below meth c ls Q hQ X hr hlk htab K hs9 hS hl
  obtain ⟨hx, hb, hml, hown, hts⟩ := id X
  have hAE : ∀ q, (fun q => Z q) q → hk_A E q := fun q h => hW.2.2.2.2.2.2.2.2.2.2.2.2 q h
  have hl : lv_has ls 8 [(0, .ref ho), (1, .int 7), (2, .int p0), (3, .int p1), (4, .int p2), (5, .int 1), (6, .int p4)] := hl
  refine lv_iload_n hx hb dL_does_0 rfl (lv_at hl 1 rfl) ?_
  refine lv_if_ne (tgt := 13) hx hb dL_does_1 (by decide) (fun c_1 => ?_) (fun c_1 => ?_)
  · refine lv_iload_n hx hb dL_does_13 rfl (lv_at hl 1 rfl) ?_
    refine lv_iconst (v := 1) hx hb dL_does_14 (by decide) ?_
    refine lv_icmp_ne (tgt := 26) hx hb dL_does_15 (by decide) (fun c_15 => ?_) (fun c_15 => ?_)
    · refine lv_iload_n hx hb dL_does_26 rfl (lv_at hl 1 rfl) ?_
      refine lv_iconst (v := 2) hx hb dL_does_27 (by decide) ?_
      refine lv_icmp_ne (tgt := 44) hx hb dL_does_28 (by decide) (fun c_28 => ?_) (fun c_28 => ?_)
      · refine lv_iload_n hx hb dL_does_44 rfl (lv_at hl 1 rfl) ?_
        refine lv_iconst (v := 3) hx hb dL_does_45 (by decide) ?_
        refine lv_icmp_ne (tgt := 64) hx hb dL_does_46 (by decide) (fun c_46 => ?_) (fun c_46 => ?_)
        · refine lv_iload_n hx hb dL_does_64 rfl (lv_at hl 1 rfl) ?_
          refine lv_iconst (v := 4) hx hb dL_does_65 (by decide) ?_
          refine lv_icmp_ne (tgt := 78) hx hb dL_does_66 (by decide) (fun c_66 => ?_) (fun c_66 => ?_)
          · refine lv_iload_n hx hb dL_does_78 rfl (lv_at hl 1 rfl) ?_
            refine lv_iconst (v := 5) hx hb dL_does_79 (by decide) ?_
            refine lv_icmp_ne (tgt := 92) hx hb dL_does_80 (by decide) (fun c_80 => ?_) (fun c_80 => ?_)
            · refine lv_iload_n hx hb dL_does_92 rfl (lv_at hl 1 rfl) ?_
              refine lv_bipush (v := 6) hx hb dL_does_93 (by decide) ?_
              refine lv_icmp_ne (tgt := 106) hx hb dL_does_95 (by decide) (fun c_95 => ?_) (fun c_95 => ?_)
              · refine lv_iload_n hx hb dL_does_106 rfl (lv_at hl 1 rfl) ?_
                refine lv_bipush (v := 7) hx hb dL_does_107 (by decide) ?_
                refine lv_icmp_ne (tgt := 134) hx hb dL_does_109 (by decide) (fun c_109 => ?_) (fun c_109 => ?_)
                · exact absurd rfl c_109
                · refine lv_aload_n hx hb dL_does_112 rfl (lv_at hl 0 rfl) ?_
                  refine lv_iload_n hx hb dL_does_113 rfl (lv_at hl 2 rfl) ?_
                  refine lv_iload_n hx hb dL_does_114 rfl (lv_at hl 3 rfl) ?_
                  refine lv_iload hx hb dL_does_115 (lv_at hl 4 rfl) ?_
                  refine lv_iload hx hb dL_does_117 (lv_at hl 5 rfl) ?_
                  refine lv_iconst (v := 1) hx hb dL_does_119 (by decide) ?_
                  refine lv_icmp_ne (tgt := 127) hx hb dL_does_120 (by decide) (fun c_120 => ?_) (fun c_120 => ?_)
                  · exact absurd rfl c_120
                  · refine lv_iconst (v := 1) hx hb dL_does_123 (by decide) ?_
                    refine lv_goto (tgt := 128) hx hb dL_does_124 (by decide) ?_
                    refine hk_callVx 4 (As := [.int p0, .int p1, .int p2, .int 1]) (rest := []) X K hAE hS hl.1 (HW.o hW) rfl (c_X10_cycle E l hl9 H0 hW hI hZn (p0 := p0) (p1 := p1) (p2 := p2) (p3 := 1)) (fun q h => h) gL_does_X10_cycle rfl ⟨rfl, hd_X10_cycle⟩ rfl ⟨⟨(Nat.le_of_ble_eq_true rfl), (Nat.le_of_ble_eq_true rfl)⟩, (Nat.le_of_ble_eq_true rfl), (Nat.le_of_ble_eq_true rfl)⟩ rfl (Nat.le_of_ble_eq_true rfl) dL_does_128 (fun x9 ce9 q9 H1 locs1 hp hS hz1 hk1 hce hcv hcl => by
                        obtain ⟨hcs, G, R, hW⟩ := hp
                        rcases hcs with ⟨hcd, rfl⟩ | ⟨hcd, rfl⟩ | ⟨hcd, rfl⟩
                        · refine vx_catch (own := RL) (name := "java/lang/IndexOutOfBoundsException") hown [] ⟨0, 153, 154, 88⟩ [⟨0, 153, 159, 91⟩, ⟨0, 153, 164, 94⟩] htab (fun z hz => absurd hz List.not_mem_nil) rfl (by decide) (hts (.classLink RL 88 "java/lang/IndexOutOfBoundsException") (by decide +kernel)) (va_Nw.use rfl (K.2.2.2.2.1.2.2.2.1 ("java/lang/IndexOutOfBoundsException", "java/lang/IndexOutOfBoundsException") (by decide +kernel))) hce hcv hcl ?_
                          refine lv_astore (lv' := [(7, .ref q9), (0, .ref ho), (1, .int 7), (2, .int p0), (3, .int p1), (4, .int p2), (5, .int 1), (6, .int p4)]) hx hb dL_does_154 hl (by decide) rfl (fun ls hl => ?_)
                          refine lv_ldc hx hb hown (hts (.constant RL 90 (-1111111)) (by decide +kernel)) dL_does_156 ?_
                          exact hk_iretx X hr hlk hQ hS (Nat.le_of_ble_eq_true rfl) (Nat.le_of_ble_eq_true rfl) dL_does_158 (⟨congrArg (fun v => some (Value.int v)) (dv_1 hcd).symm, G, R, hW⟩)
                        · refine vx_catch (own := RL) (name := "java/lang/IllegalArgumentException") hown [⟨0, 153, 154, 88⟩] ⟨0, 153, 159, 91⟩ [⟨0, 153, 164, 94⟩] htab (fun z hz => by rw [List.mem_singleton.mp hz]; exact Or.inr ⟨by decide, "java/lang/IndexOutOfBoundsException", (hts (.classLink RL 88 "java/lang/IndexOutOfBoundsException") (by decide +kernel)), K.2.2.2.2.1.2.2.2.2.2.2.1 ("java/lang/IllegalArgumentException", "java/lang/IndexOutOfBoundsException") (by decide +kernel)⟩) rfl (by decide) (hts (.classLink RL 91 "java/lang/IllegalArgumentException") (by decide +kernel)) (va_Nw.use rfl (K.2.2.2.2.1.2.2.2.1 ("java/lang/IllegalArgumentException", "java/lang/IllegalArgumentException") (by decide +kernel))) hce hcv hcl ?_
                          refine lv_astore (lv' := [(7, .ref q9), (0, .ref ho), (1, .int 7), (2, .int p0), (3, .int p1), (4, .int p2), (5, .int 1), (6, .int p4)]) hx hb dL_does_159 hl (by decide) rfl (fun ls hl => ?_)
                          refine lv_ldc hx hb hown (hts (.constant RL 93 (-1111112)) (by decide +kernel)) dL_does_161 ?_
                          exact hk_iretx X hr hlk hQ hS (Nat.le_of_ble_eq_true rfl) (Nat.le_of_ble_eq_true rfl) dL_does_163 (⟨congrArg (fun v => some (Value.int v)) (dv_2 hcd).symm, G, R, hW⟩)
                        · exact absurd hcd cdn_cycle
                      ) (fun v9 H1 locs1 hp hS hz1 hk1 => ?_)
                    obtain ⟨hcd, hv, G, R, hW⟩ := hp
                    subst hv
                    refine lv_goto (tgt := 153) hx hb dL_does_131 (by decide) ?_
                    exact hk_iretx X hr hlk hQ hS (Nat.le_of_ble_eq_true rfl) (Nat.le_of_ble_eq_true rfl) dL_does_153 (⟨congrArg (fun v => some (Value.int v)) (dv_0 hcd).symm, G, R, hW⟩)
              · exact absurd c_95 (by decide)
            · exact absurd c_80 (by decide)
          · exact absurd c_66 (by decide)
        · exact absurd c_46 (by decide)
      · exact absurd c_28 (by decide)
    · exact absurd c_15 (by decide)
  · exact absurd c_1 (by decide)

theorem cdn_mean {p0 : Int32} {S : mS} : ¬ cd_mean p0 S = 3 := by
  unfold cd_mean; (repeat' split) <;> decide
theorem hd_X10_mean : yX10_mean.cls ≠ "java/lang/invoke/MethodHandle" ∧ yX10_mean.cls ≠ "java/lang/invoke/VarHandle" ∧ (parseMethodDescriptor yX10_mean.desc).map (fun d => d.parameters.length) = some 1 := ⟨by decide, by decide, by decide +kernel⟩
abbrev rmL_does_mean : Room := { frames := 12, cells := 12, slots := 600, locals := 227 }
set_option maxHeartbeats 4000000 in
set_option maxRecDepth 100000 in
theorem c_L_does_mean (E : hk_E) (l : Launch) (hl9 : l.stackTraces = false) (H0 : Heap) {Z : Nat → Prop} {ho ts : Nat} {li : Nat → Nat} {rr : Nat → Nat → Nat} {G : hG} {R : hR} {cn : Nat → Nat} {sc : Nat → Int32} {μ : Nat → Nat → Int32} (hW : HW E Z (ho, li, rr, ts) G R (cn, sc, μ) H0) (hI : InvF (cn, sc, μ)) (hZn : ∀ q, H0.size ≤ q → Z q) {p0 p1 p2 p3 p4 : Int32} : hk_X E l yL_does wsL_does rmL_does_mean (fun q => Z q) [.ref ho, .int 8, .int p0, .int p1, .int p2, .int p3, .int p4] H0 (dpost E Z (ho, li, rr, ts) (dv (cd_mean p0 (cn, sc, μ)) (an_mean p0 (cn, sc, μ)) (-1111111) (-1111113) 0) (cn, sc, μ)) (fun _ _ => False) := by
  refine hk_X.ofWH (cc := cL_does) (maxL := 8) (ret := (some .int)) (hh := [(0, 153, 154, 88), (0, 153, 159, 91), (0, 153, 164, 94)]) (by decide +kernel) rfl (Nat.le_of_ble_eq_true rfl) ?_
  intro p e s m args below meth c ls Q hQ X hr hlk htab K hs9 hS hl
  obtain ⟨hx, hb, hml, hown, hts⟩ := id X
  have hAE : ∀ q, (fun q => Z q) q → hk_A E q := fun q h => hW.2.2.2.2.2.2.2.2.2.2.2.2 q h
  have hl : lv_has ls 8 [(0, .ref ho), (1, .int 8), (2, .int p0), (3, .int p1), (4, .int p2), (5, .int p3), (6, .int p4)] := hl
  refine lv_iload_n hx hb dL_does_0 rfl (lv_at hl 1 rfl) ?_
  refine lv_if_ne (tgt := 13) hx hb dL_does_1 (by decide) (fun c_1 => ?_) (fun c_1 => ?_)
  · refine lv_iload_n hx hb dL_does_13 rfl (lv_at hl 1 rfl) ?_
    refine lv_iconst (v := 1) hx hb dL_does_14 (by decide) ?_
    refine lv_icmp_ne (tgt := 26) hx hb dL_does_15 (by decide) (fun c_15 => ?_) (fun c_15 => ?_)
    · refine lv_iload_n hx hb dL_does_26 rfl (lv_at hl 1 rfl) ?_
      refine lv_iconst (v := 2) hx hb dL_does_27 (by decide) ?_
      refine lv_icmp_ne (tgt := 44) hx hb dL_does_28 (by decide) (fun c_28 => ?_) (fun c_28 => ?_)
      · refine lv_iload_n hx hb dL_does_44 rfl (lv_at hl 1 rfl) ?_
        refine lv_iconst (v := 3) hx hb dL_does_45 (by decide) ?_
        refine lv_icmp_ne (tgt := 64) hx hb dL_does_46 (by decide) (fun c_46 => ?_) (fun c_46 => ?_)
        · refine lv_iload_n hx hb dL_does_64 rfl (lv_at hl 1 rfl) ?_
          refine lv_iconst (v := 4) hx hb dL_does_65 (by decide) ?_
          refine lv_icmp_ne (tgt := 78) hx hb dL_does_66 (by decide) (fun c_66 => ?_) (fun c_66 => ?_)
          · refine lv_iload_n hx hb dL_does_78 rfl (lv_at hl 1 rfl) ?_
            refine lv_iconst (v := 5) hx hb dL_does_79 (by decide) ?_
            refine lv_icmp_ne (tgt := 92) hx hb dL_does_80 (by decide) (fun c_80 => ?_) (fun c_80 => ?_)
            · refine lv_iload_n hx hb dL_does_92 rfl (lv_at hl 1 rfl) ?_
              refine lv_bipush (v := 6) hx hb dL_does_93 (by decide) ?_
              refine lv_icmp_ne (tgt := 106) hx hb dL_does_95 (by decide) (fun c_95 => ?_) (fun c_95 => ?_)
              · refine lv_iload_n hx hb dL_does_106 rfl (lv_at hl 1 rfl) ?_
                refine lv_bipush (v := 7) hx hb dL_does_107 (by decide) ?_
                refine lv_icmp_ne (tgt := 134) hx hb dL_does_109 (by decide) (fun c_109 => ?_) (fun c_109 => ?_)
                · refine lv_iload_n hx hb dL_does_134 rfl (lv_at hl 1 rfl) ?_
                  refine lv_bipush (v := 8) hx hb dL_does_135 (by decide) ?_
                  refine lv_icmp_ne (tgt := 148) hx hb dL_does_137 (by decide) (fun c_137 => ?_) (fun c_137 => ?_)
                  · exact absurd rfl c_137
                  · refine lv_aload_n hx hb dL_does_140 rfl (lv_at hl 0 rfl) ?_
                    refine lv_iload_n hx hb dL_does_141 rfl (lv_at hl 2 rfl) ?_
                    refine hk_callVx 1 (As := [.int p0]) (rest := []) X K hAE hS hl.1 (HW.o hW) rfl (c_X10_mean E l hl9 H0 hW hI hZn (p0 := p0)) (fun q h => h) gL_does_X10_mean rfl ⟨rfl, hd_X10_mean⟩ rfl ⟨⟨(Nat.le_of_ble_eq_true rfl), (Nat.le_of_ble_eq_true rfl)⟩, (Nat.le_of_ble_eq_true rfl), (Nat.le_of_ble_eq_true rfl)⟩ rfl (Nat.le_of_ble_eq_true rfl) dL_does_142 (fun x9 ce9 q9 H1 locs1 hp hS hz1 hk1 hce hcv hcl => by
                        obtain ⟨hcs, G, R, hW⟩ := hp
                        rcases hcs with ⟨hcd, rfl⟩ | ⟨hcd, rfl⟩ | ⟨hcd, rfl⟩
                        · refine vx_catch (own := RL) (name := "java/lang/IndexOutOfBoundsException") hown [] ⟨0, 153, 154, 88⟩ [⟨0, 153, 159, 91⟩, ⟨0, 153, 164, 94⟩] htab (fun z hz => absurd hz List.not_mem_nil) rfl (by decide) (hts (.classLink RL 88 "java/lang/IndexOutOfBoundsException") (by decide +kernel)) (va_Nw.use rfl (K.2.2.2.2.1.2.2.2.1 ("java/lang/IndexOutOfBoundsException", "java/lang/IndexOutOfBoundsException") (by decide +kernel))) hce hcv hcl ?_
                          refine lv_astore (lv' := [(7, .ref q9), (0, .ref ho), (1, .int 8), (2, .int p0), (3, .int p1), (4, .int p2), (5, .int p3), (6, .int p4)]) hx hb dL_does_154 hl (by decide) rfl (fun ls hl => ?_)
                          refine lv_ldc hx hb hown (hts (.constant RL 90 (-1111111)) (by decide +kernel)) dL_does_156 ?_
                          exact hk_iretx X hr hlk hQ hS (Nat.le_of_ble_eq_true rfl) (Nat.le_of_ble_eq_true rfl) dL_does_158 (⟨congrArg (fun v => some (Value.int v)) (dv_1 hcd).symm, G, R, hW⟩)
                        · refine vx_catch (own := RL) (name := "java/lang/IllegalStateException") hown [⟨0, 153, 154, 88⟩, ⟨0, 153, 159, 91⟩] ⟨0, 153, 164, 94⟩ [] htab (fun z hz => by
                                rcases List.mem_cons.mp hz with g | g
                                · rw [g]; exact Or.inr ⟨by decide, "java/lang/IndexOutOfBoundsException", (hts (.classLink RL 88 "java/lang/IndexOutOfBoundsException") (by decide +kernel)), K.2.2.2.2.1.2.2.2.2.2.2.1 ("java/lang/IllegalStateException", "java/lang/IndexOutOfBoundsException") (by decide +kernel)⟩
                                · rw [List.mem_singleton.mp g]; exact Or.inr ⟨by decide, "java/lang/IllegalArgumentException", (hts (.classLink RL 91 "java/lang/IllegalArgumentException") (by decide +kernel)), K.2.2.2.2.1.2.2.2.2.2.2.1 ("java/lang/IllegalStateException", "java/lang/IllegalArgumentException") (by decide +kernel)⟩) rfl (by decide) (hts (.classLink RL 94 "java/lang/IllegalStateException") (by decide +kernel)) (va_Nw.use rfl (K.2.2.2.2.1.2.2.2.1 ("java/lang/IllegalStateException", "java/lang/IllegalStateException") (by decide +kernel))) hce hcv hcl ?_
                          refine lv_astore (lv' := [(7, .ref q9), (0, .ref ho), (1, .int 8), (2, .int p0), (3, .int p1), (4, .int p2), (5, .int p3), (6, .int p4)]) hx hb dL_does_164 hl (by decide) rfl (fun ls hl => ?_)
                          refine lv_ldc hx hb hown (hts (.constant RL 96 (-1111113)) (by decide +kernel)) dL_does_166 ?_
                          exact hk_iretx X hr hlk hQ hS (Nat.le_of_ble_eq_true rfl) (Nat.le_of_ble_eq_true rfl) dL_does_168 (⟨congrArg (fun v => some (Value.int v)) (dv_2 hcd).symm, G, R, hW⟩)
                        · exact absurd hcd cdn_mean
                      ) (fun v9 H1 locs1 hp hS hz1 hk1 => ?_)
                    obtain ⟨hcd, hv, G, R, hW⟩ := hp
                    subst hv
                    refine lv_goto (tgt := 153) hx hb dL_does_145 (by decide) ?_
                    exact hk_iretx X hr hlk hQ hS (Nat.le_of_ble_eq_true rfl) (Nat.le_of_ble_eq_true rfl) dL_does_153 (⟨congrArg (fun v => some (Value.int v)) (dv_0 hcd).symm, G, R, hW⟩)
                · exact absurd c_109 (by decide)
              · exact absurd c_95 (by decide)
            · exact absurd c_80 (by decide)
          · exact absurd c_66 (by decide)
        · exact absurd c_46 (by decide)
      · exact absurd c_28 (by decide)
    · exact absurd c_15 (by decide)
  · exact absurd c_1 (by decide)

theorem cdn_modulus {p0 : Int32} {S : mS} : ¬ cd_modulus p0 S = 3 := by
  unfold cd_modulus; (repeat' split) <;> decide
theorem hd_X10_modulus : yX10_modulus.cls ≠ "java/lang/invoke/MethodHandle" ∧ yX10_modulus.cls ≠ "java/lang/invoke/VarHandle" ∧ (parseMethodDescriptor yX10_modulus.desc).map (fun d => d.parameters.length) = some 1 := ⟨by decide, by decide, by decide +kernel⟩
abbrev rmL_does_modulus : Room := { frames := 12, cells := 12, slots := 600, locals := 227 }
set_option maxHeartbeats 4000000 in
set_option maxRecDepth 100000 in
theorem c_L_does_modulus (E : hk_E) (l : Launch) (hl9 : l.stackTraces = false) (H0 : Heap) {Z : Nat → Prop} {ho ts : Nat} {li : Nat → Nat} {rr : Nat → Nat → Nat} {G : hG} {R : hR} {cn : Nat → Nat} {sc : Nat → Int32} {μ : Nat → Nat → Int32} (hW : HW E Z (ho, li, rr, ts) G R (cn, sc, μ) H0) (hI : InvF (cn, sc, μ)) (hZn : ∀ q, H0.size ≤ q → Z q) {p0 p1 p2 p3 p4 : Int32} : hk_X E l yL_does wsL_does rmL_does_modulus (fun q => Z q) [.ref ho, .int 9, .int p0, .int p1, .int p2, .int p3, .int p4] H0 (dpost E Z (ho, li, rr, ts) (dv (cd_modulus p0 (cn, sc, μ)) (an_modulus p0 (cn, sc, μ)) (-1111111) (-1111113) 0) (cn, sc, μ)) (fun _ _ => False) := by
  refine hk_X.ofWH (cc := cL_does) (maxL := 8) (ret := (some .int)) (hh := [(0, 153, 154, 88), (0, 153, 159, 91), (0, 153, 164, 94)]) (by decide +kernel) rfl (Nat.le_of_ble_eq_true rfl) ?_
  intro p e s m args below meth c ls Q hQ X hr hlk htab K hs9 hS hl
  obtain ⟨hx, hb, hml, hown, hts⟩ := id X
  have hAE : ∀ q, (fun q => Z q) q → hk_A E q := fun q h => hW.2.2.2.2.2.2.2.2.2.2.2.2 q h
  have hl : lv_has ls 8 [(0, .ref ho), (1, .int 9), (2, .int p0), (3, .int p1), (4, .int p2), (5, .int p3), (6, .int p4)] := hl
  refine lv_iload_n hx hb dL_does_0 rfl (lv_at hl 1 rfl) ?_
  refine lv_if_ne (tgt := 13) hx hb dL_does_1 (by decide) (fun c_1 => ?_) (fun c_1 => ?_)
  · refine lv_iload_n hx hb dL_does_13 rfl (lv_at hl 1 rfl) ?_
    refine lv_iconst (v := 1) hx hb dL_does_14 (by decide) ?_
    refine lv_icmp_ne (tgt := 26) hx hb dL_does_15 (by decide) (fun c_15 => ?_) (fun c_15 => ?_)
    · refine lv_iload_n hx hb dL_does_26 rfl (lv_at hl 1 rfl) ?_
      refine lv_iconst (v := 2) hx hb dL_does_27 (by decide) ?_
      refine lv_icmp_ne (tgt := 44) hx hb dL_does_28 (by decide) (fun c_28 => ?_) (fun c_28 => ?_)
      · refine lv_iload_n hx hb dL_does_44 rfl (lv_at hl 1 rfl) ?_
        refine lv_iconst (v := 3) hx hb dL_does_45 (by decide) ?_
        refine lv_icmp_ne (tgt := 64) hx hb dL_does_46 (by decide) (fun c_46 => ?_) (fun c_46 => ?_)
        · refine lv_iload_n hx hb dL_does_64 rfl (lv_at hl 1 rfl) ?_
          refine lv_iconst (v := 4) hx hb dL_does_65 (by decide) ?_
          refine lv_icmp_ne (tgt := 78) hx hb dL_does_66 (by decide) (fun c_66 => ?_) (fun c_66 => ?_)
          · refine lv_iload_n hx hb dL_does_78 rfl (lv_at hl 1 rfl) ?_
            refine lv_iconst (v := 5) hx hb dL_does_79 (by decide) ?_
            refine lv_icmp_ne (tgt := 92) hx hb dL_does_80 (by decide) (fun c_80 => ?_) (fun c_80 => ?_)
            · refine lv_iload_n hx hb dL_does_92 rfl (lv_at hl 1 rfl) ?_
              refine lv_bipush (v := 6) hx hb dL_does_93 (by decide) ?_
              refine lv_icmp_ne (tgt := 106) hx hb dL_does_95 (by decide) (fun c_95 => ?_) (fun c_95 => ?_)
              · refine lv_iload_n hx hb dL_does_106 rfl (lv_at hl 1 rfl) ?_
                refine lv_bipush (v := 7) hx hb dL_does_107 (by decide) ?_
                refine lv_icmp_ne (tgt := 134) hx hb dL_does_109 (by decide) (fun c_109 => ?_) (fun c_109 => ?_)
                · refine lv_iload_n hx hb dL_does_134 rfl (lv_at hl 1 rfl) ?_
                  refine lv_bipush (v := 8) hx hb dL_does_135 (by decide) ?_
                  refine lv_icmp_ne (tgt := 148) hx hb dL_does_137 (by decide) (fun c_137 => ?_) (fun c_137 => ?_)
                  · refine lv_aload_n hx hb dL_does_148 rfl (lv_at hl 0 rfl) ?_
                    refine lv_iload_n hx hb dL_does_149 rfl (lv_at hl 2 rfl) ?_
                    refine hk_callVx 1 (As := [.int p0]) (rest := []) X K hAE hS hl.1 (HW.o hW) rfl (c_X10_modulus E l hl9 H0 hW hI hZn (p0 := p0)) (fun q h => h) gL_does_X10_modulus rfl ⟨rfl, hd_X10_modulus⟩ rfl ⟨⟨(Nat.le_of_ble_eq_true rfl), (Nat.le_of_ble_eq_true rfl)⟩, (Nat.le_of_ble_eq_true rfl), (Nat.le_of_ble_eq_true rfl)⟩ rfl (Nat.le_of_ble_eq_true rfl) dL_does_150 (fun x9 ce9 q9 H1 locs1 hp hS hz1 hk1 hce hcv hcl => by
                        obtain ⟨hcs, G, R, hW⟩ := hp
                        rcases hcs with ⟨hcd, rfl⟩ | ⟨hcd, rfl⟩ | ⟨hcd, rfl⟩
                        · refine vx_catch (own := RL) (name := "java/lang/IndexOutOfBoundsException") hown [] ⟨0, 153, 154, 88⟩ [⟨0, 153, 159, 91⟩, ⟨0, 153, 164, 94⟩] htab (fun z hz => absurd hz List.not_mem_nil) rfl (by decide) (hts (.classLink RL 88 "java/lang/IndexOutOfBoundsException") (by decide +kernel)) (va_Nw.use rfl (K.2.2.2.2.1.2.2.2.1 ("java/lang/IndexOutOfBoundsException", "java/lang/IndexOutOfBoundsException") (by decide +kernel))) hce hcv hcl ?_
                          refine lv_astore (lv' := [(7, .ref q9), (0, .ref ho), (1, .int 9), (2, .int p0), (3, .int p1), (4, .int p2), (5, .int p3), (6, .int p4)]) hx hb dL_does_154 hl (by decide) rfl (fun ls hl => ?_)
                          refine lv_ldc hx hb hown (hts (.constant RL 90 (-1111111)) (by decide +kernel)) dL_does_156 ?_
                          exact hk_iretx X hr hlk hQ hS (Nat.le_of_ble_eq_true rfl) (Nat.le_of_ble_eq_true rfl) dL_does_158 (⟨congrArg (fun v => some (Value.int v)) (dv_1 hcd).symm, G, R, hW⟩)
                        · refine vx_catch (own := RL) (name := "java/lang/IllegalStateException") hown [⟨0, 153, 154, 88⟩, ⟨0, 153, 159, 91⟩] ⟨0, 153, 164, 94⟩ [] htab (fun z hz => by
                                rcases List.mem_cons.mp hz with g | g
                                · rw [g]; exact Or.inr ⟨by decide, "java/lang/IndexOutOfBoundsException", (hts (.classLink RL 88 "java/lang/IndexOutOfBoundsException") (by decide +kernel)), K.2.2.2.2.1.2.2.2.2.2.2.1 ("java/lang/IllegalStateException", "java/lang/IndexOutOfBoundsException") (by decide +kernel)⟩
                                · rw [List.mem_singleton.mp g]; exact Or.inr ⟨by decide, "java/lang/IllegalArgumentException", (hts (.classLink RL 91 "java/lang/IllegalArgumentException") (by decide +kernel)), K.2.2.2.2.1.2.2.2.2.2.2.1 ("java/lang/IllegalStateException", "java/lang/IllegalArgumentException") (by decide +kernel)⟩) rfl (by decide) (hts (.classLink RL 94 "java/lang/IllegalStateException") (by decide +kernel)) (va_Nw.use rfl (K.2.2.2.2.1.2.2.2.1 ("java/lang/IllegalStateException", "java/lang/IllegalStateException") (by decide +kernel))) hce hcv hcl ?_
                          refine lv_astore (lv' := [(7, .ref q9), (0, .ref ho), (1, .int 9), (2, .int p0), (3, .int p1), (4, .int p2), (5, .int p3), (6, .int p4)]) hx hb dL_does_164 hl (by decide) rfl (fun ls hl => ?_)
                          refine lv_ldc hx hb hown (hts (.constant RL 96 (-1111113)) (by decide +kernel)) dL_does_166 ?_
                          exact hk_iretx X hr hlk hQ hS (Nat.le_of_ble_eq_true rfl) (Nat.le_of_ble_eq_true rfl) dL_does_168 (⟨congrArg (fun v => some (Value.int v)) (dv_2 hcd).symm, G, R, hW⟩)
                        · exact absurd hcd cdn_modulus
                      ) (fun v9 H1 locs1 hp hS hz1 hk1 => ?_)
                    obtain ⟨hcd, hv, G, R, hW⟩ := hp
                    subst hv
                    exact hk_iretx X hr hlk hQ hS (Nat.le_of_ble_eq_true rfl) (Nat.le_of_ble_eq_true rfl) dL_does_153 (⟨congrArg (fun v => some (Value.int v)) (dv_0 hcd).symm, G, R, hW⟩)
                  · exact absurd c_137 (by decide)
                · exact absurd c_109 (by decide)
              · exact absurd c_95 (by decide)
            · exact absurd c_80 (by decide)
          · exact absurd c_66 (by decide)
        · exact absurd c_46 (by decide)
      · exact absurd c_28 (by decide)
    · exact absurd c_15 (by decide)
  · exact absurd c_1 (by decide)

