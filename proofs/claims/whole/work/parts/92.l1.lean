/-! ===== the law's own calls: each catches what the house throws ===== -/
theorem hk_X.ofWH {E : hk_E} {l : Launch} {y : MethodName} {ws ws' : List Cond} {rm : Room} {A : Nat → Prop} {av : List Value} {H0 : Heap} {post : Option Value → Heap → Prop} {px : String → Heap → Prop} {cc : ByteArray} {maxL : Nat} {ret : Option FieldType} {hh : List (Nat × Nat × Nat × Nat)}
    (hy : plainName y.cls = true) (hw : ws = Cond.codeWith y cc maxL ret hh :: ws') (hn : (lg_sl av).length ≤ maxL)
    (body : ∀ (p : Program) (e : Env) (s : State) (m : MethodId) (args : Array Value) (below : List Frame) (meth : Method) (c : Code) (ls : Array Slot) (Q : State → Prop), Q = vx_MQ below (hk_Qc A post) (hk_Xc A px) args s rm.cells rm.slots A → CallFix p m c cc maxL s args ws y.cls → meth.sig.returnType = ret → meth.locks = false → c.exceptionTable.toList = tableOf hh → hk_K E s s.heap → s.heap = H0 → va_S A s.heap H0 [] → lv_has ls maxL (lv_args 0 av) →
      W p l e rm s m args below meth c H0 [] 0 0 Q (F0 m 0 ls [])) : hk_X E l y ws rm A av H0 post px := by
  refine vx_ofWH (cc := cc) (maxL := maxL) (ret := ret) (hh := hh) hy hw ?_
  intro p e s m args below meth c s₁ B hml hv
  obtain ⟨rfl, hH, hK⟩ := hv
  have hts := atoms_spec (ws := ws) B.pre
  have htab : c.exceptionTable.toList = tableOf hh := vx_table (x := y) B (hts _ (by rw [hw]; exact List.mem_cons_self))
  have hown : s.vm.findClass y.cls = some m.cls := findClass_of_methodNamed B.named
  have hl := lv_entry av (n := maxL) hn
  rw [lg_entry_eq]
  generalize (lg_sl av ++ List.replicate (maxL - (lg_sl av).length) Slot.unset).toArray = ls at hl ⊢
  rw [hH]
  exact body p e s m av.toArray below meth c ls _ rfl ⟨B.exec, B.bytes, hml, hown, hts⟩ B.returns B.notSynchronized htab hK hH (by rw [hH]; exact va_S.rf) hl
/-- what a call of the law leaves: the place of the exception, the answer in the long row, the house -/
def lpost (E : hk_E) (Z : Nat → Prop) (C : hC) (o : Nat) (cd an : Int32) (S S' : mS) : Option Value → Heap → Prop := fun z H1 => z = some (.int cd) ∧ ∃ G R f, HW E Z C G R (if cd = 0 then S' else S) H1 ∧ hk_L E o 1 f H1 ∧ (cd = 0 → f 0 = an.toInt64)
theorem lpost_x {E : hk_E} {Z : Nat → Prop} {C : hC} {o : Nat} {cd an v : Int32} {S S' : mS} {H1 : Heap} {G : hG} {R : hR} {f : Nat → Int64} (hcd : cd = v) (hv : v ≠ 0) (hW : HW E Z C G R S H1) (hL : hk_L E o 1 f H1) : lpost E Z C o cd an S S' (some (.int v)) H1 := by
  subst hcd
  exact ⟨rfl, G, R, f, by rw [if_neg hv]; exact hW, hL, fun h => absurd h hv⟩
theorem lpost_0 {E : hk_E} {Z : Nat → Prop} {C : hC} {o : Nat} {cd an : Int32} {S S' : mS} {H1 : Heap} {G : hG} {R : hR} {f : Nat → Int64} (hcd : cd = 0) (hW : HW E Z C G R S' H1) (hL : hk_L E o 1 f H1) (hf : f 0 = an.toInt64) : lpost E Z C o cd an S S' (some (.int 0)) H1 := by
  subst hcd
  exact ⟨rfl, G, R, f, by rw [if_pos rfl]; exact hW, hL, fun _ => hf⟩
theorem out_at {f : Nat → Int64} {v : Int64} : vp_updL f (0 : Int32).toNatClampNeg v 0 = v := by
  rw [hk_c0]
  exact if_pos rfl
theorem ite_ok' {a : Prop} [Decidable a] (h : (if a then (0 : Int32) else 1) = 0) : a := (ite_ok h (by decide)).1
theorem cdn_comparison {p0 p1 : Int32} {S : mS} : ¬ cd_comparison p0 p1 S = 3 := by
  unfold cd_comparison; (repeat' split) <;> decide
theorem hd_X10_comparison : yX10_comparison.cls ≠ "java/lang/invoke/MethodHandle" ∧ yX10_comparison.cls ≠ "java/lang/invoke/VarHandle" ∧ (parseMethodDescriptor yX10_comparison.desc).map (fun d => d.parameters.length) = some 2 := ⟨by decide, by decide, by decide +kernel⟩
abbrev rmL_comparison : Room := { frames := 11, cells := 12, slots := 700, locals := 199 }
set_option maxHeartbeats 4000000 in
set_option maxRecDepth 100000 in
theorem c_L_comparison (E : hk_E) (l : Launch) (hl9 : l.stackTraces = false) (H0 : Heap) {Z : Nat → Prop} {ho ts : Nat} {li : Nat → Nat} {rr : Nat → Nat → Nat} {G : hG} {R : hR} {cn : Nat → Nat} {sc : Nat → Int32} {μ : Nat → Nat → Int32} (hW : HW E Z (ho, li, rr, ts) G R (cn, sc, μ) H0) (hI : InvF (cn, sc, μ)) (hZn : ∀ q, H0.size ≤ q → Z q) {o9 : Nat} {f0 : Nat → Int64} (hL0 : hk_L E o9 1 f0 H0) (hoZ : ¬ Z o9) (hoA : hk_A E o9) {p0 p1 : Int32}  : hk_X E l yL_comparison wsL_comparison rmL_comparison (fun q => Z q ∨ q = o9) [.ref ho, .int p0, .int p1, .ref o9] H0 (lpost E Z (ho, li, rr, ts) o9 (cd_comparison p0 p1 (cn, sc, μ)) (an_comparison p0 p1 (cn, sc, μ)) (cn, sc, μ) (st_comparison p0 p1 (cn, sc, μ))) (fun _ _ => False) := by
  refine hk_X.ofWH (cc := cL_comparison) (maxL := 5) (ret := (some .int)) (hh := [(0, 10, 13, 13), (0, 10, 17, 15)]) (by decide +kernel) rfl (Nat.le_of_ble_eq_true rfl) ?_
  intro p e s m args below meth c ls Q hQ X hr hlk htab K hs9 hS hl
  obtain ⟨hx, hb, hml, hown, hts⟩ := id X
  have hAE : ∀ q, (fun q => Z q ∨ q = o9) q → hk_A E q := fun q h => h.elim (fun h => hW.2.2.2.2.2.2.2.2.2.2.2.2 q h) (fun h => by rw [h]; exact hoA)
  have hl : lv_has ls 5 [(0, .ref ho), (1, .int p0), (2, .int p1), (3, .ref o9)] := hl
  have hZA : ∀ q, Z q → hk_A E q := hW.2.2.2.2.2.2.2.2.2.2.2.2
  refine lv_aload_n hx hb dL_comparison_0 rfl (lv_at hl 3 rfl) ?_
  refine lv_iconst (v := 0) hx hb dL_comparison_1 (by decide) ?_
  refine lv_aload_n hx hb dL_comparison_2 rfl (lv_at hl 0 rfl) ?_
  refine lv_iload_n hx hb dL_comparison_3 rfl (lv_at hl 1 rfl) ?_
  refine lv_iload_n hx hb dL_comparison_4 rfl (lv_at hl 2 rfl) ?_
  refine hk_callVx 2 (As := [.int p0, .int p1]) (rest := [.int 0, .ref o9]) X K hAE hS hl.1 (HW.o hW) rfl (c_X10_comparison E l hl9 H0 hW hI hZn (p0 := p0) (p1 := p1)) (fun q h => Or.inl h) gL_comparison_X10_comparison rfl ⟨rfl, hd_X10_comparison⟩ rfl ⟨⟨(Nat.le_of_ble_eq_true rfl), (Nat.le_of_ble_eq_true rfl)⟩, (Nat.le_of_ble_eq_true rfl), (Nat.le_of_ble_eq_true rfl)⟩ rfl (Nat.le_of_ble_eq_true rfl) dL_comparison_5 (fun x9 ce9 q9 H1 locs1 hp hS hz1 hk1 hce hcv hcl => by
      obtain ⟨hcs, G, R, hW⟩ := hp
      have hL1 : hk_L E o9 1 f0 H1 := (hk1 _ (ar_lt hL0) hoZ).trans hL0
      rcases hcs with ⟨hcd, rfl⟩ | ⟨hcd, rfl⟩ | ⟨hcd, rfl⟩
      · refine vx_catch (own := RL) (name := "java/lang/IndexOutOfBoundsException") hown [] ⟨0, 10, 13, 13⟩ [⟨0, 10, 17, 15⟩] htab (fun z hz => absurd hz List.not_mem_nil) rfl (by decide) (hts (.classLink RL 13 "java/lang/IndexOutOfBoundsException") (by decide +kernel)) (va_Nw.use rfl (K.2.2.2.2.1.2.2.2.1 ("java/lang/IndexOutOfBoundsException", "java/lang/IndexOutOfBoundsException") (by decide +kernel))) hce hcv hcl ?_
        refine lv_astore (lv' := [(4, .ref q9), (0, .ref ho), (1, .int p0), (2, .int p1), (3, .ref o9)]) hx hb dL_comparison_13 hl (by decide) rfl (fun ls hl => ?_)
        refine lv_iconst (v := 1) hx hb dL_comparison_15 (by decide) ?_
        exact hk_iretx X hr hlk hQ hS (Nat.le_of_ble_eq_true rfl) (Nat.le_of_ble_eq_true rfl) dL_comparison_16 (lpost_x hcd (by decide) hW hL1)
      · refine vx_catch (own := RL) (name := "java/lang/IllegalArgumentException") hown [⟨0, 10, 13, 13⟩] ⟨0, 10, 17, 15⟩ [] htab (fun z hz => by rw [List.mem_singleton.mp hz]; exact Or.inr ⟨by decide, "java/lang/IndexOutOfBoundsException", (hts (.classLink RL 13 "java/lang/IndexOutOfBoundsException") (by decide +kernel)), K.2.2.2.2.1.2.2.2.2.2.2.1 ("java/lang/IllegalArgumentException", "java/lang/IndexOutOfBoundsException") (by decide +kernel)⟩) rfl (by decide) (hts (.classLink RL 15 "java/lang/IllegalArgumentException") (by decide +kernel)) (va_Nw.use rfl (K.2.2.2.2.1.2.2.2.1 ("java/lang/IllegalArgumentException", "java/lang/IllegalArgumentException") (by decide +kernel))) hce hcv hcl ?_
        refine lv_astore (lv' := [(4, .ref q9), (0, .ref ho), (1, .int p0), (2, .int p1), (3, .ref o9)]) hx hb dL_comparison_17 hl (by decide) rfl (fun ls hl => ?_)
        refine lv_iconst (v := 2) hx hb dL_comparison_19 (by decide) ?_
        exact hk_iretx X hr hlk hQ hS (Nat.le_of_ble_eq_true rfl) (Nat.le_of_ble_eq_true rfl) dL_comparison_20 (lpost_x hcd (by decide) hW hL1)
      · exact absurd hcd cdn_comparison
    ) (fun v9 H1 locs1 hp hS hz1 hk1 => ?_)
  obtain ⟨hcd, hv, G, R, hW⟩ := hp
  subst hv
  have hL1 : hk_L E o9 1 f0 H1 := (hk1 _ (ar_lt hL0) hoZ).trans hL0
  refine lv_i2l hx hb dL_comparison_8 rfl ?_
  refine hk_lst X K hL1 hS (Or.inr rfl) (show vp_in (nI 0) 1 from vp_in_nI (by decide) (by decide)) dL_comparison_9 (fun H1 locsH1 hIH1 hzH1 hqH1 hS => ?_)
  have hW := hW.kept (fun q h1 h2 => hqH1 q (fun g => by rw [g] at h2; exact h2.elim hoZ (fun h => h hoA)))
  refine lv_goto (tgt := 21) hx hb dL_comparison_10 (by decide) ?_
  refine lv_iconst (v := 0) hx hb dL_comparison_21 (by decide) ?_
  exact hk_iretx X hr hlk hQ hS (Nat.le_of_ble_eq_true rfl) (Nat.le_of_ble_eq_true rfl) dL_comparison_22 (lpost_0 hcd hW hIH1 (out_at))

theorem cdn_star {p0 : Int32} {S : mS} : ¬ cd_star p0 S = 3 := by
  unfold cd_star; (repeat' split) <;> decide
theorem hd_X10_star : yX10_star.cls ≠ "java/lang/invoke/MethodHandle" ∧ yX10_star.cls ≠ "java/lang/invoke/VarHandle" ∧ (parseMethodDescriptor yX10_star.desc).map (fun d => d.parameters.length) = some 1 := ⟨by decide, by decide, by decide +kernel⟩
abbrev rmL_star : Room := { frames := 11, cells := 12, slots := 700, locals := 352 }
set_option maxHeartbeats 4000000 in
set_option maxRecDepth 100000 in
theorem c_L_star (E : hk_E) (l : Launch) (hl9 : l.stackTraces = false) (H0 : Heap) {Z : Nat → Prop} {ho ts : Nat} {li : Nat → Nat} {rr : Nat → Nat → Nat} {G : hG} {R : hR} {cn : Nat → Nat} {sc : Nat → Int32} {μ : Nat → Nat → Int32} (hW : HW E Z (ho, li, rr, ts) G R (cn, sc, μ) H0) (hI : InvF (cn, sc, μ)) (hZn : ∀ q, H0.size ≤ q → Z q) {o9 : Nat} {f0 : Nat → Int64} (hL0 : hk_L E o9 1 f0 H0) (hoZ : ¬ Z o9) (hoA : hk_A E o9) {p0 : Int32}  : hk_X E l yL_star wsL_star rmL_star (fun q => Z q ∨ q = o9) [.ref ho, .int p0, .ref o9] H0 (lpost E Z (ho, li, rr, ts) o9 (cd_star p0 (cn, sc, μ)) (an_star p0 (cn, sc, μ)) (cn, sc, μ) (st_star p0 (cn, sc, μ))) (fun _ _ => False) := by
  refine hk_X.ofWH (cc := cL_star) (maxL := 4) (ret := (some .int)) (hh := [(0, 9, 12, 15), (0, 9, 15, 21)]) (by decide +kernel) rfl (Nat.le_of_ble_eq_true rfl) ?_
  intro p e s m args below meth c ls Q hQ X hr hlk htab K hs9 hS hl
  obtain ⟨hx, hb, hml, hown, hts⟩ := id X
  have hAE : ∀ q, (fun q => Z q ∨ q = o9) q → hk_A E q := fun q h => h.elim (fun h => hW.2.2.2.2.2.2.2.2.2.2.2.2 q h) (fun h => by rw [h]; exact hoA)
  have hl : lv_has ls 4 [(0, .ref ho), (1, .int p0), (2, .ref o9)] := hl
  have hZA : ∀ q, Z q → hk_A E q := hW.2.2.2.2.2.2.2.2.2.2.2.2
  refine lv_aload_n hx hb dL_star_0 rfl (lv_at hl 2 rfl) ?_
  refine lv_iconst (v := 0) hx hb dL_star_1 (by decide) ?_
  refine lv_aload_n hx hb dL_star_2 rfl (lv_at hl 0 rfl) ?_
  refine lv_iload_n hx hb dL_star_3 rfl (lv_at hl 1 rfl) ?_
  refine hk_callVx 1 (As := [.int p0]) (rest := [.int 0, .ref o9]) X K hAE hS hl.1 (HW.o hW) rfl (c_X10_star E l hl9 H0 hW hI hZn (p0 := p0)) (fun q h => Or.inl h) gL_star_X10_star rfl ⟨rfl, hd_X10_star⟩ rfl ⟨⟨(Nat.le_of_ble_eq_true rfl), (Nat.le_of_ble_eq_true rfl)⟩, (Nat.le_of_ble_eq_true rfl), (Nat.le_of_ble_eq_true rfl)⟩ rfl (Nat.le_of_ble_eq_true rfl) dL_star_4 (fun x9 ce9 q9 H1 locs1 hp hS hz1 hk1 hce hcv hcl => by
      obtain ⟨hcs, G, R, hW⟩ := hp
      have hL1 : hk_L E o9 1 f0 H1 := (hk1 _ (ar_lt hL0) hoZ).trans hL0
      rcases hcs with ⟨hcd, rfl⟩ | ⟨hcd, rfl⟩ | ⟨hcd, rfl⟩
      · refine vx_catch (own := RL) (name := "java/lang/IllegalArgumentException") hown [] ⟨0, 9, 12, 15⟩ [⟨0, 9, 15, 21⟩] htab (fun z hz => absurd hz List.not_mem_nil) rfl (by decide) (hts (.classLink RL 15 "java/lang/IllegalArgumentException") (by decide +kernel)) (va_Nw.use rfl (K.2.2.2.2.1.2.2.2.1 ("java/lang/IllegalArgumentException", "java/lang/IllegalArgumentException") (by decide +kernel))) hce hcv hcl ?_
        refine lv_astore_n (lv' := [(3, .ref q9), (0, .ref ho), (1, .int p0), (2, .ref o9)]) hx hb dL_star_12 rfl hl (by decide) rfl (fun ls hl => ?_)
        refine lv_iconst (v := 1) hx hb dL_star_13 (by decide) ?_
        exact hk_iretx X hr hlk hQ hS (Nat.le_of_ble_eq_true rfl) (Nat.le_of_ble_eq_true rfl) dL_star_14 (lpost_x hcd (by decide) hW hL1)
      · refine vx_catch (own := RL) (name := "java/lang/IllegalStateException") hown [⟨0, 9, 12, 15⟩] ⟨0, 9, 15, 21⟩ [] htab (fun z hz => by rw [List.mem_singleton.mp hz]; exact Or.inr ⟨by decide, "java/lang/IllegalArgumentException", (hts (.classLink RL 15 "java/lang/IllegalArgumentException") (by decide +kernel)), K.2.2.2.2.1.2.2.2.2.2.2.1 ("java/lang/IllegalStateException", "java/lang/IllegalArgumentException") (by decide +kernel)⟩) rfl (by decide) (hts (.classLink RL 21 "java/lang/IllegalStateException") (by decide +kernel)) (va_Nw.use rfl (K.2.2.2.2.1.2.2.2.1 ("java/lang/IllegalStateException", "java/lang/IllegalStateException") (by decide +kernel))) hce hcv hcl ?_
        refine lv_astore_n (lv' := [(3, .ref q9), (0, .ref ho), (1, .int p0), (2, .ref o9)]) hx hb dL_star_15 rfl hl (by decide) rfl (fun ls hl => ?_)
        refine lv_iconst (v := 2) hx hb dL_star_16 (by decide) ?_
        exact hk_iretx X hr hlk hQ hS (Nat.le_of_ble_eq_true rfl) (Nat.le_of_ble_eq_true rfl) dL_star_17 (lpost_x hcd (by decide) hW hL1)
      · exact absurd hcd cdn_star
    ) (fun v9 H1 locs1 hp hS hz1 hk1 => ?_)
  obtain ⟨hcd, hv, G, R, hW⟩ := hp
  subst hv
  have hL1 : hk_L E o9 1 f0 H1 := (hk1 _ (ar_lt hL0) hoZ).trans hL0
  refine lv_i2l hx hb dL_star_7 rfl ?_
  refine hk_lst X K hL1 hS (Or.inr rfl) (show vp_in (nI 0) 1 from vp_in_nI (by decide) (by decide)) dL_star_8 (fun H1 locsH1 hIH1 hzH1 hqH1 hS => ?_)
  have hW := hW.kept (fun q h1 h2 => hqH1 q (fun g => by rw [g] at h2; exact h2.elim hoZ (fun h => h hoA)))
  refine lv_goto (tgt := 18) hx hb dL_star_9 (by decide) ?_
  refine lv_iconst (v := 0) hx hb dL_star_18 (by decide) ?_
  exact hk_iretx X hr hlk hQ hS (Nat.le_of_ble_eq_true rfl) (Nat.le_of_ble_eq_true rfl) dL_star_19 (lpost_0 hcd hW hIH1 (out_at))

theorem cdn_bias {p0 p1 : Int32} {S : mS} : ¬ cd_bias p0 p1 S = 3 := by
  unfold cd_bias; (repeat' split) <;> decide
theorem hd_X10_bias : yX10_bias.cls ≠ "java/lang/invoke/MethodHandle" ∧ yX10_bias.cls ≠ "java/lang/invoke/VarHandle" ∧ (parseMethodDescriptor yX10_bias.desc).map (fun d => d.parameters.length) = some 2 := ⟨by decide, by decide, by decide +kernel⟩
abbrev rmL_bias : Room := { frames := 11, cells := 12, slots := 700, locals := 199 }
set_option maxHeartbeats 4000000 in
set_option maxRecDepth 100000 in
theorem c_L_bias (E : hk_E) (l : Launch) (hl9 : l.stackTraces = false) (H0 : Heap) {Z : Nat → Prop} {ho ts : Nat} {li : Nat → Nat} {rr : Nat → Nat → Nat} {G : hG} {R : hR} {cn : Nat → Nat} {sc : Nat → Int32} {μ : Nat → Nat → Int32} (hW : HW E Z (ho, li, rr, ts) G R (cn, sc, μ) H0) (hI : InvF (cn, sc, μ)) (hZn : ∀ q, H0.size ≤ q → Z q) {o9 : Nat} {f0 : Nat → Int64} (hL0 : hk_L E o9 1 f0 H0) (hoZ : ¬ Z o9) (hoA : hk_A E o9) {p0 p1 : Int32}  : hk_X E l yL_bias wsL_bias rmL_bias (fun q => Z q ∨ q = o9) [.ref ho, .int p0, .int p1, .ref o9] H0 (lpost E Z (ho, li, rr, ts) o9 (cd_bias p0 p1 (cn, sc, μ)) (an_bias p0 p1 (cn, sc, μ)) (cn, sc, μ) (st_bias p0 p1 (cn, sc, μ))) (fun _ _ => False) := by
  refine hk_X.ofWH (cc := cL_bias) (maxL := 5) (ret := (some .int)) (hh := [(0, 10, 13, 13), (0, 10, 17, 15)]) (by decide +kernel) rfl (Nat.le_of_ble_eq_true rfl) ?_
  intro p e s m args below meth c ls Q hQ X hr hlk htab K hs9 hS hl
  obtain ⟨hx, hb, hml, hown, hts⟩ := id X
  have hAE : ∀ q, (fun q => Z q ∨ q = o9) q → hk_A E q := fun q h => h.elim (fun h => hW.2.2.2.2.2.2.2.2.2.2.2.2 q h) (fun h => by rw [h]; exact hoA)
  have hl : lv_has ls 5 [(0, .ref ho), (1, .int p0), (2, .int p1), (3, .ref o9)] := hl
  have hZA : ∀ q, Z q → hk_A E q := hW.2.2.2.2.2.2.2.2.2.2.2.2
  refine lv_aload_n hx hb dL_bias_0 rfl (lv_at hl 3 rfl) ?_
  refine lv_iconst (v := 0) hx hb dL_bias_1 (by decide) ?_
  refine lv_aload_n hx hb dL_bias_2 rfl (lv_at hl 0 rfl) ?_
  refine lv_iload_n hx hb dL_bias_3 rfl (lv_at hl 1 rfl) ?_
  refine lv_iload_n hx hb dL_bias_4 rfl (lv_at hl 2 rfl) ?_
  refine hk_callVx 2 (As := [.int p0, .int p1]) (rest := [.int 0, .ref o9]) X K hAE hS hl.1 (HW.o hW) rfl (c_X10_bias E l hl9 H0 hW hI hZn (p0 := p0) (p1 := p1)) (fun q h => Or.inl h) gL_bias_X10_bias rfl ⟨rfl, hd_X10_bias⟩ rfl ⟨⟨(Nat.le_of_ble_eq_true rfl), (Nat.le_of_ble_eq_true rfl)⟩, (Nat.le_of_ble_eq_true rfl), (Nat.le_of_ble_eq_true rfl)⟩ rfl (Nat.le_of_ble_eq_true rfl) dL_bias_5 (fun x9 ce9 q9 H1 locs1 hp hS hz1 hk1 hce hcv hcl => by
      obtain ⟨hcs, G, R, hW⟩ := hp
      have hL1 : hk_L E o9 1 f0 H1 := (hk1 _ (ar_lt hL0) hoZ).trans hL0
      rcases hcs with ⟨hcd, rfl⟩ | ⟨hcd, rfl⟩ | ⟨hcd, rfl⟩
      · refine vx_catch (own := RL) (name := "java/lang/IndexOutOfBoundsException") hown [] ⟨0, 10, 13, 13⟩ [⟨0, 10, 17, 15⟩] htab (fun z hz => absurd hz List.not_mem_nil) rfl (by decide) (hts (.classLink RL 13 "java/lang/IndexOutOfBoundsException") (by decide +kernel)) (va_Nw.use rfl (K.2.2.2.2.1.2.2.2.1 ("java/lang/IndexOutOfBoundsException", "java/lang/IndexOutOfBoundsException") (by decide +kernel))) hce hcv hcl ?_
        refine lv_astore (lv' := [(4, .ref q9), (0, .ref ho), (1, .int p0), (2, .int p1), (3, .ref o9)]) hx hb dL_bias_13 hl (by decide) rfl (fun ls hl => ?_)
        refine lv_iconst (v := 1) hx hb dL_bias_15 (by decide) ?_
        exact hk_iretx X hr hlk hQ hS (Nat.le_of_ble_eq_true rfl) (Nat.le_of_ble_eq_true rfl) dL_bias_16 (lpost_x hcd (by decide) hW hL1)
      · refine vx_catch (own := RL) (name := "java/lang/IllegalArgumentException") hown [⟨0, 10, 13, 13⟩] ⟨0, 10, 17, 15⟩ [] htab (fun z hz => by rw [List.mem_singleton.mp hz]; exact Or.inr ⟨by decide, "java/lang/IndexOutOfBoundsException", (hts (.classLink RL 13 "java/lang/IndexOutOfBoundsException") (by decide +kernel)), K.2.2.2.2.1.2.2.2.2.2.2.1 ("java/lang/IllegalArgumentException", "java/lang/IndexOutOfBoundsException") (by decide +kernel)⟩) rfl (by decide) (hts (.classLink RL 15 "java/lang/IllegalArgumentException") (by decide +kernel)) (va_Nw.use rfl (K.2.2.2.2.1.2.2.2.1 ("java/lang/IllegalArgumentException", "java/lang/IllegalArgumentException") (by decide +kernel))) hce hcv hcl ?_
        refine lv_astore (lv' := [(4, .ref q9), (0, .ref ho), (1, .int p0), (2, .int p1), (3, .ref o9)]) hx hb dL_bias_17 hl (by decide) rfl (fun ls hl => ?_)
        refine lv_iconst (v := 2) hx hb dL_bias_19 (by decide) ?_
        exact hk_iretx X hr hlk hQ hS (Nat.le_of_ble_eq_true rfl) (Nat.le_of_ble_eq_true rfl) dL_bias_20 (lpost_x hcd (by decide) hW hL1)
      · exact absurd hcd cdn_bias
    ) (fun v9 H1 locs1 hp hS hz1 hk1 => ?_)
  obtain ⟨hcd, hv, G, R, hW⟩ := hp
  subst hv
  have hL1 : hk_L E o9 1 f0 H1 := (hk1 _ (ar_lt hL0) hoZ).trans hL0
  refine lv_i2l hx hb dL_bias_8 rfl ?_
  refine hk_lst X K hL1 hS (Or.inr rfl) (show vp_in (nI 0) 1 from vp_in_nI (by decide) (by decide)) dL_bias_9 (fun H1 locsH1 hIH1 hzH1 hqH1 hS => ?_)
  have hW := hW.kept (fun q h1 h2 => hqH1 q (fun g => by rw [g] at h2; exact h2.elim hoZ (fun h => h hoA)))
  refine lv_goto (tgt := 21) hx hb dL_bias_10 (by decide) ?_
  refine lv_iconst (v := 0) hx hb dL_bias_21 (by decide) ?_
  exact hk_iretx X hr hlk hQ hS (Nat.le_of_ble_eq_true rfl) (Nat.le_of_ble_eq_true rfl) dL_bias_22 (lpost_0 hcd hW hIH1 (out_at))

theorem cdn_clock {p0 p1 : Int32} {S : mS} : ¬ cd_clock p0 p1 S = 3 := by
  unfold cd_clock; (repeat' split) <;> decide
theorem hd_X10_clock : yX10_clock.cls ≠ "java/lang/invoke/MethodHandle" ∧ yX10_clock.cls ≠ "java/lang/invoke/VarHandle" ∧ (parseMethodDescriptor yX10_clock.desc).map (fun d => d.parameters.length) = some 2 := ⟨by decide, by decide, by decide +kernel⟩
abbrev rmL_clock : Room := { frames := 11, cells := 12, slots := 700, locals := 199 }
set_option maxHeartbeats 4000000 in
set_option maxRecDepth 100000 in
theorem c_L_clock (E : hk_E) (l : Launch) (hl9 : l.stackTraces = false) (H0 : Heap) {Z : Nat → Prop} {ho ts : Nat} {li : Nat → Nat} {rr : Nat → Nat → Nat} {G : hG} {R : hR} {cn : Nat → Nat} {sc : Nat → Int32} {μ : Nat → Nat → Int32} (hW : HW E Z (ho, li, rr, ts) G R (cn, sc, μ) H0) (hI : InvF (cn, sc, μ)) (hZn : ∀ q, H0.size ≤ q → Z q) {o9 : Nat} {f0 : Nat → Int64} (hL0 : hk_L E o9 1 f0 H0) (hoZ : ¬ Z o9) (hoA : hk_A E o9) {p0 p1 : Int32}  : hk_X E l yL_clock wsL_clock rmL_clock (fun q => Z q ∨ q = o9) [.ref ho, .int p0, .int p1, .ref o9] H0 (lpost E Z (ho, li, rr, ts) o9 (cd_clock p0 p1 (cn, sc, μ)) (an_clock p0 p1 (cn, sc, μ)) (cn, sc, μ) (st_clock p0 p1 (cn, sc, μ))) (fun _ _ => False) := by
  refine hk_X.ofWH (cc := cL_clock) (maxL := 5) (ret := (some .int)) (hh := [(0, 10, 13, 13), (0, 10, 17, 15)]) (by decide +kernel) rfl (Nat.le_of_ble_eq_true rfl) ?_
  intro p e s m args below meth c ls Q hQ X hr hlk htab K hs9 hS hl
  obtain ⟨hx, hb, hml, hown, hts⟩ := id X
  have hAE : ∀ q, (fun q => Z q ∨ q = o9) q → hk_A E q := fun q h => h.elim (fun h => hW.2.2.2.2.2.2.2.2.2.2.2.2 q h) (fun h => by rw [h]; exact hoA)
  have hl : lv_has ls 5 [(0, .ref ho), (1, .int p0), (2, .int p1), (3, .ref o9)] := hl
  have hZA : ∀ q, Z q → hk_A E q := hW.2.2.2.2.2.2.2.2.2.2.2.2
  refine lv_aload_n hx hb dL_clock_0 rfl (lv_at hl 3 rfl) ?_
  refine lv_iconst (v := 0) hx hb dL_clock_1 (by decide) ?_
  refine lv_aload_n hx hb dL_clock_2 rfl (lv_at hl 0 rfl) ?_
  refine lv_iload_n hx hb dL_clock_3 rfl (lv_at hl 1 rfl) ?_
  refine lv_iload_n hx hb dL_clock_4 rfl (lv_at hl 2 rfl) ?_
  refine hk_callVx 2 (As := [.int p0, .int p1]) (rest := [.int 0, .ref o9]) X K hAE hS hl.1 (HW.o hW) rfl (c_X10_clock E l hl9 H0 hW hI hZn (p0 := p0) (p1 := p1)) (fun q h => Or.inl h) gL_clock_X10_clock rfl ⟨rfl, hd_X10_clock⟩ rfl ⟨⟨(Nat.le_of_ble_eq_true rfl), (Nat.le_of_ble_eq_true rfl)⟩, (Nat.le_of_ble_eq_true rfl), (Nat.le_of_ble_eq_true rfl)⟩ rfl (Nat.le_of_ble_eq_true rfl) dL_clock_5 (fun x9 ce9 q9 H1 locs1 hp hS hz1 hk1 hce hcv hcl => by
      obtain ⟨hcs, G, R, hW⟩ := hp
      have hL1 : hk_L E o9 1 f0 H1 := (hk1 _ (ar_lt hL0) hoZ).trans hL0
      rcases hcs with ⟨hcd, rfl⟩ | ⟨hcd, rfl⟩ | ⟨hcd, rfl⟩
      · refine vx_catch (own := RL) (name := "java/lang/IndexOutOfBoundsException") hown [] ⟨0, 10, 13, 13⟩ [⟨0, 10, 17, 15⟩] htab (fun z hz => absurd hz List.not_mem_nil) rfl (by decide) (hts (.classLink RL 13 "java/lang/IndexOutOfBoundsException") (by decide +kernel)) (va_Nw.use rfl (K.2.2.2.2.1.2.2.2.1 ("java/lang/IndexOutOfBoundsException", "java/lang/IndexOutOfBoundsException") (by decide +kernel))) hce hcv hcl ?_
        refine lv_astore (lv' := [(4, .ref q9), (0, .ref ho), (1, .int p0), (2, .int p1), (3, .ref o9)]) hx hb dL_clock_13 hl (by decide) rfl (fun ls hl => ?_)
        refine lv_iconst (v := 1) hx hb dL_clock_15 (by decide) ?_
        exact hk_iretx X hr hlk hQ hS (Nat.le_of_ble_eq_true rfl) (Nat.le_of_ble_eq_true rfl) dL_clock_16 (lpost_x hcd (by decide) hW hL1)
      · refine vx_catch (own := RL) (name := "java/lang/IllegalArgumentException") hown [⟨0, 10, 13, 13⟩] ⟨0, 10, 17, 15⟩ [] htab (fun z hz => by rw [List.mem_singleton.mp hz]; exact Or.inr ⟨by decide, "java/lang/IndexOutOfBoundsException", (hts (.classLink RL 13 "java/lang/IndexOutOfBoundsException") (by decide +kernel)), K.2.2.2.2.1.2.2.2.2.2.2.1 ("java/lang/IllegalArgumentException", "java/lang/IndexOutOfBoundsException") (by decide +kernel)⟩) rfl (by decide) (hts (.classLink RL 15 "java/lang/IllegalArgumentException") (by decide +kernel)) (va_Nw.use rfl (K.2.2.2.2.1.2.2.2.1 ("java/lang/IllegalArgumentException", "java/lang/IllegalArgumentException") (by decide +kernel))) hce hcv hcl ?_
        refine lv_astore (lv' := [(4, .ref q9), (0, .ref ho), (1, .int p0), (2, .int p1), (3, .ref o9)]) hx hb dL_clock_17 hl (by decide) rfl (fun ls hl => ?_)
        refine lv_iconst (v := 2) hx hb dL_clock_19 (by decide) ?_
        exact hk_iretx X hr hlk hQ hS (Nat.le_of_ble_eq_true rfl) (Nat.le_of_ble_eq_true rfl) dL_clock_20 (lpost_x hcd (by decide) hW hL1)
      · exact absurd hcd cdn_clock
    ) (fun v9 H1 locs1 hp hS hz1 hk1 => ?_)
  obtain ⟨hcd, hv, G, R, hW⟩ := hp
  subst hv
  have hL1 : hk_L E o9 1 f0 H1 := (hk1 _ (ar_lt hL0) hoZ).trans hL0
  refine lv_i2l hx hb dL_clock_8 rfl ?_
  refine hk_lst X K hL1 hS (Or.inr rfl) (show vp_in (nI 0) 1 from vp_in_nI (by decide) (by decide)) dL_clock_9 (fun H1 locsH1 hIH1 hzH1 hqH1 hS => ?_)
  have hW := hW.kept (fun q h1 h2 => hqH1 q (fun g => by rw [g] at h2; exact h2.elim hoZ (fun h => h hoA)))
  refine lv_goto (tgt := 21) hx hb dL_clock_10 (by decide) ?_
  refine lv_iconst (v := 0) hx hb dL_clock_21 (by decide) ?_
  exact hk_iretx X hr hlk hQ hS (Nat.le_of_ble_eq_true rfl) (Nat.le_of_ble_eq_true rfl) dL_clock_22 (lpost_0 hcd hW hIH1 (out_at))

theorem cdn_plate {p0 p1 p2 : Int32} {S : mS} : ¬ cd_plate p0 p1 p2 S = 3 := by
  unfold cd_plate; (repeat' split) <;> decide
theorem hd_X10_plate : yX10_plate.cls ≠ "java/lang/invoke/MethodHandle" ∧ yX10_plate.cls ≠ "java/lang/invoke/VarHandle" ∧ (parseMethodDescriptor yX10_plate.desc).map (fun d => d.parameters.length) = some 3 := ⟨by decide, by decide, by decide +kernel⟩
abbrev rmL_plate : Room := { frames := 11, cells := 12, slots := 700, locals := 354 }
set_option maxHeartbeats 4000000 in
set_option maxRecDepth 100000 in
theorem c_L_plate (E : hk_E) (l : Launch) (hl9 : l.stackTraces = false) (H0 : Heap) {Z : Nat → Prop} {ho ts : Nat} {li : Nat → Nat} {rr : Nat → Nat → Nat} {G : hG} {R : hR} {cn : Nat → Nat} {sc : Nat → Int32} {μ : Nat → Nat → Int32} (hW : HW E Z (ho, li, rr, ts) G R (cn, sc, μ) H0) (hI : InvF (cn, sc, μ)) (hZn : ∀ q, H0.size ≤ q → Z q) {o9 : Nat} {f0 : Nat → Int64} (hL0 : hk_L E o9 1 f0 H0) (hoZ : ¬ Z o9) (hoA : hk_A E o9) {p0 p1 p2 : Int32}  : hk_X E l yL_plate wsL_plate rmL_plate (fun q => Z q ∨ q = o9) [.ref ho, .int p0, .int p1, .int p2, .ref o9] H0 (lpost E Z (ho, li, rr, ts) o9 (cd_plate p0 p1 p2 (cn, sc, μ)) (an_plate p0 p1 p2 (cn, sc, μ)) (cn, sc, μ) (st_plate p0 p1 p2 (cn, sc, μ))) (fun _ _ => False) := by
  refine hk_X.ofWH (cc := cL_plate) (maxL := 6) (ret := (some .int)) (hh := [(0, 12, 15, 15), (0, 12, 19, 21)]) (by decide +kernel) rfl (Nat.le_of_ble_eq_true rfl) ?_
  intro p e s m args below meth c ls Q hQ X hr hlk htab K hs9 hS hl
  obtain ⟨hx, hb, hml, hown, hts⟩ := id X
  have hAE : ∀ q, (fun q => Z q ∨ q = o9) q → hk_A E q := fun q h => h.elim (fun h => hW.2.2.2.2.2.2.2.2.2.2.2.2 q h) (fun h => by rw [h]; exact hoA)
  have hl : lv_has ls 6 [(0, .ref ho), (1, .int p0), (2, .int p1), (3, .int p2), (4, .ref o9)] := hl
  have hZA : ∀ q, Z q → hk_A E q := hW.2.2.2.2.2.2.2.2.2.2.2.2
  refine lv_aload hx hb dL_plate_0 (lv_at hl 4 rfl) ?_
  refine lv_iconst (v := 0) hx hb dL_plate_2 (by decide) ?_
  refine lv_aload_n hx hb dL_plate_3 rfl (lv_at hl 0 rfl) ?_
  refine lv_iload_n hx hb dL_plate_4 rfl (lv_at hl 1 rfl) ?_
  refine lv_iload_n hx hb dL_plate_5 rfl (lv_at hl 2 rfl) ?_
  refine lv_iload_n hx hb dL_plate_6 rfl (lv_at hl 3 rfl) ?_
  refine hk_callVx 3 (As := [.int p0, .int p1, .int p2]) (rest := [.int 0, .ref o9]) X K hAE hS hl.1 (HW.o hW) rfl (c_X10_plate E l hl9 H0 hW hI hZn (p0 := p0) (p1 := p1) (p2 := p2)) (fun q h => Or.inl h) gL_plate_X10_plate rfl ⟨rfl, hd_X10_plate⟩ rfl ⟨⟨(Nat.le_of_ble_eq_true rfl), (Nat.le_of_ble_eq_true rfl)⟩, (Nat.le_of_ble_eq_true rfl), (Nat.le_of_ble_eq_true rfl)⟩ rfl (Nat.le_of_ble_eq_true rfl) dL_plate_7 (fun x9 ce9 q9 H1 locs1 hp hS hz1 hk1 hce hcv hcl => by
      obtain ⟨hcs, G, R, hW⟩ := hp
      have hL1 : hk_L E o9 1 f0 H1 := (hk1 _ (ar_lt hL0) hoZ).trans hL0
      rcases hcs with ⟨hcd, rfl⟩ | ⟨hcd, rfl⟩ | ⟨hcd, rfl⟩
      · refine vx_catch (own := RL) (name := "java/lang/IllegalArgumentException") hown [] ⟨0, 12, 15, 15⟩ [⟨0, 12, 19, 21⟩] htab (fun z hz => absurd hz List.not_mem_nil) rfl (by decide) (hts (.classLink RL 15 "java/lang/IllegalArgumentException") (by decide +kernel)) (va_Nw.use rfl (K.2.2.2.2.1.2.2.2.1 ("java/lang/IllegalArgumentException", "java/lang/IllegalArgumentException") (by decide +kernel))) hce hcv hcl ?_
        refine lv_astore (lv' := [(5, .ref q9), (0, .ref ho), (1, .int p0), (2, .int p1), (3, .int p2), (4, .ref o9)]) hx hb dL_plate_15 hl (by decide) rfl (fun ls hl => ?_)
        refine lv_iconst (v := 1) hx hb dL_plate_17 (by decide) ?_
        exact hk_iretx X hr hlk hQ hS (Nat.le_of_ble_eq_true rfl) (Nat.le_of_ble_eq_true rfl) dL_plate_18 (lpost_x hcd (by decide) hW hL1)
      · refine vx_catch (own := RL) (name := "java/lang/IllegalStateException") hown [⟨0, 12, 15, 15⟩] ⟨0, 12, 19, 21⟩ [] htab (fun z hz => by rw [List.mem_singleton.mp hz]; exact Or.inr ⟨by decide, "java/lang/IllegalArgumentException", (hts (.classLink RL 15 "java/lang/IllegalArgumentException") (by decide +kernel)), K.2.2.2.2.1.2.2.2.2.2.2.1 ("java/lang/IllegalStateException", "java/lang/IllegalArgumentException") (by decide +kernel)⟩) rfl (by decide) (hts (.classLink RL 21 "java/lang/IllegalStateException") (by decide +kernel)) (va_Nw.use rfl (K.2.2.2.2.1.2.2.2.1 ("java/lang/IllegalStateException", "java/lang/IllegalStateException") (by decide +kernel))) hce hcv hcl ?_
        refine lv_astore (lv' := [(5, .ref q9), (0, .ref ho), (1, .int p0), (2, .int p1), (3, .int p2), (4, .ref o9)]) hx hb dL_plate_19 hl (by decide) rfl (fun ls hl => ?_)
        refine lv_iconst (v := 2) hx hb dL_plate_21 (by decide) ?_
        exact hk_iretx X hr hlk hQ hS (Nat.le_of_ble_eq_true rfl) (Nat.le_of_ble_eq_true rfl) dL_plate_22 (lpost_x hcd (by decide) hW hL1)
      · exact absurd hcd cdn_plate
    ) (fun v9 H1 locs1 hp hS hz1 hk1 => ?_)
  obtain ⟨hcd, hv, G, R, hW⟩ := hp
  subst hv
  have hL1 : hk_L E o9 1 f0 H1 := (hk1 _ (ar_lt hL0) hoZ).trans hL0
  refine lv_i2l hx hb dL_plate_10 rfl ?_
  refine hk_lst X K hL1 hS (Or.inr rfl) (show vp_in (nI 0) 1 from vp_in_nI (by decide) (by decide)) dL_plate_11 (fun H1 locsH1 hIH1 hzH1 hqH1 hS => ?_)
  have hW := hW.kept (fun q h1 h2 => hqH1 q (fun g => by rw [g] at h2; exact h2.elim hoZ (fun h => h hoA)))
  refine lv_goto (tgt := 23) hx hb dL_plate_12 (by decide) ?_
  refine lv_iconst (v := 0) hx hb dL_plate_23 (by decide) ?_
  exact hk_iretx X hr hlk hQ hS (Nat.le_of_ble_eq_true rfl) (Nat.le_of_ble_eq_true rfl) dL_plate_24 (lpost_0 hcd hW hIH1 (out_at))

theorem cdn_join {p0 p1 : Int32} {S : mS} : ¬ cd_join p0 p1 S = 3 := by
  unfold cd_join; (repeat' split) <;> decide
theorem hd_X10_join : yX10_join.cls ≠ "java/lang/invoke/MethodHandle" ∧ yX10_join.cls ≠ "java/lang/invoke/VarHandle" ∧ (parseMethodDescriptor yX10_join.desc).map (fun d => d.parameters.length) = some 2 := ⟨by decide, by decide, by decide +kernel⟩
abbrev rmL_join : Room := { frames := 11, cells := 12, slots := 700, locals := 199 }
set_option maxHeartbeats 4000000 in
set_option maxRecDepth 100000 in
theorem c_L_join (E : hk_E) (l : Launch) (hl9 : l.stackTraces = false) (H0 : Heap) {Z : Nat → Prop} {ho ts : Nat} {li : Nat → Nat} {rr : Nat → Nat → Nat} {G : hG} {R : hR} {cn : Nat → Nat} {sc : Nat → Int32} {μ : Nat → Nat → Int32} (hW : HW E Z (ho, li, rr, ts) G R (cn, sc, μ) H0) (hI : InvF (cn, sc, μ)) (hZn : ∀ q, H0.size ≤ q → Z q) {o9 : Nat} {f0 : Nat → Int64} (hL0 : hk_L E o9 1 f0 H0) (hoZ : ¬ Z o9) (hoA : hk_A E o9) {p0 p1 : Int32}  : hk_X E l yL_join wsL_join rmL_join (fun q => Z q ∨ q = o9) [.ref ho, .int p0, .int p1, .ref o9] H0 (lpost E Z (ho, li, rr, ts) o9 (cd_join p0 p1 (cn, sc, μ)) (an_join p0 p1 (cn, sc, μ)) (cn, sc, μ) (st_join p0 p1 (cn, sc, μ))) (fun _ _ => False) := by
  refine hk_X.ofWH (cc := cL_join) (maxL := 5) (ret := (some .int)) (hh := [(0, 10, 13, 13), (0, 10, 17, 15)]) (by decide +kernel) rfl (Nat.le_of_ble_eq_true rfl) ?_
  intro p e s m args below meth c ls Q hQ X hr hlk htab K hs9 hS hl
  obtain ⟨hx, hb, hml, hown, hts⟩ := id X
  have hAE : ∀ q, (fun q => Z q ∨ q = o9) q → hk_A E q := fun q h => h.elim (fun h => hW.2.2.2.2.2.2.2.2.2.2.2.2 q h) (fun h => by rw [h]; exact hoA)
  have hl : lv_has ls 5 [(0, .ref ho), (1, .int p0), (2, .int p1), (3, .ref o9)] := hl
  have hZA : ∀ q, Z q → hk_A E q := hW.2.2.2.2.2.2.2.2.2.2.2.2
  refine lv_aload_n hx hb dL_join_0 rfl (lv_at hl 3 rfl) ?_
  refine lv_iconst (v := 0) hx hb dL_join_1 (by decide) ?_
  refine lv_aload_n hx hb dL_join_2 rfl (lv_at hl 0 rfl) ?_
  refine lv_iload_n hx hb dL_join_3 rfl (lv_at hl 1 rfl) ?_
  refine lv_iload_n hx hb dL_join_4 rfl (lv_at hl 2 rfl) ?_
  refine hk_callVx 2 (As := [.int p0, .int p1]) (rest := [.int 0, .ref o9]) X K hAE hS hl.1 (HW.o hW) rfl (c_X10_join E l hl9 H0 hW hI hZn (p0 := p0) (p1 := p1)) (fun q h => Or.inl h) gL_join_X10_join rfl ⟨rfl, hd_X10_join⟩ rfl ⟨⟨(Nat.le_of_ble_eq_true rfl), (Nat.le_of_ble_eq_true rfl)⟩, (Nat.le_of_ble_eq_true rfl), (Nat.le_of_ble_eq_true rfl)⟩ rfl (Nat.le_of_ble_eq_true rfl) dL_join_5 (fun x9 ce9 q9 H1 locs1 hp hS hz1 hk1 hce hcv hcl => by
      obtain ⟨hcs, G, R, hW⟩ := hp
      have hL1 : hk_L E o9 1 f0 H1 := (hk1 _ (ar_lt hL0) hoZ).trans hL0
      rcases hcs with ⟨hcd, rfl⟩ | ⟨hcd, rfl⟩ | ⟨hcd, rfl⟩
      · refine vx_catch (own := RL) (name := "java/lang/IndexOutOfBoundsException") hown [] ⟨0, 10, 13, 13⟩ [⟨0, 10, 17, 15⟩] htab (fun z hz => absurd hz List.not_mem_nil) rfl (by decide) (hts (.classLink RL 13 "java/lang/IndexOutOfBoundsException") (by decide +kernel)) (va_Nw.use rfl (K.2.2.2.2.1.2.2.2.1 ("java/lang/IndexOutOfBoundsException", "java/lang/IndexOutOfBoundsException") (by decide +kernel))) hce hcv hcl ?_
        refine lv_astore (lv' := [(4, .ref q9), (0, .ref ho), (1, .int p0), (2, .int p1), (3, .ref o9)]) hx hb dL_join_13 hl (by decide) rfl (fun ls hl => ?_)
        refine lv_iconst (v := 1) hx hb dL_join_15 (by decide) ?_
        exact hk_iretx X hr hlk hQ hS (Nat.le_of_ble_eq_true rfl) (Nat.le_of_ble_eq_true rfl) dL_join_16 (lpost_x hcd (by decide) hW hL1)
      · refine vx_catch (own := RL) (name := "java/lang/IllegalArgumentException") hown [⟨0, 10, 13, 13⟩] ⟨0, 10, 17, 15⟩ [] htab (fun z hz => by rw [List.mem_singleton.mp hz]; exact Or.inr ⟨by decide, "java/lang/IndexOutOfBoundsException", (hts (.classLink RL 13 "java/lang/IndexOutOfBoundsException") (by decide +kernel)), K.2.2.2.2.1.2.2.2.2.2.2.1 ("java/lang/IllegalArgumentException", "java/lang/IndexOutOfBoundsException") (by decide +kernel)⟩) rfl (by decide) (hts (.classLink RL 15 "java/lang/IllegalArgumentException") (by decide +kernel)) (va_Nw.use rfl (K.2.2.2.2.1.2.2.2.1 ("java/lang/IllegalArgumentException", "java/lang/IllegalArgumentException") (by decide +kernel))) hce hcv hcl ?_
        refine lv_astore (lv' := [(4, .ref q9), (0, .ref ho), (1, .int p0), (2, .int p1), (3, .ref o9)]) hx hb dL_join_17 hl (by decide) rfl (fun ls hl => ?_)
        refine lv_iconst (v := 2) hx hb dL_join_19 (by decide) ?_
        exact hk_iretx X hr hlk hQ hS (Nat.le_of_ble_eq_true rfl) (Nat.le_of_ble_eq_true rfl) dL_join_20 (lpost_x hcd (by decide) hW hL1)
      · exact absurd hcd cdn_join
    ) (fun v9 H1 locs1 hp hS hz1 hk1 => ?_)
  obtain ⟨hcd, hv, G, R, hW⟩ := hp
  subst hv
  have hL1 : hk_L E o9 1 f0 H1 := (hk1 _ (ar_lt hL0) hoZ).trans hL0
  refine lv_i2l hx hb dL_join_8 rfl ?_
  refine hk_lst X K hL1 hS (Or.inr rfl) (show vp_in (nI 0) 1 from vp_in_nI (by decide) (by decide)) dL_join_9 (fun H1 locsH1 hIH1 hzH1 hqH1 hS => ?_)
  have hW := hW.kept (fun q h1 h2 => hqH1 q (fun g => by rw [g] at h2; exact h2.elim hoZ (fun h => h hoA)))
  refine lv_goto (tgt := 21) hx hb dL_join_10 (by decide) ?_
  refine lv_iconst (v := 0) hx hb dL_join_21 (by decide) ?_
  exact hk_iretx X hr hlk hQ hS (Nat.le_of_ble_eq_true rfl) (Nat.le_of_ble_eq_true rfl) dL_join_22 (lpost_0 hcd hW hIH1 (out_at))

theorem hd_X10_step : yX10_step.cls ≠ "java/lang/invoke/MethodHandle" ∧ yX10_step.cls ≠ "java/lang/invoke/VarHandle" ∧ (parseMethodDescriptor yX10_step.desc).map (fun d => d.parameters.length) = some 7 := ⟨by decide, by decide, by decide +kernel⟩
abbrev rmL_step : Room := { frames := 11, cells := 12, slots := 700, locals := 362 }
set_option maxHeartbeats 4000000 in
set_option maxRecDepth 100000 in
theorem c_L_step (E : hk_E) (l : Launch) (hl9 : l.stackTraces = false) (H0 : Heap) {Z : Nat → Prop} {ho ts : Nat} {li : Nat → Nat} {rr : Nat → Nat → Nat} {G : hG} {R : hR} {cn : Nat → Nat} {sc : Nat → Int32} {μ : Nat → Nat → Int32} (hW : HW E Z (ho, li, rr, ts) G R (cn, sc, μ) H0) (hI : InvF (cn, sc, μ)) (hZn : ∀ q, H0.size ≤ q → Z q) {o9 : Nat} {f0 : Nat → Int64} (hL0 : hk_L E o9 1 f0 H0) (hoZ : ¬ Z o9) (hoA : hk_A E o9) {p0 p1 p2 p3 p4 p5 p6 : Int32}  : hk_X E l yL_step wsL_step rmL_step (fun q => Z q ∨ q = o9) [.ref ho, .int p0, .int p1, .int p2, .int p3, .int p4, .int p5, .int p6, .ref o9] H0 (lpost E Z (ho, li, rr, ts) o9 (cd_step p0 p1 p2 p3 p4 p5 p6 (cn, sc, μ)) (an_step p0 p1 p2 p3 p4 p5 p6 (cn, sc, μ)) (cn, sc, μ) (st_step p0 p1 p2 p3 p4 p5 p6 (cn, sc, μ))) (fun _ _ => False) := by
  refine hk_X.ofWH (cc := cL_step) (maxL := 10) (ret := (some .int)) (hh := [(0, 20, 23, 13), (0, 20, 27, 15), (0, 20, 31, 21)]) (by decide +kernel) rfl (Nat.le_of_ble_eq_true rfl) ?_
  intro p e s m args below meth c ls Q hQ X hr hlk htab K hs9 hS hl
  obtain ⟨hx, hb, hml, hown, hts⟩ := id X
  have hAE : ∀ q, (fun q => Z q ∨ q = o9) q → hk_A E q := fun q h => h.elim (fun h => hW.2.2.2.2.2.2.2.2.2.2.2.2 q h) (fun h => by rw [h]; exact hoA)
  have hl : lv_has ls 10 [(0, .ref ho), (1, .int p0), (2, .int p1), (3, .int p2), (4, .int p3), (5, .int p4), (6, .int p5), (7, .int p6), (8, .ref o9)] := hl
  have hZA : ∀ q, Z q → hk_A E q := hW.2.2.2.2.2.2.2.2.2.2.2.2
  refine lv_aload hx hb dL_step_0 (lv_at hl 8 rfl) ?_
  refine lv_iconst (v := 0) hx hb dL_step_2 (by decide) ?_
  refine lv_aload_n hx hb dL_step_3 rfl (lv_at hl 0 rfl) ?_
  refine lv_iload_n hx hb dL_step_4 rfl (lv_at hl 1 rfl) ?_
  refine lv_iload_n hx hb dL_step_5 rfl (lv_at hl 2 rfl) ?_
  refine lv_iload_n hx hb dL_step_6 rfl (lv_at hl 3 rfl) ?_
  refine lv_iload hx hb dL_step_7 (lv_at hl 4 rfl) ?_
  refine lv_iload hx hb dL_step_9 (lv_at hl 5 rfl) ?_
  refine lv_iload hx hb dL_step_11 (lv_at hl 6 rfl) ?_
  refine lv_iload hx hb dL_step_13 (lv_at hl 7 rfl) ?_
  refine hk_callVx 7 (As := [.int p0, .int p1, .int p2, .int p3, .int p4, .int p5, .int p6]) (rest := [.int 0, .ref o9]) X K hAE hS hl.1 (HW.o hW) rfl (c_X10_step E l hl9 H0 hW hI hZn (p0 := p0) (p1 := p1) (p2 := p2) (p3 := p3) (p4 := p4) (p5 := p5) (p6 := p6)) (fun q h => Or.inl h) gL_step_X10_step rfl ⟨rfl, hd_X10_step⟩ rfl ⟨⟨(Nat.le_of_ble_eq_true rfl), (Nat.le_of_ble_eq_true rfl)⟩, (Nat.le_of_ble_eq_true rfl), (Nat.le_of_ble_eq_true rfl)⟩ rfl (Nat.le_of_ble_eq_true rfl) dL_step_15 (fun x9 ce9 q9 H1 locs1 hp hS hz1 hk1 hce hcv hcl => by
      obtain ⟨hcs, G, R, hW⟩ := hp
      have hL1 : hk_L E o9 1 f0 H1 := (hk1 _ (ar_lt hL0) hoZ).trans hL0
      rcases hcs with ⟨hcd, rfl⟩ | ⟨hcd, rfl⟩ | ⟨hcd, rfl⟩
      · refine vx_catch (own := RL) (name := "java/lang/IndexOutOfBoundsException") hown [] ⟨0, 20, 23, 13⟩ [⟨0, 20, 27, 15⟩, ⟨0, 20, 31, 21⟩] htab (fun z hz => absurd hz List.not_mem_nil) rfl (by decide) (hts (.classLink RL 13 "java/lang/IndexOutOfBoundsException") (by decide +kernel)) (va_Nw.use rfl (K.2.2.2.2.1.2.2.2.1 ("java/lang/IndexOutOfBoundsException", "java/lang/IndexOutOfBoundsException") (by decide +kernel))) hce hcv hcl ?_
        refine lv_astore (lv' := [(9, .ref q9), (0, .ref ho), (1, .int p0), (2, .int p1), (3, .int p2), (4, .int p3), (5, .int p4), (6, .int p5), (7, .int p6), (8, .ref o9)]) hx hb dL_step_23 hl (by decide) rfl (fun ls hl => ?_)
        refine lv_iconst (v := 1) hx hb dL_step_25 (by decide) ?_
        exact hk_iretx X hr hlk hQ hS (Nat.le_of_ble_eq_true rfl) (Nat.le_of_ble_eq_true rfl) dL_step_26 (lpost_x hcd (by decide) hW hL1)
      · refine vx_catch (own := RL) (name := "java/lang/IllegalArgumentException") hown [⟨0, 20, 23, 13⟩] ⟨0, 20, 27, 15⟩ [⟨0, 20, 31, 21⟩] htab (fun z hz => by rw [List.mem_singleton.mp hz]; exact Or.inr ⟨by decide, "java/lang/IndexOutOfBoundsException", (hts (.classLink RL 13 "java/lang/IndexOutOfBoundsException") (by decide +kernel)), K.2.2.2.2.1.2.2.2.2.2.2.1 ("java/lang/IllegalArgumentException", "java/lang/IndexOutOfBoundsException") (by decide +kernel)⟩) rfl (by decide) (hts (.classLink RL 15 "java/lang/IllegalArgumentException") (by decide +kernel)) (va_Nw.use rfl (K.2.2.2.2.1.2.2.2.1 ("java/lang/IllegalArgumentException", "java/lang/IllegalArgumentException") (by decide +kernel))) hce hcv hcl ?_
        refine lv_astore (lv' := [(9, .ref q9), (0, .ref ho), (1, .int p0), (2, .int p1), (3, .int p2), (4, .int p3), (5, .int p4), (6, .int p5), (7, .int p6), (8, .ref o9)]) hx hb dL_step_27 hl (by decide) rfl (fun ls hl => ?_)
        refine lv_iconst (v := 2) hx hb dL_step_29 (by decide) ?_
        exact hk_iretx X hr hlk hQ hS (Nat.le_of_ble_eq_true rfl) (Nat.le_of_ble_eq_true rfl) dL_step_30 (lpost_x hcd (by decide) hW hL1)
      · refine vx_catch (own := RL) (name := "java/lang/IllegalStateException") hown [⟨0, 20, 23, 13⟩, ⟨0, 20, 27, 15⟩] ⟨0, 20, 31, 21⟩ [] htab (fun z hz => by
              rcases List.mem_cons.mp hz with g | g
              · rw [g]; exact Or.inr ⟨by decide, "java/lang/IndexOutOfBoundsException", (hts (.classLink RL 13 "java/lang/IndexOutOfBoundsException") (by decide +kernel)), K.2.2.2.2.1.2.2.2.2.2.2.1 ("java/lang/IllegalStateException", "java/lang/IndexOutOfBoundsException") (by decide +kernel)⟩
              · rw [List.mem_singleton.mp g]; exact Or.inr ⟨by decide, "java/lang/IllegalArgumentException", (hts (.classLink RL 15 "java/lang/IllegalArgumentException") (by decide +kernel)), K.2.2.2.2.1.2.2.2.2.2.2.1 ("java/lang/IllegalStateException", "java/lang/IllegalArgumentException") (by decide +kernel)⟩) rfl (by decide) (hts (.classLink RL 21 "java/lang/IllegalStateException") (by decide +kernel)) (va_Nw.use rfl (K.2.2.2.2.1.2.2.2.1 ("java/lang/IllegalStateException", "java/lang/IllegalStateException") (by decide +kernel))) hce hcv hcl ?_
        refine lv_astore (lv' := [(9, .ref q9), (0, .ref ho), (1, .int p0), (2, .int p1), (3, .int p2), (4, .int p3), (5, .int p4), (6, .int p5), (7, .int p6), (8, .ref o9)]) hx hb dL_step_31 hl (by decide) rfl (fun ls hl => ?_)
        refine lv_iconst (v := 3) hx hb dL_step_33 (by decide) ?_
        exact hk_iretx X hr hlk hQ hS (Nat.le_of_ble_eq_true rfl) (Nat.le_of_ble_eq_true rfl) dL_step_34 (lpost_x hcd (by decide) hW hL1)
    ) (fun v9 H1 locs1 hp hS hz1 hk1 => ?_)
  obtain ⟨hcd, hv, G, R, hW⟩ := hp
  subst hv
  have hL1 : hk_L E o9 1 f0 H1 := (hk1 _ (ar_lt hL0) hoZ).trans hL0
  refine lv_i2l hx hb dL_step_18 rfl ?_
  refine hk_lst X K hL1 hS (Or.inr rfl) (show vp_in (nI 0) 1 from vp_in_nI (by decide) (by decide)) dL_step_19 (fun H1 locsH1 hIH1 hzH1 hqH1 hS => ?_)
  have hW := hW.kept (fun q h1 h2 => hqH1 q (fun g => by rw [g] at h2; exact h2.elim hoZ (fun h => h hoA)))
  refine lv_goto (tgt := 35) hx hb dL_step_20 (by decide) ?_
  refine lv_iconst (v := 0) hx hb dL_step_35 (by decide) ?_
  exact hk_iretx X hr hlk hQ hS (Nat.le_of_ble_eq_true rfl) (Nat.le_of_ble_eq_true rfl) dL_step_36 (lpost_0 hcd hW hIH1 (out_at))

theorem hd_X10_density : yX10_density.cls ≠ "java/lang/invoke/MethodHandle" ∧ yX10_density.cls ≠ "java/lang/invoke/VarHandle" ∧ (parseMethodDescriptor yX10_density.desc).map (fun d => d.parameters.length) = some 3 := ⟨by decide, by decide, by decide +kernel⟩
abbrev rmL_density : Room := { frames := 11, cells := 12, slots := 700, locals := 356 }
set_option maxHeartbeats 4000000 in
set_option maxRecDepth 100000 in
theorem c_L_density (E : hk_E) (l : Launch) (hl9 : l.stackTraces = false) (H0 : Heap) {Z : Nat → Prop} {ho ts : Nat} {li : Nat → Nat} {rr : Nat → Nat → Nat} {G : hG} {R : hR} {cn : Nat → Nat} {sc : Nat → Int32} {μ : Nat → Nat → Int32} (hW : HW E Z (ho, li, rr, ts) G R (cn, sc, μ) H0) (hI : InvF (cn, sc, μ)) (hZn : ∀ q, H0.size ≤ q → Z q) {o9 : Nat} {f0 : Nat → Int64} (hL0 : hk_L E o9 1 f0 H0) (hoZ : ¬ Z o9) (hoA : hk_A E o9) {p0 p1 p2 : Int32}  : hk_X E l yL_density wsL_density rmL_density (fun q => Z q ∨ q = o9) [.ref ho, .int p0, .int p1, .int p2, .ref o9] H0 (lpost E Z (ho, li, rr, ts) o9 (cd_density p0 p1 p2 (cn, sc, μ)) (an_density p0 p1 p2 (cn, sc, μ)) (cn, sc, μ) (st_density p0 p1 p2 (cn, sc, μ))) (fun _ _ => False) := by
  refine hk_X.ofWH (cc := cL_density) (maxL := 6) (ret := (some .int)) (hh := [(0, 12, 15, 13), (0, 12, 19, 15), (0, 12, 23, 21)]) (by decide +kernel) rfl (Nat.le_of_ble_eq_true rfl) ?_
  intro p e s m args below meth c ls Q hQ X hr hlk htab K hs9 hS hl
  obtain ⟨hx, hb, hml, hown, hts⟩ := id X
  have hAE : ∀ q, (fun q => Z q ∨ q = o9) q → hk_A E q := fun q h => h.elim (fun h => hW.2.2.2.2.2.2.2.2.2.2.2.2 q h) (fun h => by rw [h]; exact hoA)
  have hl : lv_has ls 6 [(0, .ref ho), (1, .int p0), (2, .int p1), (3, .int p2), (4, .ref o9)] := hl
  have hZA : ∀ q, Z q → hk_A E q := hW.2.2.2.2.2.2.2.2.2.2.2.2
  refine lv_aload hx hb dL_density_0 (lv_at hl 4 rfl) ?_
  refine lv_iconst (v := 0) hx hb dL_density_2 (by decide) ?_
  refine lv_aload_n hx hb dL_density_3 rfl (lv_at hl 0 rfl) ?_
  refine lv_iload_n hx hb dL_density_4 rfl (lv_at hl 1 rfl) ?_
  refine lv_iload_n hx hb dL_density_5 rfl (lv_at hl 2 rfl) ?_
  refine lv_iload_n hx hb dL_density_6 rfl (lv_at hl 3 rfl) ?_
  refine hk_callVx 3 (As := [.int p0, .int p1, .int p2]) (rest := [.int 0, .ref o9]) X K hAE hS hl.1 (HW.o hW) rfl (c_X10_density E l hl9 H0 hW hI hZn (p0 := p0) (p1 := p1) (p2 := p2)) (fun q h => Or.inl h) gL_density_X10_density rfl ⟨rfl, hd_X10_density⟩ rfl ⟨⟨(Nat.le_of_ble_eq_true rfl), (Nat.le_of_ble_eq_true rfl)⟩, (Nat.le_of_ble_eq_true rfl), (Nat.le_of_ble_eq_true rfl)⟩ rfl (Nat.le_of_ble_eq_true rfl) dL_density_7 (fun x9 ce9 q9 H1 locs1 hp hS hz1 hk1 hce hcv hcl => by
      obtain ⟨hcs, G, R, hW⟩ := hp
      have hL1 : hk_L E o9 1 f0 H1 := (hk1 _ (ar_lt hL0) hoZ).trans hL0
      rcases hcs with ⟨hcd, rfl⟩ | ⟨hcd, rfl⟩ | ⟨hcd, rfl⟩
      · refine vx_catch (own := RL) (name := "java/lang/IndexOutOfBoundsException") hown [] ⟨0, 12, 15, 13⟩ [⟨0, 12, 19, 15⟩, ⟨0, 12, 23, 21⟩] htab (fun z hz => absurd hz List.not_mem_nil) rfl (by decide) (hts (.classLink RL 13 "java/lang/IndexOutOfBoundsException") (by decide +kernel)) (va_Nw.use rfl (K.2.2.2.2.1.2.2.2.1 ("java/lang/IndexOutOfBoundsException", "java/lang/IndexOutOfBoundsException") (by decide +kernel))) hce hcv hcl ?_
        refine lv_astore (lv' := [(5, .ref q9), (0, .ref ho), (1, .int p0), (2, .int p1), (3, .int p2), (4, .ref o9)]) hx hb dL_density_15 hl (by decide) rfl (fun ls hl => ?_)
        refine lv_iconst (v := 1) hx hb dL_density_17 (by decide) ?_
        exact hk_iretx X hr hlk hQ hS (Nat.le_of_ble_eq_true rfl) (Nat.le_of_ble_eq_true rfl) dL_density_18 (lpost_x hcd (by decide) hW hL1)
      · refine vx_catch (own := RL) (name := "java/lang/IllegalArgumentException") hown [⟨0, 12, 15, 13⟩] ⟨0, 12, 19, 15⟩ [⟨0, 12, 23, 21⟩] htab (fun z hz => by rw [List.mem_singleton.mp hz]; exact Or.inr ⟨by decide, "java/lang/IndexOutOfBoundsException", (hts (.classLink RL 13 "java/lang/IndexOutOfBoundsException") (by decide +kernel)), K.2.2.2.2.1.2.2.2.2.2.2.1 ("java/lang/IllegalArgumentException", "java/lang/IndexOutOfBoundsException") (by decide +kernel)⟩) rfl (by decide) (hts (.classLink RL 15 "java/lang/IllegalArgumentException") (by decide +kernel)) (va_Nw.use rfl (K.2.2.2.2.1.2.2.2.1 ("java/lang/IllegalArgumentException", "java/lang/IllegalArgumentException") (by decide +kernel))) hce hcv hcl ?_
        refine lv_astore (lv' := [(5, .ref q9), (0, .ref ho), (1, .int p0), (2, .int p1), (3, .int p2), (4, .ref o9)]) hx hb dL_density_19 hl (by decide) rfl (fun ls hl => ?_)
        refine lv_iconst (v := 2) hx hb dL_density_21 (by decide) ?_
        exact hk_iretx X hr hlk hQ hS (Nat.le_of_ble_eq_true rfl) (Nat.le_of_ble_eq_true rfl) dL_density_22 (lpost_x hcd (by decide) hW hL1)
      · refine vx_catch (own := RL) (name := "java/lang/IllegalStateException") hown [⟨0, 12, 15, 13⟩, ⟨0, 12, 19, 15⟩] ⟨0, 12, 23, 21⟩ [] htab (fun z hz => by
              rcases List.mem_cons.mp hz with g | g
              · rw [g]; exact Or.inr ⟨by decide, "java/lang/IndexOutOfBoundsException", (hts (.classLink RL 13 "java/lang/IndexOutOfBoundsException") (by decide +kernel)), K.2.2.2.2.1.2.2.2.2.2.2.1 ("java/lang/IllegalStateException", "java/lang/IndexOutOfBoundsException") (by decide +kernel)⟩
              · rw [List.mem_singleton.mp g]; exact Or.inr ⟨by decide, "java/lang/IllegalArgumentException", (hts (.classLink RL 15 "java/lang/IllegalArgumentException") (by decide +kernel)), K.2.2.2.2.1.2.2.2.2.2.2.1 ("java/lang/IllegalStateException", "java/lang/IllegalArgumentException") (by decide +kernel)⟩) rfl (by decide) (hts (.classLink RL 21 "java/lang/IllegalStateException") (by decide +kernel)) (va_Nw.use rfl (K.2.2.2.2.1.2.2.2.1 ("java/lang/IllegalStateException", "java/lang/IllegalStateException") (by decide +kernel))) hce hcv hcl ?_
        refine lv_astore (lv' := [(5, .ref q9), (0, .ref ho), (1, .int p0), (2, .int p1), (3, .int p2), (4, .ref o9)]) hx hb dL_density_23 hl (by decide) rfl (fun ls hl => ?_)
        refine lv_iconst (v := 3) hx hb dL_density_25 (by decide) ?_
        exact hk_iretx X hr hlk hQ hS (Nat.le_of_ble_eq_true rfl) (Nat.le_of_ble_eq_true rfl) dL_density_26 (lpost_x hcd (by decide) hW hL1)
    ) (fun v9 H1 locs1 hp hS hz1 hk1 => ?_)
  obtain ⟨hcd, hv, G, R, hW⟩ := hp
  subst hv
  have hL1 : hk_L E o9 1 f0 H1 := (hk1 _ (ar_lt hL0) hoZ).trans hL0
  refine lv_i2l hx hb dL_density_10 rfl ?_
  refine hk_lst X K hL1 hS (Or.inr rfl) (show vp_in (nI 0) 1 from vp_in_nI (by decide) (by decide)) dL_density_11 (fun H1 locsH1 hIH1 hzH1 hqH1 hS => ?_)
  have hW := hW.kept (fun q h1 h2 => hqH1 q (fun g => by rw [g] at h2; exact h2.elim hoZ (fun h => h hoA)))
  refine lv_goto (tgt := 27) hx hb dL_density_12 (by decide) ?_
  refine lv_iconst (v := 0) hx hb dL_density_27 (by decide) ?_
  exact hk_iretx X hr hlk hQ hS (Nat.le_of_ble_eq_true rfl) (Nat.le_of_ble_eq_true rfl) dL_density_28 (lpost_0 hcd hW hIH1 (out_at))

theorem cdn_doubt {p0 p1 : Int32} {S : mS} : ¬ cd_doubt p0 p1 S = 2 ∧ ¬ cd_doubt p0 p1 S = 3 := by
  unfold cd_doubt; refine ⟨?_, ?_⟩ <;> (repeat' split) <;> decide
theorem bo_doubt {cn : Nat → Nat} {sc : Nat → Int32} {μ : Nat → Nat → Int32} (hI : InvF (cn, sc, μ)) {p0 p1 : Int32} (h : cd_doubt p0 p1 (cn, sc, μ) = 0) : an_doubt p0 p1 (cn, sc, μ) = 0 ∨ an_doubt p0 p1 (cn, sc, μ) = 1 := by
  have h1 := ite_ok' h
  have hc : cn 12 ≤ 80 := hI.1.1.2.2.1
  exact (hI.1.2.2.2.2.2.1 _ (isS_xl h1 (show cn 12 < 2 ^ 31 by omega))).2.1
theorem hd_X10_doubt : yX10_doubt.cls ≠ "java/lang/invoke/MethodHandle" ∧ yX10_doubt.cls ≠ "java/lang/invoke/VarHandle" ∧ (parseMethodDescriptor yX10_doubt.desc).map (fun d => d.parameters.length) = some 2 := ⟨by decide, by decide, by decide +kernel⟩
abbrev rmL_doubt : Room := { frames := 11, cells := 12, slots := 700, locals := 199 }
set_option maxHeartbeats 4000000 in
set_option maxRecDepth 100000 in
theorem c_L_doubt (E : hk_E) (l : Launch) (hl9 : l.stackTraces = false) (H0 : Heap) {Z : Nat → Prop} {ho ts : Nat} {li : Nat → Nat} {rr : Nat → Nat → Nat} {G : hG} {R : hR} {cn : Nat → Nat} {sc : Nat → Int32} {μ : Nat → Nat → Int32} (hW : HW E Z (ho, li, rr, ts) G R (cn, sc, μ) H0) (hI : InvF (cn, sc, μ)) (hZn : ∀ q, H0.size ≤ q → Z q) {o9 : Nat} {f0 : Nat → Int64} (hL0 : hk_L E o9 1 f0 H0) (hoZ : ¬ Z o9) (hoA : hk_A E o9) {p0 p1 : Int32} (hb9 : p1 = 0 ∨ p1 = 1)  : hk_X E l yL_doubt wsL_doubt rmL_doubt (fun q => Z q ∨ q = o9) [.ref ho, .int p0, .int p1, .ref o9] H0 (lpost E Z (ho, li, rr, ts) o9 (cd_doubt p0 p1 (cn, sc, μ)) (an_doubt p0 p1 (cn, sc, μ)) (cn, sc, μ) (st_doubt p0 p1 (cn, sc, μ))) (fun _ _ => False) := by
  refine hk_X.ofWH (cc := cL_doubt) (maxL := 5) (ret := (some .int)) (hh := [(0, 17, 20, 13)]) (by decide +kernel) rfl (Nat.le_of_ble_eq_true rfl) ?_
  intro p e s m args below meth c ls Q hQ X hr hlk htab K hs9 hS hl
  obtain ⟨hx, hb, hml, hown, hts⟩ := id X
  have hAE : ∀ q, (fun q => Z q ∨ q = o9) q → hk_A E q := fun q h => h.elim (fun h => hW.2.2.2.2.2.2.2.2.2.2.2.2 q h) (fun h => by rw [h]; exact hoA)
  have hl : lv_has ls 5 [(0, .ref ho), (1, .int p0), (2, .int p1), (3, .ref o9)] := hl
  have hZA : ∀ q, Z q → hk_A E q := hW.2.2.2.2.2.2.2.2.2.2.2.2
  refine lv_aload_n hx hb dL_doubt_0 rfl (lv_at hl 3 rfl) ?_
  refine lv_iconst (v := 0) hx hb dL_doubt_1 (by decide) ?_
  refine lv_aload_n hx hb dL_doubt_2 rfl (lv_at hl 0 rfl) ?_
  refine lv_iload_n hx hb dL_doubt_3 rfl (lv_at hl 1 rfl) ?_
  refine lv_iload_n hx hb dL_doubt_4 rfl (lv_at hl 2 rfl) ?_
  refine hk_callVx 2 (As := [.int p0, .int p1]) (rest := [.int 0, .ref o9]) X K hAE hS hl.1 (HW.o hW) rfl (c_X10_doubt E l hl9 H0 hW hI hZn hb9 (p0 := p0) (p1 := p1)) (fun q h => Or.inl h) gL_doubt_X10_doubt rfl ⟨rfl, hd_X10_doubt⟩ rfl ⟨⟨(Nat.le_of_ble_eq_true rfl), (Nat.le_of_ble_eq_true rfl)⟩, (Nat.le_of_ble_eq_true rfl), (Nat.le_of_ble_eq_true rfl)⟩ rfl (Nat.le_of_ble_eq_true rfl) dL_doubt_5 (fun x9 ce9 q9 H1 locs1 hp hS hz1 hk1 hce hcv hcl => by
      obtain ⟨hcs, G, R, hW⟩ := hp
      have hL1 : hk_L E o9 1 f0 H1 := (hk1 _ (ar_lt hL0) hoZ).trans hL0
      rcases hcs with ⟨hcd, rfl⟩ | ⟨hcd, rfl⟩ | ⟨hcd, rfl⟩
      · refine vx_catch (own := RL) (name := "java/lang/IndexOutOfBoundsException") hown [] ⟨0, 17, 20, 13⟩ [] htab (fun z hz => absurd hz List.not_mem_nil) rfl (by decide) (hts (.classLink RL 13 "java/lang/IndexOutOfBoundsException") (by decide +kernel)) (va_Nw.use rfl (K.2.2.2.2.1.2.2.2.1 ("java/lang/IndexOutOfBoundsException", "java/lang/IndexOutOfBoundsException") (by decide +kernel))) hce hcv hcl ?_
        refine lv_astore (lv' := [(4, .ref q9), (0, .ref ho), (1, .int p0), (2, .int p1), (3, .ref o9)]) hx hb dL_doubt_20 hl (by decide) rfl (fun ls hl => ?_)
        refine lv_iconst (v := 1) hx hb dL_doubt_22 (by decide) ?_
        exact hk_iretx X hr hlk hQ hS (Nat.le_of_ble_eq_true rfl) (Nat.le_of_ble_eq_true rfl) dL_doubt_23 (lpost_x hcd (by decide) hW hL1)
      · exact absurd hcd cdn_doubt.1
      · exact absurd hcd cdn_doubt.2
    ) (fun v9 H1 locs1 hp hS hz1 hk1 => ?_)
  obtain ⟨hcd, hv, G, R, hW⟩ := hp
  subst hv
  have hL1 : hk_L E o9 1 f0 H1 := (hk1 _ (ar_lt hL0) hoZ).trans hL0
  have hbo : an_doubt p0 p1 (cn, sc, μ) = 0 ∨ an_doubt p0 p1 (cn, sc, μ) = 1 := bo_doubt hI hcd
  refine lv_if_eq (tgt := 15) hx hb dL_doubt_8 (by decide) (fun c_8 => ?_) (fun c_8 => ?_)
  · refine lv_lconst (v := 0) hx hb dL_doubt_15 (by decide) ?_
    refine hk_lst X K hL1 hS (Or.inr rfl) (show vp_in (nI 0) 1 from vp_in_nI (by decide) (by decide)) dL_doubt_16 (fun H1 locsH1 hIH1 hzH1 hqH1 hS => ?_)
    have hW := hW.kept (fun q h1 h2 => hqH1 q (fun g => by rw [g] at h2; exact h2.elim hoZ (fun h => h hoA)))
    refine lv_goto (tgt := 24) hx hb dL_doubt_17 (by decide) ?_
    refine lv_iconst (v := 0) hx hb dL_doubt_24 (by decide) ?_
    exact hk_iretx X hr hlk hQ hS (Nat.le_of_ble_eq_true rfl) (Nat.le_of_ble_eq_true rfl) dL_doubt_25 (lpost_0 hcd hW hIH1 (by rw [out_at, show an_doubt p0 p1 (cn, sc, μ) = 0 from c_8]; rfl))
  · refine lv_lconst (v := 1) hx hb dL_doubt_11 (by decide) ?_
    refine lv_goto (tgt := 16) hx hb dL_doubt_12 (by decide) ?_
    refine hk_lst X K hL1 hS (Or.inr rfl) (show vp_in (nI 0) 1 from vp_in_nI (by decide) (by decide)) dL_doubt_16 (fun H2 locsH2 hIH2 hzH2 hqH2 hS => ?_)
    have hW := hW.kept (fun q h1 h2 => hqH2 q (fun g => by rw [g] at h2; exact h2.elim hoZ (fun h => h hoA)))
    refine lv_goto (tgt := 24) hx hb dL_doubt_17 (by decide) ?_
    refine lv_iconst (v := 0) hx hb dL_doubt_24 (by decide) ?_
    exact hk_iretx X hr hlk hQ hS (Nat.le_of_ble_eq_true rfl) (Nat.le_of_ble_eq_true rfl) dL_doubt_25 (lpost_0 hcd hW hIH2 (by rw [out_at, show an_doubt p0 p1 (cn, sc, μ) = 1 from hbo.resolve_left c_8]; rfl))

theorem hd_X10_minimum : yX10_minimum.cls ≠ "java/lang/invoke/MethodHandle" ∧ yX10_minimum.cls ≠ "java/lang/invoke/VarHandle" ∧ (parseMethodDescriptor yX10_minimum.desc).map (fun d => d.parameters.length) = some 2 := ⟨by decide, by decide, by decide +kernel⟩
abbrev rmL_minimum : Room := { frames := 11, cells := 12, slots := 700, locals := 354 }
set_option maxHeartbeats 4000000 in
set_option maxRecDepth 100000 in
theorem c_L_minimum (E : hk_E) (l : Launch) (hl9 : l.stackTraces = false) (H0 : Heap) {Z : Nat → Prop} {ho ts : Nat} {li : Nat → Nat} {rr : Nat → Nat → Nat} {G : hG} {R : hR} {cn : Nat → Nat} {sc : Nat → Int32} {μ : Nat → Nat → Int32} (hW : HW E Z (ho, li, rr, ts) G R (cn, sc, μ) H0) (hI : InvF (cn, sc, μ)) (hZn : ∀ q, H0.size ≤ q → Z q) {o9 : Nat} {f0 : Nat → Int64} (hL0 : hk_L E o9 1 f0 H0) (hoZ : ¬ Z o9) (hoA : hk_A E o9) {p0 p1 : Int32}  : hk_X E l yL_minimum wsL_minimum rmL_minimum (fun q => Z q ∨ q = o9) [.ref ho, .int p0, .int p1, .ref o9] H0 (lpost E Z (ho, li, rr, ts) o9 (cd_minimum p0 p1 (cn, sc, μ)) (an_minimum p0 p1 (cn, sc, μ)) (cn, sc, μ) (st_minimum p0 p1 (cn, sc, μ))) (fun _ _ => False) := by
  refine hk_X.ofWH (cc := cL_minimum) (maxL := 5) (ret := (some .int)) (hh := [(0, 10, 13, 13), (0, 10, 17, 15), (0, 10, 21, 21)]) (by decide +kernel) rfl (Nat.le_of_ble_eq_true rfl) ?_
  intro p e s m args below meth c ls Q hQ X hr hlk htab K hs9 hS hl
  obtain ⟨hx, hb, hml, hown, hts⟩ := id X
  have hAE : ∀ q, (fun q => Z q ∨ q = o9) q → hk_A E q := fun q h => h.elim (fun h => hW.2.2.2.2.2.2.2.2.2.2.2.2 q h) (fun h => by rw [h]; exact hoA)
  have hl : lv_has ls 5 [(0, .ref ho), (1, .int p0), (2, .int p1), (3, .ref o9)] := hl
  have hZA : ∀ q, Z q → hk_A E q := hW.2.2.2.2.2.2.2.2.2.2.2.2
  refine lv_aload_n hx hb dL_minimum_0 rfl (lv_at hl 3 rfl) ?_
  refine lv_iconst (v := 0) hx hb dL_minimum_1 (by decide) ?_
  refine lv_aload_n hx hb dL_minimum_2 rfl (lv_at hl 0 rfl) ?_
  refine lv_iload_n hx hb dL_minimum_3 rfl (lv_at hl 1 rfl) ?_
  refine lv_iload_n hx hb dL_minimum_4 rfl (lv_at hl 2 rfl) ?_
  refine hk_callVx 2 (As := [.int p0, .int p1]) (rest := [.int 0, .ref o9]) X K hAE hS hl.1 (HW.o hW) rfl (c_X10_minimum E l hl9 H0 hW hI hZn (p0 := p0) (p1 := p1)) (fun q h => Or.inl h) gL_minimum_X10_minimum rfl ⟨rfl, hd_X10_minimum⟩ rfl ⟨⟨(Nat.le_of_ble_eq_true rfl), (Nat.le_of_ble_eq_true rfl)⟩, (Nat.le_of_ble_eq_true rfl), (Nat.le_of_ble_eq_true rfl)⟩ rfl (Nat.le_of_ble_eq_true rfl) dL_minimum_5 (fun x9 ce9 q9 H1 locs1 hp hS hz1 hk1 hce hcv hcl => by
      obtain ⟨hcs, G, R, hW⟩ := hp
      have hL1 : hk_L E o9 1 f0 H1 := (hk1 _ (ar_lt hL0) hoZ).trans hL0
      rcases hcs with ⟨hcd, rfl⟩ | ⟨hcd, rfl⟩ | ⟨hcd, rfl⟩
      · refine vx_catch (own := RL) (name := "java/lang/IndexOutOfBoundsException") hown [] ⟨0, 10, 13, 13⟩ [⟨0, 10, 17, 15⟩, ⟨0, 10, 21, 21⟩] htab (fun z hz => absurd hz List.not_mem_nil) rfl (by decide) (hts (.classLink RL 13 "java/lang/IndexOutOfBoundsException") (by decide +kernel)) (va_Nw.use rfl (K.2.2.2.2.1.2.2.2.1 ("java/lang/IndexOutOfBoundsException", "java/lang/IndexOutOfBoundsException") (by decide +kernel))) hce hcv hcl ?_
        refine lv_astore (lv' := [(4, .ref q9), (0, .ref ho), (1, .int p0), (2, .int p1), (3, .ref o9)]) hx hb dL_minimum_13 hl (by decide) rfl (fun ls hl => ?_)
        refine lv_iconst (v := 1) hx hb dL_minimum_15 (by decide) ?_
        exact hk_iretx X hr hlk hQ hS (Nat.le_of_ble_eq_true rfl) (Nat.le_of_ble_eq_true rfl) dL_minimum_16 (lpost_x hcd (by decide) hW hL1)
      · refine vx_catch (own := RL) (name := "java/lang/IllegalArgumentException") hown [⟨0, 10, 13, 13⟩] ⟨0, 10, 17, 15⟩ [⟨0, 10, 21, 21⟩] htab (fun z hz => by rw [List.mem_singleton.mp hz]; exact Or.inr ⟨by decide, "java/lang/IndexOutOfBoundsException", (hts (.classLink RL 13 "java/lang/IndexOutOfBoundsException") (by decide +kernel)), K.2.2.2.2.1.2.2.2.2.2.2.1 ("java/lang/IllegalArgumentException", "java/lang/IndexOutOfBoundsException") (by decide +kernel)⟩) rfl (by decide) (hts (.classLink RL 15 "java/lang/IllegalArgumentException") (by decide +kernel)) (va_Nw.use rfl (K.2.2.2.2.1.2.2.2.1 ("java/lang/IllegalArgumentException", "java/lang/IllegalArgumentException") (by decide +kernel))) hce hcv hcl ?_
        refine lv_astore (lv' := [(4, .ref q9), (0, .ref ho), (1, .int p0), (2, .int p1), (3, .ref o9)]) hx hb dL_minimum_17 hl (by decide) rfl (fun ls hl => ?_)
        refine lv_iconst (v := 2) hx hb dL_minimum_19 (by decide) ?_
        exact hk_iretx X hr hlk hQ hS (Nat.le_of_ble_eq_true rfl) (Nat.le_of_ble_eq_true rfl) dL_minimum_20 (lpost_x hcd (by decide) hW hL1)
      · refine vx_catch (own := RL) (name := "java/lang/IllegalStateException") hown [⟨0, 10, 13, 13⟩, ⟨0, 10, 17, 15⟩] ⟨0, 10, 21, 21⟩ [] htab (fun z hz => by
              rcases List.mem_cons.mp hz with g | g
              · rw [g]; exact Or.inr ⟨by decide, "java/lang/IndexOutOfBoundsException", (hts (.classLink RL 13 "java/lang/IndexOutOfBoundsException") (by decide +kernel)), K.2.2.2.2.1.2.2.2.2.2.2.1 ("java/lang/IllegalStateException", "java/lang/IndexOutOfBoundsException") (by decide +kernel)⟩
              · rw [List.mem_singleton.mp g]; exact Or.inr ⟨by decide, "java/lang/IllegalArgumentException", (hts (.classLink RL 15 "java/lang/IllegalArgumentException") (by decide +kernel)), K.2.2.2.2.1.2.2.2.2.2.2.1 ("java/lang/IllegalStateException", "java/lang/IllegalArgumentException") (by decide +kernel)⟩) rfl (by decide) (hts (.classLink RL 21 "java/lang/IllegalStateException") (by decide +kernel)) (va_Nw.use rfl (K.2.2.2.2.1.2.2.2.1 ("java/lang/IllegalStateException", "java/lang/IllegalStateException") (by decide +kernel))) hce hcv hcl ?_
        refine lv_astore (lv' := [(4, .ref q9), (0, .ref ho), (1, .int p0), (2, .int p1), (3, .ref o9)]) hx hb dL_minimum_21 hl (by decide) rfl (fun ls hl => ?_)
        refine lv_iconst (v := 3) hx hb dL_minimum_23 (by decide) ?_
        exact hk_iretx X hr hlk hQ hS (Nat.le_of_ble_eq_true rfl) (Nat.le_of_ble_eq_true rfl) dL_minimum_24 (lpost_x hcd (by decide) hW hL1)
    ) (fun v9 H1 locs1 hp hS hz1 hk1 => ?_)
  obtain ⟨hcd, hv, G, R, hW⟩ := hp
  subst hv
  have hL1 : hk_L E o9 1 f0 H1 := (hk1 _ (ar_lt hL0) hoZ).trans hL0
  refine lv_i2l hx hb dL_minimum_8 rfl ?_
  refine hk_lst X K hL1 hS (Or.inr rfl) (show vp_in (nI 0) 1 from vp_in_nI (by decide) (by decide)) dL_minimum_9 (fun H1 locsH1 hIH1 hzH1 hqH1 hS => ?_)
  have hW := hW.kept (fun q h1 h2 => hqH1 q (fun g => by rw [g] at h2; exact h2.elim hoZ (fun h => h hoA)))
  refine lv_goto (tgt := 25) hx hb dL_minimum_10 (by decide) ?_
  refine lv_iconst (v := 0) hx hb dL_minimum_25 (by decide) ?_
  exact hk_iretx X hr hlk hQ hS (Nat.le_of_ble_eq_true rfl) (Nat.le_of_ble_eq_true rfl) dL_minimum_26 (lpost_0 hcd hW hIH1 (out_at))

theorem cdn_merge {p0 p1 : Int32} {S : mS} : ¬ cd_merge p0 p1 S = 3 := by
  unfold cd_merge; (repeat' split) <;> decide
theorem hd_X10_merge : yX10_merge.cls ≠ "java/lang/invoke/MethodHandle" ∧ yX10_merge.cls ≠ "java/lang/invoke/VarHandle" ∧ (parseMethodDescriptor yX10_merge.desc).map (fun d => d.parameters.length) = some 2 := ⟨by decide, by decide, by decide +kernel⟩
abbrev rmL_merge : Room := { frames := 11, cells := 12, slots := 700, locals := 203 }
set_option maxHeartbeats 4000000 in
set_option maxRecDepth 100000 in
theorem c_L_merge (E : hk_E) (l : Launch) (hl9 : l.stackTraces = false) (H0 : Heap) {Z : Nat → Prop} {ho ts : Nat} {li : Nat → Nat} {rr : Nat → Nat → Nat} {G : hG} {R : hR} {cn : Nat → Nat} {sc : Nat → Int32} {μ : Nat → Nat → Int32} (hW : HW E Z (ho, li, rr, ts) G R (cn, sc, μ) H0) (hI : InvF (cn, sc, μ)) (hZn : ∀ q, H0.size ≤ q → Z q) {o9 : Nat} {f0 : Nat → Int64} (hL0 : hk_L E o9 1 f0 H0) (hoZ : ¬ Z o9) (hoA : hk_A E o9) {p0 p1 : Int32}  : hk_X E l yL_merge wsL_merge rmL_merge (fun q => Z q ∨ q = o9) [.ref ho, .int p0, .int p1, .ref o9] H0 (lpost E Z (ho, li, rr, ts) o9 (cd_merge p0 p1 (cn, sc, μ)) (an_merge p0 p1 (cn, sc, μ)) (cn, sc, μ) (st_merge p0 p1 (cn, sc, μ))) (fun _ _ => False) := by
  refine hk_X.ofWH (cc := cL_merge) (maxL := 5) (ret := (some .int)) (hh := [(0, 10, 13, 13), (0, 10, 17, 21)]) (by decide +kernel) rfl (Nat.le_of_ble_eq_true rfl) ?_
  intro p e s m args below meth c ls Q hQ X hr hlk htab K hs9 hS hl
  obtain ⟨hx, hb, hml, hown, hts⟩ := id X
  have hAE : ∀ q, (fun q => Z q ∨ q = o9) q → hk_A E q := fun q h => h.elim (fun h => hW.2.2.2.2.2.2.2.2.2.2.2.2 q h) (fun h => by rw [h]; exact hoA)
  have hl : lv_has ls 5 [(0, .ref ho), (1, .int p0), (2, .int p1), (3, .ref o9)] := hl
  have hZA : ∀ q, Z q → hk_A E q := hW.2.2.2.2.2.2.2.2.2.2.2.2
  refine lv_aload_n hx hb dL_merge_0 rfl (lv_at hl 3 rfl) ?_
  refine lv_iconst (v := 0) hx hb dL_merge_1 (by decide) ?_
  refine lv_aload_n hx hb dL_merge_2 rfl (lv_at hl 0 rfl) ?_
  refine lv_iload_n hx hb dL_merge_3 rfl (lv_at hl 1 rfl) ?_
  refine lv_iload_n hx hb dL_merge_4 rfl (lv_at hl 2 rfl) ?_
  refine hk_callVx 2 (As := [.int p0, .int p1]) (rest := [.int 0, .ref o9]) X K hAE hS hl.1 (HW.o hW) rfl (c_X10_merge E l hl9 H0 hW hI hZn (p0 := p0) (p1 := p1)) (fun q h => Or.inl h) gL_merge_X10_merge rfl ⟨rfl, hd_X10_merge⟩ rfl ⟨⟨(Nat.le_of_ble_eq_true rfl), (Nat.le_of_ble_eq_true rfl)⟩, (Nat.le_of_ble_eq_true rfl), (Nat.le_of_ble_eq_true rfl)⟩ rfl (Nat.le_of_ble_eq_true rfl) dL_merge_5 (fun x9 ce9 q9 H1 locs1 hp hS hz1 hk1 hce hcv hcl => by
      obtain ⟨hcs, G, R, hW⟩ := hp
      have hL1 : hk_L E o9 1 f0 H1 := (hk1 _ (ar_lt hL0) hoZ).trans hL0
      rcases hcs with ⟨hcd, rfl⟩ | ⟨hcd, rfl⟩ | ⟨hcd, rfl⟩
      · refine vx_catch (own := RL) (name := "java/lang/IndexOutOfBoundsException") hown [] ⟨0, 10, 13, 13⟩ [⟨0, 10, 17, 21⟩] htab (fun z hz => absurd hz List.not_mem_nil) rfl (by decide) (hts (.classLink RL 13 "java/lang/IndexOutOfBoundsException") (by decide +kernel)) (va_Nw.use rfl (K.2.2.2.2.1.2.2.2.1 ("java/lang/IndexOutOfBoundsException", "java/lang/IndexOutOfBoundsException") (by decide +kernel))) hce hcv hcl ?_
        refine lv_astore (lv' := [(4, .ref q9), (0, .ref ho), (1, .int p0), (2, .int p1), (3, .ref o9)]) hx hb dL_merge_13 hl (by decide) rfl (fun ls hl => ?_)
        refine lv_iconst (v := 1) hx hb dL_merge_15 (by decide) ?_
        exact hk_iretx X hr hlk hQ hS (Nat.le_of_ble_eq_true rfl) (Nat.le_of_ble_eq_true rfl) dL_merge_16 (lpost_x hcd (by decide) hW hL1)
      · refine vx_catch (own := RL) (name := "java/lang/IllegalStateException") hown [⟨0, 10, 13, 13⟩] ⟨0, 10, 17, 21⟩ [] htab (fun z hz => by rw [List.mem_singleton.mp hz]; exact Or.inr ⟨by decide, "java/lang/IndexOutOfBoundsException", (hts (.classLink RL 13 "java/lang/IndexOutOfBoundsException") (by decide +kernel)), K.2.2.2.2.1.2.2.2.2.2.2.1 ("java/lang/IllegalStateException", "java/lang/IndexOutOfBoundsException") (by decide +kernel)⟩) rfl (by decide) (hts (.classLink RL 21 "java/lang/IllegalStateException") (by decide +kernel)) (va_Nw.use rfl (K.2.2.2.2.1.2.2.2.1 ("java/lang/IllegalStateException", "java/lang/IllegalStateException") (by decide +kernel))) hce hcv hcl ?_
        refine lv_astore (lv' := [(4, .ref q9), (0, .ref ho), (1, .int p0), (2, .int p1), (3, .ref o9)]) hx hb dL_merge_17 hl (by decide) rfl (fun ls hl => ?_)
        refine lv_iconst (v := 2) hx hb dL_merge_19 (by decide) ?_
        exact hk_iretx X hr hlk hQ hS (Nat.le_of_ble_eq_true rfl) (Nat.le_of_ble_eq_true rfl) dL_merge_20 (lpost_x hcd (by decide) hW hL1)
      · exact absurd hcd cdn_merge
    ) (fun v9 H1 locs1 hp hS hz1 hk1 => ?_)
  obtain ⟨hcd, hv, G, R, hW⟩ := hp
  subst hv
  have hL1 : hk_L E o9 1 f0 H1 := (hk1 _ (ar_lt hL0) hoZ).trans hL0
  refine lv_i2l hx hb dL_merge_8 rfl ?_
  refine hk_lst X K hL1 hS (Or.inr rfl) (show vp_in (nI 0) 1 from vp_in_nI (by decide) (by decide)) dL_merge_9 (fun H1 locsH1 hIH1 hzH1 hqH1 hS => ?_)
  have hW := hW.kept (fun q h1 h2 => hqH1 q (fun g => by rw [g] at h2; exact h2.elim hoZ (fun h => h hoA)))
  refine lv_goto (tgt := 21) hx hb dL_merge_10 (by decide) ?_
  refine lv_iconst (v := 0) hx hb dL_merge_21 (by decide) ?_
  exact hk_iretx X hr hlk hQ hS (Nat.le_of_ble_eq_true rfl) (Nat.le_of_ble_eq_true rfl) dL_merge_22 (lpost_0 hcd hW hIH1 (out_at))

theorem cdn_split {p0 : Int32} {S : mS} : ¬ cd_split p0 S = 3 := by
  unfold cd_split; (repeat' split) <;> decide
theorem hd_X10_split : yX10_split.cls ≠ "java/lang/invoke/MethodHandle" ∧ yX10_split.cls ≠ "java/lang/invoke/VarHandle" ∧ (parseMethodDescriptor yX10_split.desc).map (fun d => d.parameters.length) = some 1 := ⟨by decide, by decide, by decide +kernel⟩
abbrev rmL_split : Room := { frames := 11, cells := 12, slots := 700, locals := 201 }
set_option maxHeartbeats 4000000 in
set_option maxRecDepth 100000 in
theorem c_L_split (E : hk_E) (l : Launch) (hl9 : l.stackTraces = false) (H0 : Heap) {Z : Nat → Prop} {ho ts : Nat} {li : Nat → Nat} {rr : Nat → Nat → Nat} {G : hG} {R : hR} {cn : Nat → Nat} {sc : Nat → Int32} {μ : Nat → Nat → Int32} (hW : HW E Z (ho, li, rr, ts) G R (cn, sc, μ) H0) (hI : InvF (cn, sc, μ)) (hZn : ∀ q, H0.size ≤ q → Z q) {o9 : Nat} {f0 : Nat → Int64} (hL0 : hk_L E o9 1 f0 H0) (hoZ : ¬ Z o9) (hoA : hk_A E o9) {p0 : Int32}  : hk_X E l yL_split wsL_split rmL_split (fun q => Z q ∨ q = o9) [.ref ho, .int p0, .ref o9] H0 (lpost E Z (ho, li, rr, ts) o9 (cd_split p0 (cn, sc, μ)) (an_split p0 (cn, sc, μ)) (cn, sc, μ) (st_split p0 (cn, sc, μ))) (fun _ _ => False) := by
  refine hk_X.ofWH (cc := cL_split) (maxL := 4) (ret := (some .int)) (hh := [(0, 9, 12, 13), (0, 9, 15, 21)]) (by decide +kernel) rfl (Nat.le_of_ble_eq_true rfl) ?_
  intro p e s m args below meth c ls Q hQ X hr hlk htab K hs9 hS hl
  obtain ⟨hx, hb, hml, hown, hts⟩ := id X
  have hAE : ∀ q, (fun q => Z q ∨ q = o9) q → hk_A E q := fun q h => h.elim (fun h => hW.2.2.2.2.2.2.2.2.2.2.2.2 q h) (fun h => by rw [h]; exact hoA)
  have hl : lv_has ls 4 [(0, .ref ho), (1, .int p0), (2, .ref o9)] := hl
  have hZA : ∀ q, Z q → hk_A E q := hW.2.2.2.2.2.2.2.2.2.2.2.2
  refine lv_aload_n hx hb dL_split_0 rfl (lv_at hl 2 rfl) ?_
  refine lv_iconst (v := 0) hx hb dL_split_1 (by decide) ?_
  refine lv_aload_n hx hb dL_split_2 rfl (lv_at hl 0 rfl) ?_
  refine lv_iload_n hx hb dL_split_3 rfl (lv_at hl 1 rfl) ?_
  refine hk_callVx 1 (As := [.int p0]) (rest := [.int 0, .ref o9]) X K hAE hS hl.1 (HW.o hW) rfl (c_X10_split E l hl9 H0 hW hI hZn (p0 := p0)) (fun q h => Or.inl h) gL_split_X10_split rfl ⟨rfl, hd_X10_split⟩ rfl ⟨⟨(Nat.le_of_ble_eq_true rfl), (Nat.le_of_ble_eq_true rfl)⟩, (Nat.le_of_ble_eq_true rfl), (Nat.le_of_ble_eq_true rfl)⟩ rfl (Nat.le_of_ble_eq_true rfl) dL_split_4 (fun x9 ce9 q9 H1 locs1 hp hS hz1 hk1 hce hcv hcl => by
      obtain ⟨hcs, G, R, hW⟩ := hp
      have hL1 : hk_L E o9 1 f0 H1 := (hk1 _ (ar_lt hL0) hoZ).trans hL0
      rcases hcs with ⟨hcd, rfl⟩ | ⟨hcd, rfl⟩ | ⟨hcd, rfl⟩
      · refine vx_catch (own := RL) (name := "java/lang/IndexOutOfBoundsException") hown [] ⟨0, 9, 12, 13⟩ [⟨0, 9, 15, 21⟩] htab (fun z hz => absurd hz List.not_mem_nil) rfl (by decide) (hts (.classLink RL 13 "java/lang/IndexOutOfBoundsException") (by decide +kernel)) (va_Nw.use rfl (K.2.2.2.2.1.2.2.2.1 ("java/lang/IndexOutOfBoundsException", "java/lang/IndexOutOfBoundsException") (by decide +kernel))) hce hcv hcl ?_
        refine lv_astore_n (lv' := [(3, .ref q9), (0, .ref ho), (1, .int p0), (2, .ref o9)]) hx hb dL_split_12 rfl hl (by decide) rfl (fun ls hl => ?_)
        refine lv_iconst (v := 1) hx hb dL_split_13 (by decide) ?_
        exact hk_iretx X hr hlk hQ hS (Nat.le_of_ble_eq_true rfl) (Nat.le_of_ble_eq_true rfl) dL_split_14 (lpost_x hcd (by decide) hW hL1)
      · refine vx_catch (own := RL) (name := "java/lang/IllegalStateException") hown [⟨0, 9, 12, 13⟩] ⟨0, 9, 15, 21⟩ [] htab (fun z hz => by rw [List.mem_singleton.mp hz]; exact Or.inr ⟨by decide, "java/lang/IndexOutOfBoundsException", (hts (.classLink RL 13 "java/lang/IndexOutOfBoundsException") (by decide +kernel)), K.2.2.2.2.1.2.2.2.2.2.2.1 ("java/lang/IllegalStateException", "java/lang/IndexOutOfBoundsException") (by decide +kernel)⟩) rfl (by decide) (hts (.classLink RL 21 "java/lang/IllegalStateException") (by decide +kernel)) (va_Nw.use rfl (K.2.2.2.2.1.2.2.2.1 ("java/lang/IllegalStateException", "java/lang/IllegalStateException") (by decide +kernel))) hce hcv hcl ?_
        refine lv_astore_n (lv' := [(3, .ref q9), (0, .ref ho), (1, .int p0), (2, .ref o9)]) hx hb dL_split_15 rfl hl (by decide) rfl (fun ls hl => ?_)
        refine lv_iconst (v := 2) hx hb dL_split_16 (by decide) ?_
        exact hk_iretx X hr hlk hQ hS (Nat.le_of_ble_eq_true rfl) (Nat.le_of_ble_eq_true rfl) dL_split_17 (lpost_x hcd (by decide) hW hL1)
      · exact absurd hcd cdn_split
    ) (fun v9 H1 locs1 hp hS hz1 hk1 => ?_)
  obtain ⟨hcd, hv, G, R, hW⟩ := hp
  subst hv
  have hL1 : hk_L E o9 1 f0 H1 := (hk1 _ (ar_lt hL0) hoZ).trans hL0
  refine lv_i2l hx hb dL_split_7 rfl ?_
  refine hk_lst X K hL1 hS (Or.inr rfl) (show vp_in (nI 0) 1 from vp_in_nI (by decide) (by decide)) dL_split_8 (fun H1 locsH1 hIH1 hzH1 hqH1 hS => ?_)
  have hW := hW.kept (fun q h1 h2 => hqH1 q (fun g => by rw [g] at h2; exact h2.elim hoZ (fun h => h hoA)))
  refine lv_goto (tgt := 18) hx hb dL_split_9 (by decide) ?_
  refine lv_iconst (v := 0) hx hb dL_split_18 (by decide) ?_
  exact hk_iretx X hr hlk hQ hS (Nat.le_of_ble_eq_true rfl) (Nat.le_of_ble_eq_true rfl) dL_split_19 (lpost_0 hcd hW hIH1 (out_at))

theorem cdn_entry {p0 : Int32} {S : mS} : ¬ cd_entry p0 S = 2 ∧ ¬ cd_entry p0 S = 3 := by
  unfold cd_entry; refine ⟨?_, ?_⟩ <;> (repeat' split) <;> decide
theorem hd_X10_entry : yX10_entry.cls ≠ "java/lang/invoke/MethodHandle" ∧ yX10_entry.cls ≠ "java/lang/invoke/VarHandle" ∧ (parseMethodDescriptor yX10_entry.desc).map (fun d => d.parameters.length) = some 1 := ⟨by decide, by decide, by decide +kernel⟩
abbrev rmL_entry : Room := { frames := 11, cells := 12, slots := 700, locals := 196 }
set_option maxHeartbeats 4000000 in
set_option maxRecDepth 100000 in
theorem c_L_entry (E : hk_E) (l : Launch) (hl9 : l.stackTraces = false) (H0 : Heap) {Z : Nat → Prop} {ho ts : Nat} {li : Nat → Nat} {rr : Nat → Nat → Nat} {G : hG} {R : hR} {cn : Nat → Nat} {sc : Nat → Int32} {μ : Nat → Nat → Int32} (hW : HW E Z (ho, li, rr, ts) G R (cn, sc, μ) H0) (hI : InvF (cn, sc, μ)) (hZn : ∀ q, H0.size ≤ q → Z q) {o9 : Nat} {f0 : Nat → Int64} (hL0 : hk_L E o9 1 f0 H0) (hoZ : ¬ Z o9) (hoA : hk_A E o9) {p0 : Int32}  : hk_X E l yL_entry wsL_entry rmL_entry (fun q => Z q ∨ q = o9) [.ref ho, .int p0, .ref o9] H0 (lpost E Z (ho, li, rr, ts) o9 (cd_entry p0 (cn, sc, μ)) (an_entry p0 (cn, sc, μ)) (cn, sc, μ) (st_entry p0 (cn, sc, μ))) (fun _ _ => False) := by
  refine hk_X.ofWH (cc := cL_entry) (maxL := 4) (ret := (some .int)) (hh := [(0, 9, 12, 13)]) (by decide +kernel) rfl (Nat.le_of_ble_eq_true rfl) ?_
  intro p e s m args below meth c ls Q hQ X hr hlk htab K hs9 hS hl
  obtain ⟨hx, hb, hml, hown, hts⟩ := id X
  have hAE : ∀ q, (fun q => Z q ∨ q = o9) q → hk_A E q := fun q h => h.elim (fun h => hW.2.2.2.2.2.2.2.2.2.2.2.2 q h) (fun h => by rw [h]; exact hoA)
  have hl : lv_has ls 4 [(0, .ref ho), (1, .int p0), (2, .ref o9)] := hl
  have hZA : ∀ q, Z q → hk_A E q := hW.2.2.2.2.2.2.2.2.2.2.2.2
  refine lv_aload_n hx hb dL_entry_0 rfl (lv_at hl 2 rfl) ?_
  refine lv_iconst (v := 0) hx hb dL_entry_1 (by decide) ?_
  refine lv_aload_n hx hb dL_entry_2 rfl (lv_at hl 0 rfl) ?_
  refine lv_iload_n hx hb dL_entry_3 rfl (lv_at hl 1 rfl) ?_
  refine hk_callVx 1 (As := [.int p0]) (rest := [.int 0, .ref o9]) X K hAE hS hl.1 (HW.o hW) rfl (c_X10_entry E l hl9 H0 hW hI hZn (p0 := p0)) (fun q h => Or.inl h) gL_entry_X10_entry rfl ⟨rfl, hd_X10_entry⟩ rfl ⟨⟨(Nat.le_of_ble_eq_true rfl), (Nat.le_of_ble_eq_true rfl)⟩, (Nat.le_of_ble_eq_true rfl), (Nat.le_of_ble_eq_true rfl)⟩ rfl (Nat.le_of_ble_eq_true rfl) dL_entry_4 (fun x9 ce9 q9 H1 locs1 hp hS hz1 hk1 hce hcv hcl => by
      obtain ⟨hcs, G, R, hW⟩ := hp
      have hL1 : hk_L E o9 1 f0 H1 := (hk1 _ (ar_lt hL0) hoZ).trans hL0
      rcases hcs with ⟨hcd, rfl⟩ | ⟨hcd, rfl⟩ | ⟨hcd, rfl⟩
      · refine vx_catch (own := RL) (name := "java/lang/IndexOutOfBoundsException") hown [] ⟨0, 9, 12, 13⟩ [] htab (fun z hz => absurd hz List.not_mem_nil) rfl (by decide) (hts (.classLink RL 13 "java/lang/IndexOutOfBoundsException") (by decide +kernel)) (va_Nw.use rfl (K.2.2.2.2.1.2.2.2.1 ("java/lang/IndexOutOfBoundsException", "java/lang/IndexOutOfBoundsException") (by decide +kernel))) hce hcv hcl ?_
        refine lv_astore_n (lv' := [(3, .ref q9), (0, .ref ho), (1, .int p0), (2, .ref o9)]) hx hb dL_entry_12 rfl hl (by decide) rfl (fun ls hl => ?_)
        refine lv_iconst (v := 1) hx hb dL_entry_13 (by decide) ?_
        exact hk_iretx X hr hlk hQ hS (Nat.le_of_ble_eq_true rfl) (Nat.le_of_ble_eq_true rfl) dL_entry_14 (lpost_x hcd (by decide) hW hL1)
      · exact absurd hcd cdn_entry.1
      · exact absurd hcd cdn_entry.2
    ) (fun v9 H1 locs1 hp hS hz1 hk1 => ?_)
  obtain ⟨hcd, hv, G, R, hW⟩ := hp
  subst hv
  have hL1 : hk_L E o9 1 f0 H1 := (hk1 _ (ar_lt hL0) hoZ).trans hL0
  refine lv_i2l hx hb dL_entry_7 rfl ?_
  refine hk_lst X K hL1 hS (Or.inr rfl) (show vp_in (nI 0) 1 from vp_in_nI (by decide) (by decide)) dL_entry_8 (fun H1 locsH1 hIH1 hzH1 hqH1 hS => ?_)
  have hW := hW.kept (fun q h1 h2 => hqH1 q (fun g => by rw [g] at h2; exact h2.elim hoZ (fun h => h hoA)))
  refine lv_goto (tgt := 15) hx hb dL_entry_9 (by decide) ?_
  refine lv_iconst (v := 0) hx hb dL_entry_15 (by decide) ?_
  exact hk_iretx X hr hlk hQ hS (Nat.le_of_ble_eq_true rfl) (Nat.le_of_ble_eq_true rfl) dL_entry_16 (lpost_0 hcd hW hIH1 (out_at))

theorem cdn_entries {p0 : Int32} {S : mS} : ¬ cd_entries p0 S = 2 ∧ ¬ cd_entries p0 S = 3 := by
  unfold cd_entries; refine ⟨?_, ?_⟩ <;> (repeat' split) <;> decide
theorem hd_X10_entries : yX10_entries.cls ≠ "java/lang/invoke/MethodHandle" ∧ yX10_entries.cls ≠ "java/lang/invoke/VarHandle" ∧ (parseMethodDescriptor yX10_entries.desc).map (fun d => d.parameters.length) = some 1 := ⟨by decide, by decide, by decide +kernel⟩
abbrev rmL_entries : Room := { frames := 10, cells := 12, slots := 700, locals := 177 }
set_option maxHeartbeats 4000000 in
set_option maxRecDepth 100000 in
theorem c_L_entries (E : hk_E) (l : Launch) (hl9 : l.stackTraces = false) (H0 : Heap) {Z : Nat → Prop} {ho ts : Nat} {li : Nat → Nat} {rr : Nat → Nat → Nat} {G : hG} {R : hR} {cn : Nat → Nat} {sc : Nat → Int32} {μ : Nat → Nat → Int32} (hW : HW E Z (ho, li, rr, ts) G R (cn, sc, μ) H0) (hI : InvF (cn, sc, μ)) (hZn : ∀ q, H0.size ≤ q → Z q) {o9 : Nat} {f0 : Nat → Int64} (hL0 : hk_L E o9 1 f0 H0) (hoZ : ¬ Z o9) (hoA : hk_A E o9) {p0 : Int32}  : hk_X E l yL_entries wsL_entries rmL_entries (fun q => Z q ∨ q = o9) [.ref ho, .int p0, .ref o9] H0 (lpost E Z (ho, li, rr, ts) o9 (cd_entries p0 (cn, sc, μ)) (an_entries p0 (cn, sc, μ)) (cn, sc, μ) (st_entries p0 (cn, sc, μ))) (fun _ _ => False) := by
  refine hk_X.ofWH (cc := cL_entries) (maxL := 4) (ret := (some .int)) (hh := [(0, 9, 12, 13)]) (by decide +kernel) rfl (Nat.le_of_ble_eq_true rfl) ?_
  intro p e s m args below meth c ls Q hQ X hr hlk htab K hs9 hS hl
  obtain ⟨hx, hb, hml, hown, hts⟩ := id X
  have hAE : ∀ q, (fun q => Z q ∨ q = o9) q → hk_A E q := fun q h => h.elim (fun h => hW.2.2.2.2.2.2.2.2.2.2.2.2 q h) (fun h => by rw [h]; exact hoA)
  have hl : lv_has ls 4 [(0, .ref ho), (1, .int p0), (2, .ref o9)] := hl
  have hZA : ∀ q, Z q → hk_A E q := hW.2.2.2.2.2.2.2.2.2.2.2.2
  refine lv_aload_n hx hb dL_entries_0 rfl (lv_at hl 2 rfl) ?_
  refine lv_iconst (v := 0) hx hb dL_entries_1 (by decide) ?_
  refine lv_aload_n hx hb dL_entries_2 rfl (lv_at hl 0 rfl) ?_
  refine lv_iload_n hx hb dL_entries_3 rfl (lv_at hl 1 rfl) ?_
  refine hk_callVx 1 (As := [.int p0]) (rest := [.int 0, .ref o9]) X K hAE hS hl.1 (HW.o hW) rfl (c_X10_entries E l hl9 H0 hW hI hZn (p0 := p0)) (fun q h => Or.inl h) gL_entries_X10_entries rfl ⟨rfl, hd_X10_entries⟩ rfl ⟨⟨(Nat.le_of_ble_eq_true rfl), (Nat.le_of_ble_eq_true rfl)⟩, (Nat.le_of_ble_eq_true rfl), (Nat.le_of_ble_eq_true rfl)⟩ rfl (Nat.le_of_ble_eq_true rfl) dL_entries_4 (fun x9 ce9 q9 H1 locs1 hp hS hz1 hk1 hce hcv hcl => by
      obtain ⟨hcs, G, R, hW⟩ := hp
      have hL1 : hk_L E o9 1 f0 H1 := (hk1 _ (ar_lt hL0) hoZ).trans hL0
      rcases hcs with ⟨hcd, rfl⟩ | ⟨hcd, rfl⟩ | ⟨hcd, rfl⟩
      · refine vx_catch (own := RL) (name := "java/lang/IndexOutOfBoundsException") hown [] ⟨0, 9, 12, 13⟩ [] htab (fun z hz => absurd hz List.not_mem_nil) rfl (by decide) (hts (.classLink RL 13 "java/lang/IndexOutOfBoundsException") (by decide +kernel)) (va_Nw.use rfl (K.2.2.2.2.1.2.2.2.1 ("java/lang/IndexOutOfBoundsException", "java/lang/IndexOutOfBoundsException") (by decide +kernel))) hce hcv hcl ?_
        refine lv_astore_n (lv' := [(3, .ref q9), (0, .ref ho), (1, .int p0), (2, .ref o9)]) hx hb dL_entries_12 rfl hl (by decide) rfl (fun ls hl => ?_)
        refine lv_iconst (v := 1) hx hb dL_entries_13 (by decide) ?_
        exact hk_iretx X hr hlk hQ hS (Nat.le_of_ble_eq_true rfl) (Nat.le_of_ble_eq_true rfl) dL_entries_14 (lpost_x hcd (by decide) hW hL1)
      · exact absurd hcd cdn_entries.1
      · exact absurd hcd cdn_entries.2
    ) (fun v9 H1 locs1 hp hS hz1 hk1 => ?_)
  obtain ⟨hcd, hv, G, R, hW⟩ := hp
  subst hv
  have hL1 : hk_L E o9 1 f0 H1 := (hk1 _ (ar_lt hL0) hoZ).trans hL0
  refine lv_i2l hx hb dL_entries_7 rfl ?_
  refine hk_lst X K hL1 hS (Or.inr rfl) (show vp_in (nI 0) 1 from vp_in_nI (by decide) (by decide)) dL_entries_8 (fun H1 locsH1 hIH1 hzH1 hqH1 hS => ?_)
  have hW := hW.kept (fun q h1 h2 => hqH1 q (fun g => by rw [g] at h2; exact h2.elim hoZ (fun h => h hoA)))
  refine lv_goto (tgt := 15) hx hb dL_entries_9 (by decide) ?_
  refine lv_iconst (v := 0) hx hb dL_entries_15 (by decide) ?_
  exact hk_iretx X hr hlk hQ hS (Nat.le_of_ble_eq_true rfl) (Nat.le_of_ble_eq_true rfl) dL_entries_16 (lpost_0 hcd hW hIH1 (out_at))

theorem cdn_look {p0 p1 : Int32} {S : mS} : ¬ cd_look p0 p1 S = 3 := by
  unfold cd_look; (repeat' split) <;> decide
theorem hd_X10_look : yX10_look.cls ≠ "java/lang/invoke/MethodHandle" ∧ yX10_look.cls ≠ "java/lang/invoke/VarHandle" ∧ (parseMethodDescriptor yX10_look.desc).map (fun d => d.parameters.length) = some 2 := ⟨by decide, by decide, by decide +kernel⟩
abbrev rmL_look : Room := { frames := 11, cells := 12, slots := 700, locals := 198 }
set_option maxHeartbeats 4000000 in
set_option maxRecDepth 100000 in
theorem c_L_look (E : hk_E) (l : Launch) (hl9 : l.stackTraces = false) (H0 : Heap) {Z : Nat → Prop} {ho ts : Nat} {li : Nat → Nat} {rr : Nat → Nat → Nat} {G : hG} {R : hR} {cn : Nat → Nat} {sc : Nat → Int32} {μ : Nat → Nat → Int32} (hW : HW E Z (ho, li, rr, ts) G R (cn, sc, μ) H0) (hI : InvF (cn, sc, μ)) (hZn : ∀ q, H0.size ≤ q → Z q) {o9 : Nat} {f0 : Nat → Int64} (hL0 : hk_L E o9 1 f0 H0) (hoZ : ¬ Z o9) (hoA : hk_A E o9) {p0 p1 : Int32}  : hk_X E l yL_look wsL_look rmL_look (fun q => Z q ∨ q = o9) [.ref ho, .int p0, .int p1, .ref o9] H0 (lpost E Z (ho, li, rr, ts) o9 (cd_look p0 p1 (cn, sc, μ)) (an_look p0 p1 (cn, sc, μ)) (cn, sc, μ) (st_look p0 p1 (cn, sc, μ))) (fun _ _ => False) := by
  refine hk_X.ofWH (cc := cL_look) (maxL := 5) (ret := (some .int)) (hh := [(0, 10, 13, 13), (0, 10, 17, 15)]) (by decide +kernel) rfl (Nat.le_of_ble_eq_true rfl) ?_
  intro p e s m args below meth c ls Q hQ X hr hlk htab K hs9 hS hl
  obtain ⟨hx, hb, hml, hown, hts⟩ := id X
  have hAE : ∀ q, (fun q => Z q ∨ q = o9) q → hk_A E q := fun q h => h.elim (fun h => hW.2.2.2.2.2.2.2.2.2.2.2.2 q h) (fun h => by rw [h]; exact hoA)
  have hl : lv_has ls 5 [(0, .ref ho), (1, .int p0), (2, .int p1), (3, .ref o9)] := hl
  have hZA : ∀ q, Z q → hk_A E q := hW.2.2.2.2.2.2.2.2.2.2.2.2
  refine lv_aload_n hx hb dL_look_0 rfl (lv_at hl 3 rfl) ?_
  refine lv_iconst (v := 0) hx hb dL_look_1 (by decide) ?_
  refine lv_aload_n hx hb dL_look_2 rfl (lv_at hl 0 rfl) ?_
  refine lv_iload_n hx hb dL_look_3 rfl (lv_at hl 1 rfl) ?_
  refine lv_iload_n hx hb dL_look_4 rfl (lv_at hl 2 rfl) ?_
  refine hk_callVx 2 (As := [.int p0, .int p1]) (rest := [.int 0, .ref o9]) X K hAE hS hl.1 (HW.o hW) rfl (c_X10_look E l hl9 H0 hW hI hZn (p0 := p0) (p1 := p1)) (fun q h => Or.inl h) gL_look_X10_look rfl ⟨rfl, hd_X10_look⟩ rfl ⟨⟨(Nat.le_of_ble_eq_true rfl), (Nat.le_of_ble_eq_true rfl)⟩, (Nat.le_of_ble_eq_true rfl), (Nat.le_of_ble_eq_true rfl)⟩ rfl (Nat.le_of_ble_eq_true rfl) dL_look_5 (fun x9 ce9 q9 H1 locs1 hp hS hz1 hk1 hce hcv hcl => by
      obtain ⟨hcs, G, R, hW⟩ := hp
      have hL1 : hk_L E o9 1 f0 H1 := (hk1 _ (ar_lt hL0) hoZ).trans hL0
      rcases hcs with ⟨hcd, rfl⟩ | ⟨hcd, rfl⟩ | ⟨hcd, rfl⟩
      · refine vx_catch (own := RL) (name := "java/lang/IndexOutOfBoundsException") hown [] ⟨0, 10, 13, 13⟩ [⟨0, 10, 17, 15⟩] htab (fun z hz => absurd hz List.not_mem_nil) rfl (by decide) (hts (.classLink RL 13 "java/lang/IndexOutOfBoundsException") (by decide +kernel)) (va_Nw.use rfl (K.2.2.2.2.1.2.2.2.1 ("java/lang/IndexOutOfBoundsException", "java/lang/IndexOutOfBoundsException") (by decide +kernel))) hce hcv hcl ?_
        refine lv_astore (lv' := [(4, .ref q9), (0, .ref ho), (1, .int p0), (2, .int p1), (3, .ref o9)]) hx hb dL_look_13 hl (by decide) rfl (fun ls hl => ?_)
        refine lv_iconst (v := 1) hx hb dL_look_15 (by decide) ?_
        exact hk_iretx X hr hlk hQ hS (Nat.le_of_ble_eq_true rfl) (Nat.le_of_ble_eq_true rfl) dL_look_16 (lpost_x hcd (by decide) hW hL1)
      · refine vx_catch (own := RL) (name := "java/lang/IllegalArgumentException") hown [⟨0, 10, 13, 13⟩] ⟨0, 10, 17, 15⟩ [] htab (fun z hz => by rw [List.mem_singleton.mp hz]; exact Or.inr ⟨by decide, "java/lang/IndexOutOfBoundsException", (hts (.classLink RL 13 "java/lang/IndexOutOfBoundsException") (by decide +kernel)), K.2.2.2.2.1.2.2.2.2.2.2.1 ("java/lang/IllegalArgumentException", "java/lang/IndexOutOfBoundsException") (by decide +kernel)⟩) rfl (by decide) (hts (.classLink RL 15 "java/lang/IllegalArgumentException") (by decide +kernel)) (va_Nw.use rfl (K.2.2.2.2.1.2.2.2.1 ("java/lang/IllegalArgumentException", "java/lang/IllegalArgumentException") (by decide +kernel))) hce hcv hcl ?_
        refine lv_astore (lv' := [(4, .ref q9), (0, .ref ho), (1, .int p0), (2, .int p1), (3, .ref o9)]) hx hb dL_look_17 hl (by decide) rfl (fun ls hl => ?_)
        refine lv_iconst (v := 2) hx hb dL_look_19 (by decide) ?_
        exact hk_iretx X hr hlk hQ hS (Nat.le_of_ble_eq_true rfl) (Nat.le_of_ble_eq_true rfl) dL_look_20 (lpost_x hcd (by decide) hW hL1)
      · exact absurd hcd cdn_look
    ) (fun v9 H1 locs1 hp hS hz1 hk1 => ?_)
  obtain ⟨hcd, hv, G, R, hW⟩ := hp
  subst hv
  have hL1 : hk_L E o9 1 f0 H1 := (hk1 _ (ar_lt hL0) hoZ).trans hL0
  refine lv_i2l hx hb dL_look_8 rfl ?_
  refine hk_lst X K hL1 hS (Or.inr rfl) (show vp_in (nI 0) 1 from vp_in_nI (by decide) (by decide)) dL_look_9 (fun H1 locsH1 hIH1 hzH1 hqH1 hS => ?_)
  have hW := hW.kept (fun q h1 h2 => hqH1 q (fun g => by rw [g] at h2; exact h2.elim hoZ (fun h => h hoA)))
  refine lv_goto (tgt := 21) hx hb dL_look_10 (by decide) ?_
  refine lv_iconst (v := 0) hx hb dL_look_21 (by decide) ?_
  exact hk_iretx X hr hlk hQ hS (Nat.le_of_ble_eq_true rfl) (Nat.le_of_ble_eq_true rfl) dL_look_22 (lpost_0 hcd hW hIH1 (out_at))

theorem cdn_string {p0 p1 : Int32} {S : mS} : ¬ cd_string p0 p1 S = 3 := by
  unfold cd_string; (repeat' split) <;> decide
theorem hd_X10_string : yX10_string.cls ≠ "java/lang/invoke/MethodHandle" ∧ yX10_string.cls ≠ "java/lang/invoke/VarHandle" ∧ (parseMethodDescriptor yX10_string.desc).map (fun d => d.parameters.length) = some 2 := ⟨by decide, by decide, by decide +kernel⟩
abbrev rmL_string : Room := { frames := 11, cells := 12, slots := 700, locals := 202 }
set_option maxHeartbeats 4000000 in
set_option maxRecDepth 100000 in
theorem c_L_string (E : hk_E) (l : Launch) (hl9 : l.stackTraces = false) (H0 : Heap) {Z : Nat → Prop} {ho ts : Nat} {li : Nat → Nat} {rr : Nat → Nat → Nat} {G : hG} {R : hR} {cn : Nat → Nat} {sc : Nat → Int32} {μ : Nat → Nat → Int32} (hW : HW E Z (ho, li, rr, ts) G R (cn, sc, μ) H0) (hI : InvF (cn, sc, μ)) (hZn : ∀ q, H0.size ≤ q → Z q) {o9 : Nat} {f0 : Nat → Int64} (hL0 : hk_L E o9 1 f0 H0) (hoZ : ¬ Z o9) (hoA : hk_A E o9) {p0 p1 : Int32}  : hk_X E l yL_string wsL_string rmL_string (fun q => Z q ∨ q = o9) [.ref ho, .int p0, .int p1, .ref o9] H0 (lpost E Z (ho, li, rr, ts) o9 (cd_string p0 p1 (cn, sc, μ)) (an_string p0 p1 (cn, sc, μ)) (cn, sc, μ) (st_string p0 p1 (cn, sc, μ))) (fun _ _ => False) := by
  refine hk_X.ofWH (cc := cL_string) (maxL := 5) (ret := (some .int)) (hh := [(0, 10, 13, 13), (0, 10, 17, 15)]) (by decide +kernel) rfl (Nat.le_of_ble_eq_true rfl) ?_
  intro p e s m args below meth c ls Q hQ X hr hlk htab K hs9 hS hl
  obtain ⟨hx, hb, hml, hown, hts⟩ := id X
  have hAE : ∀ q, (fun q => Z q ∨ q = o9) q → hk_A E q := fun q h => h.elim (fun h => hW.2.2.2.2.2.2.2.2.2.2.2.2 q h) (fun h => by rw [h]; exact hoA)
  have hl : lv_has ls 5 [(0, .ref ho), (1, .int p0), (2, .int p1), (3, .ref o9)] := hl
  have hZA : ∀ q, Z q → hk_A E q := hW.2.2.2.2.2.2.2.2.2.2.2.2
  refine lv_aload_n hx hb dL_string_0 rfl (lv_at hl 3 rfl) ?_
  refine lv_iconst (v := 0) hx hb dL_string_1 (by decide) ?_
  refine lv_aload_n hx hb dL_string_2 rfl (lv_at hl 0 rfl) ?_
  refine lv_iload_n hx hb dL_string_3 rfl (lv_at hl 1 rfl) ?_
  refine lv_iload_n hx hb dL_string_4 rfl (lv_at hl 2 rfl) ?_
  refine hk_callVx 2 (As := [.int p0, .int p1]) (rest := [.int 0, .ref o9]) X K hAE hS hl.1 (HW.o hW) rfl (c_X10_string E l hl9 H0 hW hI hZn (p0 := p0) (p1 := p1)) (fun q h => Or.inl h) gL_string_X10_string rfl ⟨rfl, hd_X10_string⟩ rfl ⟨⟨(Nat.le_of_ble_eq_true rfl), (Nat.le_of_ble_eq_true rfl)⟩, (Nat.le_of_ble_eq_true rfl), (Nat.le_of_ble_eq_true rfl)⟩ rfl (Nat.le_of_ble_eq_true rfl) dL_string_5 (fun x9 ce9 q9 H1 locs1 hp hS hz1 hk1 hce hcv hcl => by
      obtain ⟨hcs, G, R, hW⟩ := hp
      have hL1 : hk_L E o9 1 f0 H1 := (hk1 _ (ar_lt hL0) hoZ).trans hL0
      rcases hcs with ⟨hcd, rfl⟩ | ⟨hcd, rfl⟩ | ⟨hcd, rfl⟩
      · refine vx_catch (own := RL) (name := "java/lang/IndexOutOfBoundsException") hown [] ⟨0, 10, 13, 13⟩ [⟨0, 10, 17, 15⟩] htab (fun z hz => absurd hz List.not_mem_nil) rfl (by decide) (hts (.classLink RL 13 "java/lang/IndexOutOfBoundsException") (by decide +kernel)) (va_Nw.use rfl (K.2.2.2.2.1.2.2.2.1 ("java/lang/IndexOutOfBoundsException", "java/lang/IndexOutOfBoundsException") (by decide +kernel))) hce hcv hcl ?_
        refine lv_astore (lv' := [(4, .ref q9), (0, .ref ho), (1, .int p0), (2, .int p1), (3, .ref o9)]) hx hb dL_string_13 hl (by decide) rfl (fun ls hl => ?_)
        refine lv_iconst (v := 1) hx hb dL_string_15 (by decide) ?_
        exact hk_iretx X hr hlk hQ hS (Nat.le_of_ble_eq_true rfl) (Nat.le_of_ble_eq_true rfl) dL_string_16 (lpost_x hcd (by decide) hW hL1)
      · refine vx_catch (own := RL) (name := "java/lang/IllegalArgumentException") hown [⟨0, 10, 13, 13⟩] ⟨0, 10, 17, 15⟩ [] htab (fun z hz => by rw [List.mem_singleton.mp hz]; exact Or.inr ⟨by decide, "java/lang/IndexOutOfBoundsException", (hts (.classLink RL 13 "java/lang/IndexOutOfBoundsException") (by decide +kernel)), K.2.2.2.2.1.2.2.2.2.2.2.1 ("java/lang/IllegalArgumentException", "java/lang/IndexOutOfBoundsException") (by decide +kernel)⟩) rfl (by decide) (hts (.classLink RL 15 "java/lang/IllegalArgumentException") (by decide +kernel)) (va_Nw.use rfl (K.2.2.2.2.1.2.2.2.1 ("java/lang/IllegalArgumentException", "java/lang/IllegalArgumentException") (by decide +kernel))) hce hcv hcl ?_
        refine lv_astore (lv' := [(4, .ref q9), (0, .ref ho), (1, .int p0), (2, .int p1), (3, .ref o9)]) hx hb dL_string_17 hl (by decide) rfl (fun ls hl => ?_)
        refine lv_iconst (v := 2) hx hb dL_string_19 (by decide) ?_
        exact hk_iretx X hr hlk hQ hS (Nat.le_of_ble_eq_true rfl) (Nat.le_of_ble_eq_true rfl) dL_string_20 (lpost_x hcd (by decide) hW hL1)
      · exact absurd hcd cdn_string
    ) (fun v9 H1 locs1 hp hS hz1 hk1 => ?_)
  obtain ⟨hcd, hv, G, R, hW⟩ := hp
  subst hv
  have hL1 : hk_L E o9 1 f0 H1 := (hk1 _ (ar_lt hL0) hoZ).trans hL0
  refine lv_i2l hx hb dL_string_8 rfl ?_
  refine hk_lst X K hL1 hS (Or.inr rfl) (show vp_in (nI 0) 1 from vp_in_nI (by decide) (by decide)) dL_string_9 (fun H1 locsH1 hIH1 hzH1 hqH1 hS => ?_)
  have hW := hW.kept (fun q h1 h2 => hqH1 q (fun g => by rw [g] at h2; exact h2.elim hoZ (fun h => h hoA)))
  refine lv_goto (tgt := 21) hx hb dL_string_10 (by decide) ?_
  refine lv_iconst (v := 0) hx hb dL_string_21 (by decide) ?_
  exact hk_iretx X hr hlk hQ hS (Nat.le_of_ble_eq_true rfl) (Nat.le_of_ble_eq_true rfl) dL_string_22 (lpost_0 hcd hW hIH1 (out_at))

theorem cdn_together {p0 p1 p2 : Int32} {S : mS} : ¬ cd_together p0 p1 p2 S = 3 := by
  unfold cd_together; (repeat' split) <;> decide
theorem hd_X10_together : yX10_together.cls ≠ "java/lang/invoke/MethodHandle" ∧ yX10_together.cls ≠ "java/lang/invoke/VarHandle" ∧ (parseMethodDescriptor yX10_together.desc).map (fun d => d.parameters.length) = some 3 := ⟨by decide, by decide, by decide +kernel⟩
abbrev rmL_together : Room := { frames := 11, cells := 12, slots := 700, locals := 204 }
set_option maxHeartbeats 4000000 in
set_option maxRecDepth 100000 in
theorem c_L_together (E : hk_E) (l : Launch) (hl9 : l.stackTraces = false) (H0 : Heap) {Z : Nat → Prop} {ho ts : Nat} {li : Nat → Nat} {rr : Nat → Nat → Nat} {G : hG} {R : hR} {cn : Nat → Nat} {sc : Nat → Int32} {μ : Nat → Nat → Int32} (hW : HW E Z (ho, li, rr, ts) G R (cn, sc, μ) H0) (hI : InvF (cn, sc, μ)) (hZn : ∀ q, H0.size ≤ q → Z q) {o9 : Nat} {f0 : Nat → Int64} (hL0 : hk_L E o9 1 f0 H0) (hoZ : ¬ Z o9) (hoA : hk_A E o9) {p0 p1 p2 : Int32}  : hk_X E l yL_together wsL_together rmL_together (fun q => Z q ∨ q = o9) [.ref ho, .int p0, .int p1, .int p2, .ref o9] H0 (lpost E Z (ho, li, rr, ts) o9 (cd_together p0 p1 p2 (cn, sc, μ)) (an_together p0 p1 p2 (cn, sc, μ)) (cn, sc, μ) (st_together p0 p1 p2 (cn, sc, μ))) (fun _ _ => False) := by
  refine hk_X.ofWH (cc := cL_together) (maxL := 6) (ret := (some .int)) (hh := [(0, 12, 15, 13), (0, 12, 19, 15)]) (by decide +kernel) rfl (Nat.le_of_ble_eq_true rfl) ?_
  intro p e s m args below meth c ls Q hQ X hr hlk htab K hs9 hS hl
  obtain ⟨hx, hb, hml, hown, hts⟩ := id X
  have hAE : ∀ q, (fun q => Z q ∨ q = o9) q → hk_A E q := fun q h => h.elim (fun h => hW.2.2.2.2.2.2.2.2.2.2.2.2 q h) (fun h => by rw [h]; exact hoA)
  have hl : lv_has ls 6 [(0, .ref ho), (1, .int p0), (2, .int p1), (3, .int p2), (4, .ref o9)] := hl
  have hZA : ∀ q, Z q → hk_A E q := hW.2.2.2.2.2.2.2.2.2.2.2.2
  refine lv_aload hx hb dL_together_0 (lv_at hl 4 rfl) ?_
  refine lv_iconst (v := 0) hx hb dL_together_2 (by decide) ?_
  refine lv_aload_n hx hb dL_together_3 rfl (lv_at hl 0 rfl) ?_
  refine lv_iload_n hx hb dL_together_4 rfl (lv_at hl 1 rfl) ?_
  refine lv_iload_n hx hb dL_together_5 rfl (lv_at hl 2 rfl) ?_
  refine lv_iload_n hx hb dL_together_6 rfl (lv_at hl 3 rfl) ?_
  refine hk_callVx 3 (As := [.int p0, .int p1, .int p2]) (rest := [.int 0, .ref o9]) X K hAE hS hl.1 (HW.o hW) rfl (c_X10_together E l hl9 H0 hW hI hZn (p0 := p0) (p1 := p1) (p2 := p2)) (fun q h => Or.inl h) gL_together_X10_together rfl ⟨rfl, hd_X10_together⟩ rfl ⟨⟨(Nat.le_of_ble_eq_true rfl), (Nat.le_of_ble_eq_true rfl)⟩, (Nat.le_of_ble_eq_true rfl), (Nat.le_of_ble_eq_true rfl)⟩ rfl (Nat.le_of_ble_eq_true rfl) dL_together_7 (fun x9 ce9 q9 H1 locs1 hp hS hz1 hk1 hce hcv hcl => by
      obtain ⟨hcs, G, R, hW⟩ := hp
      have hL1 : hk_L E o9 1 f0 H1 := (hk1 _ (ar_lt hL0) hoZ).trans hL0
      rcases hcs with ⟨hcd, rfl⟩ | ⟨hcd, rfl⟩ | ⟨hcd, rfl⟩
      · refine vx_catch (own := RL) (name := "java/lang/IndexOutOfBoundsException") hown [] ⟨0, 12, 15, 13⟩ [⟨0, 12, 19, 15⟩] htab (fun z hz => absurd hz List.not_mem_nil) rfl (by decide) (hts (.classLink RL 13 "java/lang/IndexOutOfBoundsException") (by decide +kernel)) (va_Nw.use rfl (K.2.2.2.2.1.2.2.2.1 ("java/lang/IndexOutOfBoundsException", "java/lang/IndexOutOfBoundsException") (by decide +kernel))) hce hcv hcl ?_
        refine lv_astore (lv' := [(5, .ref q9), (0, .ref ho), (1, .int p0), (2, .int p1), (3, .int p2), (4, .ref o9)]) hx hb dL_together_15 hl (by decide) rfl (fun ls hl => ?_)
        refine lv_iconst (v := 1) hx hb dL_together_17 (by decide) ?_
        exact hk_iretx X hr hlk hQ hS (Nat.le_of_ble_eq_true rfl) (Nat.le_of_ble_eq_true rfl) dL_together_18 (lpost_x hcd (by decide) hW hL1)
      · refine vx_catch (own := RL) (name := "java/lang/IllegalArgumentException") hown [⟨0, 12, 15, 13⟩] ⟨0, 12, 19, 15⟩ [] htab (fun z hz => by rw [List.mem_singleton.mp hz]; exact Or.inr ⟨by decide, "java/lang/IndexOutOfBoundsException", (hts (.classLink RL 13 "java/lang/IndexOutOfBoundsException") (by decide +kernel)), K.2.2.2.2.1.2.2.2.2.2.2.1 ("java/lang/IllegalArgumentException", "java/lang/IndexOutOfBoundsException") (by decide +kernel)⟩) rfl (by decide) (hts (.classLink RL 15 "java/lang/IllegalArgumentException") (by decide +kernel)) (va_Nw.use rfl (K.2.2.2.2.1.2.2.2.1 ("java/lang/IllegalArgumentException", "java/lang/IllegalArgumentException") (by decide +kernel))) hce hcv hcl ?_
        refine lv_astore (lv' := [(5, .ref q9), (0, .ref ho), (1, .int p0), (2, .int p1), (3, .int p2), (4, .ref o9)]) hx hb dL_together_19 hl (by decide) rfl (fun ls hl => ?_)
        refine lv_iconst (v := 2) hx hb dL_together_21 (by decide) ?_
        exact hk_iretx X hr hlk hQ hS (Nat.le_of_ble_eq_true rfl) (Nat.le_of_ble_eq_true rfl) dL_together_22 (lpost_x hcd (by decide) hW hL1)
      · exact absurd hcd cdn_together
    ) (fun v9 H1 locs1 hp hS hz1 hk1 => ?_)
  obtain ⟨hcd, hv, G, R, hW⟩ := hp
  subst hv
  have hL1 : hk_L E o9 1 f0 H1 := (hk1 _ (ar_lt hL0) hoZ).trans hL0
  refine lv_i2l hx hb dL_together_10 rfl ?_
  refine hk_lst X K hL1 hS (Or.inr rfl) (show vp_in (nI 0) 1 from vp_in_nI (by decide) (by decide)) dL_together_11 (fun H1 locsH1 hIH1 hzH1 hqH1 hS => ?_)
  have hW := hW.kept (fun q h1 h2 => hqH1 q (fun g => by rw [g] at h2; exact h2.elim hoZ (fun h => h hoA)))
  refine lv_goto (tgt := 23) hx hb dL_together_12 (by decide) ?_
  refine lv_iconst (v := 0) hx hb dL_together_23 (by decide) ?_
  exact hk_iretx X hr hlk hQ hS (Nat.le_of_ble_eq_true rfl) (Nat.le_of_ble_eq_true rfl) dL_together_24 (lpost_0 hcd hW hIH1 (out_at))

theorem hd_X10_period : yX10_period.cls ≠ "java/lang/invoke/MethodHandle" ∧ yX10_period.cls ≠ "java/lang/invoke/VarHandle" ∧ (parseMethodDescriptor yX10_period.desc).map (fun d => d.parameters.length) = some 4 := ⟨by decide, by decide, by decide +kernel⟩
abbrev rmL_period : Room := { frames := 12, cells := 12, slots := 700, locals := 226 }
set_option maxHeartbeats 4000000 in
set_option maxRecDepth 100000 in
theorem c_L_period (E : hk_E) (l : Launch) (hl9 : l.stackTraces = false) (H0 : Heap) {Z : Nat → Prop} {ho ts : Nat} {li : Nat → Nat} {rr : Nat → Nat → Nat} {G : hG} {R : hR} {cn : Nat → Nat} {sc : Nat → Int32} {μ : Nat → Nat → Int32} (hW : HW E Z (ho, li, rr, ts) G R (cn, sc, μ) H0) (hI : InvF (cn, sc, μ)) (hZn : ∀ q, H0.size ≤ q → Z q) {o9 : Nat} {f0 : Nat → Int64} (hL0 : hk_L E o9 1 f0 H0) (hoZ : ¬ Z o9) (hoA : hk_A E o9) {p0 p1 p2 p3 : Int32}  : hk_X E l yL_period wsL_period rmL_period (fun q => Z q ∨ q = o9) [.ref ho, .int p0, .int p1, .int p2, .int p3, .ref o9] H0 (lpost E Z (ho, li, rr, ts) o9 (cd_period p0 p1 p2 p3 (cn, sc, μ)) (an_period p0 p1 p2 p3 (cn, sc, μ)) (cn, sc, μ) (st_period p0 p1 p2 p3 (cn, sc, μ))) (fun _ _ => False) := by
  refine hk_X.ofWH (cc := cL_period) (maxL := 7) (ret := (some .int)) (hh := [(0, 14, 17, 13), (0, 14, 21, 15), (0, 14, 25, 21)]) (by decide +kernel) rfl (Nat.le_of_ble_eq_true rfl) ?_
  intro p e s m args below meth c ls Q hQ X hr hlk htab K hs9 hS hl
  obtain ⟨hx, hb, hml, hown, hts⟩ := id X
  have hAE : ∀ q, (fun q => Z q ∨ q = o9) q → hk_A E q := fun q h => h.elim (fun h => hW.2.2.2.2.2.2.2.2.2.2.2.2 q h) (fun h => by rw [h]; exact hoA)
  have hl : lv_has ls 7 [(0, .ref ho), (1, .int p0), (2, .int p1), (3, .int p2), (4, .int p3), (5, .ref o9)] := hl
  have hZA : ∀ q, Z q → hk_A E q := hW.2.2.2.2.2.2.2.2.2.2.2.2
  refine lv_aload hx hb dL_period_0 (lv_at hl 5 rfl) ?_
  refine lv_iconst (v := 0) hx hb dL_period_2 (by decide) ?_
  refine lv_aload_n hx hb dL_period_3 rfl (lv_at hl 0 rfl) ?_
  refine lv_iload_n hx hb dL_period_4 rfl (lv_at hl 1 rfl) ?_
  refine lv_iload_n hx hb dL_period_5 rfl (lv_at hl 2 rfl) ?_
  refine lv_iload_n hx hb dL_period_6 rfl (lv_at hl 3 rfl) ?_
  refine lv_iload hx hb dL_period_7 (lv_at hl 4 rfl) ?_
  refine hk_callVx 4 (As := [.int p0, .int p1, .int p2, .int p3]) (rest := [.int 0, .ref o9]) X K hAE hS hl.1 (HW.o hW) rfl (c_X10_period E l hl9 H0 hW hI hZn (p0 := p0) (p1 := p1) (p2 := p2) (p3 := p3)) (fun q h => Or.inl h) gL_period_X10_period rfl ⟨rfl, hd_X10_period⟩ rfl ⟨⟨(Nat.le_of_ble_eq_true rfl), (Nat.le_of_ble_eq_true rfl)⟩, (Nat.le_of_ble_eq_true rfl), (Nat.le_of_ble_eq_true rfl)⟩ rfl (Nat.le_of_ble_eq_true rfl) dL_period_9 (fun x9 ce9 q9 H1 locs1 hp hS hz1 hk1 hce hcv hcl => by
      obtain ⟨hcs, G, R, hW⟩ := hp
      have hL1 : hk_L E o9 1 f0 H1 := (hk1 _ (ar_lt hL0) hoZ).trans hL0
      rcases hcs with ⟨hcd, rfl⟩ | ⟨hcd, rfl⟩ | ⟨hcd, rfl⟩
      · refine vx_catch (own := RL) (name := "java/lang/IndexOutOfBoundsException") hown [] ⟨0, 14, 17, 13⟩ [⟨0, 14, 21, 15⟩, ⟨0, 14, 25, 21⟩] htab (fun z hz => absurd hz List.not_mem_nil) rfl (by decide) (hts (.classLink RL 13 "java/lang/IndexOutOfBoundsException") (by decide +kernel)) (va_Nw.use rfl (K.2.2.2.2.1.2.2.2.1 ("java/lang/IndexOutOfBoundsException", "java/lang/IndexOutOfBoundsException") (by decide +kernel))) hce hcv hcl ?_
        refine lv_astore (lv' := [(6, .ref q9), (0, .ref ho), (1, .int p0), (2, .int p1), (3, .int p2), (4, .int p3), (5, .ref o9)]) hx hb dL_period_17 hl (by decide) rfl (fun ls hl => ?_)
        refine lv_iconst (v := 1) hx hb dL_period_19 (by decide) ?_
        exact hk_iretx X hr hlk hQ hS (Nat.le_of_ble_eq_true rfl) (Nat.le_of_ble_eq_true rfl) dL_period_20 (lpost_x hcd (by decide) hW hL1)
      · refine vx_catch (own := RL) (name := "java/lang/IllegalArgumentException") hown [⟨0, 14, 17, 13⟩] ⟨0, 14, 21, 15⟩ [⟨0, 14, 25, 21⟩] htab (fun z hz => by rw [List.mem_singleton.mp hz]; exact Or.inr ⟨by decide, "java/lang/IndexOutOfBoundsException", (hts (.classLink RL 13 "java/lang/IndexOutOfBoundsException") (by decide +kernel)), K.2.2.2.2.1.2.2.2.2.2.2.1 ("java/lang/IllegalArgumentException", "java/lang/IndexOutOfBoundsException") (by decide +kernel)⟩) rfl (by decide) (hts (.classLink RL 15 "java/lang/IllegalArgumentException") (by decide +kernel)) (va_Nw.use rfl (K.2.2.2.2.1.2.2.2.1 ("java/lang/IllegalArgumentException", "java/lang/IllegalArgumentException") (by decide +kernel))) hce hcv hcl ?_
        refine lv_astore (lv' := [(6, .ref q9), (0, .ref ho), (1, .int p0), (2, .int p1), (3, .int p2), (4, .int p3), (5, .ref o9)]) hx hb dL_period_21 hl (by decide) rfl (fun ls hl => ?_)
        refine lv_iconst (v := 2) hx hb dL_period_23 (by decide) ?_
        exact hk_iretx X hr hlk hQ hS (Nat.le_of_ble_eq_true rfl) (Nat.le_of_ble_eq_true rfl) dL_period_24 (lpost_x hcd (by decide) hW hL1)
      · refine vx_catch (own := RL) (name := "java/lang/IllegalStateException") hown [⟨0, 14, 17, 13⟩, ⟨0, 14, 21, 15⟩] ⟨0, 14, 25, 21⟩ [] htab (fun z hz => by
              rcases List.mem_cons.mp hz with g | g
              · rw [g]; exact Or.inr ⟨by decide, "java/lang/IndexOutOfBoundsException", (hts (.classLink RL 13 "java/lang/IndexOutOfBoundsException") (by decide +kernel)), K.2.2.2.2.1.2.2.2.2.2.2.1 ("java/lang/IllegalStateException", "java/lang/IndexOutOfBoundsException") (by decide +kernel)⟩
              · rw [List.mem_singleton.mp g]; exact Or.inr ⟨by decide, "java/lang/IllegalArgumentException", (hts (.classLink RL 15 "java/lang/IllegalArgumentException") (by decide +kernel)), K.2.2.2.2.1.2.2.2.2.2.2.1 ("java/lang/IllegalStateException", "java/lang/IllegalArgumentException") (by decide +kernel)⟩) rfl (by decide) (hts (.classLink RL 21 "java/lang/IllegalStateException") (by decide +kernel)) (va_Nw.use rfl (K.2.2.2.2.1.2.2.2.1 ("java/lang/IllegalStateException", "java/lang/IllegalStateException") (by decide +kernel))) hce hcv hcl ?_
        refine lv_astore (lv' := [(6, .ref q9), (0, .ref ho), (1, .int p0), (2, .int p1), (3, .int p2), (4, .int p3), (5, .ref o9)]) hx hb dL_period_25 hl (by decide) rfl (fun ls hl => ?_)
        refine lv_iconst (v := 3) hx hb dL_period_27 (by decide) ?_
        exact hk_iretx X hr hlk hQ hS (Nat.le_of_ble_eq_true rfl) (Nat.le_of_ble_eq_true rfl) dL_period_28 (lpost_x hcd (by decide) hW hL1)
    ) (fun v9 H1 locs1 hp hS hz1 hk1 => ?_)
  obtain ⟨hcd, hv, G, R, hW⟩ := hp
  subst hv
  have hL1 : hk_L E o9 1 f0 H1 := (hk1 _ (ar_lt hL0) hoZ).trans hL0
  refine lv_i2l hx hb dL_period_12 rfl ?_
  refine hk_lst X K hL1 hS (Or.inr rfl) (show vp_in (nI 0) 1 from vp_in_nI (by decide) (by decide)) dL_period_13 (fun H1 locsH1 hIH1 hzH1 hqH1 hS => ?_)
  have hW := hW.kept (fun q h1 h2 => hqH1 q (fun g => by rw [g] at h2; exact h2.elim hoZ (fun h => h hoA)))
  refine lv_goto (tgt := 29) hx hb dL_period_14 (by decide) ?_
  refine lv_iconst (v := 0) hx hb dL_period_29 (by decide) ?_
  exact hk_iretx X hr hlk hQ hS (Nat.le_of_ble_eq_true rfl) (Nat.le_of_ble_eq_true rfl) dL_period_30 (lpost_0 hcd hW hIH1 (out_at))

theorem hd_X10_aliases : yX10_aliases.cls ≠ "java/lang/invoke/MethodHandle" ∧ yX10_aliases.cls ≠ "java/lang/invoke/VarHandle" ∧ (parseMethodDescriptor yX10_aliases.desc).map (fun d => d.parameters.length) = some 5 := ⟨by decide, by decide, by decide +kernel⟩
abbrev rmL_aliases : Room := { frames := 12, cells := 12, slots := 700, locals := 227 }
set_option maxHeartbeats 4000000 in
set_option maxRecDepth 100000 in
theorem c_L_aliases (E : hk_E) (l : Launch) (hl9 : l.stackTraces = false) (H0 : Heap) {Z : Nat → Prop} {ho ts : Nat} {li : Nat → Nat} {rr : Nat → Nat → Nat} {G : hG} {R : hR} {cn : Nat → Nat} {sc : Nat → Int32} {μ : Nat → Nat → Int32} (hW : HW E Z (ho, li, rr, ts) G R (cn, sc, μ) H0) (hI : InvF (cn, sc, μ)) (hZn : ∀ q, H0.size ≤ q → Z q) {o9 : Nat} {f0 : Nat → Int64} (hL0 : hk_L E o9 1 f0 H0) (hoZ : ¬ Z o9) (hoA : hk_A E o9) {p0 p1 p2 p3 p4 : Int32}  : hk_X E l yL_aliases wsL_aliases rmL_aliases (fun q => Z q ∨ q = o9) [.ref ho, .int p0, .int p1, .int p2, .int p3, .int p4, .ref o9] H0 (lpost E Z (ho, li, rr, ts) o9 (cd_aliases p0 p1 p2 p3 p4 (cn, sc, μ)) (an_aliases p0 p1 p2 p3 p4 (cn, sc, μ)) (cn, sc, μ) (st_aliases p0 p1 p2 p3 p4 (cn, sc, μ))) (fun _ _ => False) := by
  refine hk_X.ofWH (cc := cL_aliases) (maxL := 8) (ret := (some .int)) (hh := [(0, 16, 19, 13), (0, 16, 23, 15), (0, 16, 27, 21)]) (by decide +kernel) rfl (Nat.le_of_ble_eq_true rfl) ?_
  intro p e s m args below meth c ls Q hQ X hr hlk htab K hs9 hS hl
  obtain ⟨hx, hb, hml, hown, hts⟩ := id X
  have hAE : ∀ q, (fun q => Z q ∨ q = o9) q → hk_A E q := fun q h => h.elim (fun h => hW.2.2.2.2.2.2.2.2.2.2.2.2 q h) (fun h => by rw [h]; exact hoA)
  have hl : lv_has ls 8 [(0, .ref ho), (1, .int p0), (2, .int p1), (3, .int p2), (4, .int p3), (5, .int p4), (6, .ref o9)] := hl
  have hZA : ∀ q, Z q → hk_A E q := hW.2.2.2.2.2.2.2.2.2.2.2.2
  refine lv_aload hx hb dL_aliases_0 (lv_at hl 6 rfl) ?_
  refine lv_iconst (v := 0) hx hb dL_aliases_2 (by decide) ?_
  refine lv_aload_n hx hb dL_aliases_3 rfl (lv_at hl 0 rfl) ?_
  refine lv_iload_n hx hb dL_aliases_4 rfl (lv_at hl 1 rfl) ?_
  refine lv_iload_n hx hb dL_aliases_5 rfl (lv_at hl 2 rfl) ?_
  refine lv_iload_n hx hb dL_aliases_6 rfl (lv_at hl 3 rfl) ?_
  refine lv_iload hx hb dL_aliases_7 (lv_at hl 4 rfl) ?_
  refine lv_iload hx hb dL_aliases_9 (lv_at hl 5 rfl) ?_
  refine hk_callVx 5 (As := [.int p0, .int p1, .int p2, .int p3, .int p4]) (rest := [.int 0, .ref o9]) X K hAE hS hl.1 (HW.o hW) rfl (c_X10_aliases E l hl9 H0 hW hI hZn (p0 := p0) (p1 := p1) (p2 := p2) (p3 := p3) (p4 := p4)) (fun q h => Or.inl h) gL_aliases_X10_aliases rfl ⟨rfl, hd_X10_aliases⟩ rfl ⟨⟨(Nat.le_of_ble_eq_true rfl), (Nat.le_of_ble_eq_true rfl)⟩, (Nat.le_of_ble_eq_true rfl), (Nat.le_of_ble_eq_true rfl)⟩ rfl (Nat.le_of_ble_eq_true rfl) dL_aliases_11 (fun x9 ce9 q9 H1 locs1 hp hS hz1 hk1 hce hcv hcl => by
      obtain ⟨hcs, G, R, hW⟩ := hp
      have hL1 : hk_L E o9 1 f0 H1 := (hk1 _ (ar_lt hL0) hoZ).trans hL0
      rcases hcs with ⟨hcd, rfl⟩ | ⟨hcd, rfl⟩ | ⟨hcd, rfl⟩
      · refine vx_catch (own := RL) (name := "java/lang/IndexOutOfBoundsException") hown [] ⟨0, 16, 19, 13⟩ [⟨0, 16, 23, 15⟩, ⟨0, 16, 27, 21⟩] htab (fun z hz => absurd hz List.not_mem_nil) rfl (by decide) (hts (.classLink RL 13 "java/lang/IndexOutOfBoundsException") (by decide +kernel)) (va_Nw.use rfl (K.2.2.2.2.1.2.2.2.1 ("java/lang/IndexOutOfBoundsException", "java/lang/IndexOutOfBoundsException") (by decide +kernel))) hce hcv hcl ?_
        refine lv_astore (lv' := [(7, .ref q9), (0, .ref ho), (1, .int p0), (2, .int p1), (3, .int p2), (4, .int p3), (5, .int p4), (6, .ref o9)]) hx hb dL_aliases_19 hl (by decide) rfl (fun ls hl => ?_)
        refine lv_iconst (v := 1) hx hb dL_aliases_21 (by decide) ?_
        exact hk_iretx X hr hlk hQ hS (Nat.le_of_ble_eq_true rfl) (Nat.le_of_ble_eq_true rfl) dL_aliases_22 (lpost_x hcd (by decide) hW hL1)
      · refine vx_catch (own := RL) (name := "java/lang/IllegalArgumentException") hown [⟨0, 16, 19, 13⟩] ⟨0, 16, 23, 15⟩ [⟨0, 16, 27, 21⟩] htab (fun z hz => by rw [List.mem_singleton.mp hz]; exact Or.inr ⟨by decide, "java/lang/IndexOutOfBoundsException", (hts (.classLink RL 13 "java/lang/IndexOutOfBoundsException") (by decide +kernel)), K.2.2.2.2.1.2.2.2.2.2.2.1 ("java/lang/IllegalArgumentException", "java/lang/IndexOutOfBoundsException") (by decide +kernel)⟩) rfl (by decide) (hts (.classLink RL 15 "java/lang/IllegalArgumentException") (by decide +kernel)) (va_Nw.use rfl (K.2.2.2.2.1.2.2.2.1 ("java/lang/IllegalArgumentException", "java/lang/IllegalArgumentException") (by decide +kernel))) hce hcv hcl ?_
        refine lv_astore (lv' := [(7, .ref q9), (0, .ref ho), (1, .int p0), (2, .int p1), (3, .int p2), (4, .int p3), (5, .int p4), (6, .ref o9)]) hx hb dL_aliases_23 hl (by decide) rfl (fun ls hl => ?_)
        refine lv_iconst (v := 2) hx hb dL_aliases_25 (by decide) ?_
        exact hk_iretx X hr hlk hQ hS (Nat.le_of_ble_eq_true rfl) (Nat.le_of_ble_eq_true rfl) dL_aliases_26 (lpost_x hcd (by decide) hW hL1)
      · refine vx_catch (own := RL) (name := "java/lang/IllegalStateException") hown [⟨0, 16, 19, 13⟩, ⟨0, 16, 23, 15⟩] ⟨0, 16, 27, 21⟩ [] htab (fun z hz => by
              rcases List.mem_cons.mp hz with g | g
              · rw [g]; exact Or.inr ⟨by decide, "java/lang/IndexOutOfBoundsException", (hts (.classLink RL 13 "java/lang/IndexOutOfBoundsException") (by decide +kernel)), K.2.2.2.2.1.2.2.2.2.2.2.1 ("java/lang/IllegalStateException", "java/lang/IndexOutOfBoundsException") (by decide +kernel)⟩
              · rw [List.mem_singleton.mp g]; exact Or.inr ⟨by decide, "java/lang/IllegalArgumentException", (hts (.classLink RL 15 "java/lang/IllegalArgumentException") (by decide +kernel)), K.2.2.2.2.1.2.2.2.2.2.2.1 ("java/lang/IllegalStateException", "java/lang/IllegalArgumentException") (by decide +kernel)⟩) rfl (by decide) (hts (.classLink RL 21 "java/lang/IllegalStateException") (by decide +kernel)) (va_Nw.use rfl (K.2.2.2.2.1.2.2.2.1 ("java/lang/IllegalStateException", "java/lang/IllegalStateException") (by decide +kernel))) hce hcv hcl ?_
        refine lv_astore (lv' := [(7, .ref q9), (0, .ref ho), (1, .int p0), (2, .int p1), (3, .int p2), (4, .int p3), (5, .int p4), (6, .ref o9)]) hx hb dL_aliases_27 hl (by decide) rfl (fun ls hl => ?_)
        refine lv_iconst (v := 3) hx hb dL_aliases_29 (by decide) ?_
        exact hk_iretx X hr hlk hQ hS (Nat.le_of_ble_eq_true rfl) (Nat.le_of_ble_eq_true rfl) dL_aliases_30 (lpost_x hcd (by decide) hW hL1)
    ) (fun v9 H1 locs1 hp hS hz1 hk1 => ?_)
  obtain ⟨hcd, hv, G, R, hW⟩ := hp
  subst hv
  have hL1 : hk_L E o9 1 f0 H1 := (hk1 _ (ar_lt hL0) hoZ).trans hL0
  refine lv_i2l hx hb dL_aliases_14 rfl ?_
  refine hk_lst X K hL1 hS (Or.inr rfl) (show vp_in (nI 0) 1 from vp_in_nI (by decide) (by decide)) dL_aliases_15 (fun H1 locsH1 hIH1 hzH1 hqH1 hS => ?_)
  have hW := hW.kept (fun q h1 h2 => hqH1 q (fun g => by rw [g] at h2; exact h2.elim hoZ (fun h => h hoA)))
  refine lv_goto (tgt := 31) hx hb dL_aliases_16 (by decide) ?_
  refine lv_iconst (v := 0) hx hb dL_aliases_31 (by decide) ?_
  exact hk_iretx X hr hlk hQ hS (Nat.le_of_ble_eq_true rfl) (Nat.le_of_ble_eq_true rfl) dL_aliases_32 (lpost_0 hcd hW hIH1 (out_at))

theorem cdn_claim {p0 p1 : Int32} {S : mS} : ¬ cd_claim p0 p1 S = 3 := by
  unfold cd_claim; (repeat' split) <;> decide
theorem hd_X10_claim : yX10_claim.cls ≠ "java/lang/invoke/MethodHandle" ∧ yX10_claim.cls ≠ "java/lang/invoke/VarHandle" ∧ (parseMethodDescriptor yX10_claim.desc).map (fun d => d.parameters.length) = some 2 := ⟨by decide, by decide, by decide +kernel⟩
abbrev rmL_claim : Room := { frames := 11, cells := 12, slots := 700, locals := 199 }
set_option maxHeartbeats 4000000 in
set_option maxRecDepth 100000 in
theorem c_L_claim (E : hk_E) (l : Launch) (hl9 : l.stackTraces = false) (H0 : Heap) {Z : Nat → Prop} {ho ts : Nat} {li : Nat → Nat} {rr : Nat → Nat → Nat} {G : hG} {R : hR} {cn : Nat → Nat} {sc : Nat → Int32} {μ : Nat → Nat → Int32} (hW : HW E Z (ho, li, rr, ts) G R (cn, sc, μ) H0) (hI : InvF (cn, sc, μ)) (hZn : ∀ q, H0.size ≤ q → Z q) {o9 : Nat} {f0 : Nat → Int64} (hL0 : hk_L E o9 1 f0 H0) (hoZ : ¬ Z o9) (hoA : hk_A E o9) {p0 p1 : Int32}  : hk_X E l yL_claim wsL_claim rmL_claim (fun q => Z q ∨ q = o9) [.ref ho, .int p0, .int p1, .ref o9] H0 (lpost E Z (ho, li, rr, ts) o9 (cd_claim p0 p1 (cn, sc, μ)) (an_claim p0 p1 (cn, sc, μ)) (cn, sc, μ) (st_claim p0 p1 (cn, sc, μ))) (fun _ _ => False) := by
  refine hk_X.ofWH (cc := cL_claim) (maxL := 5) (ret := (some .int)) (hh := [(0, 10, 13, 13), (0, 10, 17, 15)]) (by decide +kernel) rfl (Nat.le_of_ble_eq_true rfl) ?_
  intro p e s m args below meth c ls Q hQ X hr hlk htab K hs9 hS hl
  obtain ⟨hx, hb, hml, hown, hts⟩ := id X
  have hAE : ∀ q, (fun q => Z q ∨ q = o9) q → hk_A E q := fun q h => h.elim (fun h => hW.2.2.2.2.2.2.2.2.2.2.2.2 q h) (fun h => by rw [h]; exact hoA)
  have hl : lv_has ls 5 [(0, .ref ho), (1, .int p0), (2, .int p1), (3, .ref o9)] := hl
  have hZA : ∀ q, Z q → hk_A E q := hW.2.2.2.2.2.2.2.2.2.2.2.2
  refine lv_aload_n hx hb dL_claim_0 rfl (lv_at hl 3 rfl) ?_
  refine lv_iconst (v := 0) hx hb dL_claim_1 (by decide) ?_
  refine lv_aload_n hx hb dL_claim_2 rfl (lv_at hl 0 rfl) ?_
  refine lv_iload_n hx hb dL_claim_3 rfl (lv_at hl 1 rfl) ?_
  refine lv_iload_n hx hb dL_claim_4 rfl (lv_at hl 2 rfl) ?_
  refine hk_callVx 2 (As := [.int p0, .int p1]) (rest := [.int 0, .ref o9]) X K hAE hS hl.1 (HW.o hW) rfl (c_X10_claim E l hl9 H0 hW hI hZn (p0 := p0) (p1 := p1)) (fun q h => Or.inl h) gL_claim_X10_claim rfl ⟨rfl, hd_X10_claim⟩ rfl ⟨⟨(Nat.le_of_ble_eq_true rfl), (Nat.le_of_ble_eq_true rfl)⟩, (Nat.le_of_ble_eq_true rfl), (Nat.le_of_ble_eq_true rfl)⟩ rfl (Nat.le_of_ble_eq_true rfl) dL_claim_5 (fun x9 ce9 q9 H1 locs1 hp hS hz1 hk1 hce hcv hcl => by
      obtain ⟨hcs, G, R, hW⟩ := hp
      have hL1 : hk_L E o9 1 f0 H1 := (hk1 _ (ar_lt hL0) hoZ).trans hL0
      rcases hcs with ⟨hcd, rfl⟩ | ⟨hcd, rfl⟩ | ⟨hcd, rfl⟩
      · refine vx_catch (own := RL) (name := "java/lang/IndexOutOfBoundsException") hown [] ⟨0, 10, 13, 13⟩ [⟨0, 10, 17, 15⟩] htab (fun z hz => absurd hz List.not_mem_nil) rfl (by decide) (hts (.classLink RL 13 "java/lang/IndexOutOfBoundsException") (by decide +kernel)) (va_Nw.use rfl (K.2.2.2.2.1.2.2.2.1 ("java/lang/IndexOutOfBoundsException", "java/lang/IndexOutOfBoundsException") (by decide +kernel))) hce hcv hcl ?_
        refine lv_astore (lv' := [(4, .ref q9), (0, .ref ho), (1, .int p0), (2, .int p1), (3, .ref o9)]) hx hb dL_claim_13 hl (by decide) rfl (fun ls hl => ?_)
        refine lv_iconst (v := 1) hx hb dL_claim_15 (by decide) ?_
        exact hk_iretx X hr hlk hQ hS (Nat.le_of_ble_eq_true rfl) (Nat.le_of_ble_eq_true rfl) dL_claim_16 (lpost_x hcd (by decide) hW hL1)
      · refine vx_catch (own := RL) (name := "java/lang/IllegalArgumentException") hown [⟨0, 10, 13, 13⟩] ⟨0, 10, 17, 15⟩ [] htab (fun z hz => by rw [List.mem_singleton.mp hz]; exact Or.inr ⟨by decide, "java/lang/IndexOutOfBoundsException", (hts (.classLink RL 13 "java/lang/IndexOutOfBoundsException") (by decide +kernel)), K.2.2.2.2.1.2.2.2.2.2.2.1 ("java/lang/IllegalArgumentException", "java/lang/IndexOutOfBoundsException") (by decide +kernel)⟩) rfl (by decide) (hts (.classLink RL 15 "java/lang/IllegalArgumentException") (by decide +kernel)) (va_Nw.use rfl (K.2.2.2.2.1.2.2.2.1 ("java/lang/IllegalArgumentException", "java/lang/IllegalArgumentException") (by decide +kernel))) hce hcv hcl ?_
        refine lv_astore (lv' := [(4, .ref q9), (0, .ref ho), (1, .int p0), (2, .int p1), (3, .ref o9)]) hx hb dL_claim_17 hl (by decide) rfl (fun ls hl => ?_)
        refine lv_iconst (v := 2) hx hb dL_claim_19 (by decide) ?_
        exact hk_iretx X hr hlk hQ hS (Nat.le_of_ble_eq_true rfl) (Nat.le_of_ble_eq_true rfl) dL_claim_20 (lpost_x hcd (by decide) hW hL1)
      · exact absurd hcd cdn_claim
    ) (fun v9 H1 locs1 hp hS hz1 hk1 => ?_)
  obtain ⟨hcd, hv, G, R, hW⟩ := hp
  subst hv
  have hL1 : hk_L E o9 1 f0 H1 := (hk1 _ (ar_lt hL0) hoZ).trans hL0
  refine lv_i2l hx hb dL_claim_8 rfl ?_
  refine hk_lst X K hL1 hS (Or.inr rfl) (show vp_in (nI 0) 1 from vp_in_nI (by decide) (by decide)) dL_claim_9 (fun H1 locsH1 hIH1 hzH1 hqH1 hS => ?_)
  have hW := hW.kept (fun q h1 h2 => hqH1 q (fun g => by rw [g] at h2; exact h2.elim hoZ (fun h => h hoA)))
  refine lv_goto (tgt := 21) hx hb dL_claim_10 (by decide) ?_
  refine lv_iconst (v := 0) hx hb dL_claim_21 (by decide) ?_
  exact hk_iretx X hr hlk hQ hS (Nat.le_of_ble_eq_true rfl) (Nat.le_of_ble_eq_true rfl) dL_claim_22 (lpost_0 hcd hW hIH1 (out_at))

theorem hd_X10_feature : yX10_feature.cls ≠ "java/lang/invoke/MethodHandle" ∧ yX10_feature.cls ≠ "java/lang/invoke/VarHandle" ∧ (parseMethodDescriptor yX10_feature.desc).map (fun d => d.parameters.length) = some 2 := ⟨by decide, by decide, by decide +kernel⟩
abbrev rmL_feature : Room := { frames := 12, cells := 12, slots := 700, locals := 224 }
set_option maxHeartbeats 4000000 in
set_option maxRecDepth 100000 in
theorem c_L_feature (E : hk_E) (l : Launch) (hl9 : l.stackTraces = false) (H0 : Heap) {Z : Nat → Prop} {ho ts : Nat} {li : Nat → Nat} {rr : Nat → Nat → Nat} {G : hG} {R : hR} {cn : Nat → Nat} {sc : Nat → Int32} {μ : Nat → Nat → Int32} (hW : HW E Z (ho, li, rr, ts) G R (cn, sc, μ) H0) (hI : InvF (cn, sc, μ)) (hZn : ∀ q, H0.size ≤ q → Z q) {o9 : Nat} {f0 : Nat → Int64} (hL0 : hk_L E o9 1 f0 H0) (hoZ : ¬ Z o9) (hoA : hk_A E o9) {p0 p1 : Int32}  : hk_X E l yL_feature wsL_feature rmL_feature (fun q => Z q ∨ q = o9) [.ref ho, .int p0, .int p1, .ref o9] H0 (lpost E Z (ho, li, rr, ts) o9 (cd_feature p0 p1 (cn, sc, μ)) (an_feature p0 p1 (cn, sc, μ)) (cn, sc, μ) (st_feature p0 p1 (cn, sc, μ))) (fun _ _ => False) := by
  refine hk_X.ofWH (cc := cL_feature) (maxL := 5) (ret := (some .int)) (hh := [(0, 10, 13, 13), (0, 10, 17, 15), (0, 10, 21, 21)]) (by decide +kernel) rfl (Nat.le_of_ble_eq_true rfl) ?_
  intro p e s m args below meth c ls Q hQ X hr hlk htab K hs9 hS hl
  obtain ⟨hx, hb, hml, hown, hts⟩ := id X
  have hAE : ∀ q, (fun q => Z q ∨ q = o9) q → hk_A E q := fun q h => h.elim (fun h => hW.2.2.2.2.2.2.2.2.2.2.2.2 q h) (fun h => by rw [h]; exact hoA)
  have hl : lv_has ls 5 [(0, .ref ho), (1, .int p0), (2, .int p1), (3, .ref o9)] := hl
  have hZA : ∀ q, Z q → hk_A E q := hW.2.2.2.2.2.2.2.2.2.2.2.2
  refine lv_aload_n hx hb dL_feature_0 rfl (lv_at hl 3 rfl) ?_
  refine lv_iconst (v := 0) hx hb dL_feature_1 (by decide) ?_
  refine lv_aload_n hx hb dL_feature_2 rfl (lv_at hl 0 rfl) ?_
  refine lv_iload_n hx hb dL_feature_3 rfl (lv_at hl 1 rfl) ?_
  refine lv_iload_n hx hb dL_feature_4 rfl (lv_at hl 2 rfl) ?_
  refine hk_callVx 2 (As := [.int p0, .int p1]) (rest := [.int 0, .ref o9]) X K hAE hS hl.1 (HW.o hW) rfl (c_X10_feature E l hl9 H0 hW hI hZn (p0 := p0) (p1 := p1)) (fun q h => Or.inl h) gL_feature_X10_feature rfl ⟨rfl, hd_X10_feature⟩ rfl ⟨⟨(Nat.le_of_ble_eq_true rfl), (Nat.le_of_ble_eq_true rfl)⟩, (Nat.le_of_ble_eq_true rfl), (Nat.le_of_ble_eq_true rfl)⟩ rfl (Nat.le_of_ble_eq_true rfl) dL_feature_5 (fun x9 ce9 q9 H1 locs1 hp hS hz1 hk1 hce hcv hcl => by
      obtain ⟨hcs, G, R, hW⟩ := hp
      have hL1 : hk_L E o9 1 f0 H1 := (hk1 _ (ar_lt hL0) hoZ).trans hL0
      rcases hcs with ⟨hcd, rfl⟩ | ⟨hcd, rfl⟩ | ⟨hcd, rfl⟩
      · refine vx_catch (own := RL) (name := "java/lang/IndexOutOfBoundsException") hown [] ⟨0, 10, 13, 13⟩ [⟨0, 10, 17, 15⟩, ⟨0, 10, 21, 21⟩] htab (fun z hz => absurd hz List.not_mem_nil) rfl (by decide) (hts (.classLink RL 13 "java/lang/IndexOutOfBoundsException") (by decide +kernel)) (va_Nw.use rfl (K.2.2.2.2.1.2.2.2.1 ("java/lang/IndexOutOfBoundsException", "java/lang/IndexOutOfBoundsException") (by decide +kernel))) hce hcv hcl ?_
        refine lv_astore (lv' := [(4, .ref q9), (0, .ref ho), (1, .int p0), (2, .int p1), (3, .ref o9)]) hx hb dL_feature_13 hl (by decide) rfl (fun ls hl => ?_)
        refine lv_iconst (v := 1) hx hb dL_feature_15 (by decide) ?_
        exact hk_iretx X hr hlk hQ hS (Nat.le_of_ble_eq_true rfl) (Nat.le_of_ble_eq_true rfl) dL_feature_16 (lpost_x hcd (by decide) hW hL1)
      · refine vx_catch (own := RL) (name := "java/lang/IllegalArgumentException") hown [⟨0, 10, 13, 13⟩] ⟨0, 10, 17, 15⟩ [⟨0, 10, 21, 21⟩] htab (fun z hz => by rw [List.mem_singleton.mp hz]; exact Or.inr ⟨by decide, "java/lang/IndexOutOfBoundsException", (hts (.classLink RL 13 "java/lang/IndexOutOfBoundsException") (by decide +kernel)), K.2.2.2.2.1.2.2.2.2.2.2.1 ("java/lang/IllegalArgumentException", "java/lang/IndexOutOfBoundsException") (by decide +kernel)⟩) rfl (by decide) (hts (.classLink RL 15 "java/lang/IllegalArgumentException") (by decide +kernel)) (va_Nw.use rfl (K.2.2.2.2.1.2.2.2.1 ("java/lang/IllegalArgumentException", "java/lang/IllegalArgumentException") (by decide +kernel))) hce hcv hcl ?_
        refine lv_astore (lv' := [(4, .ref q9), (0, .ref ho), (1, .int p0), (2, .int p1), (3, .ref o9)]) hx hb dL_feature_17 hl (by decide) rfl (fun ls hl => ?_)
        refine lv_iconst (v := 2) hx hb dL_feature_19 (by decide) ?_
        exact hk_iretx X hr hlk hQ hS (Nat.le_of_ble_eq_true rfl) (Nat.le_of_ble_eq_true rfl) dL_feature_20 (lpost_x hcd (by decide) hW hL1)
      · refine vx_catch (own := RL) (name := "java/lang/IllegalStateException") hown [⟨0, 10, 13, 13⟩, ⟨0, 10, 17, 15⟩] ⟨0, 10, 21, 21⟩ [] htab (fun z hz => by
              rcases List.mem_cons.mp hz with g | g
              · rw [g]; exact Or.inr ⟨by decide, "java/lang/IndexOutOfBoundsException", (hts (.classLink RL 13 "java/lang/IndexOutOfBoundsException") (by decide +kernel)), K.2.2.2.2.1.2.2.2.2.2.2.1 ("java/lang/IllegalStateException", "java/lang/IndexOutOfBoundsException") (by decide +kernel)⟩
              · rw [List.mem_singleton.mp g]; exact Or.inr ⟨by decide, "java/lang/IllegalArgumentException", (hts (.classLink RL 15 "java/lang/IllegalArgumentException") (by decide +kernel)), K.2.2.2.2.1.2.2.2.2.2.2.1 ("java/lang/IllegalStateException", "java/lang/IllegalArgumentException") (by decide +kernel)⟩) rfl (by decide) (hts (.classLink RL 21 "java/lang/IllegalStateException") (by decide +kernel)) (va_Nw.use rfl (K.2.2.2.2.1.2.2.2.1 ("java/lang/IllegalStateException", "java/lang/IllegalStateException") (by decide +kernel))) hce hcv hcl ?_
        refine lv_astore (lv' := [(4, .ref q9), (0, .ref ho), (1, .int p0), (2, .int p1), (3, .ref o9)]) hx hb dL_feature_21 hl (by decide) rfl (fun ls hl => ?_)
        refine lv_iconst (v := 3) hx hb dL_feature_23 (by decide) ?_
        exact hk_iretx X hr hlk hQ hS (Nat.le_of_ble_eq_true rfl) (Nat.le_of_ble_eq_true rfl) dL_feature_24 (lpost_x hcd (by decide) hW hL1)
    ) (fun v9 H1 locs1 hp hS hz1 hk1 => ?_)
  obtain ⟨hcd, hv, G, R, hW⟩ := hp
  subst hv
  have hL1 : hk_L E o9 1 f0 H1 := (hk1 _ (ar_lt hL0) hoZ).trans hL0
  refine lv_i2l hx hb dL_feature_8 rfl ?_
  refine hk_lst X K hL1 hS (Or.inr rfl) (show vp_in (nI 0) 1 from vp_in_nI (by decide) (by decide)) dL_feature_9 (fun H1 locsH1 hIH1 hzH1 hqH1 hS => ?_)
  have hW := hW.kept (fun q h1 h2 => hqH1 q (fun g => by rw [g] at h2; exact h2.elim hoZ (fun h => h hoA)))
  refine lv_goto (tgt := 25) hx hb dL_feature_10 (by decide) ?_
  refine lv_iconst (v := 0) hx hb dL_feature_25 (by decide) ?_
  exact hk_iretx X hr hlk hQ hS (Nat.le_of_ble_eq_true rfl) (Nat.le_of_ble_eq_true rfl) dL_feature_26 (lpost_0 hcd hW hIH1 (out_at))

theorem cdn_rule {p0 p1 p2 p3 p4 : Int32} {S : mS} : ¬ cd_rule p0 p1 p2 p3 p4 S = 3 := by
  unfold cd_rule; (repeat' split) <;> decide
theorem hd_X10_rule : yX10_rule.cls ≠ "java/lang/invoke/MethodHandle" ∧ yX10_rule.cls ≠ "java/lang/invoke/VarHandle" ∧ (parseMethodDescriptor yX10_rule.desc).map (fun d => d.parameters.length) = some 5 := ⟨by decide, by decide, by decide +kernel⟩
abbrev rmL_rule : Room := { frames := 11, cells := 12, slots := 700, locals := 356 }
set_option maxHeartbeats 4000000 in
set_option maxRecDepth 100000 in
theorem c_L_rule (E : hk_E) (l : Launch) (hl9 : l.stackTraces = false) (H0 : Heap) {Z : Nat → Prop} {ho ts : Nat} {li : Nat → Nat} {rr : Nat → Nat → Nat} {G : hG} {R : hR} {cn : Nat → Nat} {sc : Nat → Int32} {μ : Nat → Nat → Int32} (hW : HW E Z (ho, li, rr, ts) G R (cn, sc, μ) H0) (hI : InvF (cn, sc, μ)) (hZn : ∀ q, H0.size ≤ q → Z q) {o9 : Nat} {f0 : Nat → Int64} (hL0 : hk_L E o9 1 f0 H0) (hoZ : ¬ Z o9) (hoA : hk_A E o9) {p0 p1 p2 p3 p4 : Int32}  : hk_X E l yL_rule wsL_rule rmL_rule (fun q => Z q ∨ q = o9) [.ref ho, .int p0, .int p1, .int p2, .int p3, .int p4, .ref o9] H0 (lpost E Z (ho, li, rr, ts) o9 (cd_rule p0 p1 p2 p3 p4 (cn, sc, μ)) (an_rule p0 p1 p2 p3 p4 (cn, sc, μ)) (cn, sc, μ) (st_rule p0 p1 p2 p3 p4 (cn, sc, μ))) (fun _ _ => False) := by
  refine hk_X.ofWH (cc := cL_rule) (maxL := 8) (ret := (some .int)) (hh := [(0, 16, 19, 15), (0, 16, 23, 21)]) (by decide +kernel) rfl (Nat.le_of_ble_eq_true rfl) ?_
  intro p e s m args below meth c ls Q hQ X hr hlk htab K hs9 hS hl
  obtain ⟨hx, hb, hml, hown, hts⟩ := id X
  have hAE : ∀ q, (fun q => Z q ∨ q = o9) q → hk_A E q := fun q h => h.elim (fun h => hW.2.2.2.2.2.2.2.2.2.2.2.2 q h) (fun h => by rw [h]; exact hoA)
  have hl : lv_has ls 8 [(0, .ref ho), (1, .int p0), (2, .int p1), (3, .int p2), (4, .int p3), (5, .int p4), (6, .ref o9)] := hl
  have hZA : ∀ q, Z q → hk_A E q := hW.2.2.2.2.2.2.2.2.2.2.2.2
  refine lv_aload hx hb dL_rule_0 (lv_at hl 6 rfl) ?_
  refine lv_iconst (v := 0) hx hb dL_rule_2 (by decide) ?_
  refine lv_aload_n hx hb dL_rule_3 rfl (lv_at hl 0 rfl) ?_
  refine lv_iload_n hx hb dL_rule_4 rfl (lv_at hl 1 rfl) ?_
  refine lv_iload_n hx hb dL_rule_5 rfl (lv_at hl 2 rfl) ?_
  refine lv_iload_n hx hb dL_rule_6 rfl (lv_at hl 3 rfl) ?_
  refine lv_iload hx hb dL_rule_7 (lv_at hl 4 rfl) ?_
  refine lv_iload hx hb dL_rule_9 (lv_at hl 5 rfl) ?_
  refine hk_callVx 5 (As := [.int p0, .int p1, .int p2, .int p3, .int p4]) (rest := [.int 0, .ref o9]) X K hAE hS hl.1 (HW.o hW) rfl (c_X10_rule E l hl9 H0 hW hI hZn (p0 := p0) (p1 := p1) (p2 := p2) (p3 := p3) (p4 := p4)) (fun q h => Or.inl h) gL_rule_X10_rule rfl ⟨rfl, hd_X10_rule⟩ rfl ⟨⟨(Nat.le_of_ble_eq_true rfl), (Nat.le_of_ble_eq_true rfl)⟩, (Nat.le_of_ble_eq_true rfl), (Nat.le_of_ble_eq_true rfl)⟩ rfl (Nat.le_of_ble_eq_true rfl) dL_rule_11 (fun x9 ce9 q9 H1 locs1 hp hS hz1 hk1 hce hcv hcl => by
      obtain ⟨hcs, G, R, hW⟩ := hp
      have hL1 : hk_L E o9 1 f0 H1 := (hk1 _ (ar_lt hL0) hoZ).trans hL0
      rcases hcs with ⟨hcd, rfl⟩ | ⟨hcd, rfl⟩ | ⟨hcd, rfl⟩
      · refine vx_catch (own := RL) (name := "java/lang/IllegalArgumentException") hown [] ⟨0, 16, 19, 15⟩ [⟨0, 16, 23, 21⟩] htab (fun z hz => absurd hz List.not_mem_nil) rfl (by decide) (hts (.classLink RL 15 "java/lang/IllegalArgumentException") (by decide +kernel)) (va_Nw.use rfl (K.2.2.2.2.1.2.2.2.1 ("java/lang/IllegalArgumentException", "java/lang/IllegalArgumentException") (by decide +kernel))) hce hcv hcl ?_
        refine lv_astore (lv' := [(7, .ref q9), (0, .ref ho), (1, .int p0), (2, .int p1), (3, .int p2), (4, .int p3), (5, .int p4), (6, .ref o9)]) hx hb dL_rule_19 hl (by decide) rfl (fun ls hl => ?_)
        refine lv_iconst (v := 1) hx hb dL_rule_21 (by decide) ?_
        exact hk_iretx X hr hlk hQ hS (Nat.le_of_ble_eq_true rfl) (Nat.le_of_ble_eq_true rfl) dL_rule_22 (lpost_x hcd (by decide) hW hL1)
      · refine vx_catch (own := RL) (name := "java/lang/IllegalStateException") hown [⟨0, 16, 19, 15⟩] ⟨0, 16, 23, 21⟩ [] htab (fun z hz => by rw [List.mem_singleton.mp hz]; exact Or.inr ⟨by decide, "java/lang/IllegalArgumentException", (hts (.classLink RL 15 "java/lang/IllegalArgumentException") (by decide +kernel)), K.2.2.2.2.1.2.2.2.2.2.2.1 ("java/lang/IllegalStateException", "java/lang/IllegalArgumentException") (by decide +kernel)⟩) rfl (by decide) (hts (.classLink RL 21 "java/lang/IllegalStateException") (by decide +kernel)) (va_Nw.use rfl (K.2.2.2.2.1.2.2.2.1 ("java/lang/IllegalStateException", "java/lang/IllegalStateException") (by decide +kernel))) hce hcv hcl ?_
        refine lv_astore (lv' := [(7, .ref q9), (0, .ref ho), (1, .int p0), (2, .int p1), (3, .int p2), (4, .int p3), (5, .int p4), (6, .ref o9)]) hx hb dL_rule_23 hl (by decide) rfl (fun ls hl => ?_)
        refine lv_iconst (v := 2) hx hb dL_rule_25 (by decide) ?_
        exact hk_iretx X hr hlk hQ hS (Nat.le_of_ble_eq_true rfl) (Nat.le_of_ble_eq_true rfl) dL_rule_26 (lpost_x hcd (by decide) hW hL1)
      · exact absurd hcd cdn_rule
    ) (fun v9 H1 locs1 hp hS hz1 hk1 => ?_)
  obtain ⟨hcd, hv, G, R, hW⟩ := hp
  subst hv
  have hL1 : hk_L E o9 1 f0 H1 := (hk1 _ (ar_lt hL0) hoZ).trans hL0
  refine lv_i2l hx hb dL_rule_14 rfl ?_
  refine hk_lst X K hL1 hS (Or.inr rfl) (show vp_in (nI 0) 1 from vp_in_nI (by decide) (by decide)) dL_rule_15 (fun H1 locsH1 hIH1 hzH1 hqH1 hS => ?_)
  have hW := hW.kept (fun q h1 h2 => hqH1 q (fun g => by rw [g] at h2; exact h2.elim hoZ (fun h => h hoA)))
  refine lv_goto (tgt := 27) hx hb dL_rule_16 (by decide) ?_
  refine lv_iconst (v := 0) hx hb dL_rule_27 (by decide) ?_
  exact hk_iretx X hr hlk hQ hS (Nat.le_of_ble_eq_true rfl) (Nat.le_of_ble_eq_true rfl) dL_rule_28 (lpost_0 hcd hW hIH1 (out_at))

theorem cdn_withdraw {p0 p1 : Int32} {S : mS} : ¬ cd_withdraw p0 p1 S = 2 ∧ ¬ cd_withdraw p0 p1 S = 3 := by
  unfold cd_withdraw; refine ⟨?_, ?_⟩ <;> (repeat' split) <;> decide
theorem bo_withdraw {cn : Nat → Nat} {sc : Nat → Int32} {μ : Nat → Nat → Int32} (hI : InvF (cn, sc, μ)) {p0 p1 : Int32} (h : cd_withdraw p0 p1 (cn, sc, μ) = 0) : an_withdraw p0 p1 (cn, sc, μ) = 0 ∨ an_withdraw p0 p1 (cn, sc, μ) = 1 := by
  have h1 := ite_ok' h
  have hc : cn 22 ≤ 8 := hI.1.1.2.2.2.1
  exact (hI.1.2.2.2.2.2.2.1 _ (isS_xl h1 (show cn 22 < 2 ^ 31 by omega))).1
theorem hd_X10_withdraw : yX10_withdraw.cls ≠ "java/lang/invoke/MethodHandle" ∧ yX10_withdraw.cls ≠ "java/lang/invoke/VarHandle" ∧ (parseMethodDescriptor yX10_withdraw.desc).map (fun d => d.parameters.length) = some 2 := ⟨by decide, by decide, by decide +kernel⟩
abbrev rmL_withdraw : Room := { frames := 11, cells := 12, slots := 700, locals := 199 }
set_option maxHeartbeats 4000000 in
set_option maxRecDepth 100000 in
theorem c_L_withdraw (E : hk_E) (l : Launch) (hl9 : l.stackTraces = false) (H0 : Heap) {Z : Nat → Prop} {ho ts : Nat} {li : Nat → Nat} {rr : Nat → Nat → Nat} {G : hG} {R : hR} {cn : Nat → Nat} {sc : Nat → Int32} {μ : Nat → Nat → Int32} (hW : HW E Z (ho, li, rr, ts) G R (cn, sc, μ) H0) (hI : InvF (cn, sc, μ)) (hZn : ∀ q, H0.size ≤ q → Z q) {o9 : Nat} {f0 : Nat → Int64} (hL0 : hk_L E o9 1 f0 H0) (hoZ : ¬ Z o9) (hoA : hk_A E o9) {p0 p1 : Int32} (hb9 : p1 = 0 ∨ p1 = 1)  : hk_X E l yL_withdraw wsL_withdraw rmL_withdraw (fun q => Z q ∨ q = o9) [.ref ho, .int p0, .int p1, .ref o9] H0 (lpost E Z (ho, li, rr, ts) o9 (cd_withdraw p0 p1 (cn, sc, μ)) (an_withdraw p0 p1 (cn, sc, μ)) (cn, sc, μ) (st_withdraw p0 p1 (cn, sc, μ))) (fun _ _ => False) := by
  refine hk_X.ofWH (cc := cL_withdraw) (maxL := 5) (ret := (some .int)) (hh := [(0, 17, 20, 13)]) (by decide +kernel) rfl (Nat.le_of_ble_eq_true rfl) ?_
  intro p e s m args below meth c ls Q hQ X hr hlk htab K hs9 hS hl
  obtain ⟨hx, hb, hml, hown, hts⟩ := id X
  have hAE : ∀ q, (fun q => Z q ∨ q = o9) q → hk_A E q := fun q h => h.elim (fun h => hW.2.2.2.2.2.2.2.2.2.2.2.2 q h) (fun h => by rw [h]; exact hoA)
  have hl : lv_has ls 5 [(0, .ref ho), (1, .int p0), (2, .int p1), (3, .ref o9)] := hl
  have hZA : ∀ q, Z q → hk_A E q := hW.2.2.2.2.2.2.2.2.2.2.2.2
  refine lv_aload_n hx hb dL_withdraw_0 rfl (lv_at hl 3 rfl) ?_
  refine lv_iconst (v := 0) hx hb dL_withdraw_1 (by decide) ?_
  refine lv_aload_n hx hb dL_withdraw_2 rfl (lv_at hl 0 rfl) ?_
  refine lv_iload_n hx hb dL_withdraw_3 rfl (lv_at hl 1 rfl) ?_
  refine lv_iload_n hx hb dL_withdraw_4 rfl (lv_at hl 2 rfl) ?_
  refine hk_callVx 2 (As := [.int p0, .int p1]) (rest := [.int 0, .ref o9]) X K hAE hS hl.1 (HW.o hW) rfl (c_X10_withdraw E l hl9 H0 hW hI hZn hb9 (p0 := p0) (p1 := p1)) (fun q h => Or.inl h) gL_withdraw_X10_withdraw rfl ⟨rfl, hd_X10_withdraw⟩ rfl ⟨⟨(Nat.le_of_ble_eq_true rfl), (Nat.le_of_ble_eq_true rfl)⟩, (Nat.le_of_ble_eq_true rfl), (Nat.le_of_ble_eq_true rfl)⟩ rfl (Nat.le_of_ble_eq_true rfl) dL_withdraw_5 (fun x9 ce9 q9 H1 locs1 hp hS hz1 hk1 hce hcv hcl => by
      obtain ⟨hcs, G, R, hW⟩ := hp
      have hL1 : hk_L E o9 1 f0 H1 := (hk1 _ (ar_lt hL0) hoZ).trans hL0
      rcases hcs with ⟨hcd, rfl⟩ | ⟨hcd, rfl⟩ | ⟨hcd, rfl⟩
      · refine vx_catch (own := RL) (name := "java/lang/IndexOutOfBoundsException") hown [] ⟨0, 17, 20, 13⟩ [] htab (fun z hz => absurd hz List.not_mem_nil) rfl (by decide) (hts (.classLink RL 13 "java/lang/IndexOutOfBoundsException") (by decide +kernel)) (va_Nw.use rfl (K.2.2.2.2.1.2.2.2.1 ("java/lang/IndexOutOfBoundsException", "java/lang/IndexOutOfBoundsException") (by decide +kernel))) hce hcv hcl ?_
        refine lv_astore (lv' := [(4, .ref q9), (0, .ref ho), (1, .int p0), (2, .int p1), (3, .ref o9)]) hx hb dL_withdraw_20 hl (by decide) rfl (fun ls hl => ?_)
        refine lv_iconst (v := 1) hx hb dL_withdraw_22 (by decide) ?_
        exact hk_iretx X hr hlk hQ hS (Nat.le_of_ble_eq_true rfl) (Nat.le_of_ble_eq_true rfl) dL_withdraw_23 (lpost_x hcd (by decide) hW hL1)
      · exact absurd hcd cdn_withdraw.1
      · exact absurd hcd cdn_withdraw.2
    ) (fun v9 H1 locs1 hp hS hz1 hk1 => ?_)
  obtain ⟨hcd, hv, G, R, hW⟩ := hp
  subst hv
  have hL1 : hk_L E o9 1 f0 H1 := (hk1 _ (ar_lt hL0) hoZ).trans hL0
  have hbo : an_withdraw p0 p1 (cn, sc, μ) = 0 ∨ an_withdraw p0 p1 (cn, sc, μ) = 1 := bo_withdraw hI hcd
  refine lv_if_eq (tgt := 15) hx hb dL_withdraw_8 (by decide) (fun c_8 => ?_) (fun c_8 => ?_)
  · refine lv_lconst (v := 0) hx hb dL_withdraw_15 (by decide) ?_
    refine hk_lst X K hL1 hS (Or.inr rfl) (show vp_in (nI 0) 1 from vp_in_nI (by decide) (by decide)) dL_withdraw_16 (fun H1 locsH1 hIH1 hzH1 hqH1 hS => ?_)
    have hW := hW.kept (fun q h1 h2 => hqH1 q (fun g => by rw [g] at h2; exact h2.elim hoZ (fun h => h hoA)))
    refine lv_goto (tgt := 24) hx hb dL_withdraw_17 (by decide) ?_
    refine lv_iconst (v := 0) hx hb dL_withdraw_24 (by decide) ?_
    exact hk_iretx X hr hlk hQ hS (Nat.le_of_ble_eq_true rfl) (Nat.le_of_ble_eq_true rfl) dL_withdraw_25 (lpost_0 hcd hW hIH1 (by rw [out_at, show an_withdraw p0 p1 (cn, sc, μ) = 0 from c_8]; rfl))
  · refine lv_lconst (v := 1) hx hb dL_withdraw_11 (by decide) ?_
    refine lv_goto (tgt := 16) hx hb dL_withdraw_12 (by decide) ?_
    refine hk_lst X K hL1 hS (Or.inr rfl) (show vp_in (nI 0) 1 from vp_in_nI (by decide) (by decide)) dL_withdraw_16 (fun H2 locsH2 hIH2 hzH2 hqH2 hS => ?_)
    have hW := hW.kept (fun q h1 h2 => hqH2 q (fun g => by rw [g] at h2; exact h2.elim hoZ (fun h => h hoA)))
    refine lv_goto (tgt := 24) hx hb dL_withdraw_17 (by decide) ?_
    refine lv_iconst (v := 0) hx hb dL_withdraw_24 (by decide) ?_
    exact hk_iretx X hr hlk hQ hS (Nat.le_of_ble_eq_true rfl) (Nat.le_of_ble_eq_true rfl) dL_withdraw_25 (lpost_0 hcd hW hIH2 (by rw [out_at, show an_withdraw p0 p1 (cn, sc, μ) = 1 from hbo.resolve_left c_8]; rfl))

theorem hd_X10_votes : yX10_votes.cls ≠ "java/lang/invoke/MethodHandle" ∧ yX10_votes.cls ≠ "java/lang/invoke/VarHandle" ∧ (parseMethodDescriptor yX10_votes.desc).map (fun d => d.parameters.length) = some 2 := ⟨by decide, by decide, by decide +kernel⟩
abbrev rmL_votes : Room := { frames := 12, cells := 12, slots := 700, locals := 224 }
set_option maxHeartbeats 4000000 in
set_option maxRecDepth 100000 in
theorem c_L_votes (E : hk_E) (l : Launch) (hl9 : l.stackTraces = false) (H0 : Heap) {Z : Nat → Prop} {ho ts : Nat} {li : Nat → Nat} {rr : Nat → Nat → Nat} {G : hG} {R : hR} {cn : Nat → Nat} {sc : Nat → Int32} {μ : Nat → Nat → Int32} (hW : HW E Z (ho, li, rr, ts) G R (cn, sc, μ) H0) (hI : InvF (cn, sc, μ)) (hZn : ∀ q, H0.size ≤ q → Z q) {o9 : Nat} {f0 : Nat → Int64} (hL0 : hk_L E o9 1 f0 H0) (hoZ : ¬ Z o9) (hoA : hk_A E o9) {p0 p1 : Int32}  : hk_X E l yL_votes wsL_votes rmL_votes (fun q => Z q ∨ q = o9) [.ref ho, .int p0, .int p1, .ref o9] H0 (lpost E Z (ho, li, rr, ts) o9 (cd_votes p0 p1 (cn, sc, μ)) (an_votes p0 p1 (cn, sc, μ)) (cn, sc, μ) (st_votes p0 p1 (cn, sc, μ))) (fun _ _ => False) := by
  refine hk_X.ofWH (cc := cL_votes) (maxL := 5) (ret := (some .int)) (hh := [(0, 10, 13, 13), (0, 10, 17, 15), (0, 10, 21, 21)]) (by decide +kernel) rfl (Nat.le_of_ble_eq_true rfl) ?_
  intro p e s m args below meth c ls Q hQ X hr hlk htab K hs9 hS hl
  obtain ⟨hx, hb, hml, hown, hts⟩ := id X
  have hAE : ∀ q, (fun q => Z q ∨ q = o9) q → hk_A E q := fun q h => h.elim (fun h => hW.2.2.2.2.2.2.2.2.2.2.2.2 q h) (fun h => by rw [h]; exact hoA)
  have hl : lv_has ls 5 [(0, .ref ho), (1, .int p0), (2, .int p1), (3, .ref o9)] := hl
  have hZA : ∀ q, Z q → hk_A E q := hW.2.2.2.2.2.2.2.2.2.2.2.2
  refine lv_aload_n hx hb dL_votes_0 rfl (lv_at hl 3 rfl) ?_
  refine lv_iconst (v := 0) hx hb dL_votes_1 (by decide) ?_
  refine lv_aload_n hx hb dL_votes_2 rfl (lv_at hl 0 rfl) ?_
  refine lv_iload_n hx hb dL_votes_3 rfl (lv_at hl 1 rfl) ?_
  refine lv_iload_n hx hb dL_votes_4 rfl (lv_at hl 2 rfl) ?_
  refine hk_callVx 2 (As := [.int p0, .int p1]) (rest := [.int 0, .ref o9]) X K hAE hS hl.1 (HW.o hW) rfl (c_X10_votes E l hl9 H0 hW hI hZn (p0 := p0) (p1 := p1)) (fun q h => Or.inl h) gL_votes_X10_votes rfl ⟨rfl, hd_X10_votes⟩ rfl ⟨⟨(Nat.le_of_ble_eq_true rfl), (Nat.le_of_ble_eq_true rfl)⟩, (Nat.le_of_ble_eq_true rfl), (Nat.le_of_ble_eq_true rfl)⟩ rfl (Nat.le_of_ble_eq_true rfl) dL_votes_5 (fun x9 ce9 q9 H1 locs1 hp hS hz1 hk1 hce hcv hcl => by
      obtain ⟨hcs, G, R, hW⟩ := hp
      have hL1 : hk_L E o9 1 f0 H1 := (hk1 _ (ar_lt hL0) hoZ).trans hL0
      rcases hcs with ⟨hcd, rfl⟩ | ⟨hcd, rfl⟩ | ⟨hcd, rfl⟩
      · refine vx_catch (own := RL) (name := "java/lang/IndexOutOfBoundsException") hown [] ⟨0, 10, 13, 13⟩ [⟨0, 10, 17, 15⟩, ⟨0, 10, 21, 21⟩] htab (fun z hz => absurd hz List.not_mem_nil) rfl (by decide) (hts (.classLink RL 13 "java/lang/IndexOutOfBoundsException") (by decide +kernel)) (va_Nw.use rfl (K.2.2.2.2.1.2.2.2.1 ("java/lang/IndexOutOfBoundsException", "java/lang/IndexOutOfBoundsException") (by decide +kernel))) hce hcv hcl ?_
        refine lv_astore (lv' := [(4, .ref q9), (0, .ref ho), (1, .int p0), (2, .int p1), (3, .ref o9)]) hx hb dL_votes_13 hl (by decide) rfl (fun ls hl => ?_)
        refine lv_iconst (v := 1) hx hb dL_votes_15 (by decide) ?_
        exact hk_iretx X hr hlk hQ hS (Nat.le_of_ble_eq_true rfl) (Nat.le_of_ble_eq_true rfl) dL_votes_16 (lpost_x hcd (by decide) hW hL1)
      · refine vx_catch (own := RL) (name := "java/lang/IllegalArgumentException") hown [⟨0, 10, 13, 13⟩] ⟨0, 10, 17, 15⟩ [⟨0, 10, 21, 21⟩] htab (fun z hz => by rw [List.mem_singleton.mp hz]; exact Or.inr ⟨by decide, "java/lang/IndexOutOfBoundsException", (hts (.classLink RL 13 "java/lang/IndexOutOfBoundsException") (by decide +kernel)), K.2.2.2.2.1.2.2.2.2.2.2.1 ("java/lang/IllegalArgumentException", "java/lang/IndexOutOfBoundsException") (by decide +kernel)⟩) rfl (by decide) (hts (.classLink RL 15 "java/lang/IllegalArgumentException") (by decide +kernel)) (va_Nw.use rfl (K.2.2.2.2.1.2.2.2.1 ("java/lang/IllegalArgumentException", "java/lang/IllegalArgumentException") (by decide +kernel))) hce hcv hcl ?_
        refine lv_astore (lv' := [(4, .ref q9), (0, .ref ho), (1, .int p0), (2, .int p1), (3, .ref o9)]) hx hb dL_votes_17 hl (by decide) rfl (fun ls hl => ?_)
        refine lv_iconst (v := 2) hx hb dL_votes_19 (by decide) ?_
        exact hk_iretx X hr hlk hQ hS (Nat.le_of_ble_eq_true rfl) (Nat.le_of_ble_eq_true rfl) dL_votes_20 (lpost_x hcd (by decide) hW hL1)
      · refine vx_catch (own := RL) (name := "java/lang/IllegalStateException") hown [⟨0, 10, 13, 13⟩, ⟨0, 10, 17, 15⟩] ⟨0, 10, 21, 21⟩ [] htab (fun z hz => by
              rcases List.mem_cons.mp hz with g | g
              · rw [g]; exact Or.inr ⟨by decide, "java/lang/IndexOutOfBoundsException", (hts (.classLink RL 13 "java/lang/IndexOutOfBoundsException") (by decide +kernel)), K.2.2.2.2.1.2.2.2.2.2.2.1 ("java/lang/IllegalStateException", "java/lang/IndexOutOfBoundsException") (by decide +kernel)⟩
              · rw [List.mem_singleton.mp g]; exact Or.inr ⟨by decide, "java/lang/IllegalArgumentException", (hts (.classLink RL 15 "java/lang/IllegalArgumentException") (by decide +kernel)), K.2.2.2.2.1.2.2.2.2.2.2.1 ("java/lang/IllegalStateException", "java/lang/IllegalArgumentException") (by decide +kernel)⟩) rfl (by decide) (hts (.classLink RL 21 "java/lang/IllegalStateException") (by decide +kernel)) (va_Nw.use rfl (K.2.2.2.2.1.2.2.2.1 ("java/lang/IllegalStateException", "java/lang/IllegalStateException") (by decide +kernel))) hce hcv hcl ?_
        refine lv_astore (lv' := [(4, .ref q9), (0, .ref ho), (1, .int p0), (2, .int p1), (3, .ref o9)]) hx hb dL_votes_21 hl (by decide) rfl (fun ls hl => ?_)
        refine lv_iconst (v := 3) hx hb dL_votes_23 (by decide) ?_
        exact hk_iretx X hr hlk hQ hS (Nat.le_of_ble_eq_true rfl) (Nat.le_of_ble_eq_true rfl) dL_votes_24 (lpost_x hcd (by decide) hW hL1)
    ) (fun v9 H1 locs1 hp hS hz1 hk1 => ?_)
  obtain ⟨hcd, hv, G, R, hW⟩ := hp
  subst hv
  have hL1 : hk_L E o9 1 f0 H1 := (hk1 _ (ar_lt hL0) hoZ).trans hL0
  refine lv_i2l hx hb dL_votes_8 rfl ?_
  refine hk_lst X K hL1 hS (Or.inr rfl) (show vp_in (nI 0) 1 from vp_in_nI (by decide) (by decide)) dL_votes_9 (fun H1 locsH1 hIH1 hzH1 hqH1 hS => ?_)
  have hW := hW.kept (fun q h1 h2 => hqH1 q (fun g => by rw [g] at h2; exact h2.elim hoZ (fun h => h hoA)))
  refine lv_goto (tgt := 25) hx hb dL_votes_10 (by decide) ?_
  refine lv_iconst (v := 0) hx hb dL_votes_25 (by decide) ?_
  exact hk_iretx X hr hlk hQ hS (Nat.le_of_ble_eq_true rfl) (Nat.le_of_ble_eq_true rfl) dL_votes_26 (lpost_0 hcd hW hIH1 (out_at))

theorem cdn_kind {p0 : Int32} {S : mS} : ¬ cd_kind p0 S = 3 := by
  unfold cd_kind; (repeat' split) <;> decide
theorem hd_X10_kind : yX10_kind.cls ≠ "java/lang/invoke/MethodHandle" ∧ yX10_kind.cls ≠ "java/lang/invoke/VarHandle" ∧ (parseMethodDescriptor yX10_kind.desc).map (fun d => d.parameters.length) = some 1 := ⟨by decide, by decide, by decide +kernel⟩
abbrev rmL_kind : Room := { frames := 12, cells := 12, slots := 700, locals := 227 }
set_option maxHeartbeats 4000000 in
set_option maxRecDepth 100000 in
theorem c_L_kind (E : hk_E) (l : Launch) (hl9 : l.stackTraces = false) (H0 : Heap) {Z : Nat → Prop} {ho ts : Nat} {li : Nat → Nat} {rr : Nat → Nat → Nat} {G : hG} {R : hR} {cn : Nat → Nat} {sc : Nat → Int32} {μ : Nat → Nat → Int32} (hW : HW E Z (ho, li, rr, ts) G R (cn, sc, μ) H0) (hI : InvF (cn, sc, μ)) (hZn : ∀ q, H0.size ≤ q → Z q) {o9 : Nat} {f0 : Nat → Int64} (hL0 : hk_L E o9 1 f0 H0) (hoZ : ¬ Z o9) (hoA : hk_A E o9) {p0 : Int32}  : hk_X E l yL_kind wsL_kind rmL_kind (fun q => Z q ∨ q = o9) [.ref ho, .int p0, .ref o9] H0 (lpost E Z (ho, li, rr, ts) o9 (cd_kind p0 (cn, sc, μ)) (an_kind p0 (cn, sc, μ)) (cn, sc, μ) (st_kind p0 (cn, sc, μ))) (fun _ _ => False) := by
  refine hk_X.ofWH (cc := cL_kind) (maxL := 4) (ret := (some .int)) (hh := [(0, 9, 12, 13), (0, 9, 15, 21)]) (by decide +kernel) rfl (Nat.le_of_ble_eq_true rfl) ?_
  intro p e s m args below meth c ls Q hQ X hr hlk htab K hs9 hS hl
  obtain ⟨hx, hb, hml, hown, hts⟩ := id X
  have hAE : ∀ q, (fun q => Z q ∨ q = o9) q → hk_A E q := fun q h => h.elim (fun h => hW.2.2.2.2.2.2.2.2.2.2.2.2 q h) (fun h => by rw [h]; exact hoA)
  have hl : lv_has ls 4 [(0, .ref ho), (1, .int p0), (2, .ref o9)] := hl
  have hZA : ∀ q, Z q → hk_A E q := hW.2.2.2.2.2.2.2.2.2.2.2.2
  refine lv_aload_n hx hb dL_kind_0 rfl (lv_at hl 2 rfl) ?_
  refine lv_iconst (v := 0) hx hb dL_kind_1 (by decide) ?_
  refine lv_aload_n hx hb dL_kind_2 rfl (lv_at hl 0 rfl) ?_
  refine lv_iload_n hx hb dL_kind_3 rfl (lv_at hl 1 rfl) ?_
  refine hk_callVx 1 (As := [.int p0]) (rest := [.int 0, .ref o9]) X K hAE hS hl.1 (HW.o hW) rfl (c_X10_kind E l hl9 H0 hW hI hZn (p0 := p0)) (fun q h => Or.inl h) gL_kind_X10_kind rfl ⟨rfl, hd_X10_kind⟩ rfl ⟨⟨(Nat.le_of_ble_eq_true rfl), (Nat.le_of_ble_eq_true rfl)⟩, (Nat.le_of_ble_eq_true rfl), (Nat.le_of_ble_eq_true rfl)⟩ rfl (Nat.le_of_ble_eq_true rfl) dL_kind_4 (fun x9 ce9 q9 H1 locs1 hp hS hz1 hk1 hce hcv hcl => by
      obtain ⟨hcs, G, R, hW⟩ := hp
      have hL1 : hk_L E o9 1 f0 H1 := (hk1 _ (ar_lt hL0) hoZ).trans hL0
      rcases hcs with ⟨hcd, rfl⟩ | ⟨hcd, rfl⟩ | ⟨hcd, rfl⟩
      · refine vx_catch (own := RL) (name := "java/lang/IndexOutOfBoundsException") hown [] ⟨0, 9, 12, 13⟩ [⟨0, 9, 15, 21⟩] htab (fun z hz => absurd hz List.not_mem_nil) rfl (by decide) (hts (.classLink RL 13 "java/lang/IndexOutOfBoundsException") (by decide +kernel)) (va_Nw.use rfl (K.2.2.2.2.1.2.2.2.1 ("java/lang/IndexOutOfBoundsException", "java/lang/IndexOutOfBoundsException") (by decide +kernel))) hce hcv hcl ?_
        refine lv_astore_n (lv' := [(3, .ref q9), (0, .ref ho), (1, .int p0), (2, .ref o9)]) hx hb dL_kind_12 rfl hl (by decide) rfl (fun ls hl => ?_)
        refine lv_iconst (v := 1) hx hb dL_kind_13 (by decide) ?_
        exact hk_iretx X hr hlk hQ hS (Nat.le_of_ble_eq_true rfl) (Nat.le_of_ble_eq_true rfl) dL_kind_14 (lpost_x hcd (by decide) hW hL1)
      · refine vx_catch (own := RL) (name := "java/lang/IllegalStateException") hown [⟨0, 9, 12, 13⟩] ⟨0, 9, 15, 21⟩ [] htab (fun z hz => by rw [List.mem_singleton.mp hz]; exact Or.inr ⟨by decide, "java/lang/IndexOutOfBoundsException", (hts (.classLink RL 13 "java/lang/IndexOutOfBoundsException") (by decide +kernel)), K.2.2.2.2.1.2.2.2.2.2.2.1 ("java/lang/IllegalStateException", "java/lang/IndexOutOfBoundsException") (by decide +kernel)⟩) rfl (by decide) (hts (.classLink RL 21 "java/lang/IllegalStateException") (by decide +kernel)) (va_Nw.use rfl (K.2.2.2.2.1.2.2.2.1 ("java/lang/IllegalStateException", "java/lang/IllegalStateException") (by decide +kernel))) hce hcv hcl ?_
        refine lv_astore_n (lv' := [(3, .ref q9), (0, .ref ho), (1, .int p0), (2, .ref o9)]) hx hb dL_kind_15 rfl hl (by decide) rfl (fun ls hl => ?_)
        refine lv_iconst (v := 2) hx hb dL_kind_16 (by decide) ?_
        exact hk_iretx X hr hlk hQ hS (Nat.le_of_ble_eq_true rfl) (Nat.le_of_ble_eq_true rfl) dL_kind_17 (lpost_x hcd (by decide) hW hL1)
      · exact absurd hcd cdn_kind
    ) (fun v9 H1 locs1 hp hS hz1 hk1 => ?_)
  obtain ⟨hcd, hv, G, R, hW⟩ := hp
  subst hv
  have hL1 : hk_L E o9 1 f0 H1 := (hk1 _ (ar_lt hL0) hoZ).trans hL0
  refine lv_i2l hx hb dL_kind_7 rfl ?_
  refine hk_lst X K hL1 hS (Or.inr rfl) (show vp_in (nI 0) 1 from vp_in_nI (by decide) (by decide)) dL_kind_8 (fun H1 locsH1 hIH1 hzH1 hqH1 hS => ?_)
  have hW := hW.kept (fun q h1 h2 => hqH1 q (fun g => by rw [g] at h2; exact h2.elim hoZ (fun h => h hoA)))
  refine lv_goto (tgt := 18) hx hb dL_kind_9 (by decide) ?_
  refine lv_iconst (v := 0) hx hb dL_kind_18 (by decide) ?_
  exact hk_iretx X hr hlk hQ hS (Nat.le_of_ble_eq_true rfl) (Nat.le_of_ble_eq_true rfl) dL_kind_19 (lpost_0 hcd hW hIH1 (out_at))

theorem cdn_cycle {p0 p1 p2 p3 : Int32} {S : mS} : ¬ cd_cycle p0 p1 p2 p3 S = 3 := by
  unfold cd_cycle; (repeat' split) <;> decide
theorem hd_X10_cycle : yX10_cycle.cls ≠ "java/lang/invoke/MethodHandle" ∧ yX10_cycle.cls ≠ "java/lang/invoke/VarHandle" ∧ (parseMethodDescriptor yX10_cycle.desc).map (fun d => d.parameters.length) = some 4 := ⟨by decide, by decide, by decide +kernel⟩
abbrev rmL_cycle : Room := { frames := 11, cells := 12, slots := 700, locals := 201 }
set_option maxHeartbeats 4000000 in
set_option maxRecDepth 100000 in
theorem c_L_cycle (E : hk_E) (l : Launch) (hl9 : l.stackTraces = false) (H0 : Heap) {Z : Nat → Prop} {ho ts : Nat} {li : Nat → Nat} {rr : Nat → Nat → Nat} {G : hG} {R : hR} {cn : Nat → Nat} {sc : Nat → Int32} {μ : Nat → Nat → Int32} (hW : HW E Z (ho, li, rr, ts) G R (cn, sc, μ) H0) (hI : InvF (cn, sc, μ)) (hZn : ∀ q, H0.size ≤ q → Z q) {o9 : Nat} {f0 : Nat → Int64} (hL0 : hk_L E o9 1 f0 H0) (hoZ : ¬ Z o9) (hoA : hk_A E o9) {p0 p1 p2 p3 : Int32}  : hk_X E l yL_cycle wsL_cycle rmL_cycle (fun q => Z q ∨ q = o9) [.ref ho, .int p0, .int p1, .int p2, .int p3, .ref o9] H0 (lpost E Z (ho, li, rr, ts) o9 (cd_cycle p0 p1 p2 p3 (cn, sc, μ)) (an_cycle p0 p1 p2 p3 (cn, sc, μ)) (cn, sc, μ) (st_cycle p0 p1 p2 p3 (cn, sc, μ))) (fun _ _ => False) := by
  refine hk_X.ofWH (cc := cL_cycle) (maxL := 7) (ret := (some .int)) (hh := [(0, 14, 17, 13), (0, 14, 21, 15)]) (by decide +kernel) rfl (Nat.le_of_ble_eq_true rfl) ?_
  intro p e s m args below meth c ls Q hQ X hr hlk htab K hs9 hS hl
  obtain ⟨hx, hb, hml, hown, hts⟩ := id X
  have hAE : ∀ q, (fun q => Z q ∨ q = o9) q → hk_A E q := fun q h => h.elim (fun h => hW.2.2.2.2.2.2.2.2.2.2.2.2 q h) (fun h => by rw [h]; exact hoA)
  have hl : lv_has ls 7 [(0, .ref ho), (1, .int p0), (2, .int p1), (3, .int p2), (4, .int p3), (5, .ref o9)] := hl
  have hZA : ∀ q, Z q → hk_A E q := hW.2.2.2.2.2.2.2.2.2.2.2.2
  refine lv_aload hx hb dL_cycle_0 (lv_at hl 5 rfl) ?_
  refine lv_iconst (v := 0) hx hb dL_cycle_2 (by decide) ?_
  refine lv_aload_n hx hb dL_cycle_3 rfl (lv_at hl 0 rfl) ?_
  refine lv_iload_n hx hb dL_cycle_4 rfl (lv_at hl 1 rfl) ?_
  refine lv_iload_n hx hb dL_cycle_5 rfl (lv_at hl 2 rfl) ?_
  refine lv_iload_n hx hb dL_cycle_6 rfl (lv_at hl 3 rfl) ?_
  refine lv_iload hx hb dL_cycle_7 (lv_at hl 4 rfl) ?_
  refine hk_callVx 4 (As := [.int p0, .int p1, .int p2, .int p3]) (rest := [.int 0, .ref o9]) X K hAE hS hl.1 (HW.o hW) rfl (c_X10_cycle E l hl9 H0 hW hI hZn (p0 := p0) (p1 := p1) (p2 := p2) (p3 := p3)) (fun q h => Or.inl h) gL_cycle_X10_cycle rfl ⟨rfl, hd_X10_cycle⟩ rfl ⟨⟨(Nat.le_of_ble_eq_true rfl), (Nat.le_of_ble_eq_true rfl)⟩, (Nat.le_of_ble_eq_true rfl), (Nat.le_of_ble_eq_true rfl)⟩ rfl (Nat.le_of_ble_eq_true rfl) dL_cycle_9 (fun x9 ce9 q9 H1 locs1 hp hS hz1 hk1 hce hcv hcl => by
      obtain ⟨hcs, G, R, hW⟩ := hp
      have hL1 : hk_L E o9 1 f0 H1 := (hk1 _ (ar_lt hL0) hoZ).trans hL0
      rcases hcs with ⟨hcd, rfl⟩ | ⟨hcd, rfl⟩ | ⟨hcd, rfl⟩
      · refine vx_catch (own := RL) (name := "java/lang/IndexOutOfBoundsException") hown [] ⟨0, 14, 17, 13⟩ [⟨0, 14, 21, 15⟩] htab (fun z hz => absurd hz List.not_mem_nil) rfl (by decide) (hts (.classLink RL 13 "java/lang/IndexOutOfBoundsException") (by decide +kernel)) (va_Nw.use rfl (K.2.2.2.2.1.2.2.2.1 ("java/lang/IndexOutOfBoundsException", "java/lang/IndexOutOfBoundsException") (by decide +kernel))) hce hcv hcl ?_
        refine lv_astore (lv' := [(6, .ref q9), (0, .ref ho), (1, .int p0), (2, .int p1), (3, .int p2), (4, .int p3), (5, .ref o9)]) hx hb dL_cycle_17 hl (by decide) rfl (fun ls hl => ?_)
        refine lv_iconst (v := 1) hx hb dL_cycle_19 (by decide) ?_
        exact hk_iretx X hr hlk hQ hS (Nat.le_of_ble_eq_true rfl) (Nat.le_of_ble_eq_true rfl) dL_cycle_20 (lpost_x hcd (by decide) hW hL1)
      · refine vx_catch (own := RL) (name := "java/lang/IllegalArgumentException") hown [⟨0, 14, 17, 13⟩] ⟨0, 14, 21, 15⟩ [] htab (fun z hz => by rw [List.mem_singleton.mp hz]; exact Or.inr ⟨by decide, "java/lang/IndexOutOfBoundsException", (hts (.classLink RL 13 "java/lang/IndexOutOfBoundsException") (by decide +kernel)), K.2.2.2.2.1.2.2.2.2.2.2.1 ("java/lang/IllegalArgumentException", "java/lang/IndexOutOfBoundsException") (by decide +kernel)⟩) rfl (by decide) (hts (.classLink RL 15 "java/lang/IllegalArgumentException") (by decide +kernel)) (va_Nw.use rfl (K.2.2.2.2.1.2.2.2.1 ("java/lang/IllegalArgumentException", "java/lang/IllegalArgumentException") (by decide +kernel))) hce hcv hcl ?_
        refine lv_astore (lv' := [(6, .ref q9), (0, .ref ho), (1, .int p0), (2, .int p1), (3, .int p2), (4, .int p3), (5, .ref o9)]) hx hb dL_cycle_21 hl (by decide) rfl (fun ls hl => ?_)
        refine lv_iconst (v := 2) hx hb dL_cycle_23 (by decide) ?_
        exact hk_iretx X hr hlk hQ hS (Nat.le_of_ble_eq_true rfl) (Nat.le_of_ble_eq_true rfl) dL_cycle_24 (lpost_x hcd (by decide) hW hL1)
      · exact absurd hcd cdn_cycle
    ) (fun v9 H1 locs1 hp hS hz1 hk1 => ?_)
  obtain ⟨hcd, hv, G, R, hW⟩ := hp
  subst hv
  have hL1 : hk_L E o9 1 f0 H1 := (hk1 _ (ar_lt hL0) hoZ).trans hL0
  refine lv_i2l hx hb dL_cycle_12 rfl ?_
  refine hk_lst X K hL1 hS (Or.inr rfl) (show vp_in (nI 0) 1 from vp_in_nI (by decide) (by decide)) dL_cycle_13 (fun H1 locsH1 hIH1 hzH1 hqH1 hS => ?_)
  have hW := hW.kept (fun q h1 h2 => hqH1 q (fun g => by rw [g] at h2; exact h2.elim hoZ (fun h => h hoA)))
  refine lv_goto (tgt := 25) hx hb dL_cycle_14 (by decide) ?_
  refine lv_iconst (v := 0) hx hb dL_cycle_25 (by decide) ?_
  exact hk_iretx X hr hlk hQ hS (Nat.le_of_ble_eq_true rfl) (Nat.le_of_ble_eq_true rfl) dL_cycle_26 (lpost_0 hcd hW hIH1 (out_at))

theorem cdn_lost {p0 p1 : Int32} {S : mS} : ¬ cd_lost p0 p1 S = 3 := by
  unfold cd_lost; (repeat' split) <;> decide
theorem hd_X10_lost : yX10_lost.cls ≠ "java/lang/invoke/MethodHandle" ∧ yX10_lost.cls ≠ "java/lang/invoke/VarHandle" ∧ (parseMethodDescriptor yX10_lost.desc).map (fun d => d.parameters.length) = some 2 := ⟨by decide, by decide, by decide +kernel⟩
abbrev rmL_lost : Room := { frames := 11, cells := 12, slots := 700, locals := 203 }
set_option maxHeartbeats 4000000 in
set_option maxRecDepth 100000 in
theorem c_L_lost (E : hk_E) (l : Launch) (hl9 : l.stackTraces = false) (H0 : Heap) {Z : Nat → Prop} {ho ts : Nat} {li : Nat → Nat} {rr : Nat → Nat → Nat} {G : hG} {R : hR} {cn : Nat → Nat} {sc : Nat → Int32} {μ : Nat → Nat → Int32} (hW : HW E Z (ho, li, rr, ts) G R (cn, sc, μ) H0) (hI : InvF (cn, sc, μ)) (hZn : ∀ q, H0.size ≤ q → Z q) {o9 : Nat} {f0 : Nat → Int64} (hL0 : hk_L E o9 1 f0 H0) (hoZ : ¬ Z o9) (hoA : hk_A E o9) {p0 p1 : Int32}  : hk_X E l yL_lost wsL_lost rmL_lost (fun q => Z q ∨ q = o9) [.ref ho, .int p0, .int p1, .ref o9] H0 (lpost E Z (ho, li, rr, ts) o9 (cd_lost p0 p1 (cn, sc, μ)) (an_lost p0 p1 (cn, sc, μ)) (cn, sc, μ) (st_lost p0 p1 (cn, sc, μ))) (fun _ _ => False) := by
  refine hk_X.ofWH (cc := cL_lost) (maxL := 5) (ret := (some .int)) (hh := [(0, 10, 13, 13), (0, 10, 17, 15)]) (by decide +kernel) rfl (Nat.le_of_ble_eq_true rfl) ?_
  intro p e s m args below meth c ls Q hQ X hr hlk htab K hs9 hS hl
  obtain ⟨hx, hb, hml, hown, hts⟩ := id X
  have hAE : ∀ q, (fun q => Z q ∨ q = o9) q → hk_A E q := fun q h => h.elim (fun h => hW.2.2.2.2.2.2.2.2.2.2.2.2 q h) (fun h => by rw [h]; exact hoA)
  have hl : lv_has ls 5 [(0, .ref ho), (1, .int p0), (2, .int p1), (3, .ref o9)] := hl
  have hZA : ∀ q, Z q → hk_A E q := hW.2.2.2.2.2.2.2.2.2.2.2.2
  refine lv_aload_n hx hb dL_lost_0 rfl (lv_at hl 3 rfl) ?_
  refine lv_iconst (v := 0) hx hb dL_lost_1 (by decide) ?_
  refine lv_aload_n hx hb dL_lost_2 rfl (lv_at hl 0 rfl) ?_
  refine lv_iload_n hx hb dL_lost_3 rfl (lv_at hl 1 rfl) ?_
  refine lv_iload_n hx hb dL_lost_4 rfl (lv_at hl 2 rfl) ?_
  refine hk_callVx 2 (As := [.int p0, .int p1]) (rest := [.int 0, .ref o9]) X K hAE hS hl.1 (HW.o hW) rfl (c_X10_lost E l hl9 H0 hW hI hZn (p0 := p0) (p1 := p1)) (fun q h => Or.inl h) gL_lost_X10_lost rfl ⟨rfl, hd_X10_lost⟩ rfl ⟨⟨(Nat.le_of_ble_eq_true rfl), (Nat.le_of_ble_eq_true rfl)⟩, (Nat.le_of_ble_eq_true rfl), (Nat.le_of_ble_eq_true rfl)⟩ rfl (Nat.le_of_ble_eq_true rfl) dL_lost_5 (fun x9 ce9 q9 H1 locs1 hp hS hz1 hk1 hce hcv hcl => by
      obtain ⟨hcs, G, R, hW⟩ := hp
      have hL1 : hk_L E o9 1 f0 H1 := (hk1 _ (ar_lt hL0) hoZ).trans hL0
      rcases hcs with ⟨hcd, rfl⟩ | ⟨hcd, rfl⟩ | ⟨hcd, rfl⟩
      · refine vx_catch (own := RL) (name := "java/lang/IndexOutOfBoundsException") hown [] ⟨0, 10, 13, 13⟩ [⟨0, 10, 17, 15⟩] htab (fun z hz => absurd hz List.not_mem_nil) rfl (by decide) (hts (.classLink RL 13 "java/lang/IndexOutOfBoundsException") (by decide +kernel)) (va_Nw.use rfl (K.2.2.2.2.1.2.2.2.1 ("java/lang/IndexOutOfBoundsException", "java/lang/IndexOutOfBoundsException") (by decide +kernel))) hce hcv hcl ?_
        refine lv_astore (lv' := [(4, .ref q9), (0, .ref ho), (1, .int p0), (2, .int p1), (3, .ref o9)]) hx hb dL_lost_13 hl (by decide) rfl (fun ls hl => ?_)
        refine lv_iconst (v := 1) hx hb dL_lost_15 (by decide) ?_
        exact hk_iretx X hr hlk hQ hS (Nat.le_of_ble_eq_true rfl) (Nat.le_of_ble_eq_true rfl) dL_lost_16 (lpost_x hcd (by decide) hW hL1)
      · refine vx_catch (own := RL) (name := "java/lang/IllegalArgumentException") hown [⟨0, 10, 13, 13⟩] ⟨0, 10, 17, 15⟩ [] htab (fun z hz => by rw [List.mem_singleton.mp hz]; exact Or.inr ⟨by decide, "java/lang/IndexOutOfBoundsException", (hts (.classLink RL 13 "java/lang/IndexOutOfBoundsException") (by decide +kernel)), K.2.2.2.2.1.2.2.2.2.2.2.1 ("java/lang/IllegalArgumentException", "java/lang/IndexOutOfBoundsException") (by decide +kernel)⟩) rfl (by decide) (hts (.classLink RL 15 "java/lang/IllegalArgumentException") (by decide +kernel)) (va_Nw.use rfl (K.2.2.2.2.1.2.2.2.1 ("java/lang/IllegalArgumentException", "java/lang/IllegalArgumentException") (by decide +kernel))) hce hcv hcl ?_
        refine lv_astore (lv' := [(4, .ref q9), (0, .ref ho), (1, .int p0), (2, .int p1), (3, .ref o9)]) hx hb dL_lost_17 hl (by decide) rfl (fun ls hl => ?_)
        refine lv_iconst (v := 2) hx hb dL_lost_19 (by decide) ?_
        exact hk_iretx X hr hlk hQ hS (Nat.le_of_ble_eq_true rfl) (Nat.le_of_ble_eq_true rfl) dL_lost_20 (lpost_x hcd (by decide) hW hL1)
      · exact absurd hcd cdn_lost
    ) (fun v9 H1 locs1 hp hS hz1 hk1 => ?_)
  obtain ⟨hcd, hv, G, R, hW⟩ := hp
  subst hv
  have hL1 : hk_L E o9 1 f0 H1 := (hk1 _ (ar_lt hL0) hoZ).trans hL0
  refine lv_i2l hx hb dL_lost_8 rfl ?_
  refine hk_lst X K hL1 hS (Or.inr rfl) (show vp_in (nI 0) 1 from vp_in_nI (by decide) (by decide)) dL_lost_9 (fun H1 locsH1 hIH1 hzH1 hqH1 hS => ?_)
  have hW := hW.kept (fun q h1 h2 => hqH1 q (fun g => by rw [g] at h2; exact h2.elim hoZ (fun h => h hoA)))
  refine lv_goto (tgt := 21) hx hb dL_lost_10 (by decide) ?_
  refine lv_iconst (v := 0) hx hb dL_lost_21 (by decide) ?_
  exact hk_iretx X hr hlk hQ hS (Nat.le_of_ble_eq_true rfl) (Nat.le_of_ble_eq_true rfl) dL_lost_22 (lpost_0 hcd hW hIH1 (out_at))

theorem cdn_dust {p0 p1 : Int32} {S : mS} : ¬ cd_dust p0 p1 S = 3 := by
  unfold cd_dust; (repeat' split) <;> decide
theorem hd_X10_dust : yX10_dust.cls ≠ "java/lang/invoke/MethodHandle" ∧ yX10_dust.cls ≠ "java/lang/invoke/VarHandle" ∧ (parseMethodDescriptor yX10_dust.desc).map (fun d => d.parameters.length) = some 2 := ⟨by decide, by decide, by decide +kernel⟩
abbrev rmL_dust : Room := { frames := 11, cells := 12, slots := 700, locals := 199 }
set_option maxHeartbeats 4000000 in
set_option maxRecDepth 100000 in
theorem c_L_dust (E : hk_E) (l : Launch) (hl9 : l.stackTraces = false) (H0 : Heap) {Z : Nat → Prop} {ho ts : Nat} {li : Nat → Nat} {rr : Nat → Nat → Nat} {G : hG} {R : hR} {cn : Nat → Nat} {sc : Nat → Int32} {μ : Nat → Nat → Int32} (hW : HW E Z (ho, li, rr, ts) G R (cn, sc, μ) H0) (hI : InvF (cn, sc, μ)) (hZn : ∀ q, H0.size ≤ q → Z q) {o9 : Nat} {f0 : Nat → Int64} (hL0 : hk_L E o9 1 f0 H0) (hoZ : ¬ Z o9) (hoA : hk_A E o9) {p0 p1 : Int32}  : hk_X E l yL_dust wsL_dust rmL_dust (fun q => Z q ∨ q = o9) [.ref ho, .int p0, .int p1, .ref o9] H0 (lpost E Z (ho, li, rr, ts) o9 (cd_dust p0 p1 (cn, sc, μ)) (an_dust p0 p1 (cn, sc, μ)) (cn, sc, μ) (st_dust p0 p1 (cn, sc, μ))) (fun _ _ => False) := by
  refine hk_X.ofWH (cc := cL_dust) (maxL := 5) (ret := (some .int)) (hh := [(0, 10, 13, 13), (0, 10, 17, 15)]) (by decide +kernel) rfl (Nat.le_of_ble_eq_true rfl) ?_
  intro p e s m args below meth c ls Q hQ X hr hlk htab K hs9 hS hl
  obtain ⟨hx, hb, hml, hown, hts⟩ := id X
  have hAE : ∀ q, (fun q => Z q ∨ q = o9) q → hk_A E q := fun q h => h.elim (fun h => hW.2.2.2.2.2.2.2.2.2.2.2.2 q h) (fun h => by rw [h]; exact hoA)
  have hl : lv_has ls 5 [(0, .ref ho), (1, .int p0), (2, .int p1), (3, .ref o9)] := hl
  have hZA : ∀ q, Z q → hk_A E q := hW.2.2.2.2.2.2.2.2.2.2.2.2
  refine lv_aload_n hx hb dL_dust_0 rfl (lv_at hl 3 rfl) ?_
  refine lv_iconst (v := 0) hx hb dL_dust_1 (by decide) ?_
  refine lv_aload_n hx hb dL_dust_2 rfl (lv_at hl 0 rfl) ?_
  refine lv_iload_n hx hb dL_dust_3 rfl (lv_at hl 1 rfl) ?_
  refine lv_iload_n hx hb dL_dust_4 rfl (lv_at hl 2 rfl) ?_
  refine hk_callVx 2 (As := [.int p0, .int p1]) (rest := [.int 0, .ref o9]) X K hAE hS hl.1 (HW.o hW) rfl (c_X10_dust E l hl9 H0 hW hI hZn (p0 := p0) (p1 := p1)) (fun q h => Or.inl h) gL_dust_X10_dust rfl ⟨rfl, hd_X10_dust⟩ rfl ⟨⟨(Nat.le_of_ble_eq_true rfl), (Nat.le_of_ble_eq_true rfl)⟩, (Nat.le_of_ble_eq_true rfl), (Nat.le_of_ble_eq_true rfl)⟩ rfl (Nat.le_of_ble_eq_true rfl) dL_dust_5 (fun x9 ce9 q9 H1 locs1 hp hS hz1 hk1 hce hcv hcl => by
      obtain ⟨hcs, G, R, hW⟩ := hp
      have hL1 : hk_L E o9 1 f0 H1 := (hk1 _ (ar_lt hL0) hoZ).trans hL0
      rcases hcs with ⟨hcd, rfl⟩ | ⟨hcd, rfl⟩ | ⟨hcd, rfl⟩
      · refine vx_catch (own := RL) (name := "java/lang/IndexOutOfBoundsException") hown [] ⟨0, 10, 13, 13⟩ [⟨0, 10, 17, 15⟩] htab (fun z hz => absurd hz List.not_mem_nil) rfl (by decide) (hts (.classLink RL 13 "java/lang/IndexOutOfBoundsException") (by decide +kernel)) (va_Nw.use rfl (K.2.2.2.2.1.2.2.2.1 ("java/lang/IndexOutOfBoundsException", "java/lang/IndexOutOfBoundsException") (by decide +kernel))) hce hcv hcl ?_
        refine lv_astore (lv' := [(4, .ref q9), (0, .ref ho), (1, .int p0), (2, .int p1), (3, .ref o9)]) hx hb dL_dust_13 hl (by decide) rfl (fun ls hl => ?_)
        refine lv_iconst (v := 1) hx hb dL_dust_15 (by decide) ?_
        exact hk_iretx X hr hlk hQ hS (Nat.le_of_ble_eq_true rfl) (Nat.le_of_ble_eq_true rfl) dL_dust_16 (lpost_x hcd (by decide) hW hL1)
      · refine vx_catch (own := RL) (name := "java/lang/IllegalArgumentException") hown [⟨0, 10, 13, 13⟩] ⟨0, 10, 17, 15⟩ [] htab (fun z hz => by rw [List.mem_singleton.mp hz]; exact Or.inr ⟨by decide, "java/lang/IndexOutOfBoundsException", (hts (.classLink RL 13 "java/lang/IndexOutOfBoundsException") (by decide +kernel)), K.2.2.2.2.1.2.2.2.2.2.2.1 ("java/lang/IllegalArgumentException", "java/lang/IndexOutOfBoundsException") (by decide +kernel)⟩) rfl (by decide) (hts (.classLink RL 15 "java/lang/IllegalArgumentException") (by decide +kernel)) (va_Nw.use rfl (K.2.2.2.2.1.2.2.2.1 ("java/lang/IllegalArgumentException", "java/lang/IllegalArgumentException") (by decide +kernel))) hce hcv hcl ?_
        refine lv_astore (lv' := [(4, .ref q9), (0, .ref ho), (1, .int p0), (2, .int p1), (3, .ref o9)]) hx hb dL_dust_17 hl (by decide) rfl (fun ls hl => ?_)
        refine lv_iconst (v := 2) hx hb dL_dust_19 (by decide) ?_
        exact hk_iretx X hr hlk hQ hS (Nat.le_of_ble_eq_true rfl) (Nat.le_of_ble_eq_true rfl) dL_dust_20 (lpost_x hcd (by decide) hW hL1)
      · exact absurd hcd cdn_dust
    ) (fun v9 H1 locs1 hp hS hz1 hk1 => ?_)
  obtain ⟨hcd, hv, G, R, hW⟩ := hp
  subst hv
  have hL1 : hk_L E o9 1 f0 H1 := (hk1 _ (ar_lt hL0) hoZ).trans hL0
  refine lv_i2l hx hb dL_dust_8 rfl ?_
  refine hk_lst X K hL1 hS (Or.inr rfl) (show vp_in (nI 0) 1 from vp_in_nI (by decide) (by decide)) dL_dust_9 (fun H1 locsH1 hIH1 hzH1 hqH1 hS => ?_)
  have hW := hW.kept (fun q h1 h2 => hqH1 q (fun g => by rw [g] at h2; exact h2.elim hoZ (fun h => h hoA)))
  refine lv_goto (tgt := 21) hx hb dL_dust_10 (by decide) ?_
  refine lv_iconst (v := 0) hx hb dL_dust_21 (by decide) ?_
  exact hk_iretx X hr hlk hQ hS (Nat.le_of_ble_eq_true rfl) (Nat.le_of_ble_eq_true rfl) dL_dust_22 (lpost_0 hcd hW hIH1 (out_at))

theorem cdn_zero {p0 : Int32} {S : mS} : ¬ cd_zero p0 S = 2 ∧ ¬ cd_zero p0 S = 3 := by
  unfold cd_zero; refine ⟨?_, ?_⟩ <;> (repeat' split) <;> decide
theorem hd_X10_zero : yX10_zero.cls ≠ "java/lang/invoke/MethodHandle" ∧ yX10_zero.cls ≠ "java/lang/invoke/VarHandle" ∧ (parseMethodDescriptor yX10_zero.desc).map (fun d => d.parameters.length) = some 1 := ⟨by decide, by decide, by decide +kernel⟩
abbrev rmL_zero : Room := { frames := 8, cells := 12, slots := 700, locals := 134 }
set_option maxHeartbeats 4000000 in
set_option maxRecDepth 100000 in
theorem c_L_zero (E : hk_E) (l : Launch) (hl9 : l.stackTraces = false) (H0 : Heap) {Z : Nat → Prop} {ho ts : Nat} {li : Nat → Nat} {rr : Nat → Nat → Nat} {G : hG} {R : hR} {cn : Nat → Nat} {sc : Nat → Int32} {μ : Nat → Nat → Int32} (hW : HW E Z (ho, li, rr, ts) G R (cn, sc, μ) H0) (hI : InvF (cn, sc, μ)) (hZn : ∀ q, H0.size ≤ q → Z q) {o9 : Nat} {f0 : Nat → Int64} (hL0 : hk_L E o9 1 f0 H0) (hoZ : ¬ Z o9) (hoA : hk_A E o9) {p0 : Int32}  : hk_X E l yL_zero wsL_zero rmL_zero (fun q => Z q ∨ q = o9) [.ref ho, .int p0, .ref o9] H0 (lpost E Z (ho, li, rr, ts) o9 (cd_zero p0 (cn, sc, μ)) (an_zero p0 (cn, sc, μ)) (cn, sc, μ) (st_zero p0 (cn, sc, μ))) (fun _ _ => False) := by
  refine hk_X.ofWH (cc := cL_zero) (maxL := 4) (ret := (some .int)) (hh := [(0, 9, 12, 15)]) (by decide +kernel) rfl (Nat.le_of_ble_eq_true rfl) ?_
  intro p e s m args below meth c ls Q hQ X hr hlk htab K hs9 hS hl
  obtain ⟨hx, hb, hml, hown, hts⟩ := id X
  have hAE : ∀ q, (fun q => Z q ∨ q = o9) q → hk_A E q := fun q h => h.elim (fun h => hW.2.2.2.2.2.2.2.2.2.2.2.2 q h) (fun h => by rw [h]; exact hoA)
  have hl : lv_has ls 4 [(0, .ref ho), (1, .int p0), (2, .ref o9)] := hl
  have hZA : ∀ q, Z q → hk_A E q := hW.2.2.2.2.2.2.2.2.2.2.2.2
  refine lv_aload_n hx hb dL_zero_0 rfl (lv_at hl 2 rfl) ?_
  refine lv_iconst (v := 0) hx hb dL_zero_1 (by decide) ?_
  refine lv_aload_n hx hb dL_zero_2 rfl (lv_at hl 0 rfl) ?_
  refine lv_iload_n hx hb dL_zero_3 rfl (lv_at hl 1 rfl) ?_
  refine hk_callVx 1 (As := [.int p0]) (rest := [.int 0, .ref o9]) X K hAE hS hl.1 (HW.o hW) rfl (c_X10_zero E l hl9 H0 hW hI hZn (p0 := p0)) (fun q h => Or.inl h) gL_zero_X10_zero rfl ⟨rfl, hd_X10_zero⟩ rfl ⟨⟨(Nat.le_of_ble_eq_true rfl), (Nat.le_of_ble_eq_true rfl)⟩, (Nat.le_of_ble_eq_true rfl), (Nat.le_of_ble_eq_true rfl)⟩ rfl (Nat.le_of_ble_eq_true rfl) dL_zero_4 (fun x9 ce9 q9 H1 locs1 hp hS hz1 hk1 hce hcv hcl => by
      obtain ⟨hcs, G, R, hW⟩ := hp
      have hL1 : hk_L E o9 1 f0 H1 := (hk1 _ (ar_lt hL0) hoZ).trans hL0
      rcases hcs with ⟨hcd, rfl⟩ | ⟨hcd, rfl⟩ | ⟨hcd, rfl⟩
      · refine vx_catch (own := RL) (name := "java/lang/IllegalArgumentException") hown [] ⟨0, 9, 12, 15⟩ [] htab (fun z hz => absurd hz List.not_mem_nil) rfl (by decide) (hts (.classLink RL 15 "java/lang/IllegalArgumentException") (by decide +kernel)) (va_Nw.use rfl (K.2.2.2.2.1.2.2.2.1 ("java/lang/IllegalArgumentException", "java/lang/IllegalArgumentException") (by decide +kernel))) hce hcv hcl ?_
        refine lv_astore_n (lv' := [(3, .ref q9), (0, .ref ho), (1, .int p0), (2, .ref o9)]) hx hb dL_zero_12 rfl hl (by decide) rfl (fun ls hl => ?_)
        refine lv_iconst (v := 1) hx hb dL_zero_13 (by decide) ?_
        exact hk_iretx X hr hlk hQ hS (Nat.le_of_ble_eq_true rfl) (Nat.le_of_ble_eq_true rfl) dL_zero_14 (lpost_x hcd (by decide) hW hL1)
      · exact absurd hcd cdn_zero.1
      · exact absurd hcd cdn_zero.2
    ) (fun v9 H1 locs1 hp hS hz1 hk1 => ?_)
  obtain ⟨hcd, hv, G, R, hW⟩ := hp
  subst hv
  have hL1 : hk_L E o9 1 f0 H1 := (hk1 _ (ar_lt hL0) hoZ).trans hL0
  refine lv_i2l hx hb dL_zero_7 rfl ?_
  refine hk_lst X K hL1 hS (Or.inr rfl) (show vp_in (nI 0) 1 from vp_in_nI (by decide) (by decide)) dL_zero_8 (fun H1 locsH1 hIH1 hzH1 hqH1 hS => ?_)
  have hW := hW.kept (fun q h1 h2 => hqH1 q (fun g => by rw [g] at h2; exact h2.elim hoZ (fun h => h hoA)))
  refine lv_goto (tgt := 15) hx hb dL_zero_9 (by decide) ?_
  refine lv_iconst (v := 0) hx hb dL_zero_15 (by decide) ?_
  exact hk_iretx X hr hlk hQ hS (Nat.le_of_ble_eq_true rfl) (Nat.le_of_ble_eq_true rfl) dL_zero_16 (lpost_0 hcd hW hIH1 (out_at))

theorem cdn_mean {p0 : Int32} {S : mS} : ¬ cd_mean p0 S = 3 := by
  unfold cd_mean; (repeat' split) <;> decide
theorem hd_X10_mean : yX10_mean.cls ≠ "java/lang/invoke/MethodHandle" ∧ yX10_mean.cls ≠ "java/lang/invoke/VarHandle" ∧ (parseMethodDescriptor yX10_mean.desc).map (fun d => d.parameters.length) = some 1 := ⟨by decide, by decide, by decide +kernel⟩
abbrev rmL_mean : Room := { frames := 11, cells := 12, slots := 700, locals := 201 }
set_option maxHeartbeats 4000000 in
set_option maxRecDepth 100000 in
theorem c_L_mean (E : hk_E) (l : Launch) (hl9 : l.stackTraces = false) (H0 : Heap) {Z : Nat → Prop} {ho ts : Nat} {li : Nat → Nat} {rr : Nat → Nat → Nat} {G : hG} {R : hR} {cn : Nat → Nat} {sc : Nat → Int32} {μ : Nat → Nat → Int32} (hW : HW E Z (ho, li, rr, ts) G R (cn, sc, μ) H0) (hI : InvF (cn, sc, μ)) (hZn : ∀ q, H0.size ≤ q → Z q) {o9 : Nat} {f0 : Nat → Int64} (hL0 : hk_L E o9 1 f0 H0) (hoZ : ¬ Z o9) (hoA : hk_A E o9) {p0 : Int32}  : hk_X E l yL_mean wsL_mean rmL_mean (fun q => Z q ∨ q = o9) [.ref ho, .int p0, .ref o9] H0 (lpost E Z (ho, li, rr, ts) o9 (cd_mean p0 (cn, sc, μ)) (an_mean p0 (cn, sc, μ)) (cn, sc, μ) (st_mean p0 (cn, sc, μ))) (fun _ _ => False) := by
  refine hk_X.ofWH (cc := cL_mean) (maxL := 4) (ret := (some .int)) (hh := [(0, 9, 12, 13), (0, 9, 15, 21)]) (by decide +kernel) rfl (Nat.le_of_ble_eq_true rfl) ?_
  intro p e s m args below meth c ls Q hQ X hr hlk htab K hs9 hS hl
  obtain ⟨hx, hb, hml, hown, hts⟩ := id X
  have hAE : ∀ q, (fun q => Z q ∨ q = o9) q → hk_A E q := fun q h => h.elim (fun h => hW.2.2.2.2.2.2.2.2.2.2.2.2 q h) (fun h => by rw [h]; exact hoA)
  have hl : lv_has ls 4 [(0, .ref ho), (1, .int p0), (2, .ref o9)] := hl
  have hZA : ∀ q, Z q → hk_A E q := hW.2.2.2.2.2.2.2.2.2.2.2.2
  refine lv_aload_n hx hb dL_mean_0 rfl (lv_at hl 2 rfl) ?_
  refine lv_iconst (v := 0) hx hb dL_mean_1 (by decide) ?_
  refine lv_aload_n hx hb dL_mean_2 rfl (lv_at hl 0 rfl) ?_
  refine lv_iload_n hx hb dL_mean_3 rfl (lv_at hl 1 rfl) ?_
  refine hk_callVx 1 (As := [.int p0]) (rest := [.int 0, .ref o9]) X K hAE hS hl.1 (HW.o hW) rfl (c_X10_mean E l hl9 H0 hW hI hZn (p0 := p0)) (fun q h => Or.inl h) gL_mean_X10_mean rfl ⟨rfl, hd_X10_mean⟩ rfl ⟨⟨(Nat.le_of_ble_eq_true rfl), (Nat.le_of_ble_eq_true rfl)⟩, (Nat.le_of_ble_eq_true rfl), (Nat.le_of_ble_eq_true rfl)⟩ rfl (Nat.le_of_ble_eq_true rfl) dL_mean_4 (fun x9 ce9 q9 H1 locs1 hp hS hz1 hk1 hce hcv hcl => by
      obtain ⟨hcs, G, R, hW⟩ := hp
      have hL1 : hk_L E o9 1 f0 H1 := (hk1 _ (ar_lt hL0) hoZ).trans hL0
      rcases hcs with ⟨hcd, rfl⟩ | ⟨hcd, rfl⟩ | ⟨hcd, rfl⟩
      · refine vx_catch (own := RL) (name := "java/lang/IndexOutOfBoundsException") hown [] ⟨0, 9, 12, 13⟩ [⟨0, 9, 15, 21⟩] htab (fun z hz => absurd hz List.not_mem_nil) rfl (by decide) (hts (.classLink RL 13 "java/lang/IndexOutOfBoundsException") (by decide +kernel)) (va_Nw.use rfl (K.2.2.2.2.1.2.2.2.1 ("java/lang/IndexOutOfBoundsException", "java/lang/IndexOutOfBoundsException") (by decide +kernel))) hce hcv hcl ?_
        refine lv_astore_n (lv' := [(3, .ref q9), (0, .ref ho), (1, .int p0), (2, .ref o9)]) hx hb dL_mean_12 rfl hl (by decide) rfl (fun ls hl => ?_)
        refine lv_iconst (v := 1) hx hb dL_mean_13 (by decide) ?_
        exact hk_iretx X hr hlk hQ hS (Nat.le_of_ble_eq_true rfl) (Nat.le_of_ble_eq_true rfl) dL_mean_14 (lpost_x hcd (by decide) hW hL1)
      · refine vx_catch (own := RL) (name := "java/lang/IllegalStateException") hown [⟨0, 9, 12, 13⟩] ⟨0, 9, 15, 21⟩ [] htab (fun z hz => by rw [List.mem_singleton.mp hz]; exact Or.inr ⟨by decide, "java/lang/IndexOutOfBoundsException", (hts (.classLink RL 13 "java/lang/IndexOutOfBoundsException") (by decide +kernel)), K.2.2.2.2.1.2.2.2.2.2.2.1 ("java/lang/IllegalStateException", "java/lang/IndexOutOfBoundsException") (by decide +kernel)⟩) rfl (by decide) (hts (.classLink RL 21 "java/lang/IllegalStateException") (by decide +kernel)) (va_Nw.use rfl (K.2.2.2.2.1.2.2.2.1 ("java/lang/IllegalStateException", "java/lang/IllegalStateException") (by decide +kernel))) hce hcv hcl ?_
        refine lv_astore_n (lv' := [(3, .ref q9), (0, .ref ho), (1, .int p0), (2, .ref o9)]) hx hb dL_mean_15 rfl hl (by decide) rfl (fun ls hl => ?_)
        refine lv_iconst (v := 2) hx hb dL_mean_16 (by decide) ?_
        exact hk_iretx X hr hlk hQ hS (Nat.le_of_ble_eq_true rfl) (Nat.le_of_ble_eq_true rfl) dL_mean_17 (lpost_x hcd (by decide) hW hL1)
      · exact absurd hcd cdn_mean
    ) (fun v9 H1 locs1 hp hS hz1 hk1 => ?_)
  obtain ⟨hcd, hv, G, R, hW⟩ := hp
  subst hv
  have hL1 : hk_L E o9 1 f0 H1 := (hk1 _ (ar_lt hL0) hoZ).trans hL0
  refine lv_i2l hx hb dL_mean_7 rfl ?_
  refine hk_lst X K hL1 hS (Or.inr rfl) (show vp_in (nI 0) 1 from vp_in_nI (by decide) (by decide)) dL_mean_8 (fun H1 locsH1 hIH1 hzH1 hqH1 hS => ?_)
  have hW := hW.kept (fun q h1 h2 => hqH1 q (fun g => by rw [g] at h2; exact h2.elim hoZ (fun h => h hoA)))
  refine lv_goto (tgt := 18) hx hb dL_mean_9 (by decide) ?_
  refine lv_iconst (v := 0) hx hb dL_mean_18 (by decide) ?_
  exact hk_iretx X hr hlk hQ hS (Nat.le_of_ble_eq_true rfl) (Nat.le_of_ble_eq_true rfl) dL_mean_19 (lpost_0 hcd hW hIH1 (out_at))

theorem cdn_modulus {p0 : Int32} {S : mS} : ¬ cd_modulus p0 S = 3 := by
  unfold cd_modulus; (repeat' split) <;> decide
theorem hd_X10_modulus : yX10_modulus.cls ≠ "java/lang/invoke/MethodHandle" ∧ yX10_modulus.cls ≠ "java/lang/invoke/VarHandle" ∧ (parseMethodDescriptor yX10_modulus.desc).map (fun d => d.parameters.length) = some 1 := ⟨by decide, by decide, by decide +kernel⟩
abbrev rmL_modulus : Room := { frames := 12, cells := 12, slots := 700, locals := 223 }
set_option maxHeartbeats 4000000 in
set_option maxRecDepth 100000 in
theorem c_L_modulus (E : hk_E) (l : Launch) (hl9 : l.stackTraces = false) (H0 : Heap) {Z : Nat → Prop} {ho ts : Nat} {li : Nat → Nat} {rr : Nat → Nat → Nat} {G : hG} {R : hR} {cn : Nat → Nat} {sc : Nat → Int32} {μ : Nat → Nat → Int32} (hW : HW E Z (ho, li, rr, ts) G R (cn, sc, μ) H0) (hI : InvF (cn, sc, μ)) (hZn : ∀ q, H0.size ≤ q → Z q) {o9 : Nat} {f0 : Nat → Int64} (hL0 : hk_L E o9 1 f0 H0) (hoZ : ¬ Z o9) (hoA : hk_A E o9) {p0 : Int32}  : hk_X E l yL_modulus wsL_modulus rmL_modulus (fun q => Z q ∨ q = o9) [.ref ho, .int p0, .ref o9] H0 (lpost E Z (ho, li, rr, ts) o9 (cd_modulus p0 (cn, sc, μ)) (an_modulus p0 (cn, sc, μ)) (cn, sc, μ) (st_modulus p0 (cn, sc, μ))) (fun _ _ => False) := by
  refine hk_X.ofWH (cc := cL_modulus) (maxL := 4) (ret := (some .int)) (hh := [(0, 9, 12, 13), (0, 9, 15, 21)]) (by decide +kernel) rfl (Nat.le_of_ble_eq_true rfl) ?_
  intro p e s m args below meth c ls Q hQ X hr hlk htab K hs9 hS hl
  obtain ⟨hx, hb, hml, hown, hts⟩ := id X
  have hAE : ∀ q, (fun q => Z q ∨ q = o9) q → hk_A E q := fun q h => h.elim (fun h => hW.2.2.2.2.2.2.2.2.2.2.2.2 q h) (fun h => by rw [h]; exact hoA)
  have hl : lv_has ls 4 [(0, .ref ho), (1, .int p0), (2, .ref o9)] := hl
  have hZA : ∀ q, Z q → hk_A E q := hW.2.2.2.2.2.2.2.2.2.2.2.2
  refine lv_aload_n hx hb dL_modulus_0 rfl (lv_at hl 2 rfl) ?_
  refine lv_iconst (v := 0) hx hb dL_modulus_1 (by decide) ?_
  refine lv_aload_n hx hb dL_modulus_2 rfl (lv_at hl 0 rfl) ?_
  refine lv_iload_n hx hb dL_modulus_3 rfl (lv_at hl 1 rfl) ?_
  refine hk_callVx 1 (As := [.int p0]) (rest := [.int 0, .ref o9]) X K hAE hS hl.1 (HW.o hW) rfl (c_X10_modulus E l hl9 H0 hW hI hZn (p0 := p0)) (fun q h => Or.inl h) gL_modulus_X10_modulus rfl ⟨rfl, hd_X10_modulus⟩ rfl ⟨⟨(Nat.le_of_ble_eq_true rfl), (Nat.le_of_ble_eq_true rfl)⟩, (Nat.le_of_ble_eq_true rfl), (Nat.le_of_ble_eq_true rfl)⟩ rfl (Nat.le_of_ble_eq_true rfl) dL_modulus_4 (fun x9 ce9 q9 H1 locs1 hp hS hz1 hk1 hce hcv hcl => by
      obtain ⟨hcs, G, R, hW⟩ := hp
      have hL1 : hk_L E o9 1 f0 H1 := (hk1 _ (ar_lt hL0) hoZ).trans hL0
      rcases hcs with ⟨hcd, rfl⟩ | ⟨hcd, rfl⟩ | ⟨hcd, rfl⟩
      · refine vx_catch (own := RL) (name := "java/lang/IndexOutOfBoundsException") hown [] ⟨0, 9, 12, 13⟩ [⟨0, 9, 15, 21⟩] htab (fun z hz => absurd hz List.not_mem_nil) rfl (by decide) (hts (.classLink RL 13 "java/lang/IndexOutOfBoundsException") (by decide +kernel)) (va_Nw.use rfl (K.2.2.2.2.1.2.2.2.1 ("java/lang/IndexOutOfBoundsException", "java/lang/IndexOutOfBoundsException") (by decide +kernel))) hce hcv hcl ?_
        refine lv_astore_n (lv' := [(3, .ref q9), (0, .ref ho), (1, .int p0), (2, .ref o9)]) hx hb dL_modulus_12 rfl hl (by decide) rfl (fun ls hl => ?_)
        refine lv_iconst (v := 1) hx hb dL_modulus_13 (by decide) ?_
        exact hk_iretx X hr hlk hQ hS (Nat.le_of_ble_eq_true rfl) (Nat.le_of_ble_eq_true rfl) dL_modulus_14 (lpost_x hcd (by decide) hW hL1)
      · refine vx_catch (own := RL) (name := "java/lang/IllegalStateException") hown [⟨0, 9, 12, 13⟩] ⟨0, 9, 15, 21⟩ [] htab (fun z hz => by rw [List.mem_singleton.mp hz]; exact Or.inr ⟨by decide, "java/lang/IndexOutOfBoundsException", (hts (.classLink RL 13 "java/lang/IndexOutOfBoundsException") (by decide +kernel)), K.2.2.2.2.1.2.2.2.2.2.2.1 ("java/lang/IllegalStateException", "java/lang/IndexOutOfBoundsException") (by decide +kernel)⟩) rfl (by decide) (hts (.classLink RL 21 "java/lang/IllegalStateException") (by decide +kernel)) (va_Nw.use rfl (K.2.2.2.2.1.2.2.2.1 ("java/lang/IllegalStateException", "java/lang/IllegalStateException") (by decide +kernel))) hce hcv hcl ?_
        refine lv_astore_n (lv' := [(3, .ref q9), (0, .ref ho), (1, .int p0), (2, .ref o9)]) hx hb dL_modulus_15 rfl hl (by decide) rfl (fun ls hl => ?_)
        refine lv_iconst (v := 2) hx hb dL_modulus_16 (by decide) ?_
        exact hk_iretx X hr hlk hQ hS (Nat.le_of_ble_eq_true rfl) (Nat.le_of_ble_eq_true rfl) dL_modulus_17 (lpost_x hcd (by decide) hW hL1)
      · exact absurd hcd cdn_modulus
    ) (fun v9 H1 locs1 hp hS hz1 hk1 => ?_)
  obtain ⟨hcd, hv, G, R, hW⟩ := hp
  subst hv
  have hL1 : hk_L E o9 1 f0 H1 := (hk1 _ (ar_lt hL0) hoZ).trans hL0
  refine lv_i2l hx hb dL_modulus_7 rfl ?_
  refine hk_lst X K hL1 hS (Or.inr rfl) (show vp_in (nI 0) 1 from vp_in_nI (by decide) (by decide)) dL_modulus_8 (fun H1 locsH1 hIH1 hzH1 hqH1 hS => ?_)
  have hW := hW.kept (fun q h1 h2 => hqH1 q (fun g => by rw [g] at h2; exact h2.elim hoZ (fun h => h hoA)))
  refine lv_goto (tgt := 18) hx hb dL_modulus_9 (by decide) ?_
  refine lv_iconst (v := 0) hx hb dL_modulus_18 (by decide) ?_
  exact hk_iretx X hr hlk hQ hS (Nat.le_of_ble_eq_true rfl) (Nat.le_of_ble_eq_true rfl) dL_modulus_19 (lpost_0 hcd hW hIH1 (out_at))

theorem cdn_nearest {p0 : Int32} {S : mS} : ¬ cd_nearest p0 S = 2 ∧ ¬ cd_nearest p0 S = 3 := by
  unfold cd_nearest; refine ⟨?_, ?_⟩ <;> (repeat' split) <;> decide
theorem hd_X10_nearest : yX10_nearest.cls ≠ "java/lang/invoke/MethodHandle" ∧ yX10_nearest.cls ≠ "java/lang/invoke/VarHandle" ∧ (parseMethodDescriptor yX10_nearest.desc).map (fun d => d.parameters.length) = some 1 := ⟨by decide, by decide, by decide +kernel⟩
abbrev rmL_nearest : Room := { frames := 11, cells := 12, slots := 700, locals := 203 }
set_option maxHeartbeats 4000000 in
set_option maxRecDepth 100000 in
theorem c_L_nearest (E : hk_E) (l : Launch) (hl9 : l.stackTraces = false) (H0 : Heap) {Z : Nat → Prop} {ho ts : Nat} {li : Nat → Nat} {rr : Nat → Nat → Nat} {G : hG} {R : hR} {cn : Nat → Nat} {sc : Nat → Int32} {μ : Nat → Nat → Int32} (hW : HW E Z (ho, li, rr, ts) G R (cn, sc, μ) H0) (hI : InvF (cn, sc, μ)) (hZn : ∀ q, H0.size ≤ q → Z q) {o9 : Nat} {f0 : Nat → Int64} (hL0 : hk_L E o9 1 f0 H0) (hoZ : ¬ Z o9) (hoA : hk_A E o9) {p0 : Int32}  : hk_X E l yL_nearest wsL_nearest rmL_nearest (fun q => Z q ∨ q = o9) [.ref ho, .int p0, .ref o9] H0 (lpost E Z (ho, li, rr, ts) o9 (cd_nearest p0 (cn, sc, μ)) (an_nearest p0 (cn, sc, μ)) (cn, sc, μ) (st_nearest p0 (cn, sc, μ))) (fun _ _ => False) := by
  refine hk_X.ofWH (cc := cL_nearest) (maxL := 4) (ret := (some .int)) (hh := [(0, 9, 12, 13)]) (by decide +kernel) rfl (Nat.le_of_ble_eq_true rfl) ?_
  intro p e s m args below meth c ls Q hQ X hr hlk htab K hs9 hS hl
  obtain ⟨hx, hb, hml, hown, hts⟩ := id X
  have hAE : ∀ q, (fun q => Z q ∨ q = o9) q → hk_A E q := fun q h => h.elim (fun h => hW.2.2.2.2.2.2.2.2.2.2.2.2 q h) (fun h => by rw [h]; exact hoA)
  have hl : lv_has ls 4 [(0, .ref ho), (1, .int p0), (2, .ref o9)] := hl
  have hZA : ∀ q, Z q → hk_A E q := hW.2.2.2.2.2.2.2.2.2.2.2.2
  refine lv_aload_n hx hb dL_nearest_0 rfl (lv_at hl 2 rfl) ?_
  refine lv_iconst (v := 0) hx hb dL_nearest_1 (by decide) ?_
  refine lv_aload_n hx hb dL_nearest_2 rfl (lv_at hl 0 rfl) ?_
  refine lv_iload_n hx hb dL_nearest_3 rfl (lv_at hl 1 rfl) ?_
  refine hk_callVx 1 (As := [.int p0]) (rest := [.int 0, .ref o9]) X K hAE hS hl.1 (HW.o hW) rfl (c_X10_nearest E l hl9 H0 hW hI hZn (p0 := p0)) (fun q h => Or.inl h) gL_nearest_X10_nearest rfl ⟨rfl, hd_X10_nearest⟩ rfl ⟨⟨(Nat.le_of_ble_eq_true rfl), (Nat.le_of_ble_eq_true rfl)⟩, (Nat.le_of_ble_eq_true rfl), (Nat.le_of_ble_eq_true rfl)⟩ rfl (Nat.le_of_ble_eq_true rfl) dL_nearest_4 (fun x9 ce9 q9 H1 locs1 hp hS hz1 hk1 hce hcv hcl => by
      obtain ⟨hcs, G, R, hW⟩ := hp
      have hL1 : hk_L E o9 1 f0 H1 := (hk1 _ (ar_lt hL0) hoZ).trans hL0
      rcases hcs with ⟨hcd, rfl⟩ | ⟨hcd, rfl⟩ | ⟨hcd, rfl⟩
      · refine vx_catch (own := RL) (name := "java/lang/IndexOutOfBoundsException") hown [] ⟨0, 9, 12, 13⟩ [] htab (fun z hz => absurd hz List.not_mem_nil) rfl (by decide) (hts (.classLink RL 13 "java/lang/IndexOutOfBoundsException") (by decide +kernel)) (va_Nw.use rfl (K.2.2.2.2.1.2.2.2.1 ("java/lang/IndexOutOfBoundsException", "java/lang/IndexOutOfBoundsException") (by decide +kernel))) hce hcv hcl ?_
        refine lv_astore_n (lv' := [(3, .ref q9), (0, .ref ho), (1, .int p0), (2, .ref o9)]) hx hb dL_nearest_12 rfl hl (by decide) rfl (fun ls hl => ?_)
        refine lv_iconst (v := 1) hx hb dL_nearest_13 (by decide) ?_
        exact hk_iretx X hr hlk hQ hS (Nat.le_of_ble_eq_true rfl) (Nat.le_of_ble_eq_true rfl) dL_nearest_14 (lpost_x hcd (by decide) hW hL1)
      · exact absurd hcd cdn_nearest.1
      · exact absurd hcd cdn_nearest.2
    ) (fun v9 H1 locs1 hp hS hz1 hk1 => ?_)
  obtain ⟨hcd, hv, G, R, hW⟩ := hp
  subst hv
  have hL1 : hk_L E o9 1 f0 H1 := (hk1 _ (ar_lt hL0) hoZ).trans hL0
  refine lv_i2l hx hb dL_nearest_7 rfl ?_
  refine hk_lst X K hL1 hS (Or.inr rfl) (show vp_in (nI 0) 1 from vp_in_nI (by decide) (by decide)) dL_nearest_8 (fun H1 locsH1 hIH1 hzH1 hqH1 hS => ?_)
  have hW := hW.kept (fun q h1 h2 => hqH1 q (fun g => by rw [g] at h2; exact h2.elim hoZ (fun h => h hoA)))
  refine lv_goto (tgt := 15) hx hb dL_nearest_9 (by decide) ?_
  refine lv_iconst (v := 0) hx hb dL_nearest_15 (by decide) ?_
  exact hk_iretx X hr hlk hQ hS (Nat.le_of_ble_eq_true rfl) (Nat.le_of_ble_eq_true rfl) dL_nearest_16 (lpost_0 hcd hW hIH1 (out_at))

