section LAWB
variable {p : Program} {l : Launch} {e : Env} {R : Room} {s : State} {m : MethodId} {args : Array Value} {below : List Frame} {meth : Method} {c : Code} {H : Heap} {locs : List Loc} {cells slots : Nat} {Q : State → Prop}
variable {cc : ByteArray} {pc nL : Nat} {ls : Array Slot} {rest st0 : List Value} {E : hk_E} {A A0 : Nat → Prop} {Ts : List Cond} {own : String}
variable {post : Option Value → Heap → Prop} {px : String → Heap → Prop} {y : MethodName} {bytes : ByteArray} {maxL index : Nat} {ret : Option FieldType} {ws ws' : List Cond} {rm : Room} {As : List Value} {hh : List (Nat × Nat × Nat × Nat)}
theorem hk_callSxW (n : Nat) (X : CallFix p m c cc nL s args Ts own) (K : hk_K E s s.heap) (hA0 : ∀ q, A0 q → hk_A E q) (hS : va_S A0 s.heap H locs) (hsz : ls.size = nL)
    (hM : hk_X E l y ws rm A As H post px) (hA : ∀ q, A q → A0 q) (hT : GoodIn Ts (va_wsS own index y ws)) (hw : ws = Cond.codeWith y bytes maxL ret hh :: ws')
    (hd : y.cls ≠ "java/lang/invoke/MethodHandle" ∧ y.cls ≠ "java/lang/invoke/VarHandle" ∧ (parseMethodDescriptor y.desc).map (fun d => d.parameters.length) = some n) (hn : As.length = n)
    (hrm : hk_rm rm R maxL cells slots) (hst : st0 = As.reverse ++ rest) (hcat : (rest.map fun v => v.category).sum ≤ 8) (hdg : decode cc pc = .ok (.invokestatic index, 3))
    (kx : hk_kx p l e R s m args below meth c H (cells + rm.cells) (slots + rm.slots) Q pc ls rest A A0 px)
    (kk : hk_kk p l e R s m args below meth c H (cells + rm.cells) (slots + rm.slots) Q pc ls rest A A0 post) : W p l e R s m args below meth c H locs cells slots Q (F0 m pc ls st0) :=
  hk_gox (vx_runSX X hM (vx_cwSW n X.2.2.2.2 hT hw rfl rfl hd hrm.1) ⟨hk_blind E _ H, hk_pre K hA0 hS⟩ rfl hn hsz hst (lv_room hcat) hdg hrm.2) hS hA kx kk
end LAWB
theorem hd_X10_look : yX10_look.cls ≠ "java/lang/invoke/MethodHandle" ∧ yX10_look.cls ≠ "java/lang/invoke/VarHandle" ∧ (parseMethodDescriptor yX10_look.desc).map (fun d => d.parameters.length) = some 2 := ⟨by decide, by decide, by decide +kernel⟩
abbrev rmL_areLooks : Room := { frames := 11, cells := 1200, slots := 60000, locals := 198 }
set_option maxHeartbeats 4000000 in
set_option maxRecDepth 100000 in
theorem c_L_areLooks (E : hk_E) (l : Launch) (hl9 : l.stackTraces = false) (H0 : Heap) {Z : Nat → Prop} {ho ts : Nat} {li : Nat → Nat} {rr : Nat → Nat → Nat} {G : hG} {R : hR} {la : Nat → Nat} {V : Nat → Nat → Int32} {cn : Nat → Nat} {sc : Nat → Int32} {μ : Nat → Nat → Int32} (hW : HW E Z (ho, li, rr, ts) G R (cn, sc, μ) H0) (hL : LW E la V H0) (hV : LV (cn, sc, μ) V) (hI : InvF (cn, sc, μ)) (hX : LXY (cn, sc, μ) V) (hZn : ∀ q, H0.size ≤ q → Z q) (hlz : ∀ k, k < 13 → ¬ Z (la k))  : hk_X E l yL_areLooks wsL_areLooks rmL_areLooks (fun q => Z q) [.ref ho, .ref (la 0), .ref (la 4), .ref (la 5), .ref (la 6), .ref (la 7), .ref (la 10), .ref (la 11), .ref (la 12)] H0 (dpost E Z (ho, li, rr, ts) 1 (cn, sc, μ)) (fun _ _ => False) := by
  refine hk_X.ofW (cc := cL_areLooks) (maxL := 11) (ret := (some .boolean)) (by decide +kernel) rfl (Nat.le_of_ble_eq_true rfl) ?_
  intro p e s m args below meth c ls Q hQ X hr hlk hx9 K hs9 hS hl
  obtain ⟨hx, hb, hml, hown, hts⟩ := id X
  have hAE : ∀ q, (fun q => Z q) q → hk_A E q := fun q h => hW.2.2.2.2.2.2.2.2.2.2.2.2 q h
  have hl : lv_has ls 11 [(0, .ref ho), (1, .ref (la 0)), (2, .ref (la 4)), (3, .ref (la 5)), (4, .ref (la 6)), (5, .ref (la 7)), (6, .ref (la 10)), (7, .ref (la 11)), (8, .ref (la 12))] := hl
  have hn1 : cn 1 ≤ 4 := hV.n1
  have hn8 : cn 8 ≤ 3 := hV.n8
  have hn12 : cn 12 ≤ 24 := hV.n12
  have hn22 : cn 22 ≤ 4 := hV.n22
  have hn29 : cn 29 ≤ 8 := hV.n29
  refine lv_iconst (v := 1) hx hb dL_areLooks_0 (by decide) ?_
  refine lv_istore (lv' := [(9, .int 1), (0, .ref ho), (1, .ref (la 0)), (2, .ref (la 4)), (3, .ref (la 5)), (4, .ref (la 6)), (5, .ref (la 7)), (6, .ref (la 10)), (7, .ref (la 11)), (8, .ref (la 12))]) hx hb dL_areLooks_1 hl (by decide) rfl (fun ls hl => ?_)
  refine lv_iconst (v := 0) hx hb dL_areLooks_3 (by decide) ?_
  refine lv_istore (lv' := [(10, .int 0), (9, .int 1), (0, .ref ho), (1, .ref (la 0)), (2, .ref (la 4)), (3, .ref (la 5)), (4, .ref (la 6)), (5, .ref (la 7)), (6, .ref (la 10)), (7, .ref (la 11)), (8, .ref (la 12))]) hx hb dL_areLooks_4 hl (by decide) rfl (fun ls hl => ?_)
  have L6 : ∀ (n9 : Nat) (j9 : Nat) (H : Heap) (locs : List Loc) (G : hG) (R : hR), cn 12 + 1 ≤ j9 + n9 → (va_S (fun q => Z q) s.heap H locs ∧ HW E Z (ho, li, rr, ts) G R (cn, sc, μ) H ∧ LW E la V H ∧ (∀ q, H.size ≤ q → Z q) ∧ j9 ≤ cn 12) → ∀ (ls : Array Slot), lv_has ls 11 [(9, .int 1), (10, .int (nI j9)), (0, .ref ho), (1, .ref (la 0)), (2, .ref (la 4)), (3, .ref (la 5)), (4, .ref (la 6)), (5, .ref (la 7)), (6, .ref (la 10)), (7, .ref (la 11)), (8, .ref (la 12))] → W p l e rmL_areLooks s m args below meth c H locs (48 * j9) (2400 * j9) Q (F0 m 6 ls []) := by
    intro n9
    induction n9 with
    | zero =>
      intro j9 H locs G R hm9 ⟨hS, hW, hL, hZn, hj⟩ ls hl
      exact absurd hm9 (by omega)
    | succ n9 ih =>
      intro j9 H locs G R hm9 ⟨hS, hW, hL, hZn, hj⟩ ls hl
      refine lv_iload hx hb dL_areLooks_6 (lv_at hl 1 rfl) ?_
      refine lv_aload hx hb dL_areLooks_8 (lv_at hl 8 rfl) ?_
      refine lv_iconst (v := 2) hx hb dL_areLooks_10 (by decide) ?_
      refine hk_ild X K hL.c10 (show vp_in (nI 2) 6 from vp_in_nI (by decide) (by decide)) dL_areLooks_11 ?_
      rw [show (V 10) (2 : Int32).toNatClampNeg = nI (cn 12) from hV.g2]
      refine lv_icmp_ge (tgt := 136) hx hb dL_areLooks_12 (by decide) (fun c_12 => ?_) (fun c_12 => ?_)
      · have hj9 : j9 = cn 12 := by
          have := (nI_leI (by omega) (by omega)).mp c_12
          omega
        refine lv_iload hx hb dL_areLooks_136 (lv_at hl 0 rfl) ?_
        exact hk_zretx X hr hlk hQ hS (by show 48 * j9 + 0 ≤ 1200; omega) (by show 2400 * j9 + 0 ≤ 60000; omega) dL_areLooks_138 (Or.inr rfl) (⟨rfl, G, R, hW⟩)
      · have hj9 : j9 < cn 12 := Nat.lt_of_not_le (fun h => c_12 (nI_le h (by omega)))
        obtain ⟨sx, stx, ofx, dx, hsx, hstx, hofx, hdx, h13, h14, h15, h21, h5, hsd, hss⟩ := hV.lk hj9
        have hstx : stx < cn 1 := hstx
        have hj31 : j9 < 2 ^ 31 := by omega
        refine lv_iload hx hb dL_areLooks_15 (lv_at hl 0 rfl) ?_
        refine lv_if_eq (tgt := 136) hx hb dL_areLooks_17 (by decide) (fun c_17 => ?_) (fun c_17 => ?_)
        · exact absurd c_17 (by decide)
        · refine lv_aload_n hx hb dL_areLooks_20 rfl (lv_at hl 2 rfl) ?_
          refine lv_iload hx hb dL_areLooks_21 (lv_at hl 1 rfl) ?_
          refine lv_iconst (v := 0) hx hb dL_areLooks_23 (by decide) ?_
          have hcd0 : cd_look (nI j9) 0 (cn, sc, μ) = 0 := look_cd hj9 hn12 (by decide)
          refine hk_callVx 2 (As := [.int (nI j9), .int 0]) (rest := []) X K hAE hS hl.1 (HW.o hW) rfl (c_X10_look E l hl9 H hW hI hZn (p0 := nI j9) (p1 := 0)) (fun q h => h) gL_areLooks_X10_look rfl ⟨rfl, hd_X10_look⟩ rfl ⟨⟨(Nat.le_of_ble_eq_true rfl), (Nat.le_of_ble_eq_true rfl)⟩, (by show 48 * j9 + 8 ≤ 1200; omega), (by show 2400 * j9 + 400 ≤ 60000; omega)⟩ rfl (Nat.le_of_ble_eq_true rfl) dL_areLooks_24 (fun x9 ce9 q9 H9 locs9 hp hS hz9 hk9 hce hcv hcl => by
              obtain ⟨hcs, -⟩ := hp
              rw [hcd0] at hcs
              rcases hcs with ⟨h, -⟩ | ⟨h, -⟩ | ⟨h, -⟩ <;> exact absurd h (by decide)
            ) (fun v9 H1 locsH1 hp hS hzH1 hkH1 => ?_)
          obtain ⟨-, hv, G, R, hW⟩ := hp
          subst hv
          have hL := hL.kept (fun k hk => hkH1 (la k) (hL.lt hk) (hlz k hk))
          have hZn := fun (q : Nat) (h : H1.size ≤ q) => hZn q (Nat.le_trans hzH1 h)
          refine lv_aload_n hx hb dL_areLooks_27 rfl (lv_at hl 3 rfl) ?_
          refine lv_aload_n hx hb dL_areLooks_28 rfl (lv_at hl 4 rfl) ?_
          refine lv_aload_n hx hb dL_areLooks_29 rfl (lv_at hl 5 rfl) ?_
          refine lv_aload hx hb dL_areLooks_30 (lv_at hl 6 rfl) ?_
          refine lv_aload hx hb dL_areLooks_32 (lv_at hl 7 rfl) ?_
          refine lv_iload hx hb dL_areLooks_34 (lv_at hl 1 rfl) ?_
          refine hk_callS 6 (As := [.ref (la 0), .ref (la 4), .ref (la 5), .ref (la 6), .ref (la 7), .int (nI j9)]) (rest := [.int (an_look (nI j9) 0 (cn, sc, μ))]) X K hAE hS hl.1 (c_L_raw E l H1 hL hV hI hj9) (fun _ h => h.elim) gL_areLooks_L_raw rfl hd_L_raw rfl ⟨⟨(Nat.le_of_ble_eq_true rfl), (Nat.le_of_ble_eq_true rfl)⟩, (by show 48 * j9 + 8 + 0 ≤ 1200; omega), (by show 2400 * j9 + 400 + 0 ≤ 60000; omega)⟩ rfl (Nat.le_of_ble_eq_true rfl) dL_areLooks_36 (fun v9 H2 locsH2 hp hS hzH2 hkH2 => ?_)
          obtain ⟨hv, hh⟩ := hp
          subst hv; subst hh
          refine lv_icmp_ne (tgt := 127) hx hb dL_areLooks_39 (by decide) (fun c_39 => ?_) (fun c_39 => ?_)
          · exact (c_39 (lk0 hj31)).elim
          · refine lv_aload_n hx hb dL_areLooks_42 rfl (lv_at hl 2 rfl) ?_
            refine lv_iload hx hb dL_areLooks_43 (lv_at hl 1 rfl) ?_
            refine lv_iconst (v := 1) hx hb dL_areLooks_45 (by decide) ?_
            have hcd0 : cd_look (nI j9) 1 (cn, sc, μ) = 0 := look_cd hj9 hn12 (by decide)
            refine hk_callVx 2 (As := [.int (nI j9), .int 1]) (rest := []) X K hAE hS hl.1 (HW.o hW) rfl (c_X10_look E l hl9 H1 hW hI hZn (p0 := nI j9) (p1 := 1)) (fun q h => h) gL_areLooks_X10_look rfl ⟨rfl, hd_X10_look⟩ rfl ⟨⟨(Nat.le_of_ble_eq_true rfl), (Nat.le_of_ble_eq_true rfl)⟩, (by show 48 * j9 + 8 + 8 ≤ 1200; omega), (by show 2400 * j9 + 400 + 400 ≤ 60000; omega)⟩ rfl (Nat.le_of_ble_eq_true rfl) dL_areLooks_46 (fun x9 ce9 q9 H9 locs9 hp hS hz9 hk9 hce hcv hcl => by
                obtain ⟨hcs, -⟩ := hp
                rw [hcd0] at hcs
                rcases hcs with ⟨h, -⟩ | ⟨h, -⟩ | ⟨h, -⟩ <;> exact absurd h (by decide)
              ) (fun v9 H3 locsH3 hp hS hzH3 hkH3 => ?_)
            obtain ⟨-, hv, G, R, hW⟩ := hp
            subst hv
            have hL := hL.kept (fun k hk => hkH3 (la k) (hL.lt hk) (hlz k hk))
            have hZn := fun (q : Nat) (h : H3.size ≤ q) => hZn q (Nat.le_trans hzH3 h)
            refine lv_aload hx hb dL_areLooks_49 (lv_at hl 9 rfl) ?_
            refine lv_iload hx hb dL_areLooks_51 (lv_at hl 1 rfl) ?_
            refine hk_ild X K hL.c11 (vp_in_nI (by omega) (by omega)) dL_areLooks_53 ?_
            rw [show (V 11) (nI j9).toNatClampNeg = V 11 j9 from by rw [nI_clamp (show j9 < 2 ^ 31 by omega)]]
            refine lv_icmp_ne (tgt := 127) hx hb dL_areLooks_54 (by decide) (fun c_54 => ?_) (fun c_54 => ?_)
            · exact (c_54 ((lk1 hj31).trans (hX j9 hj9).1.symm)).elim
            · refine lv_aload_n hx hb dL_areLooks_57 rfl (lv_at hl 2 rfl) ?_
              refine lv_iload hx hb dL_areLooks_58 (lv_at hl 1 rfl) ?_
              refine lv_iconst (v := 2) hx hb dL_areLooks_60 (by decide) ?_
              have hcd0 : cd_look (nI j9) 2 (cn, sc, μ) = 0 := look_cd hj9 hn12 (by decide)
              refine hk_callVx 2 (As := [.int (nI j9), .int 2]) (rest := []) X K hAE hS hl.1 (HW.o hW) rfl (c_X10_look E l hl9 H3 hW hI hZn (p0 := nI j9) (p1 := 2)) (fun q h => h) gL_areLooks_X10_look rfl ⟨rfl, hd_X10_look⟩ rfl ⟨⟨(Nat.le_of_ble_eq_true rfl), (Nat.le_of_ble_eq_true rfl)⟩, (by show 48 * j9 + 8 + 8 + 8 ≤ 1200; omega), (by show 2400 * j9 + 400 + 400 + 400 ≤ 60000; omega)⟩ rfl (Nat.le_of_ble_eq_true rfl) dL_areLooks_61 (fun x9 ce9 q9 H9 locs9 hp hS hz9 hk9 hce hcv hcl => by
                  obtain ⟨hcs, -⟩ := hp
                  rw [hcd0] at hcs
                  rcases hcs with ⟨h, -⟩ | ⟨h, -⟩ | ⟨h, -⟩ <;> exact absurd h (by decide)
                ) (fun v9 H4 locsH4 hp hS hzH4 hkH4 => ?_)
              obtain ⟨-, hv, G, R, hW⟩ := hp
              subst hv
              have hL := hL.kept (fun k hk => hkH4 (la k) (hL.lt hk) (hlz k hk))
              have hZn := fun (q : Nat) (h : H4.size ≤ q) => hZn q (Nat.le_trans hzH4 h)
              refine lv_aload hx hb dL_areLooks_64 (lv_at hl 10 rfl) ?_
              refine lv_iload hx hb dL_areLooks_66 (lv_at hl 1 rfl) ?_
              refine hk_ild X K hL.c12 (vp_in_nI (by omega) (by omega)) dL_areLooks_68 ?_
              rw [show (V 12) (nI j9).toNatClampNeg = V 12 j9 from by rw [nI_clamp (show j9 < 2 ^ 31 by omega)]]
              refine lv_icmp_ne (tgt := 127) hx hb dL_areLooks_69 (by decide) (fun c_69 => ?_) (fun c_69 => ?_)
              · exact (c_69 ((lk2 hj31).trans (hX j9 hj9).2.symm)).elim
              · refine lv_aload_n hx hb dL_areLooks_72 rfl (lv_at hl 2 rfl) ?_
                refine lv_iload hx hb dL_areLooks_73 (lv_at hl 1 rfl) ?_
                refine lv_iconst (v := 3) hx hb dL_areLooks_75 (by decide) ?_
                have hcd0 : cd_look (nI j9) 3 (cn, sc, μ) = 0 := look_cd hj9 hn12 (by decide)
                refine hk_callVx 2 (As := [.int (nI j9), .int 3]) (rest := []) X K hAE hS hl.1 (HW.o hW) rfl (c_X10_look E l hl9 H4 hW hI hZn (p0 := nI j9) (p1 := 3)) (fun q h => h) gL_areLooks_X10_look rfl ⟨rfl, hd_X10_look⟩ rfl ⟨⟨(Nat.le_of_ble_eq_true rfl), (Nat.le_of_ble_eq_true rfl)⟩, (by show 48 * j9 + 8 + 8 + 8 + 8 ≤ 1200; omega), (by show 2400 * j9 + 400 + 400 + 400 + 400 ≤ 60000; omega)⟩ rfl (Nat.le_of_ble_eq_true rfl) dL_areLooks_76 (fun x9 ce9 q9 H9 locs9 hp hS hz9 hk9 hce hcv hcl => by
                    obtain ⟨hcs, -⟩ := hp
                    rw [hcd0] at hcs
                    rcases hcs with ⟨h, -⟩ | ⟨h, -⟩ | ⟨h, -⟩ <;> exact absurd h (by decide)
                  ) (fun v9 H5 locsH5 hp hS hzH5 hkH5 => ?_)
                obtain ⟨-, hv, G, R, hW⟩ := hp
                subst hv
                have hL := hL.kept (fun k hk => hkH5 (la k) (hL.lt hk) (hlz k hk))
                have hZn := fun (q : Nat) (h : H5.size ≤ q) => hZn q (Nat.le_trans hzH5 h)
                refine lv_aload_n hx hb dL_areLooks_79 rfl (lv_at hl 5 rfl) ?_
                refine lv_iload hx hb dL_areLooks_80 (lv_at hl 1 rfl) ?_
                refine hk_ild X K hL.c5 (vp_in_nI (by omega) (by omega)) dL_areLooks_82 ?_
                rw [show (V 5) (nI j9).toNatClampNeg = nI (sx + 2 * stx + 8 * ofx + 64 * dx) from (congrArg (V 5) (nI_clamp (show j9 < 2 ^ 31 by omega))).trans h5]
                refine lv_iconst (v := 2) hx hb dL_areLooks_83 (by decide) ?_
                refine lv_idiv hx hb dL_areLooks_84 (by decide) ?_
                refine lv_topi (fun z_6 ez_6 => ?_)
                have ez_6 : z_6 = nI ((sx + 2 * stx + 8 * ofx + 64 * dx) / 2) := ez_6.trans (pk_div (a := (sx + 2 * stx + 8 * ofx + 64 * dx)) (d := 2) (by omega) (by omega) (by omega))
                subst ez_6
                refine lv_iconst (v := 4) hx hb dL_areLooks_85 (by decide) ?_
                refine lv_irem hx hb dL_areLooks_86 (by decide) ?_
                refine lv_topi (fun z_7 ez_7 => ?_)
                have ez_7 : z_7 = nI stx := ez_7.trans ((pk_rem (a := ((sx + 2 * stx + 8 * ofx + 64 * dx) / 2)) (d := 4) (by omega) (by omega) (by omega)).trans (congrArg nI (show ((sx + 2 * stx + 8 * ofx + 64 * dx) / 2) % 4 = stx by omega)))
                subst ez_7
                refine lv_icmp_ne (tgt := 127) hx hb dL_areLooks_87 (by decide) (fun c_87 => ?_) (fun c_87 => ?_)
                · exact (c_87 ((lk3 hj31).trans h14)).elim
                · refine lv_aload_n hx hb dL_areLooks_90 rfl (lv_at hl 2 rfl) ?_
                  refine lv_iload hx hb dL_areLooks_91 (lv_at hl 1 rfl) ?_
                  refine lv_iconst (v := 4) hx hb dL_areLooks_93 (by decide) ?_
                  have hcd0 : cd_look (nI j9) 4 (cn, sc, μ) = 0 := look_cd hj9 hn12 (by decide)
                  refine hk_callVx 2 (As := [.int (nI j9), .int 4]) (rest := []) X K hAE hS hl.1 (HW.o hW) rfl (c_X10_look E l hl9 H5 hW hI hZn (p0 := nI j9) (p1 := 4)) (fun q h => h) gL_areLooks_X10_look rfl ⟨rfl, hd_X10_look⟩ rfl ⟨⟨(Nat.le_of_ble_eq_true rfl), (Nat.le_of_ble_eq_true rfl)⟩, (by show 48 * j9 + 8 + 8 + 8 + 8 + 8 ≤ 1200; omega), (by show 2400 * j9 + 400 + 400 + 400 + 400 + 400 ≤ 60000; omega)⟩ rfl (Nat.le_of_ble_eq_true rfl) dL_areLooks_94 (fun x9 ce9 q9 H9 locs9 hp hS hz9 hk9 hce hcv hcl => by
                      obtain ⟨hcs, -⟩ := hp
                      rw [hcd0] at hcs
                      rcases hcs with ⟨h, -⟩ | ⟨h, -⟩ | ⟨h, -⟩ <;> exact absurd h (by decide)
                    ) (fun v9 H8 locsH8 hp hS hzH8 hkH8 => ?_)
                  obtain ⟨-, hv, G, R, hW⟩ := hp
                  subst hv
                  have hL := hL.kept (fun k hk => hkH8 (la k) (hL.lt hk) (hlz k hk))
                  have hZn := fun (q : Nat) (h : H8.size ≤ q) => hZn q (Nat.le_trans hzH8 h)
                  refine lv_aload_n hx hb dL_areLooks_97 rfl (lv_at hl 5 rfl) ?_
                  refine lv_iload hx hb dL_areLooks_98 (lv_at hl 1 rfl) ?_
                  refine hk_ild X K hL.c5 (vp_in_nI (by omega) (by omega)) dL_areLooks_100 ?_
                  rw [show (V 5) (nI j9).toNatClampNeg = nI (sx + 2 * stx + 8 * ofx + 64 * dx) from (congrArg (V 5) (nI_clamp (show j9 < 2 ^ 31 by omega))).trans h5]
                  refine lv_bipush (v := 64) hx hb dL_areLooks_101 (by decide) ?_
                  refine lv_idiv hx hb dL_areLooks_103 (by decide) ?_
                  refine lv_topi (fun z_9 ez_9 => ?_)
                  have ez_9 : z_9 = nI dx := ez_9.trans ((pk_div (a := (sx + 2 * stx + 8 * ofx + 64 * dx)) (d := 64) (by omega) (by omega) (by omega)).trans (congrArg nI (show (sx + 2 * stx + 8 * ofx + 64 * dx) / 64 = dx by omega)))
                  subst ez_9
                  refine lv_icmp_ne (tgt := 127) hx hb dL_areLooks_104 (by decide) (fun c_104 => ?_) (fun c_104 => ?_)
                  · exact (c_104 (lk4 hj31 hdx h21)).elim
                  · refine lv_aload_n hx hb dL_areLooks_107 rfl (lv_at hl 2 rfl) ?_
                    refine lv_iload hx hb dL_areLooks_108 (lv_at hl 1 rfl) ?_
                    refine lv_iconst (v := 5) hx hb dL_areLooks_110 (by decide) ?_
                    have hcd0 : cd_look (nI j9) 5 (cn, sc, μ) = 0 := look_cd hj9 hn12 (by decide)
                    refine hk_callVx 2 (As := [.int (nI j9), .int 5]) (rest := []) X K hAE hS hl.1 (HW.o hW) rfl (c_X10_look E l hl9 H8 hW hI hZn (p0 := nI j9) (p1 := 5)) (fun q h => h) gL_areLooks_X10_look rfl ⟨rfl, hd_X10_look⟩ rfl ⟨⟨(Nat.le_of_ble_eq_true rfl), (Nat.le_of_ble_eq_true rfl)⟩, (by show 48 * j9 + 8 + 8 + 8 + 8 + 8 + 8 ≤ 1200; omega), (by show 2400 * j9 + 400 + 400 + 400 + 400 + 400 + 400 ≤ 60000; omega)⟩ rfl (Nat.le_of_ble_eq_true rfl) dL_areLooks_111 (fun x9 ce9 q9 H9 locs9 hp hS hz9 hk9 hce hcv hcl => by
                        obtain ⟨hcs, -⟩ := hp
                        rw [hcd0] at hcs
                        rcases hcs with ⟨h, -⟩ | ⟨h, -⟩ | ⟨h, -⟩ <;> exact absurd h (by decide)
                      ) (fun v9 H10 locsH10 hp hS hzH10 hkH10 => ?_)
                    obtain ⟨-, hv, G, R, hW⟩ := hp
                    subst hv
                    have hL := hL.kept (fun k hk => hkH10 (la k) (hL.lt hk) (hlz k hk))
                    have hZn := fun (q : Nat) (h : H10.size ≤ q) => hZn q (Nat.le_trans hzH10 h)
                    refine lv_aload_n hx hb dL_areLooks_114 rfl (lv_at hl 5 rfl) ?_
                    refine lv_iload hx hb dL_areLooks_115 (lv_at hl 1 rfl) ?_
                    refine hk_ild X K hL.c5 (vp_in_nI (by omega) (by omega)) dL_areLooks_117 ?_
                    rw [show (V 5) (nI j9).toNatClampNeg = nI (sx + 2 * stx + 8 * ofx + 64 * dx) from (congrArg (V 5) (nI_clamp (show j9 < 2 ^ 31 by omega))).trans h5]
                    refine lv_iconst (v := 2) hx hb dL_areLooks_118 (by decide) ?_
                    refine lv_irem hx hb dL_areLooks_119 (by decide) ?_
                    refine lv_topi (fun z_11 ez_11 => ?_)
                    have ez_11 : z_11 = nI sx := ez_11.trans ((pk_rem (a := (sx + 2 * stx + 8 * ofx + 64 * dx)) (d := 2) (by omega) (by omega) (by omega)).trans (congrArg nI (show (sx + 2 * stx + 8 * ofx + 64 * dx) % 2 = sx by omega)))
                    subst ez_11
                    refine lv_icmp_ne (tgt := 127) hx hb dL_areLooks_120 (by decide) (fun c_120 => ?_) (fun c_120 => ?_)
                    · exact (c_120 ((lk5 hj31).trans h13)).elim
                    · refine lv_iconst (v := 1) hx hb dL_areLooks_123 (by decide) ?_
                      refine lv_goto (tgt := 128) hx hb dL_areLooks_124 (by decide) ?_
                      refine lv_istore (lv' := [(9, .int 1), (10, .int (nI j9)), (0, .ref ho), (1, .ref (la 0)), (2, .ref (la 4)), (3, .ref (la 5)), (4, .ref (la 6)), (5, .ref (la 7)), (6, .ref (la 10)), (7, .ref (la 11)), (8, .ref (la 12))]) hx hb dL_areLooks_128 hl (by decide) rfl (fun ls hl => ?_)
                      obtain ⟨q130, eq130⟩ : ∃ y : Int32, y = (nI j9) + 1 := ⟨_, rfl⟩
                      refine lv_iinc (v := q130) (lv' := [(10, .int q130), (9, .int 1), (0, .ref ho), (1, .ref (la 0)), (2, .ref (la 4)), (3, .ref (la 5)), (4, .ref (la 6)), (5, .ref (la 7)), (6, .ref (la 10)), (7, .ref (la 11)), (8, .ref (la 12))]) hx hb dL_areLooks_130 hl (k := 1) rfl (by rw [eq130]; rfl) (by decide) rfl (fun ls hl => ?_)
                      rw [nI_1] at eq130
                      subst eq130
                      refine lv_goto (tgt := 6) hx hb dL_areLooks_133 (by decide) ?_
                      refine W.widen (k := 48 * (j9 + 1)) (n := 2400 * (j9 + 1)) (by show 48 * j9 + 8 + 8 + 8 + 8 + 8 + 8 ≤ _; omega) (by show 2400 * j9 + 400 + 400 + 400 + 400 + 400 + 400 ≤ _; omega) ?_
                      exact ih (j9 + 1) _ _ G R (by omega) ⟨hS, hW, hL, hZn, by omega⟩ _ (lv_sub hl [1, 0, 2, 3, 4, 5, 6, 7, 8, 9, 10] rfl)
  exact L6 (cn 12 + 1) 0 H0 _ G R (by omega) ⟨hS, hW, hL, hZn, by omega⟩ _ (lv_sub hl [1, 0, 2, 3, 4, 5, 6, 7, 8, 9, 10] rfl)

theorem hd_L_does : yL_does.cls ≠ "java/lang/invoke/MethodHandle" ∧ yL_does.cls ≠ "java/lang/invoke/VarHandle" ∧ (parseMethodDescriptor yL_does.desc).map (fun d => d.parameters.length) = some 7 := ⟨by decide, by decide, by decide +kernel⟩
theorem hd_L_string : yL_string.cls ≠ "java/lang/invoke/MethodHandle" ∧ yL_string.cls ≠ "java/lang/invoke/VarHandle" ∧ (parseMethodDescriptor yL_string.desc).map (fun d => d.parameters.length) = some 6 := ⟨by decide, by decide, by decide +kernel⟩
abbrev rmL_areTrials : Room := { frames := 13, cells := 40, slots := 2000, locals := 254 }
set_option maxHeartbeats 4000000 in
set_option maxRecDepth 100000 in
theorem c_L_areTrials (E : hk_E) (l : Launch) (hl9 : l.stackTraces = false) (H0 : Heap) {Z : Nat → Prop} {ho ts : Nat} {li : Nat → Nat} {rr : Nat → Nat → Nat} {G : hG} {R : hR} {la : Nat → Nat} {V : Nat → Nat → Int32} {cn : Nat → Nat} {sc : Nat → Int32} {μ : Nat → Nat → Int32} (hW : HW E Z (ho, li, rr, ts) G R (cn, sc, μ) H0) (hL : LW E la V H0) (hV : LV (cn, sc, μ) V) (hI : InvF (cn, sc, μ)) (hX : LXY (cn, sc, μ) V) (hZn : ∀ q, H0.size ≤ q → Z q) (hlz : ∀ k, k < 13 → ¬ Z (la k)) (hn0 : 0 < cn 1) {zn : Nat} (hz31 : zn < 2 ^ 31) : hk_X E l yL_areTrials wsL_areTrials rmL_areTrials (fun q => Z q) [.ref ho, .ref (la 3), .ref (la 5), .ref (la 10), .ref (la 11), .ref (la 12), .int (nI zn)] H0 (dpost E Z (ho, li, rr, ts) 1 (cn, sc, μ)) (fun _ _ => False) := by
  refine hk_X.ofW (cc := cL_areTrials) (maxL := 18) (ret := (some .boolean)) (by decide +kernel) rfl (Nat.le_of_ble_eq_true rfl) ?_
  intro p e s m args below meth c ls Q hQ X hr hlk hx9 K hs9 hS hl
  obtain ⟨hx, hb, hml, hown, hts⟩ := id X
  have hAE : ∀ q, (fun q => Z q) q → hk_A E q := fun q h => hW.2.2.2.2.2.2.2.2.2.2.2.2 q h
  have hl : lv_has ls 18 [(0, .ref ho), (1, .ref (la 3)), (2, .ref (la 5)), (3, .ref (la 10)), (4, .ref (la 11)), (5, .ref (la 12)), (6, .int (nI zn))] := hl
  have hn1 : cn 1 ≤ 4 := hV.n1
  have hn8 : cn 8 ≤ 3 := hV.n8
  have hn12 : cn 12 ≤ 24 := hV.n12
  have hn22 : cn 22 ≤ 4 := hV.n22
  have hn29 : cn 29 ≤ 8 := hV.n29
  obtain ⟨s9, es9⟩ : ∃ y, y = zn % cn 1 := ⟨_, rfl⟩
  have hs9 : s9 < cn 1 := by rw [es9]; exact Nat.mod_lt _ hn0
  obtain ⟨ms, hms, hm⟩ := hV.a1 hs9
  have hm : mskR (cn 1) (μ 3) ms (μ 3 s9) (-1) := hm
  obtain ⟨fr9, efr⟩ : ∃ y, y = 30 + zn / 4 % 2000 := ⟨_, rfl⟩
  obtain ⟨sp9, esp⟩ : ∃ y, y = 1 + zn / 7 % 300 := ⟨_, rfl⟩
  obtain ⟨ss9, ess⟩ : ∃ y, y = zn / 11 % 12 := ⟨_, rfl⟩
  obtain ⟨pc9, epc⟩ : ∃ y, y = zn / 13 % 51 := ⟨_, rfl⟩
  have hssp : ss9 * sp9 ≤ 11 * 300 := Nat.mul_le_mul (by omega) (by omega)
  have hpc : inr (nI pc9) 0 50 := inr_nI (a := 0) (b := 50) (by omega) (by omega) (by omega)
  have hst : ∀ P, 0 ≤ (sp_str μ (sp_sel μ (μ 3 s9) (-1) (cn 12)) P).toInt ∧ (sp_str μ (sp_sel μ (μ 3 s9) (-1) (cn 12)) P).toInt ≤ 3520000 := fun P => str_sml (cn := cn) (sc := sc) (μ := μ) hI.1 (fun x hx => sp_sel_lt _ x hx) (Nat.le_trans (sp_sel_le _) (by omega)) P
  refine lv_iload hx hb dL_areTrials_0 (lv_at hl 6 rfl) ?_
  refine lv_aload_n hx hb dL_areTrials_2 rfl (lv_at hl 3 rfl) ?_
  refine lv_iconst (v := 0) hx hb dL_areTrials_3 (by decide) ?_
  refine hk_ild X K hL.c10 (show vp_in (nI 0) 6 from vp_in_nI (by decide) (by decide)) dL_areTrials_4 ?_
  rw [show (V 10) (0 : Int32).toNatClampNeg = nI (cn 1) from hV.g0]
  refine lv_irem hx hb dL_areTrials_5 (nI_ne0 (by omega) (by omega)) ?_
  refine lv_topi (fun z_1 ez_1 => ?_)
  have ez_1 : z_1 = nI s9 := ez_1.trans ((pk_rem (a := zn) (d := (cn 1)) (by omega) (by omega) (by omega)).trans (congrArg nI (show zn % (cn 1) = s9 by omega)))
  subst ez_1
  refine lv_istore (lv' := [(7, .int (nI s9)), (0, .ref ho), (1, .ref (la 3)), (2, .ref (la 5)), (3, .ref (la 10)), (4, .ref (la 11)), (5, .ref (la 12)), (6, .int (nI zn))]) hx hb dL_areTrials_6 hl (by decide) rfl (fun ls hl => ?_)
  refine lv_aload_n hx hb dL_areTrials_8 rfl (lv_at hl 2 rfl) ?_
  refine lv_iconst (v := 4) hx hb dL_areTrials_9 (by decide) ?_
  refine lv_iload hx hb dL_areTrials_10 (lv_at hl 0 rfl) ?_
  refine lv_imul hx hb dL_areTrials_12 ?_
  refine lv_topi (fun z_2 ez_2 => ?_)
  have ez_2 : z_2 = nI (4 * s9) := ez_2.trans (nI_mul 4 s9)
  subst ez_2
  refine lv_iconst (v := 1) hx hb dL_areTrials_13 (by decide) ?_
  refine lv_iadd hx hb dL_areTrials_14 ?_
  refine lv_topi (fun z_3 ez_3 => ?_)
  have ez_3 : z_3 = nI ((4 * s9) + 1) := ez_3.trans (nI_add (4 * s9) 1)
  subst ez_3
  refine hk_ild X K hL.c3 (vp_in_nI (by omega) (by omega)) dL_areTrials_15 ?_
  rw [show (V 3) (nI ((4 * s9) + 1)).toNatClampNeg = nI ms from (congrArg (V 3) (nI_clamp (show 4 * s9 + 1 < 2 ^ 31 by omega))).trans hms]
  refine lv_istore (lv' := [(8, .int (nI ms)), (7, .int (nI s9)), (0, .ref ho), (1, .ref (la 3)), (2, .ref (la 5)), (3, .ref (la 10)), (4, .ref (la 11)), (5, .ref (la 12)), (6, .int (nI zn))]) hx hb dL_areTrials_16 hl (by decide) rfl (fun ls hl => ?_)
  refine lv_bipush (v := 30) hx hb dL_areTrials_18 (by decide) ?_
  refine lv_iload hx hb dL_areTrials_20 (lv_at hl 8 rfl) ?_
  refine lv_iconst (v := 4) hx hb dL_areTrials_22 (by decide) ?_
  refine lv_idiv hx hb dL_areTrials_23 (by decide) ?_
  refine lv_topi (fun z_4 ez_4 => ?_)
  have ez_4 : z_4 = nI (zn / 4) := ez_4.trans (pk_div (a := zn) (d := 4) (by omega) (by omega) (by omega))
  subst ez_4
  refine lv_sipush (v := 2000) hx hb dL_areTrials_24 (by decide) ?_
  refine lv_irem hx hb dL_areTrials_27 (by decide) ?_
  refine lv_topi (fun z_5 ez_5 => ?_)
  have ez_5 : z_5 = nI ((zn / 4) % 2000) := ez_5.trans (pk_rem (a := (zn / 4)) (d := 2000) (by omega) (by omega) (by omega))
  subst ez_5
  refine lv_iadd hx hb dL_areTrials_28 ?_
  refine lv_topi (fun z_6 ez_6 => ?_)
  have ez_6 : z_6 = nI fr9 := ez_6.trans ((nI_add 30 ((zn / 4) % 2000)).trans (congrArg nI (show 30 + ((zn / 4) % 2000) = fr9 by omega)))
  subst ez_6
  refine lv_istore (lv' := [(9, .int (nI fr9)), (8, .int (nI ms)), (7, .int (nI s9)), (0, .ref ho), (1, .ref (la 3)), (2, .ref (la 5)), (3, .ref (la 10)), (4, .ref (la 11)), (5, .ref (la 12)), (6, .int (nI zn))]) hx hb dL_areTrials_29 hl (by decide) rfl (fun ls hl => ?_)
  refine lv_iconst (v := 1) hx hb dL_areTrials_31 (by decide) ?_
  refine lv_iload hx hb dL_areTrials_32 (lv_at hl 9 rfl) ?_
  refine lv_bipush (v := 7) hx hb dL_areTrials_34 (by decide) ?_
  refine lv_idiv hx hb dL_areTrials_36 (by decide) ?_
  refine lv_topi (fun z_7 ez_7 => ?_)
  have ez_7 : z_7 = nI (zn / 7) := ez_7.trans (pk_div (a := zn) (d := 7) (by omega) (by omega) (by omega))
  subst ez_7
  refine lv_sipush (v := 300) hx hb dL_areTrials_37 (by decide) ?_
  refine lv_irem hx hb dL_areTrials_40 (by decide) ?_
  refine lv_topi (fun z_8 ez_8 => ?_)
  have ez_8 : z_8 = nI ((zn / 7) % 300) := ez_8.trans (pk_rem (a := (zn / 7)) (d := 300) (by omega) (by omega) (by omega))
  subst ez_8
  refine lv_iadd hx hb dL_areTrials_41 ?_
  refine lv_topi (fun z_9 ez_9 => ?_)
  have ez_9 : z_9 = nI sp9 := ez_9.trans ((nI_add 1 ((zn / 7) % 300)).trans (congrArg nI (show 1 + ((zn / 7) % 300) = sp9 by omega)))
  subst ez_9
  refine lv_istore (lv' := [(10, .int (nI sp9)), (9, .int (nI fr9)), (8, .int (nI ms)), (7, .int (nI s9)), (0, .ref ho), (1, .ref (la 3)), (2, .ref (la 5)), (3, .ref (la 10)), (4, .ref (la 11)), (5, .ref (la 12)), (6, .int (nI zn))]) hx hb dL_areTrials_42 hl (by decide) rfl (fun ls hl => ?_)
  refine lv_iload hx hb dL_areTrials_44 (lv_at hl 10 rfl) ?_
  refine lv_bipush (v := 11) hx hb dL_areTrials_46 (by decide) ?_
  refine lv_idiv hx hb dL_areTrials_48 (by decide) ?_
  refine lv_topi (fun z_10 ez_10 => ?_)
  have ez_10 : z_10 = nI (zn / 11) := ez_10.trans (pk_div (a := zn) (d := 11) (by omega) (by omega) (by omega))
  subst ez_10
  refine lv_bipush (v := 12) hx hb dL_areTrials_49 (by decide) ?_
  refine lv_irem hx hb dL_areTrials_51 (by decide) ?_
  refine lv_topi (fun z_11 ez_11 => ?_)
  have ez_11 : z_11 = nI ss9 := ez_11.trans ((pk_rem (a := (zn / 11)) (d := 12) (by omega) (by omega) (by omega)).trans (congrArg nI (show (zn / 11) % 12 = ss9 by omega)))
  subst ez_11
  refine lv_istore (lv' := [(11, .int (nI ss9)), (10, .int (nI sp9)), (9, .int (nI fr9)), (8, .int (nI ms)), (7, .int (nI s9)), (0, .ref ho), (1, .ref (la 3)), (2, .ref (la 5)), (3, .ref (la 10)), (4, .ref (la 11)), (5, .ref (la 12)), (6, .int (nI zn))]) hx hb dL_areTrials_52 hl (by decide) rfl (fun ls hl => ?_)
  refine lv_iload hx hb dL_areTrials_54 (lv_at hl 11 rfl) ?_
  refine lv_bipush (v := 13) hx hb dL_areTrials_56 (by decide) ?_
  refine lv_idiv hx hb dL_areTrials_58 (by decide) ?_
  refine lv_topi (fun z_12 ez_12 => ?_)
  have ez_12 : z_12 = nI (zn / 13) := ez_12.trans (pk_div (a := zn) (d := 13) (by omega) (by omega) (by omega))
  subst ez_12
  refine lv_bipush (v := 51) hx hb dL_areTrials_59 (by decide) ?_
  refine lv_irem hx hb dL_areTrials_61 (by decide) ?_
  refine lv_topi (fun z_13 ez_13 => ?_)
  have ez_13 : z_13 = nI pc9 := ez_13.trans ((pk_rem (a := (zn / 13)) (d := 51) (by omega) (by omega) (by omega)).trans (congrArg nI (show (zn / 13) % 51 = pc9 by omega)))
  subst ez_13
  refine lv_istore (lv' := [(12, .int (nI pc9)), (11, .int (nI ss9)), (10, .int (nI sp9)), (9, .int (nI fr9)), (8, .int (nI ms)), (7, .int (nI s9)), (0, .ref ho), (1, .ref (la 3)), (2, .ref (la 5)), (3, .ref (la 10)), (4, .ref (la 11)), (5, .ref (la 12)), (6, .int (nI zn))]) hx hb dL_areTrials_62 hl (by decide) rfl (fun ls hl => ?_)
  refine lv_iload hx hb dL_areTrials_64 (lv_at hl 3 rfl) ?_
  refine lv_istore (lv' := [(13, .int (nI fr9)), (12, .int (nI pc9)), (11, .int (nI ss9)), (10, .int (nI sp9)), (9, .int (nI fr9)), (8, .int (nI ms)), (7, .int (nI s9)), (0, .ref ho), (1, .ref (la 3)), (2, .ref (la 5)), (3, .ref (la 10)), (4, .ref (la 11)), (5, .ref (la 12)), (6, .int (nI zn))]) hx hb dL_areTrials_66 hl (by decide) rfl (fun ls hl => ?_)
  refine lv_aload_n hx hb dL_areTrials_68 rfl (lv_at hl 9 rfl) ?_
  refine lv_aload_n hx hb dL_areTrials_69 rfl (lv_at hl 10 rfl) ?_
  refine lv_aload hx hb dL_areTrials_70 (lv_at hl 11 rfl) ?_
  refine lv_aload hx hb dL_areTrials_72 (lv_at hl 12 rfl) ?_
  refine lv_iload hx hb dL_areTrials_74 (lv_at hl 5 rfl) ?_
  refine lv_iload hx hb dL_areTrials_76 (lv_at hl 4 rfl) ?_
  refine hk_callS 6 (As := [.ref (la 5), .ref (la 10), .ref (la 11), .ref (la 12), .int (nI ms), .int (nI fr9)]) (rest := []) X K hAE hS hl.1 (c_L_string E l H0 hL hV hI hX hm (P9 := nI fr9) (inr_nI (a := 30) (b := 1000000) (by omega) (by omega) (by omega))) (fun _ h => h.elim) gL_areTrials_L_string rfl hd_L_string rfl ⟨⟨(Nat.le_of_ble_eq_true rfl), (Nat.le_of_ble_eq_true rfl)⟩, (by show 0 + 0 ≤ 40; omega), (by show 0 + 0 ≤ 2000; omega)⟩ rfl (Nat.le_of_ble_eq_true rfl) dL_areTrials_78 (fun v9 H14 locsH14 hp hS hzH14 hkH14 => ?_)
  obtain ⟨hv, hh⟩ := hp
  subst hv; subst hh
  refine lv_istore (lv' := [(14, .int (sp_str μ (sp_sel μ (μ 3 s9) (-1) (cn 12)) (nI fr9))), (13, .int (nI fr9)), (12, .int (nI pc9)), (11, .int (nI ss9)), (10, .int (nI sp9)), (9, .int (nI fr9)), (8, .int (nI ms)), (7, .int (nI s9)), (0, .ref ho), (1, .ref (la 3)), (2, .ref (la 5)), (3, .ref (la 10)), (4, .ref (la 11)), (5, .ref (la 12)), (6, .int (nI zn))]) hx hb dL_areTrials_81 hl (by decide) rfl (fun ls hl => ?_)
  refine lv_iconst (v := 0) hx hb dL_areTrials_83 (by decide) ?_
  refine lv_istore (lv' := [(15, .int 0), (14, .int (sp_str μ (sp_sel μ (μ 3 s9) (-1) (cn 12)) (nI fr9))), (13, .int (nI fr9)), (12, .int (nI pc9)), (11, .int (nI ss9)), (10, .int (nI sp9)), (9, .int (nI fr9)), (8, .int (nI ms)), (7, .int (nI s9)), (0, .ref ho), (1, .ref (la 3)), (2, .ref (la 5)), (3, .ref (la 10)), (4, .ref (la 11)), (5, .ref (la 12)), (6, .int (nI zn))]) hx hb dL_areTrials_84 hl (by decide) rfl (fun ls hl => ?_)
  refine lv_iconst (v := 1) hx hb dL_areTrials_86 (by decide) ?_
  refine lv_istore (lv' := [(16, .int 1), (15, .int 0), (14, .int (sp_str μ (sp_sel μ (μ 3 s9) (-1) (cn 12)) (nI fr9))), (13, .int (nI fr9)), (12, .int (nI pc9)), (11, .int (nI ss9)), (10, .int (nI sp9)), (9, .int (nI fr9)), (8, .int (nI ms)), (7, .int (nI s9)), (0, .ref ho), (1, .ref (la 3)), (2, .ref (la 5)), (3, .ref (la 10)), (4, .ref (la 11)), (5, .ref (la 12)), (6, .int (nI zn))]) hx hb dL_areTrials_87 hl (by decide) rfl (fun ls hl => ?_)
  have L89 : ∀ (n9 : Nat) (k9 : Nat) (b9 l9 : Int32), ss9 + 3 ≤ k9 + n9 → (1 ≤ k9 ∧ k9 ≤ ss9 + 1 ∧ bestA (nI fr9) (nI sp9) (sp_str μ (sp_sel μ (μ 3 s9) (-1) (cn 12))) k9 = (b9, l9)) → ∀ (locs89 : List Loc), va_S (fun q => Z q) s.heap H0 locs89 → ∀ (ls : Array Slot), lv_has ls 18 [(13, .int b9), (14, .int l9), (15, .int 0), (16, .int (nI k9)), (7, .int (nI s9)), (8, .int (nI ms)), (9, .int (nI fr9)), (10, .int (nI sp9)), (11, .int (nI ss9)), (12, .int (nI pc9)), (0, .ref ho), (1, .ref (la 3)), (2, .ref (la 5)), (3, .ref (la 10)), (4, .ref (la 11)), (5, .ref (la 12)), (6, .int (nI zn))] → W p l e rmL_areTrials s m args below meth c H0 locs89 0 0 Q (F0 m 89 ls []) := by
    intro n9
    induction n9 with
    | zero =>
      intro k9 b9 l9 hm9 ⟨hk1, hk2, hb9⟩ locs89 hS ls hl
      exact absurd hm9 (by omega)
    | succ n9 ih =>
      intro k9 b9 l9 hm9 ⟨hk1, hk2, hb9⟩ locs89 hS ls hl
      refine lv_iload hx hb dL_areTrials_89 (lv_at hl 3 rfl) ?_
      refine lv_iload hx hb dL_areTrials_91 (lv_at hl 8 rfl) ?_
      refine lv_icmp_gt (tgt := 161) hx hb dL_areTrials_93 (by decide) (fun c_93 => ?_) (fun c_93 => ?_)
      · have hk9 : k9 = ss9 + 1 := by
          have := (nI_ltI (by omega) (by omega)).mp c_93
          omega
        subst hk9
        have hl2 : l9 = sp_str μ (sp_sel μ (μ 3 s9) (-1) (cn 12)) b9 := by
          have h := bestA_2 (fr := nI fr9) (st := nI sp9) (s := sp_str μ (sp_sel μ (μ 3 s9) (-1) (cn 12))) (ss9 + 1)
          rw [hb9] at h
          exact h
        refine lv_iconst (v := 0) hx hb dL_areTrials_161 (by decide) ?_
        refine lv_istore (lv' := [(16, .int 0), (13, .int b9), (14, .int l9), (15, .int 0), (7, .int (nI s9)), (8, .int (nI ms)), (9, .int (nI fr9)), (10, .int (nI sp9)), (11, .int (nI ss9)), (12, .int (nI pc9)), (0, .ref ho), (1, .ref (la 3)), (2, .ref (la 5)), (3, .ref (la 10)), (4, .ref (la 11)), (5, .ref (la 12)), (6, .int (nI zn))]) hx hb dL_areTrials_162 hl (by decide) rfl (fun ls hl => ?_)
        have L164 : ∀ (n8 : Nat) (k9 : Nat), ss9 + 2 ≤ k9 + n8 → k9 ≤ ss9 + 1 → ∀ (locs164 : List Loc), va_S (fun q => Z q) s.heap H0 locs164 → ∀ (ls : Array Slot), lv_has ls 18 [(13, .int b9), (14, .int l9), (15, .int (alA (nI fr9) (nI sp9) (nI pc9) (sp_str μ (sp_sel μ (μ 3 s9) (-1) (cn 12))) b9 k9)), (16, .int (nI k9)), (7, .int (nI s9)), (8, .int (nI ms)), (9, .int (nI fr9)), (10, .int (nI sp9)), (11, .int (nI ss9)), (12, .int (nI pc9)), (0, .ref ho), (1, .ref (la 3)), (2, .ref (la 5)), (3, .ref (la 10)), (4, .ref (la 11)), (5, .ref (la 12)), (6, .int (nI zn))] → W p l e rmL_areTrials s m args below meth c H0 locs164 0 0 Q (F0 m 164 ls []) := by
          intro n8
          induction n8 with
          | zero =>
            intro k9 hm8 hk2 locs164 hS ls hl
            exact absurd hm8 (by omega)
          | succ n8 ih8 =>
            intro k9 hm8 hk2 locs164 hS ls hl
            refine lv_iload hx hb dL_areTrials_164 (lv_at hl 3 rfl) ?_
            refine lv_iload hx hb dL_areTrials_166 (lv_at hl 8 rfl) ?_
            refine lv_icmp_gt (tgt := 233) hx hb dL_areTrials_168 (by decide) (fun c_168 => ?_) (fun c_168 => ?_)
            · have hk9 : k9 = ss9 + 1 := by
                have := (nI_ltI (by omega) (by omega)).mp c_168
                omega
              rw [hk9] at hl
              refine lv_aload_n hx hb dL_areTrials_233 rfl (lv_at hl 12 rfl) ?_
              refine lv_aload_n hx hb dL_areTrials_234 rfl (lv_at hl 13 rfl) ?_
              refine lv_iload hx hb dL_areTrials_235 (lv_at hl 5 rfl) ?_
              refine hk_callS 3 (As := [.ref (la 5), .ref (la 10), .int (nI ms)]) (rest := []) X K hAE hS hl.1 (c_L_many E l H0 hL hV hI hm) (fun _ h => h.elim) gL_areTrials_L_many rfl hd_L_many rfl ⟨⟨(Nat.le_of_ble_eq_true rfl), (Nat.le_of_ble_eq_true rfl)⟩, (by show 0 + 0 ≤ 40; omega), (by show 0 + 0 ≤ 2000; omega)⟩ rfl (Nat.le_of_ble_eq_true rfl) dL_areTrials_237 (fun v9 H15 locsH15 hp hS hzH15 hkH15 => ?_)
              obtain ⟨hv, hh⟩ := hp
              subst hv; subst hh
              refine lv_iconst (v := 2) hx hb dL_areTrials_240 (by decide) ?_
              refine lv_icmp_le (tgt := 248) hx hb dL_areTrials_241 (by decide) (fun c_241 => ?_) (fun c_241 => ?_)
              · refine lv_iconst (v := 0) hx hb dL_areTrials_248 (by decide) ?_
                refine lv_istore (lv' := [(16, .int 0), (13, .int b9), (14, .int l9), (15, .int (alA (nI fr9) (nI sp9) (nI pc9) (sp_str μ (sp_sel μ (μ 3 s9) (-1) (cn 12))) b9 (ss9 + 1))), (7, .int (nI s9)), (8, .int (nI ms)), (9, .int (nI fr9)), (10, .int (nI sp9)), (11, .int (nI ss9)), (12, .int (nI pc9)), (0, .ref ho), (1, .ref (la 3)), (2, .ref (la 5)), (3, .ref (la 10)), (4, .ref (la 11)), (5, .ref (la 12)), (6, .int (nI zn))]) hx hb dL_areTrials_249 hl (by decide) rfl (fun ls hl => ?_)
                refine lv_iload hx hb dL_areTrials_251 (lv_at hl 6 rfl) ?_
                refine lv_iload hx hb dL_areTrials_253 (lv_at hl 8 rfl) ?_
                refine lv_iload hx hb dL_areTrials_255 (lv_at hl 7 rfl) ?_
                refine lv_imul hx hb dL_areTrials_257 ?_
                refine lv_topi (fun z_16 ez_16 => ?_)
                have ez_16 : z_16 = nI (ss9 * sp9) := ez_16.trans (nI_mul ss9 sp9)
                subst ez_16
                refine lv_iadd hx hb dL_areTrials_258 ?_
                refine lv_topi (fun z_17 ez_17 => ?_)
                have ez_17 : z_17 = nI (fr9 + (ss9 * sp9)) := ez_17.trans (nI_add fr9 (ss9 * sp9))
                subst ez_17
                refine lv_iload hx hb dL_areTrials_259 (lv_at hl 16 rfl) ?_
                refine lv_iload hx hb dL_areTrials_261 (lv_at hl 7 rfl) ?_
                refine lv_irem hx hb dL_areTrials_263 (nI_ne0 (by omega) (by omega)) ?_
                refine lv_topi (fun z_18 ez_18 => ?_)
                have ez_18 : z_18 = nI (zn % sp9) := ez_18.trans (pk_rem (a := zn) (d := sp9) (by omega) (by omega) (by omega))
                subst ez_18
                refine lv_iadd hx hb dL_areTrials_264 ?_
                refine lv_topi (fun z_19 ez_19 => ?_)
                have ez_19 : z_19 = nI ((fr9 + (ss9 * sp9)) + (zn % sp9)) := ez_19.trans (nI_add (fr9 + (ss9 * sp9)) (zn % sp9))
                subst ez_19
                refine lv_istore (lv' := [(17, .int (nI ((fr9 + (ss9 * sp9)) + (zn % sp9)))), (16, .int 0), (13, .int b9), (14, .int l9), (15, .int (alA (nI fr9) (nI sp9) (nI pc9) (sp_str μ (sp_sel μ (μ 3 s9) (-1) (cn 12))) b9 (ss9 + 1))), (7, .int (nI s9)), (8, .int (nI ms)), (9, .int (nI fr9)), (10, .int (nI sp9)), (11, .int (nI ss9)), (12, .int (nI pc9)), (0, .ref ho), (1, .ref (la 3)), (2, .ref (la 5)), (3, .ref (la 10)), (4, .ref (la 11)), (5, .ref (la 12)), (6, .int (nI zn))]) hx hb dL_areTrials_265 hl (by decide) rfl (fun ls hl => ?_)
                refine lv_aload_n hx hb dL_areTrials_267 rfl (lv_at hl 11 rfl) ?_
                refine lv_iconst (v := 2) hx hb dL_areTrials_268 (by decide) ?_
                refine lv_iload hx hb dL_areTrials_269 (lv_at hl 5 rfl) ?_
                refine lv_iload hx hb dL_areTrials_271 (lv_at hl 7 rfl) ?_
                refine lv_iload hx hb dL_areTrials_273 (lv_at hl 0 rfl) ?_
                refine lv_iload hx hb dL_areTrials_275 (lv_at hl 8 rfl) ?_
                refine lv_iconst (v := 0) hx hb dL_areTrials_277 (by decide) ?_
                refine hk_callSxW 7 (As := [.ref ho, .int 2, .int (nI s9), .int (nI fr9), .int (nI ((fr9 + (ss9 * sp9)) + (zn % sp9))), .int (nI sp9), .int 0]) (rest := []) X K hAE hS hl.1 (c_L_does_period E l hl9 H0 hW hI hZn (p0 := nI s9) (p1 := nI fr9) (p2 := nI ((fr9 + (ss9 * sp9)) + (zn % sp9))) (p3 := nI sp9) (p4 := 0)) (fun q h => h) gL_areTrials_L_does rfl hd_L_does rfl ⟨⟨(Nat.le_of_ble_eq_true rfl), (Nat.le_of_ble_eq_true rfl)⟩, (by show 0 + 12 ≤ 40; omega), (by show 0 + 600 ≤ 2000; omega)⟩ rfl (Nat.le_of_ble_eq_true rfl) dL_areTrials_278 (fun _ _ _ _ _ hp _ _ _ _ _ _ => False.elim hp) (fun v9 H20 locsH20 hp hS hzH20 hkH20 => ?_)
                obtain ⟨hv, G, R, hW⟩ := hp
                subst hv
                have hL := hL.kept (fun k hk => hkH20 (la k) (hL.lt hk) (hlz k hk))
                have hZn := fun (q : Nat) (h : H20.size ≤ q) => hZn q (Nat.le_trans hzH20 h)
                refine lv_iload hx hb dL_areTrials_281 (lv_at hl 1 rfl) ?_
                refine lv_if_eq (tgt := 291) hx hb dL_areTrials_283 (by decide) (fun c_283 => ?_) (fun c_283 => ?_)
                · refine lv_ldc hx hb hown (hts (.constant RL 96 (-1111113)) (by decide +kernel)) dL_areTrials_291 ?_
                  refine lv_icmp_ne (tgt := 330) hx hb dL_areTrials_293 (by decide) (fun c_293 => ?_) (fun c_293 => ?_)
                  · exact (c_293 ((per_at (S := (cn, sc, μ)) (r := zn % sp9) hn1 hs9 (by omega) (by omega) (by omega) (by omega) (Nat.mod_lt _ (by omega)) (by omega) hb9).trans (if_neg (fun h => absurd (Int32.le_trans h c_241) (by decide))))).elim
                  · refine lv_aload_n hx hb dL_areTrials_296 rfl (lv_at hl 11 rfl) ?_
                    refine lv_iconst (v := 3) hx hb dL_areTrials_297 (by decide) ?_
                    refine lv_iload hx hb dL_areTrials_298 (lv_at hl 5 rfl) ?_
                    refine lv_iload hx hb dL_areTrials_300 (lv_at hl 7 rfl) ?_
                    refine lv_iload hx hb dL_areTrials_302 (lv_at hl 0 rfl) ?_
                    refine lv_iload hx hb dL_areTrials_304 (lv_at hl 8 rfl) ?_
                    refine lv_iload hx hb dL_areTrials_306 (lv_at hl 10 rfl) ?_
                    refine hk_callSxW 7 (As := [.ref ho, .int 3, .int (nI s9), .int (nI fr9), .int (nI ((fr9 + (ss9 * sp9)) + (zn % sp9))), .int (nI sp9), .int (nI pc9)]) (rest := []) X K hAE hS hl.1 (c_L_does_aliases E l hl9 H20 hW hI hZn (p0 := nI s9) (p1 := nI fr9) (p2 := nI ((fr9 + (ss9 * sp9)) + (zn % sp9))) (p3 := nI sp9) (p4 := nI pc9)) (fun q h => h) gL_areTrials_L_does rfl hd_L_does rfl ⟨⟨(Nat.le_of_ble_eq_true rfl), (Nat.le_of_ble_eq_true rfl)⟩, (by show 0 + 12 + 12 ≤ 40; omega), (by show 0 + 600 + 600 ≤ 2000; omega)⟩ rfl (Nat.le_of_ble_eq_true rfl) dL_areTrials_308 (fun _ _ _ _ _ hp _ _ _ _ _ _ => False.elim hp) (fun v9 H21 locsH21 hp hS hzH21 hkH21 => ?_)
                    obtain ⟨hv, G, R, hW⟩ := hp
                    subst hv
                    have hL := hL.kept (fun k hk => hkH21 (la k) (hL.lt hk) (hlz k hk))
                    have hZn := fun (q : Nat) (h : H21.size ≤ q) => hZn q (Nat.le_trans hzH21 h)
                    refine lv_iload hx hb dL_areTrials_311 (lv_at hl 1 rfl) ?_
                    refine lv_if_eq (tgt := 321) hx hb dL_areTrials_313 (by decide) (fun c_313 => ?_) (fun c_313 => ?_)
                    · refine lv_ldc hx hb hown (hts (.constant RL 96 (-1111113)) (by decide +kernel)) dL_areTrials_321 ?_
                      refine lv_icmp_ne (tgt := 330) hx hb dL_areTrials_323 (by decide) (fun c_323 => ?_) (fun c_323 => ?_)
                      · exact (c_323 ((ali_at (S := (cn, sc, μ)) (r := zn % sp9) (pc := pc9) hn1 hs9 (by omega) (by omega) (by omega) (by omega) (Nat.mod_lt _ (by omega)) (by omega) (by omega) hb9).trans (if_neg (fun h => absurd (Int32.le_trans h c_241) (by decide))))).elim
                      · refine lv_iconst (v := 1) hx hb dL_areTrials_326 (by decide) ?_
                        refine lv_goto (tgt := 331) hx hb dL_areTrials_327 (by decide) ?_
                        exact hk_zretx X hr hlk hQ hS (by show 0 + 12 + 12 + 0 ≤ 40; omega) (by show 0 + 600 + 600 + 0 ≤ 2000; omega) dL_areTrials_331 (Or.inr rfl) (⟨rfl, G, R, hW⟩)
                    · exact absurd (by decide) c_313
                · exact absurd (by decide) c_283
              · have hcan : (3 : Int32) ≤ nI (sp_sel μ (μ 3 s9) (-1) (cn 12)).length := by
                  have h := Int32.not_le.mp c_241
                  rw [i_lt] at h; rw [i_le]
                  have e2 : (2 : Int32).toInt = 2 := rfl
                  have e3 : (3 : Int32).toInt = 3 := rfl
                  omega
                refine lv_iconst (v := 1) hx hb dL_areTrials_244 (by decide) ?_
                refine lv_goto (tgt := 249) hx hb dL_areTrials_245 (by decide) ?_
                refine lv_istore (lv' := [(16, .int 1), (13, .int b9), (14, .int l9), (15, .int (alA (nI fr9) (nI sp9) (nI pc9) (sp_str μ (sp_sel μ (μ 3 s9) (-1) (cn 12))) b9 (ss9 + 1))), (7, .int (nI s9)), (8, .int (nI ms)), (9, .int (nI fr9)), (10, .int (nI sp9)), (11, .int (nI ss9)), (12, .int (nI pc9)), (0, .ref ho), (1, .ref (la 3)), (2, .ref (la 5)), (3, .ref (la 10)), (4, .ref (la 11)), (5, .ref (la 12)), (6, .int (nI zn))]) hx hb dL_areTrials_249 hl (by decide) rfl (fun ls hl => ?_)
                refine lv_iload hx hb dL_areTrials_251 (lv_at hl 6 rfl) ?_
                refine lv_iload hx hb dL_areTrials_253 (lv_at hl 8 rfl) ?_
                refine lv_iload hx hb dL_areTrials_255 (lv_at hl 7 rfl) ?_
                refine lv_imul hx hb dL_areTrials_257 ?_
                refine lv_topi (fun z_22 ez_22 => ?_)
                have ez_22 : z_22 = nI (ss9 * sp9) := ez_22.trans (nI_mul ss9 sp9)
                subst ez_22
                refine lv_iadd hx hb dL_areTrials_258 ?_
                refine lv_topi (fun z_23 ez_23 => ?_)
                have ez_23 : z_23 = nI (fr9 + (ss9 * sp9)) := ez_23.trans (nI_add fr9 (ss9 * sp9))
                subst ez_23
                refine lv_iload hx hb dL_areTrials_259 (lv_at hl 16 rfl) ?_
                refine lv_iload hx hb dL_areTrials_261 (lv_at hl 7 rfl) ?_
                refine lv_irem hx hb dL_areTrials_263 (nI_ne0 (by omega) (by omega)) ?_
                refine lv_topi (fun z_24 ez_24 => ?_)
                have ez_24 : z_24 = nI (zn % sp9) := ez_24.trans (pk_rem (a := zn) (d := sp9) (by omega) (by omega) (by omega))
                subst ez_24
                refine lv_iadd hx hb dL_areTrials_264 ?_
                refine lv_topi (fun z_25 ez_25 => ?_)
                have ez_25 : z_25 = nI ((fr9 + (ss9 * sp9)) + (zn % sp9)) := ez_25.trans (nI_add (fr9 + (ss9 * sp9)) (zn % sp9))
                subst ez_25
                refine lv_istore (lv' := [(17, .int (nI ((fr9 + (ss9 * sp9)) + (zn % sp9)))), (16, .int 1), (13, .int b9), (14, .int l9), (15, .int (alA (nI fr9) (nI sp9) (nI pc9) (sp_str μ (sp_sel μ (μ 3 s9) (-1) (cn 12))) b9 (ss9 + 1))), (7, .int (nI s9)), (8, .int (nI ms)), (9, .int (nI fr9)), (10, .int (nI sp9)), (11, .int (nI ss9)), (12, .int (nI pc9)), (0, .ref ho), (1, .ref (la 3)), (2, .ref (la 5)), (3, .ref (la 10)), (4, .ref (la 11)), (5, .ref (la 12)), (6, .int (nI zn))]) hx hb dL_areTrials_265 hl (by decide) rfl (fun ls hl => ?_)
                refine lv_aload_n hx hb dL_areTrials_267 rfl (lv_at hl 11 rfl) ?_
                refine lv_iconst (v := 2) hx hb dL_areTrials_268 (by decide) ?_
                refine lv_iload hx hb dL_areTrials_269 (lv_at hl 5 rfl) ?_
                refine lv_iload hx hb dL_areTrials_271 (lv_at hl 7 rfl) ?_
                refine lv_iload hx hb dL_areTrials_273 (lv_at hl 0 rfl) ?_
                refine lv_iload hx hb dL_areTrials_275 (lv_at hl 8 rfl) ?_
                refine lv_iconst (v := 0) hx hb dL_areTrials_277 (by decide) ?_
                refine hk_callSxW 7 (As := [.ref ho, .int 2, .int (nI s9), .int (nI fr9), .int (nI ((fr9 + (ss9 * sp9)) + (zn % sp9))), .int (nI sp9), .int 0]) (rest := []) X K hAE hS hl.1 (c_L_does_period E l hl9 H0 hW hI hZn (p0 := nI s9) (p1 := nI fr9) (p2 := nI ((fr9 + (ss9 * sp9)) + (zn % sp9))) (p3 := nI sp9) (p4 := 0)) (fun q h => h) gL_areTrials_L_does rfl hd_L_does rfl ⟨⟨(Nat.le_of_ble_eq_true rfl), (Nat.le_of_ble_eq_true rfl)⟩, (by show 0 + 12 ≤ 40; omega), (by show 0 + 600 ≤ 2000; omega)⟩ rfl (Nat.le_of_ble_eq_true rfl) dL_areTrials_278 (fun _ _ _ _ _ hp _ _ _ _ _ _ => False.elim hp) (fun v9 H26 locsH26 hp hS hzH26 hkH26 => ?_)
                obtain ⟨hv, G, R, hW⟩ := hp
                subst hv
                have hL := hL.kept (fun k hk => hkH26 (la k) (hL.lt hk) (hlz k hk))
                have hZn := fun (q : Nat) (h : H26.size ≤ q) => hZn q (Nat.le_trans hzH26 h)
                refine lv_iload hx hb dL_areTrials_281 (lv_at hl 1 rfl) ?_
                refine lv_if_eq (tgt := 291) hx hb dL_areTrials_283 (by decide) (fun c_283 => ?_) (fun c_283 => ?_)
                · exact absurd c_283 (by decide)
                · refine lv_iload hx hb dL_areTrials_286 (lv_at hl 2 rfl) ?_
                  refine lv_goto (tgt := 293) hx hb dL_areTrials_288 (by decide) ?_
                  refine lv_icmp_ne (tgt := 330) hx hb dL_areTrials_293 (by decide) (fun c_293 => ?_) (fun c_293 => ?_)
                  · exact (c_293 ((per_at (S := (cn, sc, μ)) (r := zn % sp9) hn1 hs9 (by omega) (by omega) (by omega) (by omega) (Nat.mod_lt _ (by omega)) (by omega) hb9).trans (if_pos hcan))).elim
                  · refine lv_aload_n hx hb dL_areTrials_296 rfl (lv_at hl 11 rfl) ?_
                    refine lv_iconst (v := 3) hx hb dL_areTrials_297 (by decide) ?_
                    refine lv_iload hx hb dL_areTrials_298 (lv_at hl 5 rfl) ?_
                    refine lv_iload hx hb dL_areTrials_300 (lv_at hl 7 rfl) ?_
                    refine lv_iload hx hb dL_areTrials_302 (lv_at hl 0 rfl) ?_
                    refine lv_iload hx hb dL_areTrials_304 (lv_at hl 8 rfl) ?_
                    refine lv_iload hx hb dL_areTrials_306 (lv_at hl 10 rfl) ?_
                    refine hk_callSxW 7 (As := [.ref ho, .int 3, .int (nI s9), .int (nI fr9), .int (nI ((fr9 + (ss9 * sp9)) + (zn % sp9))), .int (nI sp9), .int (nI pc9)]) (rest := []) X K hAE hS hl.1 (c_L_does_aliases E l hl9 H26 hW hI hZn (p0 := nI s9) (p1 := nI fr9) (p2 := nI ((fr9 + (ss9 * sp9)) + (zn % sp9))) (p3 := nI sp9) (p4 := nI pc9)) (fun q h => h) gL_areTrials_L_does rfl hd_L_does rfl ⟨⟨(Nat.le_of_ble_eq_true rfl), (Nat.le_of_ble_eq_true rfl)⟩, (by show 0 + 12 + 12 ≤ 40; omega), (by show 0 + 600 + 600 ≤ 2000; omega)⟩ rfl (Nat.le_of_ble_eq_true rfl) dL_areTrials_308 (fun _ _ _ _ _ hp _ _ _ _ _ _ => False.elim hp) (fun v9 H27 locsH27 hp hS hzH27 hkH27 => ?_)
                    obtain ⟨hv, G, R, hW⟩ := hp
                    subst hv
                    have hL := hL.kept (fun k hk => hkH27 (la k) (hL.lt hk) (hlz k hk))
                    have hZn := fun (q : Nat) (h : H27.size ≤ q) => hZn q (Nat.le_trans hzH27 h)
                    refine lv_iload hx hb dL_areTrials_311 (lv_at hl 1 rfl) ?_
                    refine lv_if_eq (tgt := 321) hx hb dL_areTrials_313 (by decide) (fun c_313 => ?_) (fun c_313 => ?_)
                    · exact absurd c_313 (by decide)
                    · refine lv_iload hx hb dL_areTrials_316 (lv_at hl 4 rfl) ?_
                      refine lv_goto (tgt := 323) hx hb dL_areTrials_318 (by decide) ?_
                      refine lv_icmp_ne (tgt := 330) hx hb dL_areTrials_323 (by decide) (fun c_323 => ?_) (fun c_323 => ?_)
                      · exact (c_323 ((ali_at (S := (cn, sc, μ)) (r := zn % sp9) (pc := pc9) hn1 hs9 (by omega) (by omega) (by omega) (by omega) (Nat.mod_lt _ (by omega)) (by omega) (by omega) hb9).trans (if_pos hcan))).elim
                      · refine lv_iconst (v := 1) hx hb dL_areTrials_326 (by decide) ?_
                        refine lv_goto (tgt := 331) hx hb dL_areTrials_327 (by decide) ?_
                        exact hk_zretx X hr hlk hQ hS (by show 0 + 12 + 12 + 0 ≤ 40; omega) (by show 0 + 600 + 600 + 0 ≤ 2000; omega) dL_areTrials_331 (Or.inr rfl) (⟨rfl, G, R, hW⟩)
            · have hk9 : k9 ≤ ss9 := Nat.le_of_not_lt (fun h => c_168 (nI_lt h (by omega)))
              have hkm : k9 * sp9 ≤ ss9 * sp9 := Nat.mul_le_mul_right _ hk9
              refine lv_iload hx hb dL_areTrials_171 (lv_at hl 2 rfl) ?_
              refine lv_iload hx hb dL_areTrials_173 (lv_at hl 6 rfl) ?_
              refine lv_iload hx hb dL_areTrials_175 (lv_at hl 3 rfl) ?_
              refine lv_iload hx hb dL_areTrials_177 (lv_at hl 7 rfl) ?_
              refine lv_imul hx hb dL_areTrials_179 ?_
              refine lv_topi (fun z_28 ez_28 => ?_)
              have ez_28 : z_28 = nI (k9 * sp9) := ez_28.trans (nI_mul k9 sp9)
              subst ez_28
              refine lv_iadd hx hb dL_areTrials_180 ?_
              refine lv_topi (fun z_29 ez_29 => ?_)
              have ez_29 : z_29 = nI (fr9 + (k9 * sp9)) := ez_29.trans (nI_add fr9 (k9 * sp9))
              subst ez_29
              refine lv_iload hx hb dL_areTrials_181 (lv_at hl 0 rfl) ?_
              refine lv_icmp_eq (tgt := 223) hx hb dL_areTrials_183 (by decide) (fun c_183 => ?_) (fun c_183 => ?_)
              · refine lv_iconst (v := 0) hx hb dL_areTrials_223 (by decide) ?_
                refine lv_iadd hx hb dL_areTrials_224 ?_
                refine lv_topi (fun q225 eq225 => ?_)
                refine lv_istore (lv' := [(15, .int q225), (13, .int b9), (14, .int l9), (16, .int (nI k9)), (7, .int (nI s9)), (8, .int (nI ms)), (9, .int (nI fr9)), (10, .int (nI sp9)), (11, .int (nI ss9)), (12, .int (nI pc9)), (0, .ref ho), (1, .ref (la 3)), (2, .ref (la 5)), (3, .ref (la 10)), (4, .ref (la 11)), (5, .ref (la 12)), (6, .int (nI zn))]) hx hb dL_areTrials_225 hl (by decide) rfl (fun ls hl => ?_)
                rw [al_n hst hpc (trI_nat (a := fr9) (b := sp9) (i := k9)) hl2 (Or.inl c_183)] at eq225
                subst eq225
                obtain ⟨q227, eq227⟩ : ∃ y : Int32, y = (nI k9) + 1 := ⟨_, rfl⟩
                refine lv_iinc (v := q227) (lv' := [(16, .int q227), (15, .int (alA (nI fr9) (nI sp9) (nI pc9) (sp_str μ (sp_sel μ (μ 3 s9) (-1) (cn 12))) b9 (k9 + 1))), (13, .int b9), (14, .int l9), (7, .int (nI s9)), (8, .int (nI ms)), (9, .int (nI fr9)), (10, .int (nI sp9)), (11, .int (nI ss9)), (12, .int (nI pc9)), (0, .ref ho), (1, .ref (la 3)), (2, .ref (la 5)), (3, .ref (la 10)), (4, .ref (la 11)), (5, .ref (la 12)), (6, .int (nI zn))]) hx hb dL_areTrials_227 hl (k := 3) rfl (by rw [eq227]; rfl) (by decide) rfl (fun ls hl => ?_)
                rw [nI_1] at eq227
                subst eq227
                refine lv_goto (tgt := 164) hx hb dL_areTrials_230 (by decide) ?_
                exact ih8 (k9 + 1) (by omega) (by omega) _ hS _ (lv_sub hl [2, 3, 1, 0, 4, 5, 6, 7, 8, 9, 10, 11, 12, 13, 14, 15, 16] rfl)
              · refine lv_bipush (v := 100) hx hb dL_areTrials_186 (by decide) ?_
                refine lv_aload_n hx hb dL_areTrials_188 rfl (lv_at hl 12 rfl) ?_
                refine lv_aload_n hx hb dL_areTrials_189 rfl (lv_at hl 13 rfl) ?_
                refine lv_aload hx hb dL_areTrials_190 (lv_at hl 14 rfl) ?_
                refine lv_aload hx hb dL_areTrials_192 (lv_at hl 15 rfl) ?_
                refine lv_iload hx hb dL_areTrials_194 (lv_at hl 5 rfl) ?_
                refine lv_iload hx hb dL_areTrials_196 (lv_at hl 6 rfl) ?_
                refine lv_iload hx hb dL_areTrials_198 (lv_at hl 3 rfl) ?_
                refine lv_iload hx hb dL_areTrials_200 (lv_at hl 7 rfl) ?_
                refine lv_imul hx hb dL_areTrials_202 ?_
                refine lv_topi (fun z_30 ez_30 => ?_)
                have ez_30 : z_30 = nI (k9 * sp9) := ez_30.trans (nI_mul k9 sp9)
                subst ez_30
                refine lv_iadd hx hb dL_areTrials_203 ?_
                refine lv_topi (fun z_31 ez_31 => ?_)
                have ez_31 : z_31 = nI (fr9 + (k9 * sp9)) := ez_31.trans (nI_add fr9 (k9 * sp9))
                subst ez_31
                refine hk_callS 6 (As := [.ref (la 5), .ref (la 10), .ref (la 11), .ref (la 12), .int (nI ms), .int (nI (fr9 + (k9 * sp9)))]) (rest := [.int 100, .int (alA (nI fr9) (nI sp9) (nI pc9) (sp_str μ (sp_sel μ (μ 3 s9) (-1) (cn 12))) b9 k9)]) X K hAE hS hl.1 (c_L_string E l H0 hL hV hI hX hm (P9 := nI (fr9 + (k9 * sp9))) (inr_nI (a := 30) (b := 1000000) (by omega) (by omega) (by omega))) (fun _ h => h.elim) gL_areTrials_L_string rfl hd_L_string rfl ⟨⟨(Nat.le_of_ble_eq_true rfl), (Nat.le_of_ble_eq_true rfl)⟩, (by show 0 + 0 ≤ 40; omega), (by show 0 + 0 ≤ 2000; omega)⟩ rfl (Nat.le_of_ble_eq_true rfl) dL_areTrials_204 (fun v9 H32 locsH32 hp hS hzH32 hkH32 => ?_)
                obtain ⟨hv, hh⟩ := hp
                subst hv; subst hh
                refine lv_imul hx hb dL_areTrials_207 ?_
                refine lv_bipush (v := 100) hx hb dL_areTrials_208 (by decide) ?_
                refine lv_iload hx hb dL_areTrials_210 (lv_at hl 9 rfl) ?_
                refine lv_iadd hx hb dL_areTrials_212 ?_
                refine lv_iload hx hb dL_areTrials_213 (lv_at hl 1 rfl) ?_
                refine lv_imul hx hb dL_areTrials_215 ?_
                refine lv_icmp_gt (tgt := 223) hx hb dL_areTrials_216 (by decide) (fun c_216 => ?_) (fun c_216 => ?_)
                · refine lv_iconst (v := 0) hx hb dL_areTrials_223 (by decide) ?_
                  refine lv_iadd hx hb dL_areTrials_224 ?_
                  refine lv_topi (fun q225 eq225 => ?_)
                  refine lv_istore (lv' := [(15, .int q225), (13, .int b9), (14, .int l9), (16, .int (nI k9)), (7, .int (nI s9)), (8, .int (nI ms)), (9, .int (nI fr9)), (10, .int (nI sp9)), (11, .int (nI ss9)), (12, .int (nI pc9)), (0, .ref ho), (1, .ref (la 3)), (2, .ref (la 5)), (3, .ref (la 10)), (4, .ref (la 11)), (5, .ref (la 12)), (6, .int (nI zn))]) hx hb dL_areTrials_225 hl (by decide) rfl (fun ls hl => ?_)
                  rw [al_n hst hpc (trI_nat (a := fr9) (b := sp9) (i := k9)) hl2 (Or.inr c_216)] at eq225
                  subst eq225
                  obtain ⟨q227, eq227⟩ : ∃ y : Int32, y = (nI k9) + 1 := ⟨_, rfl⟩
                  refine lv_iinc (v := q227) (lv' := [(16, .int q227), (15, .int (alA (nI fr9) (nI sp9) (nI pc9) (sp_str μ (sp_sel μ (μ 3 s9) (-1) (cn 12))) b9 (k9 + 1))), (13, .int b9), (14, .int l9), (7, .int (nI s9)), (8, .int (nI ms)), (9, .int (nI fr9)), (10, .int (nI sp9)), (11, .int (nI ss9)), (12, .int (nI pc9)), (0, .ref ho), (1, .ref (la 3)), (2, .ref (la 5)), (3, .ref (la 10)), (4, .ref (la 11)), (5, .ref (la 12)), (6, .int (nI zn))]) hx hb dL_areTrials_227 hl (k := 3) rfl (by rw [eq227]; rfl) (by decide) rfl (fun ls hl => ?_)
                  rw [nI_1] at eq227
                  subst eq227
                  refine lv_goto (tgt := 164) hx hb dL_areTrials_230 (by decide) ?_
                  exact ih8 (k9 + 1) (by omega) (by omega) _ hS _ (lv_sub hl [2, 3, 1, 0, 4, 5, 6, 7, 8, 9, 10, 11, 12, 13, 14, 15, 16] rfl)
                · refine lv_iconst (v := 1) hx hb dL_areTrials_219 (by decide) ?_
                  refine lv_goto (tgt := 224) hx hb dL_areTrials_220 (by decide) ?_
                  refine lv_iadd hx hb dL_areTrials_224 ?_
                  refine lv_topi (fun q225 eq225 => ?_)
                  refine lv_istore (lv' := [(15, .int q225), (13, .int b9), (14, .int l9), (16, .int (nI k9)), (7, .int (nI s9)), (8, .int (nI ms)), (9, .int (nI fr9)), (10, .int (nI sp9)), (11, .int (nI ss9)), (12, .int (nI pc9)), (0, .ref ho), (1, .ref (la 3)), (2, .ref (la 5)), (3, .ref (la 10)), (4, .ref (la 11)), (5, .ref (la 12)), (6, .int (nI zn))]) hx hb dL_areTrials_225 hl (by decide) rfl (fun ls hl => ?_)
                  rw [al_y hst hpc (trI_nat (a := fr9) (b := sp9) (i := k9)) hl2 c_183 c_216] at eq225
                  subst eq225
                  obtain ⟨q227, eq227⟩ : ∃ y : Int32, y = (nI k9) + 1 := ⟨_, rfl⟩
                  refine lv_iinc (v := q227) (lv' := [(16, .int q227), (15, .int (alA (nI fr9) (nI sp9) (nI pc9) (sp_str μ (sp_sel μ (μ 3 s9) (-1) (cn 12))) b9 (k9 + 1))), (13, .int b9), (14, .int l9), (7, .int (nI s9)), (8, .int (nI ms)), (9, .int (nI fr9)), (10, .int (nI sp9)), (11, .int (nI ss9)), (12, .int (nI pc9)), (0, .ref ho), (1, .ref (la 3)), (2, .ref (la 5)), (3, .ref (la 10)), (4, .ref (la 11)), (5, .ref (la 12)), (6, .int (nI zn))]) hx hb dL_areTrials_227 hl (k := 3) rfl (by rw [eq227]; rfl) (by decide) rfl (fun ls hl => ?_)
                  rw [nI_1] at eq227
                  subst eq227
                  refine lv_goto (tgt := 164) hx hb dL_areTrials_230 (by decide) ?_
                  exact ih8 (k9 + 1) (by omega) (by omega) _ hS _ (lv_sub hl [2, 3, 1, 0, 4, 5, 6, 7, 8, 9, 10, 11, 12, 13, 14, 15, 16] rfl)
        exact L164 (ss9 + 2) 0 (by omega) (by omega) _ hS _ (lv_sub hl [1, 2, 3, 0, 4, 5, 6, 7, 8, 9, 10, 11, 12, 13, 14, 15, 16] rfl)
      · have hk9 : k9 ≤ ss9 := Nat.le_of_not_lt (fun h => c_93 (nI_lt h (by omega)))
        have hkm : k9 * sp9 ≤ ss9 * sp9 := Nat.mul_le_mul_right _ hk9
        refine lv_aload_n hx hb dL_areTrials_96 rfl (lv_at hl 12 rfl) ?_
        refine lv_aload_n hx hb dL_areTrials_97 rfl (lv_at hl 13 rfl) ?_
        refine lv_aload hx hb dL_areTrials_98 (lv_at hl 14 rfl) ?_
        refine lv_aload hx hb dL_areTrials_100 (lv_at hl 15 rfl) ?_
        refine lv_iload hx hb dL_areTrials_102 (lv_at hl 5 rfl) ?_
        refine lv_iload hx hb dL_areTrials_104 (lv_at hl 6 rfl) ?_
        refine lv_iload hx hb dL_areTrials_106 (lv_at hl 3 rfl) ?_
        refine lv_iload hx hb dL_areTrials_108 (lv_at hl 7 rfl) ?_
        refine lv_imul hx hb dL_areTrials_110 ?_
        refine lv_topi (fun z_33 ez_33 => ?_)
        have ez_33 : z_33 = nI (k9 * sp9) := ez_33.trans (nI_mul k9 sp9)
        subst ez_33
        refine lv_iadd hx hb dL_areTrials_111 ?_
        refine lv_topi (fun z_34 ez_34 => ?_)
        have ez_34 : z_34 = nI (fr9 + (k9 * sp9)) := ez_34.trans (nI_add fr9 (k9 * sp9))
        subst ez_34
        refine hk_callS 6 (As := [.ref (la 5), .ref (la 10), .ref (la 11), .ref (la 12), .int (nI ms), .int (nI (fr9 + (k9 * sp9)))]) (rest := []) X K hAE hS hl.1 (c_L_string E l H0 hL hV hI hX hm (P9 := nI (fr9 + (k9 * sp9))) (inr_nI (a := 30) (b := 1000000) (by omega) (by omega) (by omega))) (fun _ h => h.elim) gL_areTrials_L_string rfl hd_L_string rfl ⟨⟨(Nat.le_of_ble_eq_true rfl), (Nat.le_of_ble_eq_true rfl)⟩, (by show 0 + 0 ≤ 40; omega), (by show 0 + 0 ≤ 2000; omega)⟩ rfl (Nat.le_of_ble_eq_true rfl) dL_areTrials_112 (fun v9 H35 locsH35 hp hS hzH35 hkH35 => ?_)
        obtain ⟨hv, hh⟩ := hp
        subst hv; subst hh
        refine lv_istore (lv' := [(17, .int (sp_str μ (sp_sel μ (μ 3 s9) (-1) (cn 12)) (nI (fr9 + (k9 * sp9))))), (13, .int b9), (14, .int l9), (15, .int 0), (16, .int (nI k9)), (7, .int (nI s9)), (8, .int (nI ms)), (9, .int (nI fr9)), (10, .int (nI sp9)), (11, .int (nI ss9)), (12, .int (nI pc9)), (0, .ref ho), (1, .ref (la 3)), (2, .ref (la 5)), (3, .ref (la 10)), (4, .ref (la 11)), (5, .ref (la 12)), (6, .int (nI zn))]) hx hb dL_areTrials_115 hl (by decide) rfl (fun ls hl => ?_)
        refine lv_iload hx hb dL_areTrials_117 (lv_at hl 0 rfl) ?_
        refine lv_iload hx hb dL_areTrials_119 (lv_at hl 2 rfl) ?_
        refine lv_icmp_ge (tgt := 135) hx hb dL_areTrials_121 (by decide) (fun c_121 => ?_) (fun c_121 => ?_)
        · refine lv_iload hx hb dL_areTrials_135 (lv_at hl 1 rfl) ?_
          refine lv_istore (lv' := [(13, .int b9), (17, .int (sp_str μ (sp_sel μ (μ 3 s9) (-1) (cn 12)) (nI (fr9 + (k9 * sp9))))), (14, .int l9), (15, .int 0), (16, .int (nI k9)), (7, .int (nI s9)), (8, .int (nI ms)), (9, .int (nI fr9)), (10, .int (nI sp9)), (11, .int (nI ss9)), (12, .int (nI pc9)), (0, .ref ho), (1, .ref (la 3)), (2, .ref (la 5)), (3, .ref (la 10)), (4, .ref (la 11)), (5, .ref (la 12)), (6, .int (nI zn))]) hx hb dL_areTrials_137 hl (by decide) rfl (fun ls hl => ?_)
          refine lv_iload hx hb dL_areTrials_139 (lv_at hl 1 rfl) ?_
          refine lv_iload hx hb dL_areTrials_141 (lv_at hl 2 rfl) ?_
          refine lv_icmp_ge (tgt := 151) hx hb dL_areTrials_143 (by decide) (fun c_143 => ?_) (fun c_143 => ?_)
          · refine lv_iload hx hb dL_areTrials_151 (lv_at hl 2 rfl) ?_
            refine lv_istore (lv' := [(14, .int l9), (13, .int b9), (17, .int (sp_str μ (sp_sel μ (μ 3 s9) (-1) (cn 12)) (nI (fr9 + (k9 * sp9))))), (15, .int 0), (16, .int (nI k9)), (7, .int (nI s9)), (8, .int (nI ms)), (9, .int (nI fr9)), (10, .int (nI sp9)), (11, .int (nI ss9)), (12, .int (nI pc9)), (0, .ref ho), (1, .ref (la 3)), (2, .ref (la 5)), (3, .ref (la 10)), (4, .ref (la 11)), (5, .ref (la 12)), (6, .int (nI zn))]) hx hb dL_areTrials_153 hl (by decide) rfl (fun ls hl => ?_)
            obtain ⟨q155, eq155⟩ : ∃ y : Int32, y = (nI k9) + 1 := ⟨_, rfl⟩
            refine lv_iinc (v := q155) (lv' := [(16, .int q155), (14, .int l9), (13, .int b9), (17, .int (sp_str μ (sp_sel μ (μ 3 s9) (-1) (cn 12)) (nI (fr9 + (k9 * sp9))))), (15, .int 0), (7, .int (nI s9)), (8, .int (nI ms)), (9, .int (nI fr9)), (10, .int (nI sp9)), (11, .int (nI ss9)), (12, .int (nI pc9)), (0, .ref ho), (1, .ref (la 3)), (2, .ref (la 5)), (3, .ref (la 10)), (4, .ref (la 11)), (5, .ref (la 12)), (6, .int (nI zn))]) hx hb dL_areTrials_155 hl (k := 4) rfl (by rw [eq155]; rfl) (by decide) rfl (fun ls hl => ?_)
            rw [nI_1] at eq155
            subst eq155
            refine lv_goto (tgt := 89) hx hb dL_areTrials_158 (by decide) ?_
            exact ih (k9 + 1) b9 l9 (by omega) ⟨by omega, by omega, bestA_n hb9 (trI_nat (a := fr9) (b := sp9) (i := k9)) c_121⟩ _ hS _ (lv_sub hl [2, 1, 4, 0, 5, 6, 7, 8, 9, 10, 11, 12, 13, 14, 15, 16, 17] rfl)
          · exact absurd c_121 c_143
        · refine lv_iload hx hb dL_areTrials_124 (lv_at hl 7 rfl) ?_
          refine lv_iload hx hb dL_areTrials_126 (lv_at hl 4 rfl) ?_
          refine lv_iload hx hb dL_areTrials_128 (lv_at hl 8 rfl) ?_
          refine lv_imul hx hb dL_areTrials_130 ?_
          refine lv_topi (fun z_36 ez_36 => ?_)
          have ez_36 : z_36 = nI (k9 * sp9) := ez_36.trans (nI_mul k9 sp9)
          subst ez_36
          refine lv_iadd hx hb dL_areTrials_131 ?_
          refine lv_topi (fun z_37 ez_37 => ?_)
          have ez_37 : z_37 = nI (fr9 + (k9 * sp9)) := ez_37.trans (nI_add fr9 (k9 * sp9))
          subst ez_37
          refine lv_goto (tgt := 137) hx hb dL_areTrials_132 (by decide) ?_
          refine lv_istore (lv' := [(13, .int (nI (fr9 + (k9 * sp9)))), (17, .int (sp_str μ (sp_sel μ (μ 3 s9) (-1) (cn 12)) (nI (fr9 + (k9 * sp9))))), (14, .int l9), (15, .int 0), (16, .int (nI k9)), (7, .int (nI s9)), (8, .int (nI ms)), (9, .int (nI fr9)), (10, .int (nI sp9)), (11, .int (nI ss9)), (12, .int (nI pc9)), (0, .ref ho), (1, .ref (la 3)), (2, .ref (la 5)), (3, .ref (la 10)), (4, .ref (la 11)), (5, .ref (la 12)), (6, .int (nI zn))]) hx hb dL_areTrials_137 hl (by decide) rfl (fun ls hl => ?_)
          refine lv_iload hx hb dL_areTrials_139 (lv_at hl 1 rfl) ?_
          refine lv_iload hx hb dL_areTrials_141 (lv_at hl 2 rfl) ?_
          refine lv_icmp_ge (tgt := 151) hx hb dL_areTrials_143 (by decide) (fun c_143 => ?_) (fun c_143 => ?_)
          · exact absurd c_143 c_121
          · refine lv_iload hx hb dL_areTrials_146 (lv_at hl 1 rfl) ?_
            refine lv_goto (tgt := 153) hx hb dL_areTrials_148 (by decide) ?_
            refine lv_istore (lv' := [(14, .int (sp_str μ (sp_sel μ (μ 3 s9) (-1) (cn 12)) (nI (fr9 + (k9 * sp9))))), (13, .int (nI (fr9 + (k9 * sp9)))), (17, .int (sp_str μ (sp_sel μ (μ 3 s9) (-1) (cn 12)) (nI (fr9 + (k9 * sp9))))), (15, .int 0), (16, .int (nI k9)), (7, .int (nI s9)), (8, .int (nI ms)), (9, .int (nI fr9)), (10, .int (nI sp9)), (11, .int (nI ss9)), (12, .int (nI pc9)), (0, .ref ho), (1, .ref (la 3)), (2, .ref (la 5)), (3, .ref (la 10)), (4, .ref (la 11)), (5, .ref (la 12)), (6, .int (nI zn))]) hx hb dL_areTrials_153 hl (by decide) rfl (fun ls hl => ?_)
            obtain ⟨q155, eq155⟩ : ∃ y : Int32, y = (nI k9) + 1 := ⟨_, rfl⟩
            refine lv_iinc (v := q155) (lv' := [(16, .int q155), (14, .int (sp_str μ (sp_sel μ (μ 3 s9) (-1) (cn 12)) (nI (fr9 + (k9 * sp9))))), (13, .int (nI (fr9 + (k9 * sp9)))), (17, .int (sp_str μ (sp_sel μ (μ 3 s9) (-1) (cn 12)) (nI (fr9 + (k9 * sp9))))), (15, .int 0), (7, .int (nI s9)), (8, .int (nI ms)), (9, .int (nI fr9)), (10, .int (nI sp9)), (11, .int (nI ss9)), (12, .int (nI pc9)), (0, .ref ho), (1, .ref (la 3)), (2, .ref (la 5)), (3, .ref (la 10)), (4, .ref (la 11)), (5, .ref (la 12)), (6, .int (nI zn))]) hx hb dL_areTrials_155 hl (k := 4) rfl (by rw [eq155]; rfl) (by decide) rfl (fun ls hl => ?_)
            rw [nI_1] at eq155
            subst eq155
            refine lv_goto (tgt := 89) hx hb dL_areTrials_158 (by decide) ?_
            exact ih (k9 + 1) (nI (fr9 + k9 * sp9)) (sp_str μ (sp_sel μ (μ 3 s9) (-1) (cn 12)) (nI (fr9 + k9 * sp9))) (by omega) ⟨by omega, by omega, bestA_y hb9 (trI_nat (a := fr9) (b := sp9) (i := k9)) c_121⟩ _ hS _ (lv_sub hl [2, 1, 4, 0, 5, 6, 7, 8, 9, 10, 11, 12, 13, 14, 15, 16, 17] rfl)
  exact L89 (ss9 + 2) 1 (nI fr9) (sp_str μ (sp_sel μ (μ 3 s9) (-1) (cn 12)) (nI fr9)) (by omega) ⟨by omega, by omega, bestA_1⟩ _ hS _ (lv_sub hl [3, 2, 1, 0, 9, 8, 7, 6, 5, 4, 10, 11, 12, 13, 14, 15, 16] rfl)

