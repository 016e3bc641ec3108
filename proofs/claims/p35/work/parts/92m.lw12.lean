theorem hd_X10_lost : yX10_lost.cls ≠ "java/lang/invoke/MethodHandle" ∧ yX10_lost.cls ≠ "java/lang/invoke/VarHandle" ∧ (parseMethodDescriptor yX10_lost.desc).map (fun d => d.parameters.length) = some 2 := ⟨by decide, by decide, by decide +kernel⟩
abbrev rmL_areMinima : Room := { frames := 13, cells := 900, slots := 45000, locals := 254 }
set_option maxHeartbeats 4000000 in
set_option maxRecDepth 100000 in
theorem c_L_areMinima (E : hk_E) (l : Launch) (hl9 : l.stackTraces = false) (H0 : Heap) {Z : Nat → Prop} {ho ts : Nat} {li : Nat → Nat} {rr : Nat → Nat → Nat} {G : hG} {R : hR} {la : Nat → Nat} {V : Nat → Nat → Int32} {cn : Nat → Nat} {sc : Nat → Int32} {μ : Nat → Nat → Int32} (hW : HW E Z (ho, li, rr, ts) G R (cn, sc, μ) H0) (hL : LW E la V H0) (hV : LV (cn, sc, μ) V) (hI : InvF (cn, sc, μ)) (hX : LXY (cn, sc, μ) V) (hZn : ∀ q, H0.size ≤ q → Z q) (hlz : ∀ k, k < 13 → ¬ Z (la k)) {zn : Nat} (hz31 : zn < 2 ^ 31) : hk_X E l yL_areMinima wsL_areMinima rmL_areMinima (fun q => Z q) [.ref ho, .ref (la 3), .ref (la 9), .ref (la 10), .int (nI zn)] H0 (dpost E Z (ho, li, rr, ts) 1 (cn, sc, μ)) (fun _ _ => False) := by
  refine hk_X.ofW (cc := cL_areMinima) (maxL := 16) (ret := (some .boolean)) (by decide +kernel) rfl (Nat.le_of_ble_eq_true rfl) ?_
  intro p e s m args below meth c ls Q hQ X hr hlk hx9 K hs9 hS hl
  obtain ⟨hx, hb, hml, hown, hts⟩ := id X
  have hAE : ∀ q, (fun q => Z q) q → hk_A E q := fun q h => hW.2.2.2.2.2.2.2.2.2.2.2.2 q h
  have hl : lv_has ls 16 [(0, .ref ho), (1, .ref (la 3)), (2, .ref (la 9)), (3, .ref (la 10)), (4, .int (nI zn))] := hl
  have hn1 : cn 1 ≤ 4 := hV.n1
  have hn8 : cn 8 ≤ 3 := hV.n8
  have hn12 : cn 12 ≤ 24 := hV.n12
  have hn22 : cn 22 ≤ 4 := hV.n22
  have hn29 : cn 29 ≤ 8 := hV.n29
  have hZA : ∀ q, Z q → hk_A E q := hW.2.2.2.2.2.2.2.2.2.2.2.2
  obtain ⟨pd9, epd⟩ : ∃ y, y = 30 + zn % 5000 := ⟨_, rfl⟩
  have hpd1 : 30 ≤ pd9 := by omega
  have hpd2 : pd9 ≤ 1000000 := by omega
  refine lv_iconst (v := 1) hx hb dL_areMinima_0 (by decide) ?_
  refine lv_istore (lv' := [(5, .int 1), (0, .ref ho), (1, .ref (la 3)), (2, .ref (la 9)), (3, .ref (la 10)), (4, .int (nI zn))]) hx hb dL_areMinima_1 hl (by decide) rfl (fun ls hl => ?_)
  refine lv_bipush (v := 30) hx hb dL_areMinima_3 (by decide) ?_
  refine lv_iload hx hb dL_areMinima_5 (lv_at hl 5 rfl) ?_
  refine lv_sipush (v := 5000) hx hb dL_areMinima_7 (by decide) ?_
  refine lv_irem hx hb dL_areMinima_10 (by decide) ?_
  refine lv_topi (fun z_1 ez_1 => ?_)
  have ez_1 : z_1 = nI (zn % 5000) := ez_1.trans (pk_rem (a := zn) (d := 5000) (by omega) (by omega) (by omega))
  subst ez_1
  refine lv_iadd hx hb dL_areMinima_11 ?_
  refine lv_topi (fun z_2 ez_2 => ?_)
  have ez_2 : z_2 = nI pd9 := ez_2.trans ((nI_add 30 (zn % 5000)).trans (congrArg nI (show 30 + (zn % 5000) = pd9 by omega)))
  subst ez_2
  refine lv_istore (lv' := [(6, .int (nI pd9)), (5, .int 1), (0, .ref ho), (1, .ref (la 3)), (2, .ref (la 9)), (3, .ref (la 10)), (4, .int (nI zn))]) hx hb dL_areMinima_12 hl (by decide) rfl (fun ls hl => ?_)
  refine lv_iconst (v := 0) hx hb dL_areMinima_14 (by decide) ?_
  refine lv_istore (lv' := [(7, .int 0), (6, .int (nI pd9)), (5, .int 1), (0, .ref ho), (1, .ref (la 3)), (2, .ref (la 9)), (3, .ref (la 10)), (4, .int (nI zn))]) hx hb dL_areMinima_15 hl (by decide) rfl (fun ls hl => ?_)
  have L17 : ∀ (n9 : Nat) (k9 : Nat) (H : Heap) (locs : List Loc) (G : hG) (R : hR), cn 1 + 1 ≤ k9 + n9 → (va_S (fun q => Z q) s.heap H locs ∧ HW E Z (ho, li, rr, ts) G R (cn, sc, μ) H ∧ LW E la V H ∧ (∀ q, H.size ≤ q → Z q) ∧ k9 ≤ cn 1) → ∀ (ls : Array Slot), lv_has ls 16 [(5, .int 1), (6, .int (nI pd9)), (7, .int (nI k9)), (0, .ref ho), (1, .ref (la 3)), (2, .ref (la 9)), (3, .ref (la 10)), (4, .int (nI zn))] → W p l e rmL_areMinima s m args below meth c H locs (220 * k9) (11000 * k9) Q (F0 m 17 ls []) := by
    intro n9
    induction n9 with
    | zero =>
      intro k9 H locs G R hm9 ⟨hS, hW, hL, hZn, hk⟩ ls hl
      exact absurd hm9 (by omega)
    | succ n9 ih =>
      intro k9 H locs G R hm9 ⟨hS, hW, hL, hZn, hk⟩ ls hl
      refine lv_iload hx hb dL_areMinima_17 (lv_at hl 2 rfl) ?_
      refine lv_aload_n hx hb dL_areMinima_19 rfl (lv_at hl 6 rfl) ?_
      refine lv_iconst (v := 0) hx hb dL_areMinima_20 (by decide) ?_
      refine hk_ild X K hL.c10 (show vp_in (nI 0) 6 from vp_in_nI (by decide) (by decide)) dL_areMinima_21 ?_
      rw [show (V 10) (0 : Int32).toNatClampNeg = nI (cn 1) from hV.g0]
      refine lv_icmp_ge (tgt := 466) hx hb dL_areMinima_22 (by decide) (fun c_22 => ?_) (fun c_22 => ?_)
      · have hk9 : k9 = cn 1 := by
          have := (nI_leI (by omega) (by omega)).mp c_22
          omega
        refine lv_iload hx hb dL_areMinima_466 (lv_at hl 0 rfl) ?_
        exact hk_zretx X hr hlk hQ hS (by show 220 * k9 + 0 ≤ 900; omega) (by show 11000 * k9 + 0 ≤ 45000; omega) dL_areMinima_468 (Or.inr rfl) (⟨rfl, G, R, hW⟩)
      · have hk9 : k9 < cn 1 := Nat.lt_of_not_le (fun h => c_22 (nI_le h (by omega)))
        obtain ⟨ms, hms, hm⟩ := hV.a1 hk9
        have hm : mskR (cn 1) (μ 3) ms (μ 3 k9) (-1) := hm
        obtain ⟨hza, hloa, hlea⟩ := low_ent (InvF.ent hI) hn1 hk9 hm
        have hlba := lowb_le ms
        have hlz0 := hlz
        refine lv_iload hx hb dL_areMinima_25 (lv_at hl 0 rfl) ?_
        refine lv_if_eq (tgt := 466) hx hb dL_areMinima_27 (by decide) (fun c_27 => ?_) (fun c_27 => ?_)
        · exact absurd c_27 (by decide)
        · refine lv_iconst (v := 0) hx hb dL_areMinima_30 (by decide) ?_
          refine lv_istore (lv' := [(8, .int 0), (5, .int 1), (6, .int (nI pd9)), (7, .int (nI k9)), (0, .ref ho), (1, .ref (la 3)), (2, .ref (la 9)), (3, .ref (la 10)), (4, .int (nI zn))]) hx hb dL_areMinima_31 hl (by decide) rfl (fun ls hl => ?_)
          refine lv_bipush (v := 10) hx hb dL_areMinima_33 (by decide) ?_
          refine hk_newi (N := 10) X K (by decide +kernel) hS (by decide) (by decide) (Nat.le_of_ble_eq_true rfl) (by show 220 * k9 + 1 ≤ 900; omega) (by show 11000 * k9 + 10 ≤ 45000; omega) dL_areMinima_35 (fun H3 hIH3 hzH3 hqH3 hS => ?_)
          obtain ⟨d9, ed9⟩ : ∃ z : Nat, z = H.size := ⟨_, rfl⟩
          rw [← ed9] at hIH3 hzH3 ⊢
          have hD : hk_I E 0 d9 10 (fun _ => 0) H3 := hIH3
          have hZd : Z d9 := hZn d9 (by omega)
          have hdA : hk_A E d9 := hZA d9 hZd
          have hL := hL.kept (fun k hk => hqH3 (la k) (hL.lt hk))
          have hW : HW E (fun q => Z q ∧ q ≠ d9) (ho, li, rr, ts) G R (cn, sc, μ) H3 := (hW.zone (fun q h1 h2 => ⟨h2, by omega⟩) (fun q h => hZA q h.1)).kept (fun q h _ => hqH3 q h)
          have hZn : ∀ q, H3.size ≤ q → Z q ∧ q ≠ d9 := fun q h => ⟨hZn q (by omega), by omega⟩
          have hlz : ∀ k, k < 13 → ¬ (Z (la k) ∧ la k ≠ d9) := fun k hk h => hlz k hk h.1
          have hld : ∀ k, k < 13 → la k ≠ d9 := fun k hk h => hlz0 k hk (by rw [h]; exact hZd)
          refine lv_astore (lv' := [(9, .ref d9), (8, .int 0), (5, .int 1), (6, .int (nI pd9)), (7, .int (nI k9)), (0, .ref ho), (1, .ref (la 3)), (2, .ref (la 9)), (3, .ref (la 10)), (4, .int (nI zn))]) hx hb dL_areMinima_37 hl (by decide) rfl (fun ls hl => ?_)
          refine lv_iconst (v := 0) hx hb dL_areMinima_39 (by decide) ?_
          refine lv_istore (lv' := [(10, .int 0), (9, .ref d9), (8, .int 0), (5, .int 1), (6, .int (nI pd9)), (7, .int (nI k9)), (0, .ref ho), (1, .ref (la 3)), (2, .ref (la 9)), (3, .ref (la 10)), (4, .int (nI zn))]) hx hb dL_areMinima_40 hl (by decide) rfl (fun ls hl => ?_)
          have L42 : ∀ (n8 : Nat) (k8 : Nat) (H : Heap) (locs : List Loc) (Dd : Nat → Int32), cn 29 + 1 ≤ k8 + n8 → (va_S (fun q => Z q) s.heap H locs ∧ HW E (fun q => Z q ∧ q ≠ d9) (ho, li, rr, ts) G R (cn, sc, μ) H ∧ LW E la V H ∧ hk_I E 0 d9 10 Dd H ∧ d9 < H.size ∧ (∀ q, H.size ≤ q → Z q ∧ q ≠ d9) ∧ k8 ≤ cn 29 ∧ dI (mnA μ (μ 3 k9)) (sp_mt μ) (cn 29) Dd k8) → ∀ (ls : Array Slot), lv_has ls 16 [(8, .int (nI (ladL (mnA μ (μ 3 k9)) k8).length)), (10, .int (nI k8)), (9, .ref d9), (5, .int 1), (6, .int (nI pd9)), (7, .int (nI k9)), (0, .ref ho), (1, .ref (la 3)), (2, .ref (la 9)), (3, .ref (la 10)), (4, .int (nI zn))] → W p l e rmL_areMinima s m args below meth c H locs (220 * k9 + 1) (11000 * k9 + 10) Q (F0 m 42 ls []) := by
            intro n8
            induction n8 with
            | zero =>
              intro k8 H locs Dd hm8 ⟨hS, hW, hL, hD, hdlt, hZn, hk8, hdI⟩ ls hl
              exact absurd hm8 (by omega)
            | succ n8 ih8 =>
              intro k8 H locs Dd hm8 ⟨hS, hW, hL, hD, hdlt, hZn, hk8, hdI⟩ ls hl
              refine lv_iload hx hb dL_areMinima_42 (lv_at hl 1 rfl) ?_
              refine lv_aload_n hx hb dL_areMinima_44 rfl (lv_at hl 9 rfl) ?_
              refine lv_iconst (v := 4) hx hb dL_areMinima_45 (by decide) ?_
              refine hk_ild X K hL.c10 (show vp_in (nI 4) 6 from vp_in_nI (by decide) (by decide)) dL_areMinima_46 ?_
              rw [show (V 10) (4 : Int32).toNatClampNeg = nI (cn 29) from hV.g4]
              refine lv_icmp_ge (tgt := 252) hx hb dL_areMinima_47 (by decide) (fun c_47 => ?_) (fun c_47 => ?_)
              · have hk8 : k8 = cn 29 := by
                  have := (nI_leI (by omega) (by omega)).mp c_47
                  omega
                rw [hk8, ← (lay_list (μ := μ) (e := μ 3 k9) (cn 29)).1] at hl
                rw [hk8] at hdI
                have hDG := dI_lay hdI
                have hM8 : (layS (cn, sc, μ) (μ 3 k9)).2 ≤ 8 := Nat.le_trans (layA_le (cn 29)) (by omega)
                have hl : lv_has ls 16 [(8, .int (nI (layS (cn, sc, μ) (μ 3 k9)).2)), (10, .int (nI (cn 29))), (9, .ref d9), (5, .int 1), (6, .int (nI pd9)), (7, .int (nI k9)), (0, .ref ho), (1, .ref (la 3)), (2, .ref (la 9)), (3, .ref (la 10)), (4, .int (nI zn))] := hl
                refine lv_iconst (v := 0) hx hb dL_areMinima_252 (by decide) ?_
                refine lv_istore (lv' := [(10, .int 0), (8, .int (nI (layS (cn, sc, μ) (μ 3 k9)).2)), (9, .ref d9), (5, .int 1), (6, .int (nI pd9)), (7, .int (nI k9)), (0, .ref ho), (1, .ref (la 3)), (2, .ref (la 9)), (3, .ref (la 10)), (4, .int (nI zn))]) hx hb dL_areMinima_253 hl (by decide) rfl (fun ls hl => ?_)
                refine lv_iconst (v := 0) hx hb dL_areMinima_255 (by decide) ?_
                refine lv_istore (lv' := [(11, .int 0), (10, .int 0), (8, .int (nI (layS (cn, sc, μ) (μ 3 k9)).2)), (9, .ref d9), (5, .int 1), (6, .int (nI pd9)), (7, .int (nI k9)), (0, .ref ho), (1, .ref (la 3)), (2, .ref (la 9)), (3, .ref (la 10)), (4, .int (nI zn))]) hx hb dL_areMinima_256 hl (by decide) rfl (fun ls hl => ?_)
                refine lv_iconst (v := 0) hx hb dL_areMinima_258 (by decide) ?_
                refine lv_istore (lv' := [(12, .int 0), (11, .int 0), (10, .int 0), (8, .int (nI (layS (cn, sc, μ) (μ 3 k9)).2)), (9, .ref d9), (5, .int 1), (6, .int (nI pd9)), (7, .int (nI k9)), (0, .ref ho), (1, .ref (la 3)), (2, .ref (la 9)), (3, .ref (la 10)), (4, .int (nI zn))]) hx hb dL_areMinima_259 hl (by decide) rfl (fun ls hl => ?_)
                have L261 : ∀ (n7 : Nat) (p8 : Nat) (H : Heap) (locs : List Loc) (G : hG) (R : hR), (layS (cn, sc, μ) (μ 3 k9)).2 + 1 ≤ p8 + n7 → (va_S (fun q => Z q) s.heap H locs ∧ HW E (fun q => Z q ∧ q ≠ d9) (ho, li, rr, ts) G R (cn, sc, μ) H ∧ LW E la V H ∧ hk_I E 0 d9 10 Dd H ∧ d9 < H.size ∧ (∀ q, H.size ≤ q → Z q ∧ q ≠ d9) ∧ p8 ≤ (layS (cn, sc, μ) (μ 3 k9)).2) → ∀ (ls : Array Slot), lv_has ls 16 [(10, .int (sp_lost (layS (cn, sc, μ) (μ 3 k9)).1 (nI pd9) (p8 - 1))), (11, .int (lastC (layS (cn, sc, μ) (μ 3 k9)).1 (nI pd9) p8)), (12, .int (nI p8)), (8, .int (nI (layS (cn, sc, μ) (μ 3 k9)).2)), (9, .ref d9), (5, .int 1), (6, .int (nI pd9)), (7, .int (nI k9)), (0, .ref ho), (1, .ref (la 3)), (2, .ref (la 9)), (3, .ref (la 10)), (4, .int (nI zn))] → W p l e rmL_areMinima s m args below meth c H locs (220 * k9 + 1 + 24 * p8) (11000 * k9 + 10 + 1200 * p8) Q (F0 m 261 ls []) := by
                  intro n7
                  induction n7 with
                  | zero =>
                    intro p8 H locs G R hm7 ⟨hS, hW, hL, hD, hdlt, hZn, hp8⟩ ls hl
                    exact absurd hm7 (by omega)
                  | succ n7 ih7 =>
                    intro p8 H locs G R hm7 ⟨hS, hW, hL, hD, hdlt, hZn, hp8⟩ ls hl
                    refine lv_iload hx hb dL_areMinima_261 (lv_at hl 2 rfl) ?_
                    refine lv_iload hx hb dL_areMinima_263 (lv_at hl 3 rfl) ?_
                    refine lv_icmp_ge (tgt := 417) hx hb dL_areMinima_265 (by decide) (fun c_265 => ?_) (fun c_265 => ?_)
                    · have hp8 : p8 = (layS (cn, sc, μ) (μ 3 k9)).2 := by
                        have := (nI_leI (by omega) (by omega)).mp c_265
                        omega
                      rw [hp8] at hl
                      refine lv_iload hx hb dL_areMinima_417 (lv_at hl 5 rfl) ?_
                      refine lv_if_eq (tgt := 457) hx hb dL_areMinima_419 (by decide) (fun c_419 => ?_) (fun c_419 => ?_)
                      · exact absurd c_419 (by decide)
                      · refine lv_aload_n hx hb dL_areMinima_422 rfl (lv_at hl 8 rfl) ?_
                        refine lv_iload hx hb dL_areMinima_423 (lv_at hl 7 rfl) ?_
                        refine lv_iload hx hb dL_areMinima_425 (lv_at hl 6 rfl) ?_
                        have hcd0 : cd_lost (nI k9) (nI pd9) (cn, sc, μ) = 0 := lost_cd hk9 hn1 hpd1 hpd2
                        refine hk_callVx 2 (As := [.int (nI k9), .int (nI pd9)]) (rest := []) X K hAE hS hl.1 (HW.o hW) rfl (c_X10_lost E l hl9 H hW hI hZn (p0 := nI k9) (p1 := nI pd9)) (fun q h => h.1) gL_areMinima_X10_lost rfl ⟨rfl, hd_X10_lost⟩ rfl ⟨⟨(Nat.le_of_ble_eq_true rfl), (Nat.le_of_ble_eq_true rfl)⟩, (by show 220 * k9 + 1 + 24 * p8 + 8 ≤ 900; omega), (by show 11000 * k9 + 10 + 1200 * p8 + 400 ≤ 45000; omega)⟩ rfl (Nat.le_of_ble_eq_true rfl) dL_areMinima_427 (fun x9 ce9 q9 H9 locs9 hp hS hz9 hk9 hce hcv hcl => by
                            obtain ⟨hcs, -⟩ := hp
                            rw [hcd0] at hcs
                            rcases hcs with ⟨h, -⟩ | ⟨h, -⟩ | ⟨h, -⟩ <;> exact absurd h (by decide)
                          ) (fun v9 H4 locsH4 hp hS hzH4 hkH4 => ?_)
                        obtain ⟨-, hv, G, R, hW⟩ := hp
                        subst hv
                        have hL := hL.kept (fun k hk => hkH4 (la k) (hL.lt hk) (hlz k hk))
                        have hZn := fun (q : Nat) (h : H4.size ≤ q) => hZn q (Nat.le_trans hzH4 h)
                        have hD := (hkH4 d9 (ar_lt hD) (fun h => h.2 rfl)).trans hD
                        refine lv_iload hx hb dL_areMinima_430 (lv_at hl 0 rfl) ?_
                        refine lv_icmp_ne (tgt := 457) hx hb dL_areMinima_432 (by decide) (fun c_432 => ?_) (fun c_432 => ?_)
                        · exact (c_432 (lost_an (S := (cn, sc, μ)) (by omega))).elim
                        · refine lv_aload_n hx hb dL_areMinima_435 rfl (lv_at hl 8 rfl) ?_
                          refine lv_bipush (v := 7) hx hb dL_areMinima_436 (by decide) ?_
                          refine lv_iload hx hb dL_areMinima_438 (lv_at hl 7 rfl) ?_
                          refine lv_iconst (v := 5) hx hb dL_areMinima_440 (by decide) ?_
                          refine lv_iload hx hb dL_areMinima_441 (lv_at hl 3 rfl) ?_
                          refine lv_iconst (v := 0) hx hb dL_areMinima_443 (by decide) ?_
                          refine lv_iconst (v := 0) hx hb dL_areMinima_444 (by decide) ?_
                          refine hk_callSxW 7 (As := [.ref ho, .int 7, .int (nI k9), .int 5, .int (nI (layS (cn, sc, μ) (μ 3 k9)).2), .int 0, .int 0]) (rest := []) X K hAE hS hl.1 (c_L_does_cycle E l hl9 H4 hW hI hZn (p0 := nI k9) (p1 := 5) (p2 := nI (layS (cn, sc, μ) (μ 3 k9)).2) (p4 := 0)) (fun q h => h.1) gL_areMinima_L_does rfl hd_L_does rfl ⟨⟨(Nat.le_of_ble_eq_true rfl), (Nat.le_of_ble_eq_true rfl)⟩, (by show 220 * k9 + 1 + 24 * p8 + 8 + 12 ≤ 900; omega), (by show 11000 * k9 + 10 + 1200 * p8 + 400 + 600 ≤ 45000; omega)⟩ rfl (Nat.le_of_ble_eq_true rfl) dL_areMinima_445 (fun _ _ _ _ _ hp _ _ _ _ _ _ => False.elim hp) (fun v9 H5 locsH5 hp hS hzH5 hkH5 => ?_)
                          obtain ⟨hv, G, R, hW⟩ := hp
                          subst hv
                          have hL := hL.kept (fun k hk => hkH5 (la k) (hL.lt hk) (hlz k hk))
                          have hZn := fun (q : Nat) (h : H5.size ≤ q) => hZn q (Nat.le_trans hzH5 h)
                          have hD := (hkH5 d9 (ar_lt hD) (fun h => h.2 rfl)).trans hD
                          refine lv_ldc hx hb hown (hts (.constant RL 90 (-1111111)) (by decide +kernel)) dL_areMinima_448 ?_
                          refine lv_icmp_ne (tgt := 457) hx hb dL_areMinima_450 (by decide) (fun c_450 => ?_) (fun c_450 => ?_)
                          · exact (c_450 (cyc_e (S := (cn, sc, μ)) hk9 hn1 hM8)).elim
                          · refine lv_iconst (v := 1) hx hb dL_areMinima_453 (by decide) ?_
                            refine lv_goto (tgt := 458) hx hb dL_areMinima_454 (by decide) ?_
                            refine lv_istore (lv' := [(5, .int 1), (10, .int (sp_lost (layS (cn, sc, μ) (μ 3 k9)).1 (nI pd9) ((layS (cn, sc, μ) (μ 3 k9)).2 - 1))), (11, .int (lastC (layS (cn, sc, μ) (μ 3 k9)).1 (nI pd9) (layS (cn, sc, μ) (μ 3 k9)).2)), (12, .int (nI (layS (cn, sc, μ) (μ 3 k9)).2)), (8, .int (nI (layS (cn, sc, μ) (μ 3 k9)).2)), (9, .ref d9), (6, .int (nI pd9)), (7, .int (nI k9)), (0, .ref ho), (1, .ref (la 3)), (2, .ref (la 9)), (3, .ref (la 10)), (4, .int (nI zn))]) hx hb dL_areMinima_458 hl (by decide) rfl (fun ls hl => ?_)
                            obtain ⟨q460, eq460⟩ : ∃ y : Int32, y = (nI k9) + 1 := ⟨_, rfl⟩
                            refine lv_iinc (v := q460) (lv' := [(7, .int q460), (5, .int 1), (10, .int (sp_lost (layS (cn, sc, μ) (μ 3 k9)).1 (nI pd9) ((layS (cn, sc, μ) (μ 3 k9)).2 - 1))), (11, .int (lastC (layS (cn, sc, μ) (μ 3 k9)).1 (nI pd9) (layS (cn, sc, μ) (μ 3 k9)).2)), (12, .int (nI (layS (cn, sc, μ) (μ 3 k9)).2)), (8, .int (nI (layS (cn, sc, μ) (μ 3 k9)).2)), (9, .ref d9), (6, .int (nI pd9)), (0, .ref ho), (1, .ref (la 3)), (2, .ref (la 9)), (3, .ref (la 10)), (4, .int (nI zn))]) hx hb dL_areMinima_460 hl (k := 7) rfl (by rw [eq460]; rfl) (by decide) rfl (fun ls hl => ?_)
                            rw [nI_1] at eq460
                            subst eq460
                            refine lv_goto (tgt := 17) hx hb dL_areMinima_463 (by decide) ?_
                            refine W.widen (k := 220 * (k9 + 1)) (n := 11000 * (k9 + 1)) (by show 220 * k9 + 1 + 24 * p8 + 8 + 12 ≤ _; omega) (by show 11000 * k9 + 10 + 1200 * p8 + 400 + 600 ≤ _; omega) ?_
                            have hW := hW.zone (Z' := Z) (fun q _ h => h.1) hZA
                            exact ih (k9 + 1) _ _ G R (by omega) ⟨hS, hW, hL, fun q h => (hZn q h).1, by omega⟩ _ (lv_sub hl [1, 7, 0, 8, 9, 10, 11, 12] rfl)
                    · have hp8 : p8 < (layS (cn, sc, μ) (μ 3 k9)).2 := Nat.lt_of_not_le (fun h => c_265 (nI_le h (by omega)))
                      obtain ⟨hr1, ⟨hr2, hr4⟩, ⟨hr3, hr5⟩⟩ := lay_rng hI.1 hp8
                      obtain ⟨Lx, hLx, hLx2⟩ : ∃ L : Nat, (layS (cn, sc, μ) (μ 3 k9)).1 p8 - (layS (cn, sc, μ) (μ 3 k9)).1 0 = nI L ∧ L < 10000020 := by
                        have h9 := fb_subI (x := (layS (cn, sc, μ) (μ 3 k9)).1 p8) (y := (layS (cn, sc, μ) (μ 3 k9)).1 0) (by omega) (by omega)
                        rw [i_le] at hr1
                        obtain ⟨j, hj1, hj2⟩ := nI_of (x := (layS (cn, sc, μ) (μ 3 k9)).1 p8 - (layS (cn, sc, μ) (μ 3 k9)).1 0) (by rw [i_lt, i_0, h9]; omega)
                        refine ⟨j, hj2, ?_⟩
                        rw [hj2, nI_toInt hj1] at h9
                        omega
                      have hmd := Nat.mod_lt Lx (show 0 < pd9 by omega)
                      refine lv_iload hx hb dL_areMinima_268 (lv_at hl 5 rfl) ?_
                      refine lv_if_eq (tgt := 417) hx hb dL_areMinima_270 (by decide) (fun c_270 => ?_) (fun c_270 => ?_)
                      · exact absurd c_270 (by decide)
                      · refine lv_aload hx hb dL_areMinima_273 (lv_at hl 4 rfl) ?_
                        refine lv_iload hx hb dL_areMinima_275 (lv_at hl 2 rfl) ?_
                        refine hk_ild X K hD (vp_in_nI (by omega) (by omega)) dL_areMinima_277 ?_
                        rw [show Dd (nI p8).toNatClampNeg = (layS (cn, sc, μ) (μ 3 k9)).1 p8 from (congrArg Dd (nI_clamp (show p8 < 2 ^ 31 by omega))).trans (hDG p8 hp8)]
                        refine lv_aload hx hb dL_areMinima_278 (lv_at hl 4 rfl) ?_
                        refine lv_iconst (v := 0) hx hb dL_areMinima_280 (by decide) ?_
                        refine hk_ild X K hD (show vp_in (nI 0) 10 from vp_in_nI (by decide) (by decide)) dL_areMinima_281 ?_
                        rw [show Dd (0 : Int32).toNatClampNeg = (layS (cn, sc, μ) (μ 3 k9)).1 0 from (congrArg Dd (show (0 : Int32).toNatClampNeg = 0 from rfl)).trans (hDG 0 (show 0 < (layS (cn, sc, μ) (μ 3 k9)).2 by omega))]
                        refine lv_isub hx hb dL_areMinima_282 ?_
                        refine lv_topi (fun x283 ex283 => ?_)
                        refine lv_istore (lv' := [(13, .int x283), (10, .int (sp_lost (layS (cn, sc, μ) (μ 3 k9)).1 (nI pd9) (p8 - 1))), (11, .int (lastC (layS (cn, sc, μ) (μ 3 k9)).1 (nI pd9) p8)), (12, .int (nI p8)), (8, .int (nI (layS (cn, sc, μ) (μ 3 k9)).2)), (9, .ref d9), (5, .int 1), (6, .int (nI pd9)), (7, .int (nI k9)), (0, .ref ho), (1, .ref (la 3)), (2, .ref (la 9)), (3, .ref (la 10)), (4, .int (nI zn))]) hx hb dL_areMinima_283 hl (by decide) rfl (fun ls hl => ?_)
                        rw [hLx] at ex283
                        subst ex283
                        refine lv_iload hx hb dL_areMinima_285 (lv_at hl 0 rfl) ?_
                        refine lv_iload hx hb dL_areMinima_287 (lv_at hl 7 rfl) ?_
                        refine lv_idiv hx hb dL_areMinima_289 (nI_ne0 (by omega) (by omega)) ?_
                        refine lv_topi (fun z_6 ez_6 => ?_)
                        have ez_6 : z_6 = nI (Lx / pd9) := ez_6.trans (pk_div (a := Lx) (d := pd9) (by omega) (by omega) (by omega))
                        subst ez_6
                        refine lv_iconst (v := 2) hx hb dL_areMinima_290 (by decide) ?_
                        refine lv_iload hx hb dL_areMinima_291 (lv_at hl 0 rfl) ?_
                        refine lv_iload hx hb dL_areMinima_293 (lv_at hl 7 rfl) ?_
                        refine lv_irem hx hb dL_areMinima_295 (nI_ne0 (by omega) (by omega)) ?_
                        refine lv_topi (fun z_7 ez_7 => ?_)
                        have ez_7 : z_7 = nI (Lx % pd9) := ez_7.trans (pk_rem (a := Lx) (d := pd9) (by omega) (by omega) (by omega))
                        subst ez_7
                        refine lv_imul hx hb dL_areMinima_296 ?_
                        refine lv_iload hx hb dL_areMinima_297 (lv_at hl 7 rfl) ?_
                        refine lv_icmp_lt (tgt := 306) hx hb dL_areMinima_299 (by decide) (fun c_299 => ?_) (fun c_299 => ?_)
                        · have c_299 : ¬ nI pd9 ≤ 2 * nI (Lx % pd9) := Int32.not_le.mpr c_299
                          refine lv_iconst (v := 0) hx hb dL_areMinima_306 (by decide) ?_
                          refine lv_iadd hx hb dL_areMinima_307 ?_
                          refine lv_topi (fun x308 ex308 => ?_)
                          refine lv_istore (lv' := [(14, .int x308), (13, .int (nI Lx)), (10, .int (sp_lost (layS (cn, sc, μ) (μ 3 k9)).1 (nI pd9) (p8 - 1))), (11, .int (lastC (layS (cn, sc, μ) (μ 3 k9)).1 (nI pd9) p8)), (12, .int (nI p8)), (8, .int (nI (layS (cn, sc, μ) (μ 3 k9)).2)), (9, .ref d9), (5, .int 1), (6, .int (nI pd9)), (7, .int (nI k9)), (0, .ref ho), (1, .ref (la 3)), (2, .ref (la 9)), (3, .ref (la 10)), (4, .int (nI zn))]) hx hb dL_areMinima_308 hl (by decide) rfl (fun ls hl => ?_)
                          rw [cyc_n hLx hLx2 hpd1 hpd2 c_299] at ex308
                          subst ex308
                          refine lv_iload hx hb dL_areMinima_310 (lv_at hl 1 rfl) ?_
                          refine lv_iload hx hb dL_areMinima_312 (lv_at hl 0 rfl) ?_
                          refine lv_iload hx hb dL_areMinima_314 (lv_at hl 8 rfl) ?_
                          refine lv_imul hx hb dL_areMinima_316 ?_
                          refine lv_isub hx hb dL_areMinima_317 ?_
                          refine lv_topi (fun x318 ex318 => ?_)
                          refine lv_istore (lv' := [(15, .int x318), (14, .int (sp_cy (layS (cn, sc, μ) (μ 3 k9)).1 p8 (nI pd9))), (13, .int (nI Lx)), (10, .int (sp_lost (layS (cn, sc, μ) (μ 3 k9)).1 (nI pd9) (p8 - 1))), (11, .int (lastC (layS (cn, sc, μ) (μ 3 k9)).1 (nI pd9) p8)), (12, .int (nI p8)), (8, .int (nI (layS (cn, sc, μ) (μ 3 k9)).2)), (9, .ref d9), (5, .int 1), (6, .int (nI pd9)), (7, .int (nI k9)), (0, .ref ho), (1, .ref (la 3)), (2, .ref (la 9)), (3, .ref (la 10)), (4, .int (nI zn))]) hx hb dL_areMinima_318 hl (by decide) rfl (fun ls hl => ?_)
                          have ey9 : x318 = sp_of (layS (cn, sc, μ) (μ 3 k9)).1 p8 (nI pd9) := ex318.trans (by unfold sp_of; rw [hLx])
                          clear ex318
                          subst ey9
                          have hor := off_rng hLx hLx2 hpd1 hpd2
                          refine lv_iload hx hb dL_areMinima_320 (lv_at hl 3 rfl) ?_
                          refine lv_iload hx hb dL_areMinima_322 (lv_at hl 5 rfl) ?_
                          refine lv_if_le (tgt := 358) hx hb dL_areMinima_324 (by decide) (fun c_324 => ?_) (fun c_324 => ?_)
                          · have hp0 : p8 = 0 := Nat.le_zero.mp ((nI_leI (a := p8) (b := 0) (by omega) (by omega)).mp c_324)
                            refine lv_iconst (v := 0) hx hb dL_areMinima_358 (by decide) ?_
                            refine lv_iadd hx hb dL_areMinima_359 ?_
                            refine lv_topi (fun q360 eq360 => ?_)
                            refine lv_istore (lv' := [(10, .int q360), (15, .int (sp_of (layS (cn, sc, μ) (μ 3 k9)).1 p8 (nI pd9))), (14, .int (sp_cy (layS (cn, sc, μ) (μ 3 k9)).1 p8 (nI pd9))), (13, .int (nI Lx)), (11, .int (lastC (layS (cn, sc, μ) (μ 3 k9)).1 (nI pd9) p8)), (12, .int (nI p8)), (8, .int (nI (layS (cn, sc, μ) (μ 3 k9)).2)), (9, .ref d9), (5, .int 1), (6, .int (nI pd9)), (7, .int (nI k9)), (0, .ref ho), (1, .ref (la 3)), (2, .ref (la 9)), (3, .ref (la 10)), (4, .int (nI zn))]) hx hb dL_areMinima_360 hl (by decide) rfl (fun ls hl => ?_)
                            rw [lost_n (v := 0) (Or.inl hp0)] at eq360
                            subst eq360
                            refine lv_iload hx hb dL_areMinima_362 (lv_at hl 1 rfl) ?_
                            refine lv_istore (lv' := [(11, .int (sp_of (layS (cn, sc, μ) (μ 3 k9)).1 p8 (nI pd9))), (10, .int (sp_lost (layS (cn, sc, μ) (μ 3 k9)).1 (nI pd9) p8)), (15, .int (sp_of (layS (cn, sc, μ) (μ 3 k9)).1 p8 (nI pd9))), (14, .int (sp_cy (layS (cn, sc, μ) (μ 3 k9)).1 p8 (nI pd9))), (13, .int (nI Lx)), (12, .int (nI p8)), (8, .int (nI (layS (cn, sc, μ) (μ 3 k9)).2)), (9, .ref d9), (5, .int 1), (6, .int (nI pd9)), (7, .int (nI k9)), (0, .ref ho), (1, .ref (la 3)), (2, .ref (la 9)), (3, .ref (la 10)), (4, .int (nI zn))]) hx hb dL_areMinima_364 hl (by decide) rfl (fun ls hl => ?_)
                            refine lv_aload_n hx hb dL_areMinima_366 rfl (lv_at hl 11 rfl) ?_
                            refine lv_bipush (v := 7) hx hb dL_areMinima_367 (by decide) ?_
                            refine lv_iload hx hb dL_areMinima_369 (lv_at hl 10 rfl) ?_
                            refine lv_iload hx hb dL_areMinima_371 (lv_at hl 9 rfl) ?_
                            refine lv_iload hx hb dL_areMinima_373 (lv_at hl 5 rfl) ?_
                            refine lv_iconst (v := 0) hx hb dL_areMinima_375 (by decide) ?_
                            refine lv_iconst (v := 0) hx hb dL_areMinima_376 (by decide) ?_
                            refine hk_callSxW 7 (As := [.ref ho, .int 7, .int (nI k9), .int (nI pd9), .int (nI p8), .int 0, .int 0]) (rest := []) X K hAE hS hl.1 (c_L_does_cycle E l hl9 H hW hI hZn (p0 := nI k9) (p1 := nI pd9) (p2 := nI p8) (p4 := 0)) (fun q h => h.1) gL_areMinima_L_does rfl hd_L_does rfl ⟨⟨(Nat.le_of_ble_eq_true rfl), (Nat.le_of_ble_eq_true rfl)⟩, (by show 220 * k9 + 1 + 24 * p8 + 12 ≤ 900; omega), (by show 11000 * k9 + 10 + 1200 * p8 + 600 ≤ 45000; omega)⟩ rfl (Nat.le_of_ble_eq_true rfl) dL_areMinima_377 (fun _ _ _ _ _ hp _ _ _ _ _ _ => False.elim hp) (fun v9 H8 locsH8 hp hS hzH8 hkH8 => ?_)
                            obtain ⟨hv, G, R, hW⟩ := hp
                            subst hv
                            have hL := hL.kept (fun k hk => hkH8 (la k) (hL.lt hk) (hlz k hk))
                            have hZn := fun (q : Nat) (h : H8.size ≤ q) => hZn q (Nat.le_trans hzH8 h)
                            have hD := (hkH8 d9 (ar_lt hD) (fun h => h.2 rfl)).trans hD
                            refine lv_iload hx hb dL_areMinima_380 (lv_at hl 3 rfl) ?_
                            refine lv_icmp_ne (tgt := 408) hx hb dL_areMinima_382 (by decide) (fun c_382 => ?_) (fun c_382 => ?_)
                            · exact (c_382 (cyc_0 (S := (cn, sc, μ)) hk9 hn1 hpd1 hpd2 hp8 hM8)).elim
                            · refine lv_aload_n hx hb dL_areMinima_385 rfl (lv_at hl 11 rfl) ?_
                              refine lv_bipush (v := 7) hx hb dL_areMinima_386 (by decide) ?_
                              refine lv_iload hx hb dL_areMinima_388 (lv_at hl 10 rfl) ?_
                              refine lv_iload hx hb dL_areMinima_390 (lv_at hl 9 rfl) ?_
                              refine lv_iload hx hb dL_areMinima_392 (lv_at hl 5 rfl) ?_
                              refine lv_iconst (v := 1) hx hb dL_areMinima_394 (by decide) ?_
                              refine lv_iconst (v := 0) hx hb dL_areMinima_395 (by decide) ?_
                              refine hk_callSxW 7 (As := [.ref ho, .int 7, .int (nI k9), .int (nI pd9), .int (nI p8), .int 1, .int 0]) (rest := []) X K hAE hS hl.1 (c_L_does_cycle1 E l hl9 H8 hW hI hZn (p0 := nI k9) (p1 := nI pd9) (p2 := nI p8) (p4 := 0)) (fun q h => h.1) gL_areMinima_L_does rfl hd_L_does rfl ⟨⟨(Nat.le_of_ble_eq_true rfl), (Nat.le_of_ble_eq_true rfl)⟩, (by show 220 * k9 + 1 + 24 * p8 + 12 + 12 ≤ 900; omega), (by show 11000 * k9 + 10 + 1200 * p8 + 600 + 600 ≤ 45000; omega)⟩ rfl (Nat.le_of_ble_eq_true rfl) dL_areMinima_396 (fun _ _ _ _ _ hp _ _ _ _ _ _ => False.elim hp) (fun v9 H9 locsH9 hp hS hzH9 hkH9 => ?_)
                              obtain ⟨hv, G, R, hW⟩ := hp
                              subst hv
                              have hL := hL.kept (fun k hk => hkH9 (la k) (hL.lt hk) (hlz k hk))
                              have hZn := fun (q : Nat) (h : H9.size ≤ q) => hZn q (Nat.le_trans hzH9 h)
                              have hD := (hkH9 d9 (ar_lt hD) (fun h => h.2 rfl)).trans hD
                              refine lv_iload hx hb dL_areMinima_399 (lv_at hl 2 rfl) ?_
                              refine lv_icmp_ne (tgt := 408) hx hb dL_areMinima_401 (by decide) (fun c_401 => ?_) (fun c_401 => ?_)
                              · exact (c_401 (cyc_1 (S := (cn, sc, μ)) hk9 hn1 hpd1 hpd2 hp8 hM8)).elim
                              · refine lv_iconst (v := 1) hx hb dL_areMinima_404 (by decide) ?_
                                refine lv_goto (tgt := 409) hx hb dL_areMinima_405 (by decide) ?_
                                refine lv_istore (lv' := [(5, .int 1), (11, .int (sp_of (layS (cn, sc, μ) (μ 3 k9)).1 p8 (nI pd9))), (10, .int (sp_lost (layS (cn, sc, μ) (μ 3 k9)).1 (nI pd9) p8)), (15, .int (sp_of (layS (cn, sc, μ) (μ 3 k9)).1 p8 (nI pd9))), (14, .int (sp_cy (layS (cn, sc, μ) (μ 3 k9)).1 p8 (nI pd9))), (13, .int (nI Lx)), (12, .int (nI p8)), (8, .int (nI (layS (cn, sc, μ) (μ 3 k9)).2)), (9, .ref d9), (6, .int (nI pd9)), (7, .int (nI k9)), (0, .ref ho), (1, .ref (la 3)), (2, .ref (la 9)), (3, .ref (la 10)), (4, .int (nI zn))]) hx hb dL_areMinima_409 hl (by decide) rfl (fun ls hl => ?_)
                                obtain ⟨q411, eq411⟩ : ∃ y : Int32, y = (nI p8) + 1 := ⟨_, rfl⟩
                                refine lv_iinc (v := q411) (lv' := [(12, .int q411), (5, .int 1), (11, .int (sp_of (layS (cn, sc, μ) (μ 3 k9)).1 p8 (nI pd9))), (10, .int (sp_lost (layS (cn, sc, μ) (μ 3 k9)).1 (nI pd9) p8)), (15, .int (sp_of (layS (cn, sc, μ) (μ 3 k9)).1 p8 (nI pd9))), (14, .int (sp_cy (layS (cn, sc, μ) (μ 3 k9)).1 p8 (nI pd9))), (13, .int (nI Lx)), (8, .int (nI (layS (cn, sc, μ) (μ 3 k9)).2)), (9, .ref d9), (6, .int (nI pd9)), (7, .int (nI k9)), (0, .ref ho), (1, .ref (la 3)), (2, .ref (la 9)), (3, .ref (la 10)), (4, .int (nI zn))]) hx hb dL_areMinima_411 hl (k := 6) rfl (by rw [eq411]; rfl) (by decide) rfl (fun ls hl => ?_)
                                rw [nI_1] at eq411
                                subst eq411
                                refine lv_goto (tgt := 261) hx hb dL_areMinima_414 (by decide) ?_
                                refine W.widen (k := 220 * k9 + 1 + 24 * (p8 + 1)) (n := 11000 * k9 + 10 + 1200 * (p8 + 1)) (by show 220 * k9 + 1 + 24 * p8 + 12 + 12 ≤ _; omega) (by show 11000 * k9 + 10 + 1200 * p8 + 600 + 600 ≤ _; omega) ?_
                                exact ih7 (p8 + 1) _ _ G R (by omega) ⟨hS, hW, hL, hD, by omega, hZn, by omega⟩ _ (lv_sub hl [3, 2, 0, 7, 8, 1, 9, 10, 11, 12, 13, 14, 15] rfl)
                          · have hp0 : 0 < p8 := by
                              rcases Nat.eq_zero_or_pos p8 with h | h
                              · rw [h] at c_324; exact absurd (Int32.le_refl _) c_324
                              · exact h
                            obtain ⟨Ly, hLy, hLy2⟩ : ∃ L : Nat, (layS (cn, sc, μ) (μ 3 k9)).1 (p8 - 1) - (layS (cn, sc, μ) (μ 3 k9)).1 0 = nI L ∧ L < 10000020 := by
                              obtain ⟨hr1, ⟨hr2, hr4⟩, ⟨hr3, hr5⟩⟩ := lay_rng hI.1 (show p8 - 1 < (layS (cn, sc, μ) (μ 3 k9)).2 by omega)
                              have h9 := fb_subI (x := (layS (cn, sc, μ) (μ 3 k9)).1 (p8 - 1)) (y := (layS (cn, sc, μ) (μ 3 k9)).1 0) (by omega) (by omega)
                              rw [i_le] at hr1
                              obtain ⟨j, hj1, hj2⟩ := nI_of (x := (layS (cn, sc, μ) (μ 3 k9)).1 (p8 - 1) - (layS (cn, sc, μ) (μ 3 k9)).1 0) (by rw [i_lt, i_0, h9]; omega)
                              refine ⟨j, hj2, ?_⟩
                              rw [hj2, nI_toInt hj1] at h9
                              omega
                            have hol : -(pd9 : Int) ≤ (lastC (layS (cn, sc, μ) (μ 3 k9)).1 (nI pd9) p8).toInt ∧ (lastC (layS (cn, sc, μ) (μ 3 k9)).1 (nI pd9) p8).toInt ≤ (pd9 : Int) := by
                              rw [show lastC (layS (cn, sc, μ) (μ 3 k9)).1 (nI pd9) p8 = sp_of (layS (cn, sc, μ) (μ 3 k9)).1 (p8 - 1) (nI pd9) from lastC_at hp0]
                              exact off_rng hLy hLy2 hpd1 hpd2
                            refine lv_iconst (v := 4) hx hb dL_areMinima_327 (by decide) ?_
                            refine lv_iload hx hb dL_areMinima_328 (lv_at hl 0 rfl) ?_
                            refine lv_iload hx hb dL_areMinima_330 (lv_at hl 4 rfl) ?_
                            refine lv_icmp_le (tgt := 343) hx hb dL_areMinima_332 (by decide) (fun c_332 => ?_) (fun c_332 => ?_)
                            · refine lv_iload hx hb dL_areMinima_343 (lv_at hl 4 rfl) ?_
                              refine lv_iload hx hb dL_areMinima_345 (lv_at hl 0 rfl) ?_
                              refine lv_isub hx hb dL_areMinima_347 ?_
                              refine lv_imul hx hb dL_areMinima_348 ?_
                              refine lv_iload hx hb dL_areMinima_349 (lv_at hl 9 rfl) ?_
                              refine lv_icmp_le (tgt := 358) hx hb dL_areMinima_351 (by decide) (fun c_351 => ?_) (fun c_351 => ?_)
                              · refine lv_iconst (v := 0) hx hb dL_areMinima_358 (by decide) ?_
                                refine lv_iadd hx hb dL_areMinima_359 ?_
                                refine lv_topi (fun q360 eq360 => ?_)
                                refine lv_istore (lv' := [(10, .int q360), (15, .int (sp_of (layS (cn, sc, μ) (μ 3 k9)).1 p8 (nI pd9))), (14, .int (sp_cy (layS (cn, sc, μ) (μ 3 k9)).1 p8 (nI pd9))), (13, .int (nI Lx)), (11, .int (lastC (layS (cn, sc, μ) (μ 3 k9)).1 (nI pd9) p8)), (12, .int (nI p8)), (8, .int (nI (layS (cn, sc, μ) (μ 3 k9)).2)), (9, .ref d9), (5, .int 1), (6, .int (nI pd9)), (7, .int (nI k9)), (0, .ref ho), (1, .ref (la 3)), (2, .ref (la 9)), (3, .ref (la 10)), (4, .int (nI zn))]) hx hb dL_areMinima_360 hl (by decide) rfl (fun ls hl => ?_)
                                rw [lost_n (Or.inr ⟨abs_n (by omega) (by omega) c_332, c_351⟩)] at eq360
                                subst eq360
                                refine lv_iload hx hb dL_areMinima_362 (lv_at hl 1 rfl) ?_
                                refine lv_istore (lv' := [(11, .int (sp_of (layS (cn, sc, μ) (μ 3 k9)).1 p8 (nI pd9))), (10, .int (sp_lost (layS (cn, sc, μ) (μ 3 k9)).1 (nI pd9) p8)), (15, .int (sp_of (layS (cn, sc, μ) (μ 3 k9)).1 p8 (nI pd9))), (14, .int (sp_cy (layS (cn, sc, μ) (μ 3 k9)).1 p8 (nI pd9))), (13, .int (nI Lx)), (12, .int (nI p8)), (8, .int (nI (layS (cn, sc, μ) (μ 3 k9)).2)), (9, .ref d9), (5, .int 1), (6, .int (nI pd9)), (7, .int (nI k9)), (0, .ref ho), (1, .ref (la 3)), (2, .ref (la 9)), (3, .ref (la 10)), (4, .int (nI zn))]) hx hb dL_areMinima_364 hl (by decide) rfl (fun ls hl => ?_)
                                refine lv_aload_n hx hb dL_areMinima_366 rfl (lv_at hl 11 rfl) ?_
                                refine lv_bipush (v := 7) hx hb dL_areMinima_367 (by decide) ?_
                                refine lv_iload hx hb dL_areMinima_369 (lv_at hl 10 rfl) ?_
                                refine lv_iload hx hb dL_areMinima_371 (lv_at hl 9 rfl) ?_
                                refine lv_iload hx hb dL_areMinima_373 (lv_at hl 5 rfl) ?_
                                refine lv_iconst (v := 0) hx hb dL_areMinima_375 (by decide) ?_
                                refine lv_iconst (v := 0) hx hb dL_areMinima_376 (by decide) ?_
                                refine hk_callSxW 7 (As := [.ref ho, .int 7, .int (nI k9), .int (nI pd9), .int (nI p8), .int 0, .int 0]) (rest := []) X K hAE hS hl.1 (c_L_does_cycle E l hl9 H hW hI hZn (p0 := nI k9) (p1 := nI pd9) (p2 := nI p8) (p4 := 0)) (fun q h => h.1) gL_areMinima_L_does rfl hd_L_does rfl ⟨⟨(Nat.le_of_ble_eq_true rfl), (Nat.le_of_ble_eq_true rfl)⟩, (by show 220 * k9 + 1 + 24 * p8 + 12 ≤ 900; omega), (by show 11000 * k9 + 10 + 1200 * p8 + 600 ≤ 45000; omega)⟩ rfl (Nat.le_of_ble_eq_true rfl) dL_areMinima_377 (fun _ _ _ _ _ hp _ _ _ _ _ _ => False.elim hp) (fun v9 H10 locsH10 hp hS hzH10 hkH10 => ?_)
                                obtain ⟨hv, G, R, hW⟩ := hp
                                subst hv
                                have hL := hL.kept (fun k hk => hkH10 (la k) (hL.lt hk) (hlz k hk))
                                have hZn := fun (q : Nat) (h : H10.size ≤ q) => hZn q (Nat.le_trans hzH10 h)
                                have hD := (hkH10 d9 (ar_lt hD) (fun h => h.2 rfl)).trans hD
                                refine lv_iload hx hb dL_areMinima_380 (lv_at hl 3 rfl) ?_
                                refine lv_icmp_ne (tgt := 408) hx hb dL_areMinima_382 (by decide) (fun c_382 => ?_) (fun c_382 => ?_)
                                · exact (c_382 (cyc_0 (S := (cn, sc, μ)) hk9 hn1 hpd1 hpd2 hp8 hM8)).elim
                                · refine lv_aload_n hx hb dL_areMinima_385 rfl (lv_at hl 11 rfl) ?_
                                  refine lv_bipush (v := 7) hx hb dL_areMinima_386 (by decide) ?_
                                  refine lv_iload hx hb dL_areMinima_388 (lv_at hl 10 rfl) ?_
                                  refine lv_iload hx hb dL_areMinima_390 (lv_at hl 9 rfl) ?_
                                  refine lv_iload hx hb dL_areMinima_392 (lv_at hl 5 rfl) ?_
                                  refine lv_iconst (v := 1) hx hb dL_areMinima_394 (by decide) ?_
                                  refine lv_iconst (v := 0) hx hb dL_areMinima_395 (by decide) ?_
                                  refine hk_callSxW 7 (As := [.ref ho, .int 7, .int (nI k9), .int (nI pd9), .int (nI p8), .int 1, .int 0]) (rest := []) X K hAE hS hl.1 (c_L_does_cycle1 E l hl9 H10 hW hI hZn (p0 := nI k9) (p1 := nI pd9) (p2 := nI p8) (p4 := 0)) (fun q h => h.1) gL_areMinima_L_does rfl hd_L_does rfl ⟨⟨(Nat.le_of_ble_eq_true rfl), (Nat.le_of_ble_eq_true rfl)⟩, (by show 220 * k9 + 1 + 24 * p8 + 12 + 12 ≤ 900; omega), (by show 11000 * k9 + 10 + 1200 * p8 + 600 + 600 ≤ 45000; omega)⟩ rfl (Nat.le_of_ble_eq_true rfl) dL_areMinima_396 (fun _ _ _ _ _ hp _ _ _ _ _ _ => False.elim hp) (fun v9 H11 locsH11 hp hS hzH11 hkH11 => ?_)
                                  obtain ⟨hv, G, R, hW⟩ := hp
                                  subst hv
                                  have hL := hL.kept (fun k hk => hkH11 (la k) (hL.lt hk) (hlz k hk))
                                  have hZn := fun (q : Nat) (h : H11.size ≤ q) => hZn q (Nat.le_trans hzH11 h)
                                  have hD := (hkH11 d9 (ar_lt hD) (fun h => h.2 rfl)).trans hD
                                  refine lv_iload hx hb dL_areMinima_399 (lv_at hl 2 rfl) ?_
                                  refine lv_icmp_ne (tgt := 408) hx hb dL_areMinima_401 (by decide) (fun c_401 => ?_) (fun c_401 => ?_)
                                  · exact (c_401 (cyc_1 (S := (cn, sc, μ)) hk9 hn1 hpd1 hpd2 hp8 hM8)).elim
                                  · refine lv_iconst (v := 1) hx hb dL_areMinima_404 (by decide) ?_
                                    refine lv_goto (tgt := 409) hx hb dL_areMinima_405 (by decide) ?_
                                    refine lv_istore (lv' := [(5, .int 1), (11, .int (sp_of (layS (cn, sc, μ) (μ 3 k9)).1 p8 (nI pd9))), (10, .int (sp_lost (layS (cn, sc, μ) (μ 3 k9)).1 (nI pd9) p8)), (15, .int (sp_of (layS (cn, sc, μ) (μ 3 k9)).1 p8 (nI pd9))), (14, .int (sp_cy (layS (cn, sc, μ) (μ 3 k9)).1 p8 (nI pd9))), (13, .int (nI Lx)), (12, .int (nI p8)), (8, .int (nI (layS (cn, sc, μ) (μ 3 k9)).2)), (9, .ref d9), (6, .int (nI pd9)), (7, .int (nI k9)), (0, .ref ho), (1, .ref (la 3)), (2, .ref (la 9)), (3, .ref (la 10)), (4, .int (nI zn))]) hx hb dL_areMinima_409 hl (by decide) rfl (fun ls hl => ?_)
                                    obtain ⟨q411, eq411⟩ : ∃ y : Int32, y = (nI p8) + 1 := ⟨_, rfl⟩
                                    refine lv_iinc (v := q411) (lv' := [(12, .int q411), (5, .int 1), (11, .int (sp_of (layS (cn, sc, μ) (μ 3 k9)).1 p8 (nI pd9))), (10, .int (sp_lost (layS (cn, sc, μ) (μ 3 k9)).1 (nI pd9) p8)), (15, .int (sp_of (layS (cn, sc, μ) (μ 3 k9)).1 p8 (nI pd9))), (14, .int (sp_cy (layS (cn, sc, μ) (μ 3 k9)).1 p8 (nI pd9))), (13, .int (nI Lx)), (8, .int (nI (layS (cn, sc, μ) (μ 3 k9)).2)), (9, .ref d9), (6, .int (nI pd9)), (7, .int (nI k9)), (0, .ref ho), (1, .ref (la 3)), (2, .ref (la 9)), (3, .ref (la 10)), (4, .int (nI zn))]) hx hb dL_areMinima_411 hl (k := 6) rfl (by rw [eq411]; rfl) (by decide) rfl (fun ls hl => ?_)
                                    rw [nI_1] at eq411
                                    subst eq411
                                    refine lv_goto (tgt := 261) hx hb dL_areMinima_414 (by decide) ?_
                                    refine W.widen (k := 220 * k9 + 1 + 24 * (p8 + 1)) (n := 11000 * k9 + 10 + 1200 * (p8 + 1)) (by show 220 * k9 + 1 + 24 * p8 + 12 + 12 ≤ _; omega) (by show 11000 * k9 + 10 + 1200 * p8 + 600 + 600 ≤ _; omega) ?_
                                    exact ih7 (p8 + 1) _ _ G R (by omega) ⟨hS, hW, hL, hD, by omega, hZn, by omega⟩ _ (lv_sub hl [3, 2, 0, 7, 8, 1, 9, 10, 11, 12, 13, 14, 15] rfl)
                              · refine lv_iconst (v := 1) hx hb dL_areMinima_354 (by decide) ?_
                                refine lv_goto (tgt := 359) hx hb dL_areMinima_355 (by decide) ?_
                                refine lv_iadd hx hb dL_areMinima_359 ?_
                                refine lv_topi (fun q360 eq360 => ?_)
                                refine lv_istore (lv' := [(10, .int q360), (15, .int (sp_of (layS (cn, sc, μ) (μ 3 k9)).1 p8 (nI pd9))), (14, .int (sp_cy (layS (cn, sc, μ) (μ 3 k9)).1 p8 (nI pd9))), (13, .int (nI Lx)), (11, .int (lastC (layS (cn, sc, μ) (μ 3 k9)).1 (nI pd9) p8)), (12, .int (nI p8)), (8, .int (nI (layS (cn, sc, μ) (μ 3 k9)).2)), (9, .ref d9), (5, .int 1), (6, .int (nI pd9)), (7, .int (nI k9)), (0, .ref ho), (1, .ref (la 3)), (2, .ref (la 9)), (3, .ref (la 10)), (4, .int (nI zn))]) hx hb dL_areMinima_360 hl (by decide) rfl (fun ls hl => ?_)
                                rw [lost_y hp0 (abs_n (by omega) (by omega) c_332) c_351] at eq360
                                subst eq360
                                refine lv_iload hx hb dL_areMinima_362 (lv_at hl 1 rfl) ?_
                                refine lv_istore (lv' := [(11, .int (sp_of (layS (cn, sc, μ) (μ 3 k9)).1 p8 (nI pd9))), (10, .int (sp_lost (layS (cn, sc, μ) (μ 3 k9)).1 (nI pd9) p8)), (15, .int (sp_of (layS (cn, sc, μ) (μ 3 k9)).1 p8 (nI pd9))), (14, .int (sp_cy (layS (cn, sc, μ) (μ 3 k9)).1 p8 (nI pd9))), (13, .int (nI Lx)), (12, .int (nI p8)), (8, .int (nI (layS (cn, sc, μ) (μ 3 k9)).2)), (9, .ref d9), (5, .int 1), (6, .int (nI pd9)), (7, .int (nI k9)), (0, .ref ho), (1, .ref (la 3)), (2, .ref (la 9)), (3, .ref (la 10)), (4, .int (nI zn))]) hx hb dL_areMinima_364 hl (by decide) rfl (fun ls hl => ?_)
                                refine lv_aload_n hx hb dL_areMinima_366 rfl (lv_at hl 11 rfl) ?_
                                refine lv_bipush (v := 7) hx hb dL_areMinima_367 (by decide) ?_
                                refine lv_iload hx hb dL_areMinima_369 (lv_at hl 10 rfl) ?_
                                refine lv_iload hx hb dL_areMinima_371 (lv_at hl 9 rfl) ?_
                                refine lv_iload hx hb dL_areMinima_373 (lv_at hl 5 rfl) ?_
                                refine lv_iconst (v := 0) hx hb dL_areMinima_375 (by decide) ?_
                                refine lv_iconst (v := 0) hx hb dL_areMinima_376 (by decide) ?_
                                refine hk_callSxW 7 (As := [.ref ho, .int 7, .int (nI k9), .int (nI pd9), .int (nI p8), .int 0, .int 0]) (rest := []) X K hAE hS hl.1 (c_L_does_cycle E l hl9 H hW hI hZn (p0 := nI k9) (p1 := nI pd9) (p2 := nI p8) (p4 := 0)) (fun q h => h.1) gL_areMinima_L_does rfl hd_L_does rfl ⟨⟨(Nat.le_of_ble_eq_true rfl), (Nat.le_of_ble_eq_true rfl)⟩, (by show 220 * k9 + 1 + 24 * p8 + 12 ≤ 900; omega), (by show 11000 * k9 + 10 + 1200 * p8 + 600 ≤ 45000; omega)⟩ rfl (Nat.le_of_ble_eq_true rfl) dL_areMinima_377 (fun _ _ _ _ _ hp _ _ _ _ _ _ => False.elim hp) (fun v9 H12 locsH12 hp hS hzH12 hkH12 => ?_)
                                obtain ⟨hv, G, R, hW⟩ := hp
                                subst hv
                                have hL := hL.kept (fun k hk => hkH12 (la k) (hL.lt hk) (hlz k hk))
                                have hZn := fun (q : Nat) (h : H12.size ≤ q) => hZn q (Nat.le_trans hzH12 h)
                                have hD := (hkH12 d9 (ar_lt hD) (fun h => h.2 rfl)).trans hD
                                refine lv_iload hx hb dL_areMinima_380 (lv_at hl 3 rfl) ?_
                                refine lv_icmp_ne (tgt := 408) hx hb dL_areMinima_382 (by decide) (fun c_382 => ?_) (fun c_382 => ?_)
                                · exact (c_382 (cyc_0 (S := (cn, sc, μ)) hk9 hn1 hpd1 hpd2 hp8 hM8)).elim
                                · refine lv_aload_n hx hb dL_areMinima_385 rfl (lv_at hl 11 rfl) ?_
                                  refine lv_bipush (v := 7) hx hb dL_areMinima_386 (by decide) ?_
                                  refine lv_iload hx hb dL_areMinima_388 (lv_at hl 10 rfl) ?_
                                  refine lv_iload hx hb dL_areMinima_390 (lv_at hl 9 rfl) ?_
                                  refine lv_iload hx hb dL_areMinima_392 (lv_at hl 5 rfl) ?_
                                  refine lv_iconst (v := 1) hx hb dL_areMinima_394 (by decide) ?_
                                  refine lv_iconst (v := 0) hx hb dL_areMinima_395 (by decide) ?_
                                  refine hk_callSxW 7 (As := [.ref ho, .int 7, .int (nI k9), .int (nI pd9), .int (nI p8), .int 1, .int 0]) (rest := []) X K hAE hS hl.1 (c_L_does_cycle1 E l hl9 H12 hW hI hZn (p0 := nI k9) (p1 := nI pd9) (p2 := nI p8) (p4 := 0)) (fun q h => h.1) gL_areMinima_L_does rfl hd_L_does rfl ⟨⟨(Nat.le_of_ble_eq_true rfl), (Nat.le_of_ble_eq_true rfl)⟩, (by show 220 * k9 + 1 + 24 * p8 + 12 + 12 ≤ 900; omega), (by show 11000 * k9 + 10 + 1200 * p8 + 600 + 600 ≤ 45000; omega)⟩ rfl (Nat.le_of_ble_eq_true rfl) dL_areMinima_396 (fun _ _ _ _ _ hp _ _ _ _ _ _ => False.elim hp) (fun v9 H13 locsH13 hp hS hzH13 hkH13 => ?_)
                                  obtain ⟨hv, G, R, hW⟩ := hp
                                  subst hv
                                  have hL := hL.kept (fun k hk => hkH13 (la k) (hL.lt hk) (hlz k hk))
                                  have hZn := fun (q : Nat) (h : H13.size ≤ q) => hZn q (Nat.le_trans hzH13 h)
                                  have hD := (hkH13 d9 (ar_lt hD) (fun h => h.2 rfl)).trans hD
                                  refine lv_iload hx hb dL_areMinima_399 (lv_at hl 2 rfl) ?_
                                  refine lv_icmp_ne (tgt := 408) hx hb dL_areMinima_401 (by decide) (fun c_401 => ?_) (fun c_401 => ?_)
                                  · exact (c_401 (cyc_1 (S := (cn, sc, μ)) hk9 hn1 hpd1 hpd2 hp8 hM8)).elim
                                  · refine lv_iconst (v := 1) hx hb dL_areMinima_404 (by decide) ?_
                                    refine lv_goto (tgt := 409) hx hb dL_areMinima_405 (by decide) ?_
                                    refine lv_istore (lv' := [(5, .int 1), (11, .int (sp_of (layS (cn, sc, μ) (μ 3 k9)).1 p8 (nI pd9))), (10, .int (sp_lost (layS (cn, sc, μ) (μ 3 k9)).1 (nI pd9) p8)), (15, .int (sp_of (layS (cn, sc, μ) (μ 3 k9)).1 p8 (nI pd9))), (14, .int (sp_cy (layS (cn, sc, μ) (μ 3 k9)).1 p8 (nI pd9))), (13, .int (nI Lx)), (12, .int (nI p8)), (8, .int (nI (layS (cn, sc, μ) (μ 3 k9)).2)), (9, .ref d9), (6, .int (nI pd9)), (7, .int (nI k9)), (0, .ref ho), (1, .ref (la 3)), (2, .ref (la 9)), (3, .ref (la 10)), (4, .int (nI zn))]) hx hb dL_areMinima_409 hl (by decide) rfl (fun ls hl => ?_)
                                    obtain ⟨q411, eq411⟩ : ∃ y : Int32, y = (nI p8) + 1 := ⟨_, rfl⟩
                                    refine lv_iinc (v := q411) (lv' := [(12, .int q411), (5, .int 1), (11, .int (sp_of (layS (cn, sc, μ) (μ 3 k9)).1 p8 (nI pd9))), (10, .int (sp_lost (layS (cn, sc, μ) (μ 3 k9)).1 (nI pd9) p8)), (15, .int (sp_of (layS (cn, sc, μ) (μ 3 k9)).1 p8 (nI pd9))), (14, .int (sp_cy (layS (cn, sc, μ) (μ 3 k9)).1 p8 (nI pd9))), (13, .int (nI Lx)), (8, .int (nI (layS (cn, sc, μ) (μ 3 k9)).2)), (9, .ref d9), (6, .int (nI pd9)), (7, .int (nI k9)), (0, .ref ho), (1, .ref (la 3)), (2, .ref (la 9)), (3, .ref (la 10)), (4, .int (nI zn))]) hx hb dL_areMinima_411 hl (k := 6) rfl (by rw [eq411]; rfl) (by decide) rfl (fun ls hl => ?_)
                                    rw [nI_1] at eq411
                                    subst eq411
                                    refine lv_goto (tgt := 261) hx hb dL_areMinima_414 (by decide) ?_
                                    refine W.widen (k := 220 * k9 + 1 + 24 * (p8 + 1)) (n := 11000 * k9 + 10 + 1200 * (p8 + 1)) (by show 220 * k9 + 1 + 24 * p8 + 12 + 12 ≤ _; omega) (by show 11000 * k9 + 10 + 1200 * p8 + 600 + 600 ≤ _; omega) ?_
                                    exact ih7 (p8 + 1) _ _ G R (by omega) ⟨hS, hW, hL, hD, by omega, hZn, by omega⟩ _ (lv_sub hl [3, 2, 0, 7, 8, 1, 9, 10, 11, 12, 13, 14, 15] rfl)
                            · refine lv_iload hx hb dL_areMinima_335 (lv_at hl 0 rfl) ?_
                              refine lv_iload hx hb dL_areMinima_337 (lv_at hl 4 rfl) ?_
                              refine lv_isub hx hb dL_areMinima_339 ?_
                              refine lv_goto (tgt := 348) hx hb dL_areMinima_340 (by decide) ?_
                              refine lv_imul hx hb dL_areMinima_348 ?_
                              refine lv_iload hx hb dL_areMinima_349 (lv_at hl 9 rfl) ?_
                              refine lv_icmp_le (tgt := 358) hx hb dL_areMinima_351 (by decide) (fun c_351 => ?_) (fun c_351 => ?_)
                              · refine lv_iconst (v := 0) hx hb dL_areMinima_358 (by decide) ?_
                                refine lv_iadd hx hb dL_areMinima_359 ?_
                                refine lv_topi (fun q360 eq360 => ?_)
                                refine lv_istore (lv' := [(10, .int q360), (15, .int (sp_of (layS (cn, sc, μ) (μ 3 k9)).1 p8 (nI pd9))), (14, .int (sp_cy (layS (cn, sc, μ) (μ 3 k9)).1 p8 (nI pd9))), (13, .int (nI Lx)), (11, .int (lastC (layS (cn, sc, μ) (μ 3 k9)).1 (nI pd9) p8)), (12, .int (nI p8)), (8, .int (nI (layS (cn, sc, μ) (μ 3 k9)).2)), (9, .ref d9), (5, .int 1), (6, .int (nI pd9)), (7, .int (nI k9)), (0, .ref ho), (1, .ref (la 3)), (2, .ref (la 9)), (3, .ref (la 10)), (4, .int (nI zn))]) hx hb dL_areMinima_360 hl (by decide) rfl (fun ls hl => ?_)
                                rw [lost_n (Or.inr ⟨abs_y (by omega) (by omega) c_332, c_351⟩)] at eq360
                                subst eq360
                                refine lv_iload hx hb dL_areMinima_362 (lv_at hl 1 rfl) ?_
                                refine lv_istore (lv' := [(11, .int (sp_of (layS (cn, sc, μ) (μ 3 k9)).1 p8 (nI pd9))), (10, .int (sp_lost (layS (cn, sc, μ) (μ 3 k9)).1 (nI pd9) p8)), (15, .int (sp_of (layS (cn, sc, μ) (μ 3 k9)).1 p8 (nI pd9))), (14, .int (sp_cy (layS (cn, sc, μ) (μ 3 k9)).1 p8 (nI pd9))), (13, .int (nI Lx)), (12, .int (nI p8)), (8, .int (nI (layS (cn, sc, μ) (μ 3 k9)).2)), (9, .ref d9), (5, .int 1), (6, .int (nI pd9)), (7, .int (nI k9)), (0, .ref ho), (1, .ref (la 3)), (2, .ref (la 9)), (3, .ref (la 10)), (4, .int (nI zn))]) hx hb dL_areMinima_364 hl (by decide) rfl (fun ls hl => ?_)
                                refine lv_aload_n hx hb dL_areMinima_366 rfl (lv_at hl 11 rfl) ?_
                                refine lv_bipush (v := 7) hx hb dL_areMinima_367 (by decide) ?_
                                refine lv_iload hx hb dL_areMinima_369 (lv_at hl 10 rfl) ?_
                                refine lv_iload hx hb dL_areMinima_371 (lv_at hl 9 rfl) ?_
                                refine lv_iload hx hb dL_areMinima_373 (lv_at hl 5 rfl) ?_
                                refine lv_iconst (v := 0) hx hb dL_areMinima_375 (by decide) ?_
                                refine lv_iconst (v := 0) hx hb dL_areMinima_376 (by decide) ?_
                                refine hk_callSxW 7 (As := [.ref ho, .int 7, .int (nI k9), .int (nI pd9), .int (nI p8), .int 0, .int 0]) (rest := []) X K hAE hS hl.1 (c_L_does_cycle E l hl9 H hW hI hZn (p0 := nI k9) (p1 := nI pd9) (p2 := nI p8) (p4 := 0)) (fun q h => h.1) gL_areMinima_L_does rfl hd_L_does rfl ⟨⟨(Nat.le_of_ble_eq_true rfl), (Nat.le_of_ble_eq_true rfl)⟩, (by show 220 * k9 + 1 + 24 * p8 + 12 ≤ 900; omega), (by show 11000 * k9 + 10 + 1200 * p8 + 600 ≤ 45000; omega)⟩ rfl (Nat.le_of_ble_eq_true rfl) dL_areMinima_377 (fun _ _ _ _ _ hp _ _ _ _ _ _ => False.elim hp) (fun v9 H14 locsH14 hp hS hzH14 hkH14 => ?_)
                                obtain ⟨hv, G, R, hW⟩ := hp
                                subst hv
                                have hL := hL.kept (fun k hk => hkH14 (la k) (hL.lt hk) (hlz k hk))
                                have hZn := fun (q : Nat) (h : H14.size ≤ q) => hZn q (Nat.le_trans hzH14 h)
                                have hD := (hkH14 d9 (ar_lt hD) (fun h => h.2 rfl)).trans hD
                                refine lv_iload hx hb dL_areMinima_380 (lv_at hl 3 rfl) ?_
                                refine lv_icmp_ne (tgt := 408) hx hb dL_areMinima_382 (by decide) (fun c_382 => ?_) (fun c_382 => ?_)
                                · exact (c_382 (cyc_0 (S := (cn, sc, μ)) hk9 hn1 hpd1 hpd2 hp8 hM8)).elim
                                · refine lv_aload_n hx hb dL_areMinima_385 rfl (lv_at hl 11 rfl) ?_
                                  refine lv_bipush (v := 7) hx hb dL_areMinima_386 (by decide) ?_
                                  refine lv_iload hx hb dL_areMinima_388 (lv_at hl 10 rfl) ?_
                                  refine lv_iload hx hb dL_areMinima_390 (lv_at hl 9 rfl) ?_
                                  refine lv_iload hx hb dL_areMinima_392 (lv_at hl 5 rfl) ?_
                                  refine lv_iconst (v := 1) hx hb dL_areMinima_394 (by decide) ?_
                                  refine lv_iconst (v := 0) hx hb dL_areMinima_395 (by decide) ?_
                                  refine hk_callSxW 7 (As := [.ref ho, .int 7, .int (nI k9), .int (nI pd9), .int (nI p8), .int 1, .int 0]) (rest := []) X K hAE hS hl.1 (c_L_does_cycle1 E l hl9 H14 hW hI hZn (p0 := nI k9) (p1 := nI pd9) (p2 := nI p8) (p4 := 0)) (fun q h => h.1) gL_areMinima_L_does rfl hd_L_does rfl ⟨⟨(Nat.le_of_ble_eq_true rfl), (Nat.le_of_ble_eq_true rfl)⟩, (by show 220 * k9 + 1 + 24 * p8 + 12 + 12 ≤ 900; omega), (by show 11000 * k9 + 10 + 1200 * p8 + 600 + 600 ≤ 45000; omega)⟩ rfl (Nat.le_of_ble_eq_true rfl) dL_areMinima_396 (fun _ _ _ _ _ hp _ _ _ _ _ _ => False.elim hp) (fun v9 H15 locsH15 hp hS hzH15 hkH15 => ?_)
                                  obtain ⟨hv, G, R, hW⟩ := hp
                                  subst hv
                                  have hL := hL.kept (fun k hk => hkH15 (la k) (hL.lt hk) (hlz k hk))
                                  have hZn := fun (q : Nat) (h : H15.size ≤ q) => hZn q (Nat.le_trans hzH15 h)
                                  have hD := (hkH15 d9 (ar_lt hD) (fun h => h.2 rfl)).trans hD
                                  refine lv_iload hx hb dL_areMinima_399 (lv_at hl 2 rfl) ?_
                                  refine lv_icmp_ne (tgt := 408) hx hb dL_areMinima_401 (by decide) (fun c_401 => ?_) (fun c_401 => ?_)
                                  · exact (c_401 (cyc_1 (S := (cn, sc, μ)) hk9 hn1 hpd1 hpd2 hp8 hM8)).elim
                                  · refine lv_iconst (v := 1) hx hb dL_areMinima_404 (by decide) ?_
                                    refine lv_goto (tgt := 409) hx hb dL_areMinima_405 (by decide) ?_
                                    refine lv_istore (lv' := [(5, .int 1), (11, .int (sp_of (layS (cn, sc, μ) (μ 3 k9)).1 p8 (nI pd9))), (10, .int (sp_lost (layS (cn, sc, μ) (μ 3 k9)).1 (nI pd9) p8)), (15, .int (sp_of (layS (cn, sc, μ) (μ 3 k9)).1 p8 (nI pd9))), (14, .int (sp_cy (layS (cn, sc, μ) (μ 3 k9)).1 p8 (nI pd9))), (13, .int (nI Lx)), (12, .int (nI p8)), (8, .int (nI (layS (cn, sc, μ) (μ 3 k9)).2)), (9, .ref d9), (6, .int (nI pd9)), (7, .int (nI k9)), (0, .ref ho), (1, .ref (la 3)), (2, .ref (la 9)), (3, .ref (la 10)), (4, .int (nI zn))]) hx hb dL_areMinima_409 hl (by decide) rfl (fun ls hl => ?_)
                                    obtain ⟨q411, eq411⟩ : ∃ y : Int32, y = (nI p8) + 1 := ⟨_, rfl⟩
                                    refine lv_iinc (v := q411) (lv' := [(12, .int q411), (5, .int 1), (11, .int (sp_of (layS (cn, sc, μ) (μ 3 k9)).1 p8 (nI pd9))), (10, .int (sp_lost (layS (cn, sc, μ) (μ 3 k9)).1 (nI pd9) p8)), (15, .int (sp_of (layS (cn, sc, μ) (μ 3 k9)).1 p8 (nI pd9))), (14, .int (sp_cy (layS (cn, sc, μ) (μ 3 k9)).1 p8 (nI pd9))), (13, .int (nI Lx)), (8, .int (nI (layS (cn, sc, μ) (μ 3 k9)).2)), (9, .ref d9), (6, .int (nI pd9)), (7, .int (nI k9)), (0, .ref ho), (1, .ref (la 3)), (2, .ref (la 9)), (3, .ref (la 10)), (4, .int (nI zn))]) hx hb dL_areMinima_411 hl (k := 6) rfl (by rw [eq411]; rfl) (by decide) rfl (fun ls hl => ?_)
                                    rw [nI_1] at eq411
                                    subst eq411
                                    refine lv_goto (tgt := 261) hx hb dL_areMinima_414 (by decide) ?_
                                    refine W.widen (k := 220 * k9 + 1 + 24 * (p8 + 1)) (n := 11000 * k9 + 10 + 1200 * (p8 + 1)) (by show 220 * k9 + 1 + 24 * p8 + 12 + 12 ≤ _; omega) (by show 11000 * k9 + 10 + 1200 * p8 + 600 + 600 ≤ _; omega) ?_
                                    exact ih7 (p8 + 1) _ _ G R (by omega) ⟨hS, hW, hL, hD, by omega, hZn, by omega⟩ _ (lv_sub hl [3, 2, 0, 7, 8, 1, 9, 10, 11, 12, 13, 14, 15] rfl)
                              · refine lv_iconst (v := 1) hx hb dL_areMinima_354 (by decide) ?_
                                refine lv_goto (tgt := 359) hx hb dL_areMinima_355 (by decide) ?_
                                refine lv_iadd hx hb dL_areMinima_359 ?_
                                refine lv_topi (fun q360 eq360 => ?_)
                                refine lv_istore (lv' := [(10, .int q360), (15, .int (sp_of (layS (cn, sc, μ) (μ 3 k9)).1 p8 (nI pd9))), (14, .int (sp_cy (layS (cn, sc, μ) (μ 3 k9)).1 p8 (nI pd9))), (13, .int (nI Lx)), (11, .int (lastC (layS (cn, sc, μ) (μ 3 k9)).1 (nI pd9) p8)), (12, .int (nI p8)), (8, .int (nI (layS (cn, sc, μ) (μ 3 k9)).2)), (9, .ref d9), (5, .int 1), (6, .int (nI pd9)), (7, .int (nI k9)), (0, .ref ho), (1, .ref (la 3)), (2, .ref (la 9)), (3, .ref (la 10)), (4, .int (nI zn))]) hx hb dL_areMinima_360 hl (by decide) rfl (fun ls hl => ?_)
                                rw [lost_y hp0 (abs_y (by omega) (by omega) c_332) c_351] at eq360
                                subst eq360
                                refine lv_iload hx hb dL_areMinima_362 (lv_at hl 1 rfl) ?_
                                refine lv_istore (lv' := [(11, .int (sp_of (layS (cn, sc, μ) (μ 3 k9)).1 p8 (nI pd9))), (10, .int (sp_lost (layS (cn, sc, μ) (μ 3 k9)).1 (nI pd9) p8)), (15, .int (sp_of (layS (cn, sc, μ) (μ 3 k9)).1 p8 (nI pd9))), (14, .int (sp_cy (layS (cn, sc, μ) (μ 3 k9)).1 p8 (nI pd9))), (13, .int (nI Lx)), (12, .int (nI p8)), (8, .int (nI (layS (cn, sc, μ) (μ 3 k9)).2)), (9, .ref d9), (5, .int 1), (6, .int (nI pd9)), (7, .int (nI k9)), (0, .ref ho), (1, .ref (la 3)), (2, .ref (la 9)), (3, .ref (la 10)), (4, .int (nI zn))]) hx hb dL_areMinima_364 hl (by decide) rfl (fun ls hl => ?_)
                                refine lv_aload_n hx hb dL_areMinima_366 rfl (lv_at hl 11 rfl) ?_
                                refine lv_bipush (v := 7) hx hb dL_areMinima_367 (by decide) ?_
                                refine lv_iload hx hb dL_areMinima_369 (lv_at hl 10 rfl) ?_
                                refine lv_iload hx hb dL_areMinima_371 (lv_at hl 9 rfl) ?_
                                refine lv_iload hx hb dL_areMinima_373 (lv_at hl 5 rfl) ?_
                                refine lv_iconst (v := 0) hx hb dL_areMinima_375 (by decide) ?_
                                refine lv_iconst (v := 0) hx hb dL_areMinima_376 (by decide) ?_
                                refine hk_callSxW 7 (As := [.ref ho, .int 7, .int (nI k9), .int (nI pd9), .int (nI p8), .int 0, .int 0]) (rest := []) X K hAE hS hl.1 (c_L_does_cycle E l hl9 H hW hI hZn (p0 := nI k9) (p1 := nI pd9) (p2 := nI p8) (p4 := 0)) (fun q h => h.1) gL_areMinima_L_does rfl hd_L_does rfl ⟨⟨(Nat.le_of_ble_eq_true rfl), (Nat.le_of_ble_eq_true rfl)⟩, (by show 220 * k9 + 1 + 24 * p8 + 12 ≤ 900; omega), (by show 11000 * k9 + 10 + 1200 * p8 + 600 ≤ 45000; omega)⟩ rfl (Nat.le_of_ble_eq_true rfl) dL_areMinima_377 (fun _ _ _ _ _ hp _ _ _ _ _ _ => False.elim hp) (fun v9 H16 locsH16 hp hS hzH16 hkH16 => ?_)
                                obtain ⟨hv, G, R, hW⟩ := hp
                                subst hv
                                have hL := hL.kept (fun k hk => hkH16 (la k) (hL.lt hk) (hlz k hk))
                                have hZn := fun (q : Nat) (h : H16.size ≤ q) => hZn q (Nat.le_trans hzH16 h)
                                have hD := (hkH16 d9 (ar_lt hD) (fun h => h.2 rfl)).trans hD
                                refine lv_iload hx hb dL_areMinima_380 (lv_at hl 3 rfl) ?_
                                refine lv_icmp_ne (tgt := 408) hx hb dL_areMinima_382 (by decide) (fun c_382 => ?_) (fun c_382 => ?_)
                                · exact (c_382 (cyc_0 (S := (cn, sc, μ)) hk9 hn1 hpd1 hpd2 hp8 hM8)).elim
                                · refine lv_aload_n hx hb dL_areMinima_385 rfl (lv_at hl 11 rfl) ?_
                                  refine lv_bipush (v := 7) hx hb dL_areMinima_386 (by decide) ?_
                                  refine lv_iload hx hb dL_areMinima_388 (lv_at hl 10 rfl) ?_
                                  refine lv_iload hx hb dL_areMinima_390 (lv_at hl 9 rfl) ?_
                                  refine lv_iload hx hb dL_areMinima_392 (lv_at hl 5 rfl) ?_
                                  refine lv_iconst (v := 1) hx hb dL_areMinima_394 (by decide) ?_
                                  refine lv_iconst (v := 0) hx hb dL_areMinima_395 (by decide) ?_
                                  refine hk_callSxW 7 (As := [.ref ho, .int 7, .int (nI k9), .int (nI pd9), .int (nI p8), .int 1, .int 0]) (rest := []) X K hAE hS hl.1 (c_L_does_cycle1 E l hl9 H16 hW hI hZn (p0 := nI k9) (p1 := nI pd9) (p2 := nI p8) (p4 := 0)) (fun q h => h.1) gL_areMinima_L_does rfl hd_L_does rfl ⟨⟨(Nat.le_of_ble_eq_true rfl), (Nat.le_of_ble_eq_true rfl)⟩, (by show 220 * k9 + 1 + 24 * p8 + 12 + 12 ≤ 900; omega), (by show 11000 * k9 + 10 + 1200 * p8 + 600 + 600 ≤ 45000; omega)⟩ rfl (Nat.le_of_ble_eq_true rfl) dL_areMinima_396 (fun _ _ _ _ _ hp _ _ _ _ _ _ => False.elim hp) (fun v9 H17 locsH17 hp hS hzH17 hkH17 => ?_)
                                  obtain ⟨hv, G, R, hW⟩ := hp
                                  subst hv
                                  have hL := hL.kept (fun k hk => hkH17 (la k) (hL.lt hk) (hlz k hk))
                                  have hZn := fun (q : Nat) (h : H17.size ≤ q) => hZn q (Nat.le_trans hzH17 h)
                                  have hD := (hkH17 d9 (ar_lt hD) (fun h => h.2 rfl)).trans hD
                                  refine lv_iload hx hb dL_areMinima_399 (lv_at hl 2 rfl) ?_
                                  refine lv_icmp_ne (tgt := 408) hx hb dL_areMinima_401 (by decide) (fun c_401 => ?_) (fun c_401 => ?_)
                                  · exact (c_401 (cyc_1 (S := (cn, sc, μ)) hk9 hn1 hpd1 hpd2 hp8 hM8)).elim
                                  · refine lv_iconst (v := 1) hx hb dL_areMinima_404 (by decide) ?_
                                    refine lv_goto (tgt := 409) hx hb dL_areMinima_405 (by decide) ?_
                                    refine lv_istore (lv' := [(5, .int 1), (11, .int (sp_of (layS (cn, sc, μ) (μ 3 k9)).1 p8 (nI pd9))), (10, .int (sp_lost (layS (cn, sc, μ) (μ 3 k9)).1 (nI pd9) p8)), (15, .int (sp_of (layS (cn, sc, μ) (μ 3 k9)).1 p8 (nI pd9))), (14, .int (sp_cy (layS (cn, sc, μ) (μ 3 k9)).1 p8 (nI pd9))), (13, .int (nI Lx)), (12, .int (nI p8)), (8, .int (nI (layS (cn, sc, μ) (μ 3 k9)).2)), (9, .ref d9), (6, .int (nI pd9)), (7, .int (nI k9)), (0, .ref ho), (1, .ref (la 3)), (2, .ref (la 9)), (3, .ref (la 10)), (4, .int (nI zn))]) hx hb dL_areMinima_409 hl (by decide) rfl (fun ls hl => ?_)
                                    obtain ⟨q411, eq411⟩ : ∃ y : Int32, y = (nI p8) + 1 := ⟨_, rfl⟩
                                    refine lv_iinc (v := q411) (lv' := [(12, .int q411), (5, .int 1), (11, .int (sp_of (layS (cn, sc, μ) (μ 3 k9)).1 p8 (nI pd9))), (10, .int (sp_lost (layS (cn, sc, μ) (μ 3 k9)).1 (nI pd9) p8)), (15, .int (sp_of (layS (cn, sc, μ) (μ 3 k9)).1 p8 (nI pd9))), (14, .int (sp_cy (layS (cn, sc, μ) (μ 3 k9)).1 p8 (nI pd9))), (13, .int (nI Lx)), (8, .int (nI (layS (cn, sc, μ) (μ 3 k9)).2)), (9, .ref d9), (6, .int (nI pd9)), (7, .int (nI k9)), (0, .ref ho), (1, .ref (la 3)), (2, .ref (la 9)), (3, .ref (la 10)), (4, .int (nI zn))]) hx hb dL_areMinima_411 hl (k := 6) rfl (by rw [eq411]; rfl) (by decide) rfl (fun ls hl => ?_)
                                    rw [nI_1] at eq411
                                    subst eq411
                                    refine lv_goto (tgt := 261) hx hb dL_areMinima_414 (by decide) ?_
                                    refine W.widen (k := 220 * k9 + 1 + 24 * (p8 + 1)) (n := 11000 * k9 + 10 + 1200 * (p8 + 1)) (by show 220 * k9 + 1 + 24 * p8 + 12 + 12 ≤ _; omega) (by show 11000 * k9 + 10 + 1200 * p8 + 600 + 600 ≤ _; omega) ?_
                                    exact ih7 (p8 + 1) _ _ G R (by omega) ⟨hS, hW, hL, hD, by omega, hZn, by omega⟩ _ (lv_sub hl [3, 2, 0, 7, 8, 1, 9, 10, 11, 12, 13, 14, 15] rfl)
                        · have c_299 : nI pd9 ≤ 2 * nI (Lx % pd9) := Int32.not_lt.mp c_299
                          refine lv_iconst (v := 1) hx hb dL_areMinima_302 (by decide) ?_
                          refine lv_goto (tgt := 307) hx hb dL_areMinima_303 (by decide) ?_
                          refine lv_iadd hx hb dL_areMinima_307 ?_
                          refine lv_topi (fun x308 ex308 => ?_)
                          refine lv_istore (lv' := [(14, .int x308), (13, .int (nI Lx)), (10, .int (sp_lost (layS (cn, sc, μ) (μ 3 k9)).1 (nI pd9) (p8 - 1))), (11, .int (lastC (layS (cn, sc, μ) (μ 3 k9)).1 (nI pd9) p8)), (12, .int (nI p8)), (8, .int (nI (layS (cn, sc, μ) (μ 3 k9)).2)), (9, .ref d9), (5, .int 1), (6, .int (nI pd9)), (7, .int (nI k9)), (0, .ref ho), (1, .ref (la 3)), (2, .ref (la 9)), (3, .ref (la 10)), (4, .int (nI zn))]) hx hb dL_areMinima_308 hl (by decide) rfl (fun ls hl => ?_)
                          rw [cyc_y hLx hLx2 hpd1 hpd2 c_299] at ex308
                          subst ex308
                          refine lv_iload hx hb dL_areMinima_310 (lv_at hl 1 rfl) ?_
                          refine lv_iload hx hb dL_areMinima_312 (lv_at hl 0 rfl) ?_
                          refine lv_iload hx hb dL_areMinima_314 (lv_at hl 8 rfl) ?_
                          refine lv_imul hx hb dL_areMinima_316 ?_
                          refine lv_isub hx hb dL_areMinima_317 ?_
                          refine lv_topi (fun x318 ex318 => ?_)
                          refine lv_istore (lv' := [(15, .int x318), (14, .int (sp_cy (layS (cn, sc, μ) (μ 3 k9)).1 p8 (nI pd9))), (13, .int (nI Lx)), (10, .int (sp_lost (layS (cn, sc, μ) (μ 3 k9)).1 (nI pd9) (p8 - 1))), (11, .int (lastC (layS (cn, sc, μ) (μ 3 k9)).1 (nI pd9) p8)), (12, .int (nI p8)), (8, .int (nI (layS (cn, sc, μ) (μ 3 k9)).2)), (9, .ref d9), (5, .int 1), (6, .int (nI pd9)), (7, .int (nI k9)), (0, .ref ho), (1, .ref (la 3)), (2, .ref (la 9)), (3, .ref (la 10)), (4, .int (nI zn))]) hx hb dL_areMinima_318 hl (by decide) rfl (fun ls hl => ?_)
                          have ey9 : x318 = sp_of (layS (cn, sc, μ) (μ 3 k9)).1 p8 (nI pd9) := ex318.trans (by unfold sp_of; rw [hLx])
                          clear ex318
                          subst ey9
                          have hor := off_rng hLx hLx2 hpd1 hpd2
                          refine lv_iload hx hb dL_areMinima_320 (lv_at hl 3 rfl) ?_
                          refine lv_iload hx hb dL_areMinima_322 (lv_at hl 5 rfl) ?_
                          refine lv_if_le (tgt := 358) hx hb dL_areMinima_324 (by decide) (fun c_324 => ?_) (fun c_324 => ?_)
                          · have hp0 : p8 = 0 := Nat.le_zero.mp ((nI_leI (a := p8) (b := 0) (by omega) (by omega)).mp c_324)
                            refine lv_iconst (v := 0) hx hb dL_areMinima_358 (by decide) ?_
                            refine lv_iadd hx hb dL_areMinima_359 ?_
                            refine lv_topi (fun q360 eq360 => ?_)
                            refine lv_istore (lv' := [(10, .int q360), (15, .int (sp_of (layS (cn, sc, μ) (μ 3 k9)).1 p8 (nI pd9))), (14, .int (sp_cy (layS (cn, sc, μ) (μ 3 k9)).1 p8 (nI pd9))), (13, .int (nI Lx)), (11, .int (lastC (layS (cn, sc, μ) (μ 3 k9)).1 (nI pd9) p8)), (12, .int (nI p8)), (8, .int (nI (layS (cn, sc, μ) (μ 3 k9)).2)), (9, .ref d9), (5, .int 1), (6, .int (nI pd9)), (7, .int (nI k9)), (0, .ref ho), (1, .ref (la 3)), (2, .ref (la 9)), (3, .ref (la 10)), (4, .int (nI zn))]) hx hb dL_areMinima_360 hl (by decide) rfl (fun ls hl => ?_)
                            rw [lost_n (v := 0) (Or.inl hp0)] at eq360
                            subst eq360
                            refine lv_iload hx hb dL_areMinima_362 (lv_at hl 1 rfl) ?_
                            refine lv_istore (lv' := [(11, .int (sp_of (layS (cn, sc, μ) (μ 3 k9)).1 p8 (nI pd9))), (10, .int (sp_lost (layS (cn, sc, μ) (μ 3 k9)).1 (nI pd9) p8)), (15, .int (sp_of (layS (cn, sc, μ) (μ 3 k9)).1 p8 (nI pd9))), (14, .int (sp_cy (layS (cn, sc, μ) (μ 3 k9)).1 p8 (nI pd9))), (13, .int (nI Lx)), (12, .int (nI p8)), (8, .int (nI (layS (cn, sc, μ) (μ 3 k9)).2)), (9, .ref d9), (5, .int 1), (6, .int (nI pd9)), (7, .int (nI k9)), (0, .ref ho), (1, .ref (la 3)), (2, .ref (la 9)), (3, .ref (la 10)), (4, .int (nI zn))]) hx hb dL_areMinima_364 hl (by decide) rfl (fun ls hl => ?_)
                            refine lv_aload_n hx hb dL_areMinima_366 rfl (lv_at hl 11 rfl) ?_
                            refine lv_bipush (v := 7) hx hb dL_areMinima_367 (by decide) ?_
                            refine lv_iload hx hb dL_areMinima_369 (lv_at hl 10 rfl) ?_
                            refine lv_iload hx hb dL_areMinima_371 (lv_at hl 9 rfl) ?_
                            refine lv_iload hx hb dL_areMinima_373 (lv_at hl 5 rfl) ?_
                            refine lv_iconst (v := 0) hx hb dL_areMinima_375 (by decide) ?_
                            refine lv_iconst (v := 0) hx hb dL_areMinima_376 (by decide) ?_
                            refine hk_callSxW 7 (As := [.ref ho, .int 7, .int (nI k9), .int (nI pd9), .int (nI p8), .int 0, .int 0]) (rest := []) X K hAE hS hl.1 (c_L_does_cycle E l hl9 H hW hI hZn (p0 := nI k9) (p1 := nI pd9) (p2 := nI p8) (p4 := 0)) (fun q h => h.1) gL_areMinima_L_does rfl hd_L_does rfl ⟨⟨(Nat.le_of_ble_eq_true rfl), (Nat.le_of_ble_eq_true rfl)⟩, (by show 220 * k9 + 1 + 24 * p8 + 12 ≤ 900; omega), (by show 11000 * k9 + 10 + 1200 * p8 + 600 ≤ 45000; omega)⟩ rfl (Nat.le_of_ble_eq_true rfl) dL_areMinima_377 (fun _ _ _ _ _ hp _ _ _ _ _ _ => False.elim hp) (fun v9 H18 locsH18 hp hS hzH18 hkH18 => ?_)
                            obtain ⟨hv, G, R, hW⟩ := hp
                            subst hv
                            have hL := hL.kept (fun k hk => hkH18 (la k) (hL.lt hk) (hlz k hk))
                            have hZn := fun (q : Nat) (h : H18.size ≤ q) => hZn q (Nat.le_trans hzH18 h)
                            have hD := (hkH18 d9 (ar_lt hD) (fun h => h.2 rfl)).trans hD
                            refine lv_iload hx hb dL_areMinima_380 (lv_at hl 3 rfl) ?_
                            refine lv_icmp_ne (tgt := 408) hx hb dL_areMinima_382 (by decide) (fun c_382 => ?_) (fun c_382 => ?_)
                            · exact (c_382 (cyc_0 (S := (cn, sc, μ)) hk9 hn1 hpd1 hpd2 hp8 hM8)).elim
                            · refine lv_aload_n hx hb dL_areMinima_385 rfl (lv_at hl 11 rfl) ?_
                              refine lv_bipush (v := 7) hx hb dL_areMinima_386 (by decide) ?_
                              refine lv_iload hx hb dL_areMinima_388 (lv_at hl 10 rfl) ?_
                              refine lv_iload hx hb dL_areMinima_390 (lv_at hl 9 rfl) ?_
                              refine lv_iload hx hb dL_areMinima_392 (lv_at hl 5 rfl) ?_
                              refine lv_iconst (v := 1) hx hb dL_areMinima_394 (by decide) ?_
                              refine lv_iconst (v := 0) hx hb dL_areMinima_395 (by decide) ?_
                              refine hk_callSxW 7 (As := [.ref ho, .int 7, .int (nI k9), .int (nI pd9), .int (nI p8), .int 1, .int 0]) (rest := []) X K hAE hS hl.1 (c_L_does_cycle1 E l hl9 H18 hW hI hZn (p0 := nI k9) (p1 := nI pd9) (p2 := nI p8) (p4 := 0)) (fun q h => h.1) gL_areMinima_L_does rfl hd_L_does rfl ⟨⟨(Nat.le_of_ble_eq_true rfl), (Nat.le_of_ble_eq_true rfl)⟩, (by show 220 * k9 + 1 + 24 * p8 + 12 + 12 ≤ 900; omega), (by show 11000 * k9 + 10 + 1200 * p8 + 600 + 600 ≤ 45000; omega)⟩ rfl (Nat.le_of_ble_eq_true rfl) dL_areMinima_396 (fun _ _ _ _ _ hp _ _ _ _ _ _ => False.elim hp) (fun v9 H19 locsH19 hp hS hzH19 hkH19 => ?_)
                              obtain ⟨hv, G, R, hW⟩ := hp
                              subst hv
                              have hL := hL.kept (fun k hk => hkH19 (la k) (hL.lt hk) (hlz k hk))
                              have hZn := fun (q : Nat) (h : H19.size ≤ q) => hZn q (Nat.le_trans hzH19 h)
                              have hD := (hkH19 d9 (ar_lt hD) (fun h => h.2 rfl)).trans hD
                              refine lv_iload hx hb dL_areMinima_399 (lv_at hl 2 rfl) ?_
                              refine lv_icmp_ne (tgt := 408) hx hb dL_areMinima_401 (by decide) (fun c_401 => ?_) (fun c_401 => ?_)
                              · exact (c_401 (cyc_1 (S := (cn, sc, μ)) hk9 hn1 hpd1 hpd2 hp8 hM8)).elim
                              · refine lv_iconst (v := 1) hx hb dL_areMinima_404 (by decide) ?_
                                refine lv_goto (tgt := 409) hx hb dL_areMinima_405 (by decide) ?_
                                refine lv_istore (lv' := [(5, .int 1), (11, .int (sp_of (layS (cn, sc, μ) (μ 3 k9)).1 p8 (nI pd9))), (10, .int (sp_lost (layS (cn, sc, μ) (μ 3 k9)).1 (nI pd9) p8)), (15, .int (sp_of (layS (cn, sc, μ) (μ 3 k9)).1 p8 (nI pd9))), (14, .int (sp_cy (layS (cn, sc, μ) (μ 3 k9)).1 p8 (nI pd9))), (13, .int (nI Lx)), (12, .int (nI p8)), (8, .int (nI (layS (cn, sc, μ) (μ 3 k9)).2)), (9, .ref d9), (6, .int (nI pd9)), (7, .int (nI k9)), (0, .ref ho), (1, .ref (la 3)), (2, .ref (la 9)), (3, .ref (la 10)), (4, .int (nI zn))]) hx hb dL_areMinima_409 hl (by decide) rfl (fun ls hl => ?_)
                                obtain ⟨q411, eq411⟩ : ∃ y : Int32, y = (nI p8) + 1 := ⟨_, rfl⟩
                                refine lv_iinc (v := q411) (lv' := [(12, .int q411), (5, .int 1), (11, .int (sp_of (layS (cn, sc, μ) (μ 3 k9)).1 p8 (nI pd9))), (10, .int (sp_lost (layS (cn, sc, μ) (μ 3 k9)).1 (nI pd9) p8)), (15, .int (sp_of (layS (cn, sc, μ) (μ 3 k9)).1 p8 (nI pd9))), (14, .int (sp_cy (layS (cn, sc, μ) (μ 3 k9)).1 p8 (nI pd9))), (13, .int (nI Lx)), (8, .int (nI (layS (cn, sc, μ) (μ 3 k9)).2)), (9, .ref d9), (6, .int (nI pd9)), (7, .int (nI k9)), (0, .ref ho), (1, .ref (la 3)), (2, .ref (la 9)), (3, .ref (la 10)), (4, .int (nI zn))]) hx hb dL_areMinima_411 hl (k := 6) rfl (by rw [eq411]; rfl) (by decide) rfl (fun ls hl => ?_)
                                rw [nI_1] at eq411
                                subst eq411
                                refine lv_goto (tgt := 261) hx hb dL_areMinima_414 (by decide) ?_
                                refine W.widen (k := 220 * k9 + 1 + 24 * (p8 + 1)) (n := 11000 * k9 + 10 + 1200 * (p8 + 1)) (by show 220 * k9 + 1 + 24 * p8 + 12 + 12 ≤ _; omega) (by show 11000 * k9 + 10 + 1200 * p8 + 600 + 600 ≤ _; omega) ?_
                                exact ih7 (p8 + 1) _ _ G R (by omega) ⟨hS, hW, hL, hD, by omega, hZn, by omega⟩ _ (lv_sub hl [3, 2, 0, 7, 8, 1, 9, 10, 11, 12, 13, 14, 15] rfl)
                          · have hp0 : 0 < p8 := by
                              rcases Nat.eq_zero_or_pos p8 with h | h
                              · rw [h] at c_324; exact absurd (Int32.le_refl _) c_324
                              · exact h
                            obtain ⟨Ly, hLy, hLy2⟩ : ∃ L : Nat, (layS (cn, sc, μ) (μ 3 k9)).1 (p8 - 1) - (layS (cn, sc, μ) (μ 3 k9)).1 0 = nI L ∧ L < 10000020 := by
                              obtain ⟨hr1, ⟨hr2, hr4⟩, ⟨hr3, hr5⟩⟩ := lay_rng hI.1 (show p8 - 1 < (layS (cn, sc, μ) (μ 3 k9)).2 by omega)
                              have h9 := fb_subI (x := (layS (cn, sc, μ) (μ 3 k9)).1 (p8 - 1)) (y := (layS (cn, sc, μ) (μ 3 k9)).1 0) (by omega) (by omega)
                              rw [i_le] at hr1
                              obtain ⟨j, hj1, hj2⟩ := nI_of (x := (layS (cn, sc, μ) (μ 3 k9)).1 (p8 - 1) - (layS (cn, sc, μ) (μ 3 k9)).1 0) (by rw [i_lt, i_0, h9]; omega)
                              refine ⟨j, hj2, ?_⟩
                              rw [hj2, nI_toInt hj1] at h9
                              omega
                            have hol : -(pd9 : Int) ≤ (lastC (layS (cn, sc, μ) (μ 3 k9)).1 (nI pd9) p8).toInt ∧ (lastC (layS (cn, sc, μ) (μ 3 k9)).1 (nI pd9) p8).toInt ≤ (pd9 : Int) := by
                              rw [show lastC (layS (cn, sc, μ) (μ 3 k9)).1 (nI pd9) p8 = sp_of (layS (cn, sc, μ) (μ 3 k9)).1 (p8 - 1) (nI pd9) from lastC_at hp0]
                              exact off_rng hLy hLy2 hpd1 hpd2
                            refine lv_iconst (v := 4) hx hb dL_areMinima_327 (by decide) ?_
                            refine lv_iload hx hb dL_areMinima_328 (lv_at hl 0 rfl) ?_
                            refine lv_iload hx hb dL_areMinima_330 (lv_at hl 4 rfl) ?_
                            refine lv_icmp_le (tgt := 343) hx hb dL_areMinima_332 (by decide) (fun c_332 => ?_) (fun c_332 => ?_)
                            · refine lv_iload hx hb dL_areMinima_343 (lv_at hl 4 rfl) ?_
                              refine lv_iload hx hb dL_areMinima_345 (lv_at hl 0 rfl) ?_
                              refine lv_isub hx hb dL_areMinima_347 ?_
                              refine lv_imul hx hb dL_areMinima_348 ?_
                              refine lv_iload hx hb dL_areMinima_349 (lv_at hl 9 rfl) ?_
                              refine lv_icmp_le (tgt := 358) hx hb dL_areMinima_351 (by decide) (fun c_351 => ?_) (fun c_351 => ?_)
                              · refine lv_iconst (v := 0) hx hb dL_areMinima_358 (by decide) ?_
                                refine lv_iadd hx hb dL_areMinima_359 ?_
                                refine lv_topi (fun q360 eq360 => ?_)
                                refine lv_istore (lv' := [(10, .int q360), (15, .int (sp_of (layS (cn, sc, μ) (μ 3 k9)).1 p8 (nI pd9))), (14, .int (sp_cy (layS (cn, sc, μ) (μ 3 k9)).1 p8 (nI pd9))), (13, .int (nI Lx)), (11, .int (lastC (layS (cn, sc, μ) (μ 3 k9)).1 (nI pd9) p8)), (12, .int (nI p8)), (8, .int (nI (layS (cn, sc, μ) (μ 3 k9)).2)), (9, .ref d9), (5, .int 1), (6, .int (nI pd9)), (7, .int (nI k9)), (0, .ref ho), (1, .ref (la 3)), (2, .ref (la 9)), (3, .ref (la 10)), (4, .int (nI zn))]) hx hb dL_areMinima_360 hl (by decide) rfl (fun ls hl => ?_)
                                rw [lost_n (Or.inr ⟨abs_n (by omega) (by omega) c_332, c_351⟩)] at eq360
                                subst eq360
                                refine lv_iload hx hb dL_areMinima_362 (lv_at hl 1 rfl) ?_
                                refine lv_istore (lv' := [(11, .int (sp_of (layS (cn, sc, μ) (μ 3 k9)).1 p8 (nI pd9))), (10, .int (sp_lost (layS (cn, sc, μ) (μ 3 k9)).1 (nI pd9) p8)), (15, .int (sp_of (layS (cn, sc, μ) (μ 3 k9)).1 p8 (nI pd9))), (14, .int (sp_cy (layS (cn, sc, μ) (μ 3 k9)).1 p8 (nI pd9))), (13, .int (nI Lx)), (12, .int (nI p8)), (8, .int (nI (layS (cn, sc, μ) (μ 3 k9)).2)), (9, .ref d9), (5, .int 1), (6, .int (nI pd9)), (7, .int (nI k9)), (0, .ref ho), (1, .ref (la 3)), (2, .ref (la 9)), (3, .ref (la 10)), (4, .int (nI zn))]) hx hb dL_areMinima_364 hl (by decide) rfl (fun ls hl => ?_)
                                refine lv_aload_n hx hb dL_areMinima_366 rfl (lv_at hl 11 rfl) ?_
                                refine lv_bipush (v := 7) hx hb dL_areMinima_367 (by decide) ?_
                                refine lv_iload hx hb dL_areMinima_369 (lv_at hl 10 rfl) ?_
                                refine lv_iload hx hb dL_areMinima_371 (lv_at hl 9 rfl) ?_
                                refine lv_iload hx hb dL_areMinima_373 (lv_at hl 5 rfl) ?_
                                refine lv_iconst (v := 0) hx hb dL_areMinima_375 (by decide) ?_
                                refine lv_iconst (v := 0) hx hb dL_areMinima_376 (by decide) ?_
                                refine hk_callSxW 7 (As := [.ref ho, .int 7, .int (nI k9), .int (nI pd9), .int (nI p8), .int 0, .int 0]) (rest := []) X K hAE hS hl.1 (c_L_does_cycle E l hl9 H hW hI hZn (p0 := nI k9) (p1 := nI pd9) (p2 := nI p8) (p4 := 0)) (fun q h => h.1) gL_areMinima_L_does rfl hd_L_does rfl ⟨⟨(Nat.le_of_ble_eq_true rfl), (Nat.le_of_ble_eq_true rfl)⟩, (by show 220 * k9 + 1 + 24 * p8 + 12 ≤ 900; omega), (by show 11000 * k9 + 10 + 1200 * p8 + 600 ≤ 45000; omega)⟩ rfl (Nat.le_of_ble_eq_true rfl) dL_areMinima_377 (fun _ _ _ _ _ hp _ _ _ _ _ _ => False.elim hp) (fun v9 H20 locsH20 hp hS hzH20 hkH20 => ?_)
                                obtain ⟨hv, G, R, hW⟩ := hp
                                subst hv
                                have hL := hL.kept (fun k hk => hkH20 (la k) (hL.lt hk) (hlz k hk))
                                have hZn := fun (q : Nat) (h : H20.size ≤ q) => hZn q (Nat.le_trans hzH20 h)
                                have hD := (hkH20 d9 (ar_lt hD) (fun h => h.2 rfl)).trans hD
                                refine lv_iload hx hb dL_areMinima_380 (lv_at hl 3 rfl) ?_
                                refine lv_icmp_ne (tgt := 408) hx hb dL_areMinima_382 (by decide) (fun c_382 => ?_) (fun c_382 => ?_)
                                · exact (c_382 (cyc_0 (S := (cn, sc, μ)) hk9 hn1 hpd1 hpd2 hp8 hM8)).elim
                                · refine lv_aload_n hx hb dL_areMinima_385 rfl (lv_at hl 11 rfl) ?_
                                  refine lv_bipush (v := 7) hx hb dL_areMinima_386 (by decide) ?_
                                  refine lv_iload hx hb dL_areMinima_388 (lv_at hl 10 rfl) ?_
                                  refine lv_iload hx hb dL_areMinima_390 (lv_at hl 9 rfl) ?_
                                  refine lv_iload hx hb dL_areMinima_392 (lv_at hl 5 rfl) ?_
                                  refine lv_iconst (v := 1) hx hb dL_areMinima_394 (by decide) ?_
                                  refine lv_iconst (v := 0) hx hb dL_areMinima_395 (by decide) ?_
                                  refine hk_callSxW 7 (As := [.ref ho, .int 7, .int (nI k9), .int (nI pd9), .int (nI p8), .int 1, .int 0]) (rest := []) X K hAE hS hl.1 (c_L_does_cycle1 E l hl9 H20 hW hI hZn (p0 := nI k9) (p1 := nI pd9) (p2 := nI p8) (p4 := 0)) (fun q h => h.1) gL_areMinima_L_does rfl hd_L_does rfl ⟨⟨(Nat.le_of_ble_eq_true rfl), (Nat.le_of_ble_eq_true rfl)⟩, (by show 220 * k9 + 1 + 24 * p8 + 12 + 12 ≤ 900; omega), (by show 11000 * k9 + 10 + 1200 * p8 + 600 + 600 ≤ 45000; omega)⟩ rfl (Nat.le_of_ble_eq_true rfl) dL_areMinima_396 (fun _ _ _ _ _ hp _ _ _ _ _ _ => False.elim hp) (fun v9 H21 locsH21 hp hS hzH21 hkH21 => ?_)
                                  obtain ⟨hv, G, R, hW⟩ := hp
                                  subst hv
                                  have hL := hL.kept (fun k hk => hkH21 (la k) (hL.lt hk) (hlz k hk))
                                  have hZn := fun (q : Nat) (h : H21.size ≤ q) => hZn q (Nat.le_trans hzH21 h)
                                  have hD := (hkH21 d9 (ar_lt hD) (fun h => h.2 rfl)).trans hD
                                  refine lv_iload hx hb dL_areMinima_399 (lv_at hl 2 rfl) ?_
                                  refine lv_icmp_ne (tgt := 408) hx hb dL_areMinima_401 (by decide) (fun c_401 => ?_) (fun c_401 => ?_)
                                  · exact (c_401 (cyc_1 (S := (cn, sc, μ)) hk9 hn1 hpd1 hpd2 hp8 hM8)).elim
                                  · refine lv_iconst (v := 1) hx hb dL_areMinima_404 (by decide) ?_
                                    refine lv_goto (tgt := 409) hx hb dL_areMinima_405 (by decide) ?_
                                    refine lv_istore (lv' := [(5, .int 1), (11, .int (sp_of (layS (cn, sc, μ) (μ 3 k9)).1 p8 (nI pd9))), (10, .int (sp_lost (layS (cn, sc, μ) (μ 3 k9)).1 (nI pd9) p8)), (15, .int (sp_of (layS (cn, sc, μ) (μ 3 k9)).1 p8 (nI pd9))), (14, .int (sp_cy (layS (cn, sc, μ) (μ 3 k9)).1 p8 (nI pd9))), (13, .int (nI Lx)), (12, .int (nI p8)), (8, .int (nI (layS (cn, sc, μ) (μ 3 k9)).2)), (9, .ref d9), (6, .int (nI pd9)), (7, .int (nI k9)), (0, .ref ho), (1, .ref (la 3)), (2, .ref (la 9)), (3, .ref (la 10)), (4, .int (nI zn))]) hx hb dL_areMinima_409 hl (by decide) rfl (fun ls hl => ?_)
                                    obtain ⟨q411, eq411⟩ : ∃ y : Int32, y = (nI p8) + 1 := ⟨_, rfl⟩
                                    refine lv_iinc (v := q411) (lv' := [(12, .int q411), (5, .int 1), (11, .int (sp_of (layS (cn, sc, μ) (μ 3 k9)).1 p8 (nI pd9))), (10, .int (sp_lost (layS (cn, sc, μ) (μ 3 k9)).1 (nI pd9) p8)), (15, .int (sp_of (layS (cn, sc, μ) (μ 3 k9)).1 p8 (nI pd9))), (14, .int (sp_cy (layS (cn, sc, μ) (μ 3 k9)).1 p8 (nI pd9))), (13, .int (nI Lx)), (8, .int (nI (layS (cn, sc, μ) (μ 3 k9)).2)), (9, .ref d9), (6, .int (nI pd9)), (7, .int (nI k9)), (0, .ref ho), (1, .ref (la 3)), (2, .ref (la 9)), (3, .ref (la 10)), (4, .int (nI zn))]) hx hb dL_areMinima_411 hl (k := 6) rfl (by rw [eq411]; rfl) (by decide) rfl (fun ls hl => ?_)
                                    rw [nI_1] at eq411
                                    subst eq411
                                    refine lv_goto (tgt := 261) hx hb dL_areMinima_414 (by decide) ?_
                                    refine W.widen (k := 220 * k9 + 1 + 24 * (p8 + 1)) (n := 11000 * k9 + 10 + 1200 * (p8 + 1)) (by show 220 * k9 + 1 + 24 * p8 + 12 + 12 ≤ _; omega) (by show 11000 * k9 + 10 + 1200 * p8 + 600 + 600 ≤ _; omega) ?_
                                    exact ih7 (p8 + 1) _ _ G R (by omega) ⟨hS, hW, hL, hD, by omega, hZn, by omega⟩ _ (lv_sub hl [3, 2, 0, 7, 8, 1, 9, 10, 11, 12, 13, 14, 15] rfl)
                              · refine lv_iconst (v := 1) hx hb dL_areMinima_354 (by decide) ?_
                                refine lv_goto (tgt := 359) hx hb dL_areMinima_355 (by decide) ?_
                                refine lv_iadd hx hb dL_areMinima_359 ?_
                                refine lv_topi (fun q360 eq360 => ?_)
                                refine lv_istore (lv' := [(10, .int q360), (15, .int (sp_of (layS (cn, sc, μ) (μ 3 k9)).1 p8 (nI pd9))), (14, .int (sp_cy (layS (cn, sc, μ) (μ 3 k9)).1 p8 (nI pd9))), (13, .int (nI Lx)), (11, .int (lastC (layS (cn, sc, μ) (μ 3 k9)).1 (nI pd9) p8)), (12, .int (nI p8)), (8, .int (nI (layS (cn, sc, μ) (μ 3 k9)).2)), (9, .ref d9), (5, .int 1), (6, .int (nI pd9)), (7, .int (nI k9)), (0, .ref ho), (1, .ref (la 3)), (2, .ref (la 9)), (3, .ref (la 10)), (4, .int (nI zn))]) hx hb dL_areMinima_360 hl (by decide) rfl (fun ls hl => ?_)
                                rw [lost_y hp0 (abs_n (by omega) (by omega) c_332) c_351] at eq360
                                subst eq360
                                refine lv_iload hx hb dL_areMinima_362 (lv_at hl 1 rfl) ?_
                                refine lv_istore (lv' := [(11, .int (sp_of (layS (cn, sc, μ) (μ 3 k9)).1 p8 (nI pd9))), (10, .int (sp_lost (layS (cn, sc, μ) (μ 3 k9)).1 (nI pd9) p8)), (15, .int (sp_of (layS (cn, sc, μ) (μ 3 k9)).1 p8 (nI pd9))), (14, .int (sp_cy (layS (cn, sc, μ) (μ 3 k9)).1 p8 (nI pd9))), (13, .int (nI Lx)), (12, .int (nI p8)), (8, .int (nI (layS (cn, sc, μ) (μ 3 k9)).2)), (9, .ref d9), (5, .int 1), (6, .int (nI pd9)), (7, .int (nI k9)), (0, .ref ho), (1, .ref (la 3)), (2, .ref (la 9)), (3, .ref (la 10)), (4, .int (nI zn))]) hx hb dL_areMinima_364 hl (by decide) rfl (fun ls hl => ?_)
                                refine lv_aload_n hx hb dL_areMinima_366 rfl (lv_at hl 11 rfl) ?_
                                refine lv_bipush (v := 7) hx hb dL_areMinima_367 (by decide) ?_
                                refine lv_iload hx hb dL_areMinima_369 (lv_at hl 10 rfl) ?_
                                refine lv_iload hx hb dL_areMinima_371 (lv_at hl 9 rfl) ?_
                                refine lv_iload hx hb dL_areMinima_373 (lv_at hl 5 rfl) ?_
                                refine lv_iconst (v := 0) hx hb dL_areMinima_375 (by decide) ?_
                                refine lv_iconst (v := 0) hx hb dL_areMinima_376 (by decide) ?_
                                refine hk_callSxW 7 (As := [.ref ho, .int 7, .int (nI k9), .int (nI pd9), .int (nI p8), .int 0, .int 0]) (rest := []) X K hAE hS hl.1 (c_L_does_cycle E l hl9 H hW hI hZn (p0 := nI k9) (p1 := nI pd9) (p2 := nI p8) (p4 := 0)) (fun q h => h.1) gL_areMinima_L_does rfl hd_L_does rfl ⟨⟨(Nat.le_of_ble_eq_true rfl), (Nat.le_of_ble_eq_true rfl)⟩, (by show 220 * k9 + 1 + 24 * p8 + 12 ≤ 900; omega), (by show 11000 * k9 + 10 + 1200 * p8 + 600 ≤ 45000; omega)⟩ rfl (Nat.le_of_ble_eq_true rfl) dL_areMinima_377 (fun _ _ _ _ _ hp _ _ _ _ _ _ => False.elim hp) (fun v9 H22 locsH22 hp hS hzH22 hkH22 => ?_)
                                obtain ⟨hv, G, R, hW⟩ := hp
                                subst hv
                                have hL := hL.kept (fun k hk => hkH22 (la k) (hL.lt hk) (hlz k hk))
                                have hZn := fun (q : Nat) (h : H22.size ≤ q) => hZn q (Nat.le_trans hzH22 h)
                                have hD := (hkH22 d9 (ar_lt hD) (fun h => h.2 rfl)).trans hD
                                refine lv_iload hx hb dL_areMinima_380 (lv_at hl 3 rfl) ?_
                                refine lv_icmp_ne (tgt := 408) hx hb dL_areMinima_382 (by decide) (fun c_382 => ?_) (fun c_382 => ?_)
                                · exact (c_382 (cyc_0 (S := (cn, sc, μ)) hk9 hn1 hpd1 hpd2 hp8 hM8)).elim
                                · refine lv_aload_n hx hb dL_areMinima_385 rfl (lv_at hl 11 rfl) ?_
                                  refine lv_bipush (v := 7) hx hb dL_areMinima_386 (by decide) ?_
                                  refine lv_iload hx hb dL_areMinima_388 (lv_at hl 10 rfl) ?_
                                  refine lv_iload hx hb dL_areMinima_390 (lv_at hl 9 rfl) ?_
                                  refine lv_iload hx hb dL_areMinima_392 (lv_at hl 5 rfl) ?_
                                  refine lv_iconst (v := 1) hx hb dL_areMinima_394 (by decide) ?_
                                  refine lv_iconst (v := 0) hx hb dL_areMinima_395 (by decide) ?_
                                  refine hk_callSxW 7 (As := [.ref ho, .int 7, .int (nI k9), .int (nI pd9), .int (nI p8), .int 1, .int 0]) (rest := []) X K hAE hS hl.1 (c_L_does_cycle1 E l hl9 H22 hW hI hZn (p0 := nI k9) (p1 := nI pd9) (p2 := nI p8) (p4 := 0)) (fun q h => h.1) gL_areMinima_L_does rfl hd_L_does rfl ⟨⟨(Nat.le_of_ble_eq_true rfl), (Nat.le_of_ble_eq_true rfl)⟩, (by show 220 * k9 + 1 + 24 * p8 + 12 + 12 ≤ 900; omega), (by show 11000 * k9 + 10 + 1200 * p8 + 600 + 600 ≤ 45000; omega)⟩ rfl (Nat.le_of_ble_eq_true rfl) dL_areMinima_396 (fun _ _ _ _ _ hp _ _ _ _ _ _ => False.elim hp) (fun v9 H23 locsH23 hp hS hzH23 hkH23 => ?_)
                                  obtain ⟨hv, G, R, hW⟩ := hp
                                  subst hv
                                  have hL := hL.kept (fun k hk => hkH23 (la k) (hL.lt hk) (hlz k hk))
                                  have hZn := fun (q : Nat) (h : H23.size ≤ q) => hZn q (Nat.le_trans hzH23 h)
                                  have hD := (hkH23 d9 (ar_lt hD) (fun h => h.2 rfl)).trans hD
                                  refine lv_iload hx hb dL_areMinima_399 (lv_at hl 2 rfl) ?_
                                  refine lv_icmp_ne (tgt := 408) hx hb dL_areMinima_401 (by decide) (fun c_401 => ?_) (fun c_401 => ?_)
                                  · exact (c_401 (cyc_1 (S := (cn, sc, μ)) hk9 hn1 hpd1 hpd2 hp8 hM8)).elim
                                  · refine lv_iconst (v := 1) hx hb dL_areMinima_404 (by decide) ?_
                                    refine lv_goto (tgt := 409) hx hb dL_areMinima_405 (by decide) ?_
                                    refine lv_istore (lv' := [(5, .int 1), (11, .int (sp_of (layS (cn, sc, μ) (μ 3 k9)).1 p8 (nI pd9))), (10, .int (sp_lost (layS (cn, sc, μ) (μ 3 k9)).1 (nI pd9) p8)), (15, .int (sp_of (layS (cn, sc, μ) (μ 3 k9)).1 p8 (nI pd9))), (14, .int (sp_cy (layS (cn, sc, μ) (μ 3 k9)).1 p8 (nI pd9))), (13, .int (nI Lx)), (12, .int (nI p8)), (8, .int (nI (layS (cn, sc, μ) (μ 3 k9)).2)), (9, .ref d9), (6, .int (nI pd9)), (7, .int (nI k9)), (0, .ref ho), (1, .ref (la 3)), (2, .ref (la 9)), (3, .ref (la 10)), (4, .int (nI zn))]) hx hb dL_areMinima_409 hl (by decide) rfl (fun ls hl => ?_)
                                    obtain ⟨q411, eq411⟩ : ∃ y : Int32, y = (nI p8) + 1 := ⟨_, rfl⟩
                                    refine lv_iinc (v := q411) (lv' := [(12, .int q411), (5, .int 1), (11, .int (sp_of (layS (cn, sc, μ) (μ 3 k9)).1 p8 (nI pd9))), (10, .int (sp_lost (layS (cn, sc, μ) (μ 3 k9)).1 (nI pd9) p8)), (15, .int (sp_of (layS (cn, sc, μ) (μ 3 k9)).1 p8 (nI pd9))), (14, .int (sp_cy (layS (cn, sc, μ) (μ 3 k9)).1 p8 (nI pd9))), (13, .int (nI Lx)), (8, .int (nI (layS (cn, sc, μ) (μ 3 k9)).2)), (9, .ref d9), (6, .int (nI pd9)), (7, .int (nI k9)), (0, .ref ho), (1, .ref (la 3)), (2, .ref (la 9)), (3, .ref (la 10)), (4, .int (nI zn))]) hx hb dL_areMinima_411 hl (k := 6) rfl (by rw [eq411]; rfl) (by decide) rfl (fun ls hl => ?_)
                                    rw [nI_1] at eq411
                                    subst eq411
                                    refine lv_goto (tgt := 261) hx hb dL_areMinima_414 (by decide) ?_
                                    refine W.widen (k := 220 * k9 + 1 + 24 * (p8 + 1)) (n := 11000 * k9 + 10 + 1200 * (p8 + 1)) (by show 220 * k9 + 1 + 24 * p8 + 12 + 12 ≤ _; omega) (by show 11000 * k9 + 10 + 1200 * p8 + 600 + 600 ≤ _; omega) ?_
                                    exact ih7 (p8 + 1) _ _ G R (by omega) ⟨hS, hW, hL, hD, by omega, hZn, by omega⟩ _ (lv_sub hl [3, 2, 0, 7, 8, 1, 9, 10, 11, 12, 13, 14, 15] rfl)
                            · refine lv_iload hx hb dL_areMinima_335 (lv_at hl 0 rfl) ?_
                              refine lv_iload hx hb dL_areMinima_337 (lv_at hl 4 rfl) ?_
                              refine lv_isub hx hb dL_areMinima_339 ?_
                              refine lv_goto (tgt := 348) hx hb dL_areMinima_340 (by decide) ?_
                              refine lv_imul hx hb dL_areMinima_348 ?_
                              refine lv_iload hx hb dL_areMinima_349 (lv_at hl 9 rfl) ?_
                              refine lv_icmp_le (tgt := 358) hx hb dL_areMinima_351 (by decide) (fun c_351 => ?_) (fun c_351 => ?_)
                              · refine lv_iconst (v := 0) hx hb dL_areMinima_358 (by decide) ?_
                                refine lv_iadd hx hb dL_areMinima_359 ?_
                                refine lv_topi (fun q360 eq360 => ?_)
                                refine lv_istore (lv' := [(10, .int q360), (15, .int (sp_of (layS (cn, sc, μ) (μ 3 k9)).1 p8 (nI pd9))), (14, .int (sp_cy (layS (cn, sc, μ) (μ 3 k9)).1 p8 (nI pd9))), (13, .int (nI Lx)), (11, .int (lastC (layS (cn, sc, μ) (μ 3 k9)).1 (nI pd9) p8)), (12, .int (nI p8)), (8, .int (nI (layS (cn, sc, μ) (μ 3 k9)).2)), (9, .ref d9), (5, .int 1), (6, .int (nI pd9)), (7, .int (nI k9)), (0, .ref ho), (1, .ref (la 3)), (2, .ref (la 9)), (3, .ref (la 10)), (4, .int (nI zn))]) hx hb dL_areMinima_360 hl (by decide) rfl (fun ls hl => ?_)
                                rw [lost_n (Or.inr ⟨abs_y (by omega) (by omega) c_332, c_351⟩)] at eq360
                                subst eq360
                                refine lv_iload hx hb dL_areMinima_362 (lv_at hl 1 rfl) ?_
                                refine lv_istore (lv' := [(11, .int (sp_of (layS (cn, sc, μ) (μ 3 k9)).1 p8 (nI pd9))), (10, .int (sp_lost (layS (cn, sc, μ) (μ 3 k9)).1 (nI pd9) p8)), (15, .int (sp_of (layS (cn, sc, μ) (μ 3 k9)).1 p8 (nI pd9))), (14, .int (sp_cy (layS (cn, sc, μ) (μ 3 k9)).1 p8 (nI pd9))), (13, .int (nI Lx)), (12, .int (nI p8)), (8, .int (nI (layS (cn, sc, μ) (μ 3 k9)).2)), (9, .ref d9), (5, .int 1), (6, .int (nI pd9)), (7, .int (nI k9)), (0, .ref ho), (1, .ref (la 3)), (2, .ref (la 9)), (3, .ref (la 10)), (4, .int (nI zn))]) hx hb dL_areMinima_364 hl (by decide) rfl (fun ls hl => ?_)
                                refine lv_aload_n hx hb dL_areMinima_366 rfl (lv_at hl 11 rfl) ?_
                                refine lv_bipush (v := 7) hx hb dL_areMinima_367 (by decide) ?_
                                refine lv_iload hx hb dL_areMinima_369 (lv_at hl 10 rfl) ?_
                                refine lv_iload hx hb dL_areMinima_371 (lv_at hl 9 rfl) ?_
                                refine lv_iload hx hb dL_areMinima_373 (lv_at hl 5 rfl) ?_
                                refine lv_iconst (v := 0) hx hb dL_areMinima_375 (by decide) ?_
                                refine lv_iconst (v := 0) hx hb dL_areMinima_376 (by decide) ?_
                                refine hk_callSxW 7 (As := [.ref ho, .int 7, .int (nI k9), .int (nI pd9), .int (nI p8), .int 0, .int 0]) (rest := []) X K hAE hS hl.1 (c_L_does_cycle E l hl9 H hW hI hZn (p0 := nI k9) (p1 := nI pd9) (p2 := nI p8) (p4 := 0)) (fun q h => h.1) gL_areMinima_L_does rfl hd_L_does rfl ⟨⟨(Nat.le_of_ble_eq_true rfl), (Nat.le_of_ble_eq_true rfl)⟩, (by show 220 * k9 + 1 + 24 * p8 + 12 ≤ 900; omega), (by show 11000 * k9 + 10 + 1200 * p8 + 600 ≤ 45000; omega)⟩ rfl (Nat.le_of_ble_eq_true rfl) dL_areMinima_377 (fun _ _ _ _ _ hp _ _ _ _ _ _ => False.elim hp) (fun v9 H24 locsH24 hp hS hzH24 hkH24 => ?_)
                                obtain ⟨hv, G, R, hW⟩ := hp
                                subst hv
                                have hL := hL.kept (fun k hk => hkH24 (la k) (hL.lt hk) (hlz k hk))
                                have hZn := fun (q : Nat) (h : H24.size ≤ q) => hZn q (Nat.le_trans hzH24 h)
                                have hD := (hkH24 d9 (ar_lt hD) (fun h => h.2 rfl)).trans hD
                                refine lv_iload hx hb dL_areMinima_380 (lv_at hl 3 rfl) ?_
                                refine lv_icmp_ne (tgt := 408) hx hb dL_areMinima_382 (by decide) (fun c_382 => ?_) (fun c_382 => ?_)
                                · exact (c_382 (cyc_0 (S := (cn, sc, μ)) hk9 hn1 hpd1 hpd2 hp8 hM8)).elim
                                · refine lv_aload_n hx hb dL_areMinima_385 rfl (lv_at hl 11 rfl) ?_
                                  refine lv_bipush (v := 7) hx hb dL_areMinima_386 (by decide) ?_
                                  refine lv_iload hx hb dL_areMinima_388 (lv_at hl 10 rfl) ?_
                                  refine lv_iload hx hb dL_areMinima_390 (lv_at hl 9 rfl) ?_
                                  refine lv_iload hx hb dL_areMinima_392 (lv_at hl 5 rfl) ?_
                                  refine lv_iconst (v := 1) hx hb dL_areMinima_394 (by decide) ?_
                                  refine lv_iconst (v := 0) hx hb dL_areMinima_395 (by decide) ?_
                                  refine hk_callSxW 7 (As := [.ref ho, .int 7, .int (nI k9), .int (nI pd9), .int (nI p8), .int 1, .int 0]) (rest := []) X K hAE hS hl.1 (c_L_does_cycle1 E l hl9 H24 hW hI hZn (p0 := nI k9) (p1 := nI pd9) (p2 := nI p8) (p4 := 0)) (fun q h => h.1) gL_areMinima_L_does rfl hd_L_does rfl ⟨⟨(Nat.le_of_ble_eq_true rfl), (Nat.le_of_ble_eq_true rfl)⟩, (by show 220 * k9 + 1 + 24 * p8 + 12 + 12 ≤ 900; omega), (by show 11000 * k9 + 10 + 1200 * p8 + 600 + 600 ≤ 45000; omega)⟩ rfl (Nat.le_of_ble_eq_true rfl) dL_areMinima_396 (fun _ _ _ _ _ hp _ _ _ _ _ _ => False.elim hp) (fun v9 H25 locsH25 hp hS hzH25 hkH25 => ?_)
                                  obtain ⟨hv, G, R, hW⟩ := hp
                                  subst hv
                                  have hL := hL.kept (fun k hk => hkH25 (la k) (hL.lt hk) (hlz k hk))
                                  have hZn := fun (q : Nat) (h : H25.size ≤ q) => hZn q (Nat.le_trans hzH25 h)
                                  have hD := (hkH25 d9 (ar_lt hD) (fun h => h.2 rfl)).trans hD
                                  refine lv_iload hx hb dL_areMinima_399 (lv_at hl 2 rfl) ?_
                                  refine lv_icmp_ne (tgt := 408) hx hb dL_areMinima_401 (by decide) (fun c_401 => ?_) (fun c_401 => ?_)
                                  · exact (c_401 (cyc_1 (S := (cn, sc, μ)) hk9 hn1 hpd1 hpd2 hp8 hM8)).elim
                                  · refine lv_iconst (v := 1) hx hb dL_areMinima_404 (by decide) ?_
                                    refine lv_goto (tgt := 409) hx hb dL_areMinima_405 (by decide) ?_
                                    refine lv_istore (lv' := [(5, .int 1), (11, .int (sp_of (layS (cn, sc, μ) (μ 3 k9)).1 p8 (nI pd9))), (10, .int (sp_lost (layS (cn, sc, μ) (μ 3 k9)).1 (nI pd9) p8)), (15, .int (sp_of (layS (cn, sc, μ) (μ 3 k9)).1 p8 (nI pd9))), (14, .int (sp_cy (layS (cn, sc, μ) (μ 3 k9)).1 p8 (nI pd9))), (13, .int (nI Lx)), (12, .int (nI p8)), (8, .int (nI (layS (cn, sc, μ) (μ 3 k9)).2)), (9, .ref d9), (6, .int (nI pd9)), (7, .int (nI k9)), (0, .ref ho), (1, .ref (la 3)), (2, .ref (la 9)), (3, .ref (la 10)), (4, .int (nI zn))]) hx hb dL_areMinima_409 hl (by decide) rfl (fun ls hl => ?_)
                                    obtain ⟨q411, eq411⟩ : ∃ y : Int32, y = (nI p8) + 1 := ⟨_, rfl⟩
                                    refine lv_iinc (v := q411) (lv' := [(12, .int q411), (5, .int 1), (11, .int (sp_of (layS (cn, sc, μ) (μ 3 k9)).1 p8 (nI pd9))), (10, .int (sp_lost (layS (cn, sc, μ) (μ 3 k9)).1 (nI pd9) p8)), (15, .int (sp_of (layS (cn, sc, μ) (μ 3 k9)).1 p8 (nI pd9))), (14, .int (sp_cy (layS (cn, sc, μ) (μ 3 k9)).1 p8 (nI pd9))), (13, .int (nI Lx)), (8, .int (nI (layS (cn, sc, μ) (μ 3 k9)).2)), (9, .ref d9), (6, .int (nI pd9)), (7, .int (nI k9)), (0, .ref ho), (1, .ref (la 3)), (2, .ref (la 9)), (3, .ref (la 10)), (4, .int (nI zn))]) hx hb dL_areMinima_411 hl (k := 6) rfl (by rw [eq411]; rfl) (by decide) rfl (fun ls hl => ?_)
                                    rw [nI_1] at eq411
                                    subst eq411
                                    refine lv_goto (tgt := 261) hx hb dL_areMinima_414 (by decide) ?_
                                    refine W.widen (k := 220 * k9 + 1 + 24 * (p8 + 1)) (n := 11000 * k9 + 10 + 1200 * (p8 + 1)) (by show 220 * k9 + 1 + 24 * p8 + 12 + 12 ≤ _; omega) (by show 11000 * k9 + 10 + 1200 * p8 + 600 + 600 ≤ _; omega) ?_
                                    exact ih7 (p8 + 1) _ _ G R (by omega) ⟨hS, hW, hL, hD, by omega, hZn, by omega⟩ _ (lv_sub hl [3, 2, 0, 7, 8, 1, 9, 10, 11, 12, 13, 14, 15] rfl)
                              · refine lv_iconst (v := 1) hx hb dL_areMinima_354 (by decide) ?_
                                refine lv_goto (tgt := 359) hx hb dL_areMinima_355 (by decide) ?_
                                refine lv_iadd hx hb dL_areMinima_359 ?_
                                refine lv_topi (fun q360 eq360 => ?_)
                                refine lv_istore (lv' := [(10, .int q360), (15, .int (sp_of (layS (cn, sc, μ) (μ 3 k9)).1 p8 (nI pd9))), (14, .int (sp_cy (layS (cn, sc, μ) (μ 3 k9)).1 p8 (nI pd9))), (13, .int (nI Lx)), (11, .int (lastC (layS (cn, sc, μ) (μ 3 k9)).1 (nI pd9) p8)), (12, .int (nI p8)), (8, .int (nI (layS (cn, sc, μ) (μ 3 k9)).2)), (9, .ref d9), (5, .int 1), (6, .int (nI pd9)), (7, .int (nI k9)), (0, .ref ho), (1, .ref (la 3)), (2, .ref (la 9)), (3, .ref (la 10)), (4, .int (nI zn))]) hx hb dL_areMinima_360 hl (by decide) rfl (fun ls hl => ?_)
                                rw [lost_y hp0 (abs_y (by omega) (by omega) c_332) c_351] at eq360
                                subst eq360
                                refine lv_iload hx hb dL_areMinima_362 (lv_at hl 1 rfl) ?_
                                refine lv_istore (lv' := [(11, .int (sp_of (layS (cn, sc, μ) (μ 3 k9)).1 p8 (nI pd9))), (10, .int (sp_lost (layS (cn, sc, μ) (μ 3 k9)).1 (nI pd9) p8)), (15, .int (sp_of (layS (cn, sc, μ) (μ 3 k9)).1 p8 (nI pd9))), (14, .int (sp_cy (layS (cn, sc, μ) (μ 3 k9)).1 p8 (nI pd9))), (13, .int (nI Lx)), (12, .int (nI p8)), (8, .int (nI (layS (cn, sc, μ) (μ 3 k9)).2)), (9, .ref d9), (5, .int 1), (6, .int (nI pd9)), (7, .int (nI k9)), (0, .ref ho), (1, .ref (la 3)), (2, .ref (la 9)), (3, .ref (la 10)), (4, .int (nI zn))]) hx hb dL_areMinima_364 hl (by decide) rfl (fun ls hl => ?_)
                                refine lv_aload_n hx hb dL_areMinima_366 rfl (lv_at hl 11 rfl) ?_
                                refine lv_bipush (v := 7) hx hb dL_areMinima_367 (by decide) ?_
                                refine lv_iload hx hb dL_areMinima_369 (lv_at hl 10 rfl) ?_
                                refine lv_iload hx hb dL_areMinima_371 (lv_at hl 9 rfl) ?_
                                refine lv_iload hx hb dL_areMinima_373 (lv_at hl 5 rfl) ?_
                                refine lv_iconst (v := 0) hx hb dL_areMinima_375 (by decide) ?_
                                refine lv_iconst (v := 0) hx hb dL_areMinima_376 (by decide) ?_
                                refine hk_callSxW 7 (As := [.ref ho, .int 7, .int (nI k9), .int (nI pd9), .int (nI p8), .int 0, .int 0]) (rest := []) X K hAE hS hl.1 (c_L_does_cycle E l hl9 H hW hI hZn (p0 := nI k9) (p1 := nI pd9) (p2 := nI p8) (p4 := 0)) (fun q h => h.1) gL_areMinima_L_does rfl hd_L_does rfl ⟨⟨(Nat.le_of_ble_eq_true rfl), (Nat.le_of_ble_eq_true rfl)⟩, (by show 220 * k9 + 1 + 24 * p8 + 12 ≤ 900; omega), (by show 11000 * k9 + 10 + 1200 * p8 + 600 ≤ 45000; omega)⟩ rfl (Nat.le_of_ble_eq_true rfl) dL_areMinima_377 (fun _ _ _ _ _ hp _ _ _ _ _ _ => False.elim hp) (fun v9 H26 locsH26 hp hS hzH26 hkH26 => ?_)
                                obtain ⟨hv, G, R, hW⟩ := hp
                                subst hv
                                have hL := hL.kept (fun k hk => hkH26 (la k) (hL.lt hk) (hlz k hk))
                                have hZn := fun (q : Nat) (h : H26.size ≤ q) => hZn q (Nat.le_trans hzH26 h)
                                have hD := (hkH26 d9 (ar_lt hD) (fun h => h.2 rfl)).trans hD
                                refine lv_iload hx hb dL_areMinima_380 (lv_at hl 3 rfl) ?_
                                refine lv_icmp_ne (tgt := 408) hx hb dL_areMinima_382 (by decide) (fun c_382 => ?_) (fun c_382 => ?_)
                                · exact (c_382 (cyc_0 (S := (cn, sc, μ)) hk9 hn1 hpd1 hpd2 hp8 hM8)).elim
                                · refine lv_aload_n hx hb dL_areMinima_385 rfl (lv_at hl 11 rfl) ?_
                                  refine lv_bipush (v := 7) hx hb dL_areMinima_386 (by decide) ?_
                                  refine lv_iload hx hb dL_areMinima_388 (lv_at hl 10 rfl) ?_
                                  refine lv_iload hx hb dL_areMinima_390 (lv_at hl 9 rfl) ?_
                                  refine lv_iload hx hb dL_areMinima_392 (lv_at hl 5 rfl) ?_
                                  refine lv_iconst (v := 1) hx hb dL_areMinima_394 (by decide) ?_
                                  refine lv_iconst (v := 0) hx hb dL_areMinima_395 (by decide) ?_
                                  refine hk_callSxW 7 (As := [.ref ho, .int 7, .int (nI k9), .int (nI pd9), .int (nI p8), .int 1, .int 0]) (rest := []) X K hAE hS hl.1 (c_L_does_cycle1 E l hl9 H26 hW hI hZn (p0 := nI k9) (p1 := nI pd9) (p2 := nI p8) (p4 := 0)) (fun q h => h.1) gL_areMinima_L_does rfl hd_L_does rfl ⟨⟨(Nat.le_of_ble_eq_true rfl), (Nat.le_of_ble_eq_true rfl)⟩, (by show 220 * k9 + 1 + 24 * p8 + 12 + 12 ≤ 900; omega), (by show 11000 * k9 + 10 + 1200 * p8 + 600 + 600 ≤ 45000; omega)⟩ rfl (Nat.le_of_ble_eq_true rfl) dL_areMinima_396 (fun _ _ _ _ _ hp _ _ _ _ _ _ => False.elim hp) (fun v9 H27 locsH27 hp hS hzH27 hkH27 => ?_)
                                  obtain ⟨hv, G, R, hW⟩ := hp
                                  subst hv
                                  have hL := hL.kept (fun k hk => hkH27 (la k) (hL.lt hk) (hlz k hk))
                                  have hZn := fun (q : Nat) (h : H27.size ≤ q) => hZn q (Nat.le_trans hzH27 h)
                                  have hD := (hkH27 d9 (ar_lt hD) (fun h => h.2 rfl)).trans hD
                                  refine lv_iload hx hb dL_areMinima_399 (lv_at hl 2 rfl) ?_
                                  refine lv_icmp_ne (tgt := 408) hx hb dL_areMinima_401 (by decide) (fun c_401 => ?_) (fun c_401 => ?_)
                                  · exact (c_401 (cyc_1 (S := (cn, sc, μ)) hk9 hn1 hpd1 hpd2 hp8 hM8)).elim
                                  · refine lv_iconst (v := 1) hx hb dL_areMinima_404 (by decide) ?_
                                    refine lv_goto (tgt := 409) hx hb dL_areMinima_405 (by decide) ?_
                                    refine lv_istore (lv' := [(5, .int 1), (11, .int (sp_of (layS (cn, sc, μ) (μ 3 k9)).1 p8 (nI pd9))), (10, .int (sp_lost (layS (cn, sc, μ) (μ 3 k9)).1 (nI pd9) p8)), (15, .int (sp_of (layS (cn, sc, μ) (μ 3 k9)).1 p8 (nI pd9))), (14, .int (sp_cy (layS (cn, sc, μ) (μ 3 k9)).1 p8 (nI pd9))), (13, .int (nI Lx)), (12, .int (nI p8)), (8, .int (nI (layS (cn, sc, μ) (μ 3 k9)).2)), (9, .ref d9), (6, .int (nI pd9)), (7, .int (nI k9)), (0, .ref ho), (1, .ref (la 3)), (2, .ref (la 9)), (3, .ref (la 10)), (4, .int (nI zn))]) hx hb dL_areMinima_409 hl (by decide) rfl (fun ls hl => ?_)
                                    obtain ⟨q411, eq411⟩ : ∃ y : Int32, y = (nI p8) + 1 := ⟨_, rfl⟩
                                    refine lv_iinc (v := q411) (lv' := [(12, .int q411), (5, .int 1), (11, .int (sp_of (layS (cn, sc, μ) (μ 3 k9)).1 p8 (nI pd9))), (10, .int (sp_lost (layS (cn, sc, μ) (μ 3 k9)).1 (nI pd9) p8)), (15, .int (sp_of (layS (cn, sc, μ) (μ 3 k9)).1 p8 (nI pd9))), (14, .int (sp_cy (layS (cn, sc, μ) (μ 3 k9)).1 p8 (nI pd9))), (13, .int (nI Lx)), (8, .int (nI (layS (cn, sc, μ) (μ 3 k9)).2)), (9, .ref d9), (6, .int (nI pd9)), (7, .int (nI k9)), (0, .ref ho), (1, .ref (la 3)), (2, .ref (la 9)), (3, .ref (la 10)), (4, .int (nI zn))]) hx hb dL_areMinima_411 hl (k := 6) rfl (by rw [eq411]; rfl) (by decide) rfl (fun ls hl => ?_)
                                    rw [nI_1] at eq411
                                    subst eq411
                                    refine lv_goto (tgt := 261) hx hb dL_areMinima_414 (by decide) ?_
                                    refine W.widen (k := 220 * k9 + 1 + 24 * (p8 + 1)) (n := 11000 * k9 + 10 + 1200 * (p8 + 1)) (by show 220 * k9 + 1 + 24 * p8 + 12 + 12 ≤ _; omega) (by show 11000 * k9 + 10 + 1200 * p8 + 600 + 600 ≤ _; omega) ?_
                                    exact ih7 (p8 + 1) _ _ G R (by omega) ⟨hS, hW, hL, hD, by omega, hZn, by omega⟩ _ (lv_sub hl [3, 2, 0, 7, 8, 1, 9, 10, 11, 12, 13, 14, 15] rfl)
                exact L261 ((layS (cn, sc, μ) (μ 3 k9)).2 + 1) 0 _ _ G R (by omega) ⟨hS, hW, hL, hD, by omega, hZn, by omega⟩ _ (lv_sub hl [2, 1, 0, 3, 4, 5, 6, 7, 8, 9, 10, 11, 12] rfl)
              · have hk8 : k8 < cn 29 := Nat.lt_of_not_le (fun h => c_47 (nI_le h (by omega)))
                have hmku : V 9 (2 * k8) = μ 30 k8 ∧ V 9 (2 * k8 + 1) = μ 31 k8 := hV.m hk8
                have hmiu : isS (cn 1) (μ 30 k8) ∧ inr (μ 31 k8) 0 9999999 := hI.1.2.2.2.2.2.2.2 k8 hk8
                obtain ⟨sk, hsk, hesk⟩ := isS_ix (by omega) hmiu.1
                refine lv_iconst (v := 0) hx hb dL_areMinima_50 (by decide) ?_
                refine lv_istore (lv' := [(11, .int 0), (8, .int (nI (ladL (mnA μ (μ 3 k9)) k8).length)), (10, .int (nI k8)), (9, .ref d9), (5, .int 1), (6, .int (nI pd9)), (7, .int (nI k9)), (0, .ref ho), (1, .ref (la 3)), (2, .ref (la 9)), (3, .ref (la 10)), (4, .int (nI zn))]) hx hb dL_areMinima_51 hl (by decide) rfl (fun ls hl => ?_)
                refine lv_aload_n hx hb dL_areMinima_53 rfl (lv_at hl 9 rfl) ?_
                refine lv_iconst (v := 2) hx hb dL_areMinima_54 (by decide) ?_
                refine lv_iload hx hb dL_areMinima_55 (lv_at hl 2 rfl) ?_
                refine lv_imul hx hb dL_areMinima_57 ?_
                refine lv_topi (fun z_28 ez_28 => ?_)
                have ez_28 : z_28 = nI (2 * k8) := ez_28.trans (nI_mul 2 k8)
                subst ez_28
                refine lv_iconst (v := 1) hx hb dL_areMinima_58 (by decide) ?_
                refine lv_iadd hx hb dL_areMinima_59 ?_
                refine lv_topi (fun z_29 ez_29 => ?_)
                have ez_29 : z_29 = nI ((2 * k8) + 1) := ez_29.trans (nI_add (2 * k8) 1)
                subst ez_29
                refine hk_ild X K hL.c9 (vp_in_nI (by omega) (by omega)) dL_areMinima_60 ?_
                rw [show (V 9) (nI ((2 * k8) + 1)).toNatClampNeg = μ 31 k8 from (congrArg (V 9) (nI_clamp (show 2 * k8 + 1 < 2 ^ 31 by omega))).trans hmku.2]
                refine lv_aload_n hx hb dL_areMinima_61 rfl (lv_at hl 9 rfl) ?_
                refine lv_iconst (v := 2) hx hb dL_areMinima_62 (by decide) ?_
                refine lv_iload hx hb dL_areMinima_63 (lv_at hl 2 rfl) ?_
                refine lv_imul hx hb dL_areMinima_65 ?_
                refine lv_topi (fun z_30 ez_30 => ?_)
                have ez_30 : z_30 = nI (2 * k8) := ez_30.trans (nI_mul 2 k8)
                subst ez_30
                refine lv_iconst (v := 1) hx hb dL_areMinima_66 (by decide) ?_
                refine lv_iadd hx hb dL_areMinima_67 ?_
                refine lv_topi (fun z_31 ez_31 => ?_)
                have ez_31 : z_31 = nI ((2 * k8) + 1) := ez_31.trans (nI_add (2 * k8) 1)
                subst ez_31
                refine hk_ild X K hL.c9 (vp_in_nI (by omega) (by omega)) dL_areMinima_68 ?_
                rw [show (V 9) (nI ((2 * k8) + 1)).toNatClampNeg = μ 31 k8 from (congrArg (V 9) (nI_clamp (show 2 * k8 + 1 < 2 ^ 31 by omega))).trans hmku.2]
                refine lv_aload_n hx hb dL_areMinima_69 rfl (lv_at hl 8 rfl) ?_
                refine lv_iconst (v := 4) hx hb dL_areMinima_70 (by decide) ?_
                refine lv_aload_n hx hb dL_areMinima_71 rfl (lv_at hl 9 rfl) ?_
                refine lv_iconst (v := 2) hx hb dL_areMinima_72 (by decide) ?_
                refine lv_iload hx hb dL_areMinima_73 (lv_at hl 2 rfl) ?_
                refine lv_imul hx hb dL_areMinima_75 ?_
                refine lv_topi (fun z_32 ez_32 => ?_)
                have ez_32 : z_32 = nI (2 * k8) := ez_32.trans (nI_mul 2 k8)
                subst ez_32
                refine hk_ild X K hL.c9 (vp_in_nI (by omega) (by omega)) dL_areMinima_76 ?_
                rw [show (V 9) (nI (2 * k8)).toNatClampNeg = nI sk from ((congrArg (V 9) (nI_clamp (show 2 * k8 < 2 ^ 31 by omega))).trans hmku.1).trans hesk]
                refine lv_imul hx hb dL_areMinima_77 ?_
                refine lv_topi (fun z_33 ez_33 => ?_)
                have ez_33 : z_33 = nI (4 * sk) := ez_33.trans (nI_mul 4 sk)
                subst ez_33
                refine hk_ild X K hL.c3 (vp_in_nI (by omega) (by omega)) dL_areMinima_78 ?_
                rw [show (V 3) (nI (4 * sk)).toNatClampNeg = V 3 (4 * sk) from by rw [nI_clamp (show (4 * sk) < 2 ^ 31 by omega)]]
                refine hk_callS 2 (As := [.int (μ 31 k8), .int (V 3 (4 * sk))]) (rest := [.int (μ 31 k8)]) X K hAE hS hl.1 (c_L_late E l H (μ 31 k8) (V 3 (4 * sk))) (fun _ h => h.elim) gL_areMinima_L_late rfl hd_L_late rfl ⟨⟨(Nat.le_of_ble_eq_true rfl), (Nat.le_of_ble_eq_true rfl)⟩, (by show 220 * k9 + 1 + 0 ≤ 900; omega), (by show 11000 * k9 + 10 + 0 ≤ 45000; omega)⟩ rfl (Nat.le_of_ble_eq_true rfl) dL_areMinima_79 (fun v9 H34 locsH34 hp hS hzH34 hkH34 => ?_)
                obtain ⟨hv, hh⟩ := hp
                subst hv; subst hh
                refine lv_iadd hx hb dL_areMinima_82 ?_
                refine lv_topi (fun x83 ex83 => ?_)
                refine lv_istore (lv' := [(12, .int x83), (11, .int 0), (8, .int (nI (ladL (mnA μ (μ 3 k9)) k8).length)), (10, .int (nI k8)), (9, .ref d9), (5, .int 1), (6, .int (nI pd9)), (7, .int (nI k9)), (0, .ref ho), (1, .ref (la 3)), (2, .ref (la 9)), (3, .ref (la 10)), (4, .int (nI zn))]) hx hb dL_areMinima_83 hl (by decide) rfl (fun ls hl => ?_)
                rw [mt_at (v := V 3 (4 * sk)) hesk (by omega) (hV.a0 hsk) hmiu.2 (hI.1.2.2.1 sk hsk).1] at ex83
                subst ex83
                refine lv_aload_n hx hb dL_areMinima_85 rfl (lv_at hl 9 rfl) ?_
                refine lv_iconst (v := 4) hx hb dL_areMinima_86 (by decide) ?_
                refine lv_iload hx hb dL_areMinima_87 (lv_at hl 7 rfl) ?_
                refine lv_imul hx hb dL_areMinima_89 ?_
                refine lv_topi (fun z_35 ez_35 => ?_)
                have ez_35 : z_35 = nI (4 * k9) := ez_35.trans (nI_mul 4 k9)
                subst ez_35
                refine lv_iconst (v := 1) hx hb dL_areMinima_90 (by decide) ?_
                refine lv_iadd hx hb dL_areMinima_91 ?_
                refine lv_topi (fun z_36 ez_36 => ?_)
                have ez_36 : z_36 = nI ((4 * k9) + 1) := ez_36.trans (nI_add (4 * k9) 1)
                subst ez_36
                refine hk_ild X K hL.c3 (vp_in_nI (by omega) (by omega)) dL_areMinima_92 ?_
                rw [show (V 3) (nI ((4 * k9) + 1)).toNatClampNeg = nI ms from (congrArg (V 3) (nI_clamp (show 4 * k9 + 1 < 2 ^ 31 by omega))).trans hms]
                refine lv_aload_n hx hb dL_areMinima_93 rfl (lv_at hl 10 rfl) ?_
                refine lv_iconst (v := 2) hx hb dL_areMinima_94 (by decide) ?_
                refine lv_iload hx hb dL_areMinima_95 (lv_at hl 3 rfl) ?_
                refine lv_imul hx hb dL_areMinima_97 ?_
                refine lv_topi (fun z_37 ez_37 => ?_)
                have ez_37 : z_37 = nI (2 * k8) := ez_37.trans (nI_mul 2 k8)
                subst ez_37
                refine hk_ild X K hL.c9 (vp_in_nI (by omega) (by omega)) dL_areMinima_98 ?_
                rw [show (V 9) (nI (2 * k8)).toNatClampNeg = nI sk from ((congrArg (V 9) (nI_clamp (show 2 * k8 < 2 ^ 31 by omega))).trans hmku.1).trans hesk]
                refine lv_ishr hx hb dL_areMinima_99 ?_
                refine lv_iconst (v := 1) hx hb dL_areMinima_100 (by decide) ?_
                refine lv_iand hx hb dL_areMinima_101 ?_
                refine lv_topi (fun bt ebt => ?_)
                rw [l_bit ms hm.1 sk (by omega)] at ebt
                refine lv_iconst (v := 1) hx hb dL_areMinima_102 (by decide) ?_
                refine lv_icmp_ne (tgt := 110) hx hb dL_areMinima_103 (by decide) (fun c_103 => ?_) (fun c_103 => ?_)
                · have hbiu : ms.testBit sk = true ↔ μ 3 (ix (μ 30 k8)) = μ 3 k9 := by
                    rw [hesk, ix_nI (by omega), hm.2 sk (by omega)]
                    exact ⟨fun h => h.2.resolve_right (ent_ne hI hn1 sk hsk), fun h => ⟨hsk, Or.inl h⟩⟩
                  have hla : mnA μ (μ 3 k9) k8 = 0 := mnA_n (fun h => bit_n1 ebt c_103 (hbiu.mpr h))
                  refine lv_iconst (v := 0) hx hb dL_areMinima_110 (by decide) ?_
                  refine lv_istore (lv' := [(13, .int 0), (12, .int (sp_mt μ k8)), (11, .int 0), (8, .int (nI (ladL (mnA μ (μ 3 k9)) k8).length)), (10, .int (nI k8)), (9, .ref d9), (5, .int 1), (6, .int (nI pd9)), (7, .int (nI k9)), (0, .ref ho), (1, .ref (la 3)), (2, .ref (la 9)), (3, .ref (la 10)), (4, .int (nI zn))]) hx hb dL_areMinima_111 hl (by decide) rfl (fun ls hl => ?_)
                  refine lv_iconst (v := 0) hx hb dL_areMinima_113 (by decide) ?_
                  refine lv_istore (lv' := [(14, .int 0), (13, .int 0), (12, .int (sp_mt μ k8)), (11, .int 0), (8, .int (nI (ladL (mnA μ (μ 3 k9)) k8).length)), (10, .int (nI k8)), (9, .ref d9), (5, .int 1), (6, .int (nI pd9)), (7, .int (nI k9)), (0, .ref ho), (1, .ref (la 3)), (2, .ref (la 9)), (3, .ref (la 10)), (4, .int (nI zn))]) hx hb dL_areMinima_114 hl (by decide) rfl (fun ls hl => ?_)
                  have L116 : ∀ (n7 : Nat) (j8 : Nat), cn 29 + 1 ≤ j8 + n7 → j8 ≤ cn 29 → ∀ (locs116 : List Loc), va_S (fun q => Z q) s.heap H locs116 → ∀ (ls : Array Slot), lv_has ls 16 [(11, .int (cntN (mnA μ (μ 3 k9)) (sp_mt μ) k8 j8)), (14, .int (nI j8)), (12, .int (sp_mt μ k8)), (13, .int 0), (8, .int (nI (ladL (mnA μ (μ 3 k9)) k8).length)), (10, .int (nI k8)), (9, .ref d9), (5, .int 1), (6, .int (nI pd9)), (7, .int (nI k9)), (0, .ref ho), (1, .ref (la 3)), (2, .ref (la 9)), (3, .ref (la 10)), (4, .int (nI zn))] → W p l e rmL_areMinima s m args below meth c H locs116 (220 * k9 + 1) (11000 * k9 + 10) Q (F0 m 116 ls []) := by
                    intro n7
                    induction n7 with
                    | zero =>
                      intro j8 hm7 hj8 locs116 hS ls hl
                      exact absurd hm7 (by omega)
                    | succ n7 ih7 =>
                      intro j8 hm7 hj8 locs116 hS ls hl
                      refine lv_iload hx hb dL_areMinima_116 (lv_at hl 1 rfl) ?_
                      refine lv_aload_n hx hb dL_areMinima_118 rfl (lv_at hl 13 rfl) ?_
                      refine lv_iconst (v := 4) hx hb dL_areMinima_119 (by decide) ?_
                      refine hk_ild X K hL.c10 (show vp_in (nI 4) 6 from vp_in_nI (by decide) (by decide)) dL_areMinima_120 ?_
                      rw [show (V 10) (4 : Int32).toNatClampNeg = nI (cn 29) from hV.g4]
                      refine lv_icmp_ge (tgt := 214) hx hb dL_areMinima_121 (by decide) (fun c_121 => ?_) (fun c_121 => ?_)
                      · have hj8 : j8 = cn 29 := by
                          have := (nI_leI (by omega) (by omega)).mp c_121
                          omega
                        rw [hj8, rk_cnt (by omega) (by omega)] at hl
                        have hll := ladL_le (a := mnA μ (μ 3 k9)) (cn 29)
                        refine lv_aload hx hb dL_areMinima_214 (lv_at hl 6 rfl) ?_
                        refine lv_iload hx hb dL_areMinima_216 (lv_at hl 3 rfl) ?_
                        refine lv_if_eq (tgt := 226) hx hb dL_areMinima_218 (by decide) (fun c_218 => ?_) (fun c_218 => ?_)
                        · refine lv_bipush (v := 9) hx hb dL_areMinima_226 (by decide) ?_
                          refine lv_iload hx hb dL_areMinima_228 (lv_at hl 2 rfl) ?_
                          refine hk_ist X K hD hS hZd (show vp_in (nI 9) 10 from vp_in_nI (by omega) (by omega)) dL_areMinima_230 (fun H38 locsH38 hIH38 hzH38 hqH38 hS => ?_)
                          rw [show (9 : Int32).toNatClampNeg = 9 from rfl] at hIH38
                          have hD := hIH38
                          have hL := hL.kept (fun k hk => hqH38 (la k) (hld k hk))
                          have hW := hW.kept (fun q h1 h2 => hqH38 q (fun g => h2.elim (fun h => h.2 g) (fun h => h (by rw [g]; exact hdA))))
                          have hdI := dI_n (q := 9) (v := sp_mt μ k8) hdI hk8 hla (by omega)
                          have hZn : ∀ q, H38.size ≤ q → Z q ∧ q ≠ d9 := fun q h => hZn q (by omega)
                          refine lv_iload hx hb dL_areMinima_231 (lv_at hl 4 rfl) ?_
                          refine lv_iload hx hb dL_areMinima_233 (lv_at hl 3 rfl) ?_
                          refine lv_if_eq (tgt := 242) hx hb dL_areMinima_235 (by decide) (fun c_235 => ?_) (fun c_235 => ?_)
                          · refine lv_iconst (v := 0) hx hb dL_areMinima_242 (by decide) ?_
                            refine lv_iadd hx hb dL_areMinima_243 ?_
                            refine lv_topi (fun q244 eq244 => ?_)
                            refine lv_istore (lv' := [(8, .int q244), (11, .int (nI (rkN (mnA μ (μ 3 k9)) (sp_mt μ) (cn 29) k8))), (14, .int (nI (cn 29))), (12, .int (sp_mt μ k8)), (13, .int 0), (10, .int (nI k8)), (9, .ref d9), (5, .int 1), (6, .int (nI pd9)), (7, .int (nI k9)), (0, .ref ho), (1, .ref (la 3)), (2, .ref (la 9)), (3, .ref (la 10)), (4, .int (nI zn))]) hx hb dL_areMinima_244 hl (by decide) rfl (fun ls hl => ?_)
                            rw [lad_n hla] at eq244
                            subst eq244
                            obtain ⟨q246, eq246⟩ : ∃ y : Int32, y = (nI k8) + 1 := ⟨_, rfl⟩
                            refine lv_iinc (v := q246) (lv' := [(10, .int q246), (8, .int (nI (ladL (mnA μ (μ 3 k9)) (k8 + 1)).length)), (11, .int (nI (rkN (mnA μ (μ 3 k9)) (sp_mt μ) (cn 29) k8))), (14, .int (nI (cn 29))), (12, .int (sp_mt μ k8)), (13, .int 0), (9, .ref d9), (5, .int 1), (6, .int (nI pd9)), (7, .int (nI k9)), (0, .ref ho), (1, .ref (la 3)), (2, .ref (la 9)), (3, .ref (la 10)), (4, .int (nI zn))]) hx hb dL_areMinima_246 hl (k := 5) rfl (by rw [eq246]; rfl) (by decide) rfl (fun ls hl => ?_)
                            rw [nI_1] at eq246
                            subst eq246
                            refine lv_goto (tgt := 42) hx hb dL_areMinima_249 (by decide) ?_
                            exact ih8 (k8 + 1) _ _ _ (by omega) ⟨hS, hW, hL, hD, by omega, hZn, by omega, hdI⟩ _ (lv_sub hl [1, 0, 6, 7, 8, 9, 10, 11, 12, 13, 14] rfl)
                          · exact absurd (by decide) c_235
                        · exact absurd (by decide) c_218
                      · have hj8 : j8 < cn 29 := Nat.lt_of_not_le (fun h => c_121 (nI_le h (by omega)))
                        have hmkv : V 9 (2 * j8) = μ 30 j8 ∧ V 9 (2 * j8 + 1) = μ 31 j8 := hV.m hj8
                        have hmiv : isS (cn 1) (μ 30 j8) ∧ inr (μ 31 j8) 0 9999999 := hI.1.2.2.2.2.2.2.2 j8 hj8
                        obtain ⟨sj, hsj, hesj⟩ := isS_ix (by omega) hmiv.1
                        refine lv_aload_n hx hb dL_areMinima_124 rfl (lv_at hl 12 rfl) ?_
                        refine lv_iconst (v := 2) hx hb dL_areMinima_125 (by decide) ?_
                        refine lv_iload hx hb dL_areMinima_126 (lv_at hl 1 rfl) ?_
                        refine lv_imul hx hb dL_areMinima_128 ?_
                        refine lv_topi (fun z_39 ez_39 => ?_)
                        have ez_39 : z_39 = nI (2 * j8) := ez_39.trans (nI_mul 2 j8)
                        subst ez_39
                        refine lv_iconst (v := 1) hx hb dL_areMinima_129 (by decide) ?_
                        refine lv_iadd hx hb dL_areMinima_130 ?_
                        refine lv_topi (fun z_40 ez_40 => ?_)
                        have ez_40 : z_40 = nI ((2 * j8) + 1) := ez_40.trans (nI_add (2 * j8) 1)
                        subst ez_40
                        refine hk_ild X K hL.c9 (vp_in_nI (by omega) (by omega)) dL_areMinima_131 ?_
                        rw [show (V 9) (nI ((2 * j8) + 1)).toNatClampNeg = μ 31 j8 from (congrArg (V 9) (nI_clamp (show 2 * j8 + 1 < 2 ^ 31 by omega))).trans hmkv.2]
                        refine lv_aload_n hx hb dL_areMinima_132 rfl (lv_at hl 12 rfl) ?_
                        refine lv_iconst (v := 2) hx hb dL_areMinima_133 (by decide) ?_
                        refine lv_iload hx hb dL_areMinima_134 (lv_at hl 1 rfl) ?_
                        refine lv_imul hx hb dL_areMinima_136 ?_
                        refine lv_topi (fun z_41 ez_41 => ?_)
                        have ez_41 : z_41 = nI (2 * j8) := ez_41.trans (nI_mul 2 j8)
                        subst ez_41
                        refine lv_iconst (v := 1) hx hb dL_areMinima_137 (by decide) ?_
                        refine lv_iadd hx hb dL_areMinima_138 ?_
                        refine lv_topi (fun z_42 ez_42 => ?_)
                        have ez_42 : z_42 = nI ((2 * j8) + 1) := ez_42.trans (nI_add (2 * j8) 1)
                        subst ez_42
                        refine hk_ild X K hL.c9 (vp_in_nI (by omega) (by omega)) dL_areMinima_139 ?_
                        rw [show (V 9) (nI ((2 * j8) + 1)).toNatClampNeg = μ 31 j8 from (congrArg (V 9) (nI_clamp (show 2 * j8 + 1 < 2 ^ 31 by omega))).trans hmkv.2]
                        refine lv_aload_n hx hb dL_areMinima_140 rfl (lv_at hl 11 rfl) ?_
                        refine lv_iconst (v := 4) hx hb dL_areMinima_141 (by decide) ?_
                        refine lv_aload_n hx hb dL_areMinima_142 rfl (lv_at hl 12 rfl) ?_
                        refine lv_iconst (v := 2) hx hb dL_areMinima_143 (by decide) ?_
                        refine lv_iload hx hb dL_areMinima_144 (lv_at hl 1 rfl) ?_
                        refine lv_imul hx hb dL_areMinima_146 ?_
                        refine lv_topi (fun z_43 ez_43 => ?_)
                        have ez_43 : z_43 = nI (2 * j8) := ez_43.trans (nI_mul 2 j8)
                        subst ez_43
                        refine hk_ild X K hL.c9 (vp_in_nI (by omega) (by omega)) dL_areMinima_147 ?_
                        rw [show (V 9) (nI (2 * j8)).toNatClampNeg = nI sj from ((congrArg (V 9) (nI_clamp (show 2 * j8 < 2 ^ 31 by omega))).trans hmkv.1).trans hesj]
                        refine lv_imul hx hb dL_areMinima_148 ?_
                        refine lv_topi (fun z_44 ez_44 => ?_)
                        have ez_44 : z_44 = nI (4 * sj) := ez_44.trans (nI_mul 4 sj)
                        subst ez_44
                        refine hk_ild X K hL.c3 (vp_in_nI (by omega) (by omega)) dL_areMinima_149 ?_
                        rw [show (V 3) (nI (4 * sj)).toNatClampNeg = V 3 (4 * sj) from by rw [nI_clamp (show (4 * sj) < 2 ^ 31 by omega)]]
                        refine hk_callS 2 (As := [.int (μ 31 j8), .int (V 3 (4 * sj))]) (rest := [.int (μ 31 j8)]) X K hAE hS hl.1 (c_L_late E l H (μ 31 j8) (V 3 (4 * sj))) (fun _ h => h.elim) gL_areMinima_L_late rfl hd_L_late rfl ⟨⟨(Nat.le_of_ble_eq_true rfl), (Nat.le_of_ble_eq_true rfl)⟩, (by show 220 * k9 + 1 + 0 ≤ 900; omega), (by show 11000 * k9 + 10 + 0 ≤ 45000; omega)⟩ rfl (Nat.le_of_ble_eq_true rfl) dL_areMinima_150 (fun v9 H45 locsH45 hp hS hzH45 hkH45 => ?_)
                        obtain ⟨hv, hh⟩ := hp
                        subst hv; subst hh
                        refine lv_iadd hx hb dL_areMinima_153 ?_
                        refine lv_topi (fun x154 ex154 => ?_)
                        refine lv_istore (lv' := [(15, .int x154), (11, .int (cntN (mnA μ (μ 3 k9)) (sp_mt μ) k8 j8)), (14, .int (nI j8)), (12, .int (sp_mt μ k8)), (13, .int 0), (8, .int (nI (ladL (mnA μ (μ 3 k9)) k8).length)), (10, .int (nI k8)), (9, .ref d9), (5, .int 1), (6, .int (nI pd9)), (7, .int (nI k9)), (0, .ref ho), (1, .ref (la 3)), (2, .ref (la 9)), (3, .ref (la 10)), (4, .int (nI zn))]) hx hb dL_areMinima_154 hl (by decide) rfl (fun ls hl => ?_)
                        rw [mt_at (v := V 3 (4 * sj)) hesj (by omega) (hV.a0 hsj) hmiv.2 (hI.1.2.2.1 sj hsj).1] at ex154
                        subst ex154
                        refine lv_iload hx hb dL_areMinima_156 (lv_at hl 1 rfl) ?_
                        refine lv_aload_n hx hb dL_areMinima_158 rfl (lv_at hl 12 rfl) ?_
                        refine lv_iconst (v := 4) hx hb dL_areMinima_159 (by decide) ?_
                        refine lv_iload hx hb dL_areMinima_160 (lv_at hl 10 rfl) ?_
                        refine lv_imul hx hb dL_areMinima_162 ?_
                        refine lv_topi (fun z_46 ez_46 => ?_)
                        have ez_46 : z_46 = nI (4 * k9) := ez_46.trans (nI_mul 4 k9)
                        subst ez_46
                        refine lv_iconst (v := 1) hx hb dL_areMinima_163 (by decide) ?_
                        refine lv_iadd hx hb dL_areMinima_164 ?_
                        refine lv_topi (fun z_47 ez_47 => ?_)
                        have ez_47 : z_47 = nI ((4 * k9) + 1) := ez_47.trans (nI_add (4 * k9) 1)
                        subst ez_47
                        refine hk_ild X K hL.c3 (vp_in_nI (by omega) (by omega)) dL_areMinima_165 ?_
                        rw [show (V 3) (nI ((4 * k9) + 1)).toNatClampNeg = nI ms from (congrArg (V 3) (nI_clamp (show 4 * k9 + 1 < 2 ^ 31 by omega))).trans hms]
                        refine lv_aload_n hx hb dL_areMinima_166 rfl (lv_at hl 13 rfl) ?_
                        refine lv_iconst (v := 2) hx hb dL_areMinima_167 (by decide) ?_
                        refine lv_iload hx hb dL_areMinima_168 (lv_at hl 2 rfl) ?_
                        refine lv_imul hx hb dL_areMinima_170 ?_
                        refine lv_topi (fun z_48 ez_48 => ?_)
                        have ez_48 : z_48 = nI (2 * j8) := ez_48.trans (nI_mul 2 j8)
                        subst ez_48
                        refine hk_ild X K hL.c9 (vp_in_nI (by omega) (by omega)) dL_areMinima_171 ?_
                        rw [show (V 9) (nI (2 * j8)).toNatClampNeg = nI sj from ((congrArg (V 9) (nI_clamp (show 2 * j8 < 2 ^ 31 by omega))).trans hmkv.1).trans hesj]
                        refine lv_ishr hx hb dL_areMinima_172 ?_
                        refine lv_iconst (v := 1) hx hb dL_areMinima_173 (by decide) ?_
                        refine lv_iand hx hb dL_areMinima_174 ?_
                        refine lv_topi (fun bu ebu => ?_)
                        rw [l_bit ms hm.1 sj (by omega)] at ebu
                        refine lv_iconst (v := 1) hx hb dL_areMinima_175 (by decide) ?_
                        refine lv_icmp_ne (tgt := 204) hx hb dL_areMinima_176 (by decide) (fun c_176 => ?_) (fun c_176 => ?_)
                        · have hbiv : ms.testBit sj = true ↔ μ 3 (ix (μ 30 j8)) = μ 3 k9 := by
                            rw [hesj, ix_nI (by omega), hm.2 sj (by omega)]
                            exact ⟨fun h => h.2.resolve_right (ent_ne hI hn1 sj hsj), fun h => ⟨hsj, Or.inl h⟩⟩
                          have hlb9 : mnA μ (μ 3 k9) j8 = 0 := mnA_n (fun h => bit_n1 ebu c_176 (hbiv.mpr h))
                          refine lv_iconst (v := 0) hx hb dL_areMinima_204 (by decide) ?_
                          refine lv_iadd hx hb dL_areMinima_205 ?_
                          refine lv_topi (fun q206 eq206 => ?_)
                          refine lv_istore (lv' := [(11, .int q206), (15, .int (sp_mt μ j8)), (14, .int (nI j8)), (12, .int (sp_mt μ k8)), (13, .int 0), (8, .int (nI (ladL (mnA μ (μ 3 k9)) k8).length)), (10, .int (nI k8)), (9, .ref d9), (5, .int 1), (6, .int (nI pd9)), (7, .int (nI k9)), (0, .ref ho), (1, .ref (la 3)), (2, .ref (la 9)), (3, .ref (la 10)), (4, .int (nI zn))]) hx hb dL_areMinima_206 hl (by decide) rfl (fun ls hl => ?_)
                          rw [cnt_n (Or.inl hlb9)] at eq206
                          subst eq206
                          obtain ⟨q208, eq208⟩ : ∃ y : Int32, y = (nI j8) + 1 := ⟨_, rfl⟩
                          refine lv_iinc (v := q208) (lv' := [(14, .int q208), (11, .int (cntN (mnA μ (μ 3 k9)) (sp_mt μ) k8 (j8 + 1))), (15, .int (sp_mt μ j8)), (12, .int (sp_mt μ k8)), (13, .int 0), (8, .int (nI (ladL (mnA μ (μ 3 k9)) k8).length)), (10, .int (nI k8)), (9, .ref d9), (5, .int 1), (6, .int (nI pd9)), (7, .int (nI k9)), (0, .ref ho), (1, .ref (la 3)), (2, .ref (la 9)), (3, .ref (la 10)), (4, .int (nI zn))]) hx hb dL_areMinima_208 hl (k := 2) rfl (by rw [eq208]; rfl) (by decide) rfl (fun ls hl => ?_)
                          rw [nI_1] at eq208
                          subst eq208
                          refine lv_goto (tgt := 116) hx hb dL_areMinima_211 (by decide) ?_
                          exact ih7 (j8 + 1) (by omega) (by omega) _ hS _ (lv_sub hl [1, 0, 3, 4, 5, 6, 7, 8, 9, 10, 11, 12, 13, 14, 15] rfl)
                        · have hbiv : ms.testBit sj = true ↔ μ 3 (ix (μ 30 j8)) = μ 3 k9 := by
                            rw [hesj, ix_nI (by omega), hm.2 sj (by omega)]
                            exact ⟨fun h => h.2.resolve_right (ent_ne hI hn1 sj hsj), fun h => ⟨hsj, Or.inl h⟩⟩
                          have hlb9 : ¬ mnA μ (μ 3 k9) j8 = 0 := by
                            rw [mnA_y (hbiv.mp (bit_y1 ebu c_176))]; decide
                          refine lv_iload hx hb dL_areMinima_179 (lv_at hl 0 rfl) ?_
                          refine lv_iload hx hb dL_areMinima_181 (lv_at hl 3 rfl) ?_
                          refine lv_icmp_lt (tgt := 200) hx hb dL_areMinima_183 (by decide) (fun c_183 => ?_) (fun c_183 => ?_)
                          · refine lv_iconst (v := 1) hx hb dL_areMinima_200 (by decide) ?_
                            refine lv_goto (tgt := 205) hx hb dL_areMinima_201 (by decide) ?_
                            refine lv_iadd hx hb dL_areMinima_205 ?_
                            refine lv_topi (fun q206 eq206 => ?_)
                            refine lv_istore (lv' := [(11, .int q206), (15, .int (sp_mt μ j8)), (14, .int (nI j8)), (12, .int (sp_mt μ k8)), (13, .int 0), (8, .int (nI (ladL (mnA μ (μ 3 k9)) k8).length)), (10, .int (nI k8)), (9, .ref d9), (5, .int 1), (6, .int (nI pd9)), (7, .int (nI k9)), (0, .ref ho), (1, .ref (la 3)), (2, .ref (la 9)), (3, .ref (la 10)), (4, .int (nI zn))]) hx hb dL_areMinima_206 hl (by decide) rfl (fun ls hl => ?_)
                            rw [cnt_y hlb9 (Or.inl c_183)] at eq206
                            subst eq206
                            obtain ⟨q208, eq208⟩ : ∃ y : Int32, y = (nI j8) + 1 := ⟨_, rfl⟩
                            refine lv_iinc (v := q208) (lv' := [(14, .int q208), (11, .int (cntN (mnA μ (μ 3 k9)) (sp_mt μ) k8 (j8 + 1))), (15, .int (sp_mt μ j8)), (12, .int (sp_mt μ k8)), (13, .int 0), (8, .int (nI (ladL (mnA μ (μ 3 k9)) k8).length)), (10, .int (nI k8)), (9, .ref d9), (5, .int 1), (6, .int (nI pd9)), (7, .int (nI k9)), (0, .ref ho), (1, .ref (la 3)), (2, .ref (la 9)), (3, .ref (la 10)), (4, .int (nI zn))]) hx hb dL_areMinima_208 hl (k := 2) rfl (by rw [eq208]; rfl) (by decide) rfl (fun ls hl => ?_)
                            rw [nI_1] at eq208
                            subst eq208
                            refine lv_goto (tgt := 116) hx hb dL_areMinima_211 (by decide) ?_
                            exact ih7 (j8 + 1) (by omega) (by omega) _ hS _ (lv_sub hl [1, 0, 3, 4, 5, 6, 7, 8, 9, 10, 11, 12, 13, 14, 15] rfl)
                          · refine lv_iload hx hb dL_areMinima_186 (lv_at hl 0 rfl) ?_
                            refine lv_iload hx hb dL_areMinima_188 (lv_at hl 3 rfl) ?_
                            refine lv_icmp_ne (tgt := 204) hx hb dL_areMinima_190 (by decide) (fun c_190 => ?_) (fun c_190 => ?_)
                            · refine lv_iconst (v := 0) hx hb dL_areMinima_204 (by decide) ?_
                              refine lv_iadd hx hb dL_areMinima_205 ?_
                              refine lv_topi (fun q206 eq206 => ?_)
                              refine lv_istore (lv' := [(11, .int q206), (15, .int (sp_mt μ j8)), (14, .int (nI j8)), (12, .int (sp_mt μ k8)), (13, .int 0), (8, .int (nI (ladL (mnA μ (μ 3 k9)) k8).length)), (10, .int (nI k8)), (9, .ref d9), (5, .int 1), (6, .int (nI pd9)), (7, .int (nI k9)), (0, .ref ho), (1, .ref (la 3)), (2, .ref (la 9)), (3, .ref (la 10)), (4, .int (nI zn))]) hx hb dL_areMinima_206 hl (by decide) rfl (fun ls hl => ?_)
                              rw [cnt_n (Or.inr (fun g => g.elim c_183 (fun g => c_190 g.1)))] at eq206
                              subst eq206
                              obtain ⟨q208, eq208⟩ : ∃ y : Int32, y = (nI j8) + 1 := ⟨_, rfl⟩
                              refine lv_iinc (v := q208) (lv' := [(14, .int q208), (11, .int (cntN (mnA μ (μ 3 k9)) (sp_mt μ) k8 (j8 + 1))), (15, .int (sp_mt μ j8)), (12, .int (sp_mt μ k8)), (13, .int 0), (8, .int (nI (ladL (mnA μ (μ 3 k9)) k8).length)), (10, .int (nI k8)), (9, .ref d9), (5, .int 1), (6, .int (nI pd9)), (7, .int (nI k9)), (0, .ref ho), (1, .ref (la 3)), (2, .ref (la 9)), (3, .ref (la 10)), (4, .int (nI zn))]) hx hb dL_areMinima_208 hl (k := 2) rfl (by rw [eq208]; rfl) (by decide) rfl (fun ls hl => ?_)
                              rw [nI_1] at eq208
                              subst eq208
                              refine lv_goto (tgt := 116) hx hb dL_areMinima_211 (by decide) ?_
                              exact ih7 (j8 + 1) (by omega) (by omega) _ hS _ (lv_sub hl [1, 0, 3, 4, 5, 6, 7, 8, 9, 10, 11, 12, 13, 14, 15] rfl)
                            · refine lv_iload hx hb dL_areMinima_193 (lv_at hl 2 rfl) ?_
                              refine lv_iload hx hb dL_areMinima_195 (lv_at hl 6 rfl) ?_
                              refine lv_icmp_ge (tgt := 204) hx hb dL_areMinima_197 (by decide) (fun c_197 => ?_) (fun c_197 => ?_)
                              · refine lv_iconst (v := 0) hx hb dL_areMinima_204 (by decide) ?_
                                refine lv_iadd hx hb dL_areMinima_205 ?_
                                refine lv_topi (fun q206 eq206 => ?_)
                                refine lv_istore (lv' := [(11, .int q206), (15, .int (sp_mt μ j8)), (14, .int (nI j8)), (12, .int (sp_mt μ k8)), (13, .int 0), (8, .int (nI (ladL (mnA μ (μ 3 k9)) k8).length)), (10, .int (nI k8)), (9, .ref d9), (5, .int 1), (6, .int (nI pd9)), (7, .int (nI k9)), (0, .ref ho), (1, .ref (la 3)), (2, .ref (la 9)), (3, .ref (la 10)), (4, .int (nI zn))]) hx hb dL_areMinima_206 hl (by decide) rfl (fun ls hl => ?_)
                                rw [cnt_n (Or.inr (fun g => g.elim c_183 (fun g => absurd g.2 (Int32.not_lt.mpr c_197))))] at eq206
                                subst eq206
                                obtain ⟨q208, eq208⟩ : ∃ y : Int32, y = (nI j8) + 1 := ⟨_, rfl⟩
                                refine lv_iinc (v := q208) (lv' := [(14, .int q208), (11, .int (cntN (mnA μ (μ 3 k9)) (sp_mt μ) k8 (j8 + 1))), (15, .int (sp_mt μ j8)), (12, .int (sp_mt μ k8)), (13, .int 0), (8, .int (nI (ladL (mnA μ (μ 3 k9)) k8).length)), (10, .int (nI k8)), (9, .ref d9), (5, .int 1), (6, .int (nI pd9)), (7, .int (nI k9)), (0, .ref ho), (1, .ref (la 3)), (2, .ref (la 9)), (3, .ref (la 10)), (4, .int (nI zn))]) hx hb dL_areMinima_208 hl (k := 2) rfl (by rw [eq208]; rfl) (by decide) rfl (fun ls hl => ?_)
                                rw [nI_1] at eq208
                                subst eq208
                                refine lv_goto (tgt := 116) hx hb dL_areMinima_211 (by decide) ?_
                                exact ih7 (j8 + 1) (by omega) (by omega) _ hS _ (lv_sub hl [1, 0, 3, 4, 5, 6, 7, 8, 9, 10, 11, 12, 13, 14, 15] rfl)
                              · refine lv_iconst (v := 1) hx hb dL_areMinima_200 (by decide) ?_
                                refine lv_goto (tgt := 205) hx hb dL_areMinima_201 (by decide) ?_
                                refine lv_iadd hx hb dL_areMinima_205 ?_
                                refine lv_topi (fun q206 eq206 => ?_)
                                refine lv_istore (lv' := [(11, .int q206), (15, .int (sp_mt μ j8)), (14, .int (nI j8)), (12, .int (sp_mt μ k8)), (13, .int 0), (8, .int (nI (ladL (mnA μ (μ 3 k9)) k8).length)), (10, .int (nI k8)), (9, .ref d9), (5, .int 1), (6, .int (nI pd9)), (7, .int (nI k9)), (0, .ref ho), (1, .ref (la 3)), (2, .ref (la 9)), (3, .ref (la 10)), (4, .int (nI zn))]) hx hb dL_areMinima_206 hl (by decide) rfl (fun ls hl => ?_)
                                rw [cnt_y hlb9 (Or.inr ⟨c_190, Int32.not_le.mp c_197⟩)] at eq206
                                subst eq206
                                obtain ⟨q208, eq208⟩ : ∃ y : Int32, y = (nI j8) + 1 := ⟨_, rfl⟩
                                refine lv_iinc (v := q208) (lv' := [(14, .int q208), (11, .int (cntN (mnA μ (μ 3 k9)) (sp_mt μ) k8 (j8 + 1))), (15, .int (sp_mt μ j8)), (12, .int (sp_mt μ k8)), (13, .int 0), (8, .int (nI (ladL (mnA μ (μ 3 k9)) k8).length)), (10, .int (nI k8)), (9, .ref d9), (5, .int 1), (6, .int (nI pd9)), (7, .int (nI k9)), (0, .ref ho), (1, .ref (la 3)), (2, .ref (la 9)), (3, .ref (la 10)), (4, .int (nI zn))]) hx hb dL_areMinima_208 hl (k := 2) rfl (by rw [eq208]; rfl) (by decide) rfl (fun ls hl => ?_)
                                rw [nI_1] at eq208
                                subst eq208
                                refine lv_goto (tgt := 116) hx hb dL_areMinima_211 (by decide) ?_
                                exact ih7 (j8 + 1) (by omega) (by omega) _ hS _ (lv_sub hl [1, 0, 3, 4, 5, 6, 7, 8, 9, 10, 11, 12, 13, 14, 15] rfl)
                  exact L116 (cn 29 + 1) 0 (by omega) (by omega) _ hS _ (lv_sub hl [3, 0, 2, 1, 4, 5, 6, 7, 8, 9, 10, 11, 12, 13, 14] rfl)
                · have hbiu : ms.testBit sk = true ↔ μ 3 (ix (μ 30 k8)) = μ 3 k9 := by
                    rw [hesk, ix_nI (by omega), hm.2 sk (by omega)]
                    exact ⟨fun h => h.2.resolve_right (ent_ne hI hn1 sk hsk), fun h => ⟨hsk, Or.inl h⟩⟩
                  have hla : ¬ mnA μ (μ 3 k9) k8 = 0 := by
                    rw [mnA_y (hbiu.mp (bit_y1 ebt c_103))]; decide
                  refine lv_iconst (v := 1) hx hb dL_areMinima_106 (by decide) ?_
                  refine lv_goto (tgt := 111) hx hb dL_areMinima_107 (by decide) ?_
                  refine lv_istore (lv' := [(13, .int 1), (12, .int (sp_mt μ k8)), (11, .int 0), (8, .int (nI (ladL (mnA μ (μ 3 k9)) k8).length)), (10, .int (nI k8)), (9, .ref d9), (5, .int 1), (6, .int (nI pd9)), (7, .int (nI k9)), (0, .ref ho), (1, .ref (la 3)), (2, .ref (la 9)), (3, .ref (la 10)), (4, .int (nI zn))]) hx hb dL_areMinima_111 hl (by decide) rfl (fun ls hl => ?_)
                  refine lv_iconst (v := 0) hx hb dL_areMinima_113 (by decide) ?_
                  refine lv_istore (lv' := [(14, .int 0), (13, .int 1), (12, .int (sp_mt μ k8)), (11, .int 0), (8, .int (nI (ladL (mnA μ (μ 3 k9)) k8).length)), (10, .int (nI k8)), (9, .ref d9), (5, .int 1), (6, .int (nI pd9)), (7, .int (nI k9)), (0, .ref ho), (1, .ref (la 3)), (2, .ref (la 9)), (3, .ref (la 10)), (4, .int (nI zn))]) hx hb dL_areMinima_114 hl (by decide) rfl (fun ls hl => ?_)
                  have L116 : ∀ (n7 : Nat) (j8 : Nat), cn 29 + 1 ≤ j8 + n7 → j8 ≤ cn 29 → ∀ (locs116 : List Loc), va_S (fun q => Z q) s.heap H locs116 → ∀ (ls : Array Slot), lv_has ls 16 [(11, .int (cntN (mnA μ (μ 3 k9)) (sp_mt μ) k8 j8)), (14, .int (nI j8)), (12, .int (sp_mt μ k8)), (13, .int 1), (8, .int (nI (ladL (mnA μ (μ 3 k9)) k8).length)), (10, .int (nI k8)), (9, .ref d9), (5, .int 1), (6, .int (nI pd9)), (7, .int (nI k9)), (0, .ref ho), (1, .ref (la 3)), (2, .ref (la 9)), (3, .ref (la 10)), (4, .int (nI zn))] → W p l e rmL_areMinima s m args below meth c H locs116 (220 * k9 + 1) (11000 * k9 + 10) Q (F0 m 116 ls []) := by
                    intro n7
                    induction n7 with
                    | zero =>
                      intro j8 hm7 hj8 locs116 hS ls hl
                      exact absurd hm7 (by omega)
                    | succ n7 ih7 =>
                      intro j8 hm7 hj8 locs116 hS ls hl
                      refine lv_iload hx hb dL_areMinima_116 (lv_at hl 1 rfl) ?_
                      refine lv_aload_n hx hb dL_areMinima_118 rfl (lv_at hl 13 rfl) ?_
                      refine lv_iconst (v := 4) hx hb dL_areMinima_119 (by decide) ?_
                      refine hk_ild X K hL.c10 (show vp_in (nI 4) 6 from vp_in_nI (by decide) (by decide)) dL_areMinima_120 ?_
                      rw [show (V 10) (4 : Int32).toNatClampNeg = nI (cn 29) from hV.g4]
                      refine lv_icmp_ge (tgt := 214) hx hb dL_areMinima_121 (by decide) (fun c_121 => ?_) (fun c_121 => ?_)
                      · have hj8 : j8 = cn 29 := by
                          have := (nI_leI (by omega) (by omega)).mp c_121
                          omega
                        rw [hj8, rk_cnt (by omega) (by omega)] at hl
                        have hll := ladL_le (a := mnA μ (μ 3 k9)) (cn 29)
                        refine lv_aload hx hb dL_areMinima_214 (lv_at hl 6 rfl) ?_
                        refine lv_iload hx hb dL_areMinima_216 (lv_at hl 3 rfl) ?_
                        refine lv_if_eq (tgt := 226) hx hb dL_areMinima_218 (by decide) (fun c_218 => ?_) (fun c_218 => ?_)
                        · exact absurd c_218 (by decide)
                        · refine lv_iload hx hb dL_areMinima_221 (lv_at hl 0 rfl) ?_
                          refine lv_goto (tgt := 228) hx hb dL_areMinima_223 (by decide) ?_
                          refine lv_iload hx hb dL_areMinima_228 (lv_at hl 2 rfl) ?_
                          have hrk := (rk_lt (b := (sp_mt μ)) hk8 hla).1
                          refine hk_ist X K hD hS hZd (vp_in_nI (by omega) (by omega)) dL_areMinima_230 (fun H49 locsH49 hIH49 hzH49 hqH49 hS => ?_)
                          rw [nI_clamp (show (rkN (mnA μ (μ 3 k9)) (sp_mt μ) (cn 29) k8) < 2 ^ 31 by omega)] at hIH49
                          have hD := hIH49
                          have hL := hL.kept (fun k hk => hqH49 (la k) (hld k hk))
                          have hW := hW.kept (fun q h1 h2 => hqH49 q (fun g => h2.elim (fun h => h.2 g) (fun h => h (by rw [g]; exact hdA))))
                          have hdI := dI_y hdI hk8 hla
                          have hZn : ∀ q, H49.size ≤ q → Z q ∧ q ≠ d9 := fun q h => hZn q (by omega)
                          refine lv_iload hx hb dL_areMinima_231 (lv_at hl 4 rfl) ?_
                          refine lv_iload hx hb dL_areMinima_233 (lv_at hl 3 rfl) ?_
                          refine lv_if_eq (tgt := 242) hx hb dL_areMinima_235 (by decide) (fun c_235 => ?_) (fun c_235 => ?_)
                          · exact absurd c_235 (by decide)
                          · refine lv_iconst (v := 1) hx hb dL_areMinima_238 (by decide) ?_
                            refine lv_goto (tgt := 243) hx hb dL_areMinima_239 (by decide) ?_
                            refine lv_iadd hx hb dL_areMinima_243 ?_
                            refine lv_topi (fun q244 eq244 => ?_)
                            refine lv_istore (lv' := [(8, .int q244), (11, .int (nI (rkN (mnA μ (μ 3 k9)) (sp_mt μ) (cn 29) k8))), (14, .int (nI (cn 29))), (12, .int (sp_mt μ k8)), (13, .int 1), (10, .int (nI k8)), (9, .ref d9), (5, .int 1), (6, .int (nI pd9)), (7, .int (nI k9)), (0, .ref ho), (1, .ref (la 3)), (2, .ref (la 9)), (3, .ref (la 10)), (4, .int (nI zn))]) hx hb dL_areMinima_244 hl (by decide) rfl (fun ls hl => ?_)
                            rw [lad_y hla] at eq244
                            subst eq244
                            obtain ⟨q246, eq246⟩ : ∃ y : Int32, y = (nI k8) + 1 := ⟨_, rfl⟩
                            refine lv_iinc (v := q246) (lv' := [(10, .int q246), (8, .int (nI (ladL (mnA μ (μ 3 k9)) (k8 + 1)).length)), (11, .int (nI (rkN (mnA μ (μ 3 k9)) (sp_mt μ) (cn 29) k8))), (14, .int (nI (cn 29))), (12, .int (sp_mt μ k8)), (13, .int 1), (9, .ref d9), (5, .int 1), (6, .int (nI pd9)), (7, .int (nI k9)), (0, .ref ho), (1, .ref (la 3)), (2, .ref (la 9)), (3, .ref (la 10)), (4, .int (nI zn))]) hx hb dL_areMinima_246 hl (k := 5) rfl (by rw [eq246]; rfl) (by decide) rfl (fun ls hl => ?_)
                            rw [nI_1] at eq246
                            subst eq246
                            refine lv_goto (tgt := 42) hx hb dL_areMinima_249 (by decide) ?_
                            exact ih8 (k8 + 1) _ _ _ (by omega) ⟨hS, hW, hL, hD, by omega, hZn, by omega, hdI⟩ _ (lv_sub hl [1, 0, 6, 7, 8, 9, 10, 11, 12, 13, 14] rfl)
                      · have hj8 : j8 < cn 29 := Nat.lt_of_not_le (fun h => c_121 (nI_le h (by omega)))
                        have hmkv : V 9 (2 * j8) = μ 30 j8 ∧ V 9 (2 * j8 + 1) = μ 31 j8 := hV.m hj8
                        have hmiv : isS (cn 1) (μ 30 j8) ∧ inr (μ 31 j8) 0 9999999 := hI.1.2.2.2.2.2.2.2 j8 hj8
                        obtain ⟨sj, hsj, hesj⟩ := isS_ix (by omega) hmiv.1
                        refine lv_aload_n hx hb dL_areMinima_124 rfl (lv_at hl 12 rfl) ?_
                        refine lv_iconst (v := 2) hx hb dL_areMinima_125 (by decide) ?_
                        refine lv_iload hx hb dL_areMinima_126 (lv_at hl 1 rfl) ?_
                        refine lv_imul hx hb dL_areMinima_128 ?_
                        refine lv_topi (fun z_50 ez_50 => ?_)
                        have ez_50 : z_50 = nI (2 * j8) := ez_50.trans (nI_mul 2 j8)
                        subst ez_50
                        refine lv_iconst (v := 1) hx hb dL_areMinima_129 (by decide) ?_
                        refine lv_iadd hx hb dL_areMinima_130 ?_
                        refine lv_topi (fun z_51 ez_51 => ?_)
                        have ez_51 : z_51 = nI ((2 * j8) + 1) := ez_51.trans (nI_add (2 * j8) 1)
                        subst ez_51
                        refine hk_ild X K hL.c9 (vp_in_nI (by omega) (by omega)) dL_areMinima_131 ?_
                        rw [show (V 9) (nI ((2 * j8) + 1)).toNatClampNeg = μ 31 j8 from (congrArg (V 9) (nI_clamp (show 2 * j8 + 1 < 2 ^ 31 by omega))).trans hmkv.2]
                        refine lv_aload_n hx hb dL_areMinima_132 rfl (lv_at hl 12 rfl) ?_
                        refine lv_iconst (v := 2) hx hb dL_areMinima_133 (by decide) ?_
                        refine lv_iload hx hb dL_areMinima_134 (lv_at hl 1 rfl) ?_
                        refine lv_imul hx hb dL_areMinima_136 ?_
                        refine lv_topi (fun z_52 ez_52 => ?_)
                        have ez_52 : z_52 = nI (2 * j8) := ez_52.trans (nI_mul 2 j8)
                        subst ez_52
                        refine lv_iconst (v := 1) hx hb dL_areMinima_137 (by decide) ?_
                        refine lv_iadd hx hb dL_areMinima_138 ?_
                        refine lv_topi (fun z_53 ez_53 => ?_)
                        have ez_53 : z_53 = nI ((2 * j8) + 1) := ez_53.trans (nI_add (2 * j8) 1)
                        subst ez_53
                        refine hk_ild X K hL.c9 (vp_in_nI (by omega) (by omega)) dL_areMinima_139 ?_
                        rw [show (V 9) (nI ((2 * j8) + 1)).toNatClampNeg = μ 31 j8 from (congrArg (V 9) (nI_clamp (show 2 * j8 + 1 < 2 ^ 31 by omega))).trans hmkv.2]
                        refine lv_aload_n hx hb dL_areMinima_140 rfl (lv_at hl 11 rfl) ?_
                        refine lv_iconst (v := 4) hx hb dL_areMinima_141 (by decide) ?_
                        refine lv_aload_n hx hb dL_areMinima_142 rfl (lv_at hl 12 rfl) ?_
                        refine lv_iconst (v := 2) hx hb dL_areMinima_143 (by decide) ?_
                        refine lv_iload hx hb dL_areMinima_144 (lv_at hl 1 rfl) ?_
                        refine lv_imul hx hb dL_areMinima_146 ?_
                        refine lv_topi (fun z_54 ez_54 => ?_)
                        have ez_54 : z_54 = nI (2 * j8) := ez_54.trans (nI_mul 2 j8)
                        subst ez_54
                        refine hk_ild X K hL.c9 (vp_in_nI (by omega) (by omega)) dL_areMinima_147 ?_
                        rw [show (V 9) (nI (2 * j8)).toNatClampNeg = nI sj from ((congrArg (V 9) (nI_clamp (show 2 * j8 < 2 ^ 31 by omega))).trans hmkv.1).trans hesj]
                        refine lv_imul hx hb dL_areMinima_148 ?_
                        refine lv_topi (fun z_55 ez_55 => ?_)
                        have ez_55 : z_55 = nI (4 * sj) := ez_55.trans (nI_mul 4 sj)
                        subst ez_55
                        refine hk_ild X K hL.c3 (vp_in_nI (by omega) (by omega)) dL_areMinima_149 ?_
                        rw [show (V 3) (nI (4 * sj)).toNatClampNeg = V 3 (4 * sj) from by rw [nI_clamp (show (4 * sj) < 2 ^ 31 by omega)]]
                        refine hk_callS 2 (As := [.int (μ 31 j8), .int (V 3 (4 * sj))]) (rest := [.int (μ 31 j8)]) X K hAE hS hl.1 (c_L_late E l H (μ 31 j8) (V 3 (4 * sj))) (fun _ h => h.elim) gL_areMinima_L_late rfl hd_L_late rfl ⟨⟨(Nat.le_of_ble_eq_true rfl), (Nat.le_of_ble_eq_true rfl)⟩, (by show 220 * k9 + 1 + 0 ≤ 900; omega), (by show 11000 * k9 + 10 + 0 ≤ 45000; omega)⟩ rfl (Nat.le_of_ble_eq_true rfl) dL_areMinima_150 (fun v9 H56 locsH56 hp hS hzH56 hkH56 => ?_)
                        obtain ⟨hv, hh⟩ := hp
                        subst hv; subst hh
                        refine lv_iadd hx hb dL_areMinima_153 ?_
                        refine lv_topi (fun x154 ex154 => ?_)
                        refine lv_istore (lv' := [(15, .int x154), (11, .int (cntN (mnA μ (μ 3 k9)) (sp_mt μ) k8 j8)), (14, .int (nI j8)), (12, .int (sp_mt μ k8)), (13, .int 1), (8, .int (nI (ladL (mnA μ (μ 3 k9)) k8).length)), (10, .int (nI k8)), (9, .ref d9), (5, .int 1), (6, .int (nI pd9)), (7, .int (nI k9)), (0, .ref ho), (1, .ref (la 3)), (2, .ref (la 9)), (3, .ref (la 10)), (4, .int (nI zn))]) hx hb dL_areMinima_154 hl (by decide) rfl (fun ls hl => ?_)
                        rw [mt_at (v := V 3 (4 * sj)) hesj (by omega) (hV.a0 hsj) hmiv.2 (hI.1.2.2.1 sj hsj).1] at ex154
                        subst ex154
                        refine lv_iload hx hb dL_areMinima_156 (lv_at hl 1 rfl) ?_
                        refine lv_aload_n hx hb dL_areMinima_158 rfl (lv_at hl 12 rfl) ?_
                        refine lv_iconst (v := 4) hx hb dL_areMinima_159 (by decide) ?_
                        refine lv_iload hx hb dL_areMinima_160 (lv_at hl 10 rfl) ?_
                        refine lv_imul hx hb dL_areMinima_162 ?_
                        refine lv_topi (fun z_57 ez_57 => ?_)
                        have ez_57 : z_57 = nI (4 * k9) := ez_57.trans (nI_mul 4 k9)
                        subst ez_57
                        refine lv_iconst (v := 1) hx hb dL_areMinima_163 (by decide) ?_
                        refine lv_iadd hx hb dL_areMinima_164 ?_
                        refine lv_topi (fun z_58 ez_58 => ?_)
                        have ez_58 : z_58 = nI ((4 * k9) + 1) := ez_58.trans (nI_add (4 * k9) 1)
                        subst ez_58
                        refine hk_ild X K hL.c3 (vp_in_nI (by omega) (by omega)) dL_areMinima_165 ?_
                        rw [show (V 3) (nI ((4 * k9) + 1)).toNatClampNeg = nI ms from (congrArg (V 3) (nI_clamp (show 4 * k9 + 1 < 2 ^ 31 by omega))).trans hms]
                        refine lv_aload_n hx hb dL_areMinima_166 rfl (lv_at hl 13 rfl) ?_
                        refine lv_iconst (v := 2) hx hb dL_areMinima_167 (by decide) ?_
                        refine lv_iload hx hb dL_areMinima_168 (lv_at hl 2 rfl) ?_
                        refine lv_imul hx hb dL_areMinima_170 ?_
                        refine lv_topi (fun z_59 ez_59 => ?_)
                        have ez_59 : z_59 = nI (2 * j8) := ez_59.trans (nI_mul 2 j8)
                        subst ez_59
                        refine hk_ild X K hL.c9 (vp_in_nI (by omega) (by omega)) dL_areMinima_171 ?_
                        rw [show (V 9) (nI (2 * j8)).toNatClampNeg = nI sj from ((congrArg (V 9) (nI_clamp (show 2 * j8 < 2 ^ 31 by omega))).trans hmkv.1).trans hesj]
                        refine lv_ishr hx hb dL_areMinima_172 ?_
                        refine lv_iconst (v := 1) hx hb dL_areMinima_173 (by decide) ?_
                        refine lv_iand hx hb dL_areMinima_174 ?_
                        refine lv_topi (fun bu ebu => ?_)
                        rw [l_bit ms hm.1 sj (by omega)] at ebu
                        refine lv_iconst (v := 1) hx hb dL_areMinima_175 (by decide) ?_
                        refine lv_icmp_ne (tgt := 204) hx hb dL_areMinima_176 (by decide) (fun c_176 => ?_) (fun c_176 => ?_)
                        · have hbiv : ms.testBit sj = true ↔ μ 3 (ix (μ 30 j8)) = μ 3 k9 := by
                            rw [hesj, ix_nI (by omega), hm.2 sj (by omega)]
                            exact ⟨fun h => h.2.resolve_right (ent_ne hI hn1 sj hsj), fun h => ⟨hsj, Or.inl h⟩⟩
                          have hlb9 : mnA μ (μ 3 k9) j8 = 0 := mnA_n (fun h => bit_n1 ebu c_176 (hbiv.mpr h))
                          refine lv_iconst (v := 0) hx hb dL_areMinima_204 (by decide) ?_
                          refine lv_iadd hx hb dL_areMinima_205 ?_
                          refine lv_topi (fun q206 eq206 => ?_)
                          refine lv_istore (lv' := [(11, .int q206), (15, .int (sp_mt μ j8)), (14, .int (nI j8)), (12, .int (sp_mt μ k8)), (13, .int 1), (8, .int (nI (ladL (mnA μ (μ 3 k9)) k8).length)), (10, .int (nI k8)), (9, .ref d9), (5, .int 1), (6, .int (nI pd9)), (7, .int (nI k9)), (0, .ref ho), (1, .ref (la 3)), (2, .ref (la 9)), (3, .ref (la 10)), (4, .int (nI zn))]) hx hb dL_areMinima_206 hl (by decide) rfl (fun ls hl => ?_)
                          rw [cnt_n (Or.inl hlb9)] at eq206
                          subst eq206
                          obtain ⟨q208, eq208⟩ : ∃ y : Int32, y = (nI j8) + 1 := ⟨_, rfl⟩
                          refine lv_iinc (v := q208) (lv' := [(14, .int q208), (11, .int (cntN (mnA μ (μ 3 k9)) (sp_mt μ) k8 (j8 + 1))), (15, .int (sp_mt μ j8)), (12, .int (sp_mt μ k8)), (13, .int 1), (8, .int (nI (ladL (mnA μ (μ 3 k9)) k8).length)), (10, .int (nI k8)), (9, .ref d9), (5, .int 1), (6, .int (nI pd9)), (7, .int (nI k9)), (0, .ref ho), (1, .ref (la 3)), (2, .ref (la 9)), (3, .ref (la 10)), (4, .int (nI zn))]) hx hb dL_areMinima_208 hl (k := 2) rfl (by rw [eq208]; rfl) (by decide) rfl (fun ls hl => ?_)
                          rw [nI_1] at eq208
                          subst eq208
                          refine lv_goto (tgt := 116) hx hb dL_areMinima_211 (by decide) ?_
                          exact ih7 (j8 + 1) (by omega) (by omega) _ hS _ (lv_sub hl [1, 0, 3, 4, 5, 6, 7, 8, 9, 10, 11, 12, 13, 14, 15] rfl)
                        · have hbiv : ms.testBit sj = true ↔ μ 3 (ix (μ 30 j8)) = μ 3 k9 := by
                            rw [hesj, ix_nI (by omega), hm.2 sj (by omega)]
                            exact ⟨fun h => h.2.resolve_right (ent_ne hI hn1 sj hsj), fun h => ⟨hsj, Or.inl h⟩⟩
                          have hlb9 : ¬ mnA μ (μ 3 k9) j8 = 0 := by
                            rw [mnA_y (hbiv.mp (bit_y1 ebu c_176))]; decide
                          refine lv_iload hx hb dL_areMinima_179 (lv_at hl 0 rfl) ?_
                          refine lv_iload hx hb dL_areMinima_181 (lv_at hl 3 rfl) ?_
                          refine lv_icmp_lt (tgt := 200) hx hb dL_areMinima_183 (by decide) (fun c_183 => ?_) (fun c_183 => ?_)
                          · refine lv_iconst (v := 1) hx hb dL_areMinima_200 (by decide) ?_
                            refine lv_goto (tgt := 205) hx hb dL_areMinima_201 (by decide) ?_
                            refine lv_iadd hx hb dL_areMinima_205 ?_
                            refine lv_topi (fun q206 eq206 => ?_)
                            refine lv_istore (lv' := [(11, .int q206), (15, .int (sp_mt μ j8)), (14, .int (nI j8)), (12, .int (sp_mt μ k8)), (13, .int 1), (8, .int (nI (ladL (mnA μ (μ 3 k9)) k8).length)), (10, .int (nI k8)), (9, .ref d9), (5, .int 1), (6, .int (nI pd9)), (7, .int (nI k9)), (0, .ref ho), (1, .ref (la 3)), (2, .ref (la 9)), (3, .ref (la 10)), (4, .int (nI zn))]) hx hb dL_areMinima_206 hl (by decide) rfl (fun ls hl => ?_)
                            rw [cnt_y hlb9 (Or.inl c_183)] at eq206
                            subst eq206
                            obtain ⟨q208, eq208⟩ : ∃ y : Int32, y = (nI j8) + 1 := ⟨_, rfl⟩
                            refine lv_iinc (v := q208) (lv' := [(14, .int q208), (11, .int (cntN (mnA μ (μ 3 k9)) (sp_mt μ) k8 (j8 + 1))), (15, .int (sp_mt μ j8)), (12, .int (sp_mt μ k8)), (13, .int 1), (8, .int (nI (ladL (mnA μ (μ 3 k9)) k8).length)), (10, .int (nI k8)), (9, .ref d9), (5, .int 1), (6, .int (nI pd9)), (7, .int (nI k9)), (0, .ref ho), (1, .ref (la 3)), (2, .ref (la 9)), (3, .ref (la 10)), (4, .int (nI zn))]) hx hb dL_areMinima_208 hl (k := 2) rfl (by rw [eq208]; rfl) (by decide) rfl (fun ls hl => ?_)
                            rw [nI_1] at eq208
                            subst eq208
                            refine lv_goto (tgt := 116) hx hb dL_areMinima_211 (by decide) ?_
                            exact ih7 (j8 + 1) (by omega) (by omega) _ hS _ (lv_sub hl [1, 0, 3, 4, 5, 6, 7, 8, 9, 10, 11, 12, 13, 14, 15] rfl)
                          · refine lv_iload hx hb dL_areMinima_186 (lv_at hl 0 rfl) ?_
                            refine lv_iload hx hb dL_areMinima_188 (lv_at hl 3 rfl) ?_
                            refine lv_icmp_ne (tgt := 204) hx hb dL_areMinima_190 (by decide) (fun c_190 => ?_) (fun c_190 => ?_)
                            · refine lv_iconst (v := 0) hx hb dL_areMinima_204 (by decide) ?_
                              refine lv_iadd hx hb dL_areMinima_205 ?_
                              refine lv_topi (fun q206 eq206 => ?_)
                              refine lv_istore (lv' := [(11, .int q206), (15, .int (sp_mt μ j8)), (14, .int (nI j8)), (12, .int (sp_mt μ k8)), (13, .int 1), (8, .int (nI (ladL (mnA μ (μ 3 k9)) k8).length)), (10, .int (nI k8)), (9, .ref d9), (5, .int 1), (6, .int (nI pd9)), (7, .int (nI k9)), (0, .ref ho), (1, .ref (la 3)), (2, .ref (la 9)), (3, .ref (la 10)), (4, .int (nI zn))]) hx hb dL_areMinima_206 hl (by decide) rfl (fun ls hl => ?_)
                              rw [cnt_n (Or.inr (fun g => g.elim c_183 (fun g => c_190 g.1)))] at eq206
                              subst eq206
                              obtain ⟨q208, eq208⟩ : ∃ y : Int32, y = (nI j8) + 1 := ⟨_, rfl⟩
                              refine lv_iinc (v := q208) (lv' := [(14, .int q208), (11, .int (cntN (mnA μ (μ 3 k9)) (sp_mt μ) k8 (j8 + 1))), (15, .int (sp_mt μ j8)), (12, .int (sp_mt μ k8)), (13, .int 1), (8, .int (nI (ladL (mnA μ (μ 3 k9)) k8).length)), (10, .int (nI k8)), (9, .ref d9), (5, .int 1), (6, .int (nI pd9)), (7, .int (nI k9)), (0, .ref ho), (1, .ref (la 3)), (2, .ref (la 9)), (3, .ref (la 10)), (4, .int (nI zn))]) hx hb dL_areMinima_208 hl (k := 2) rfl (by rw [eq208]; rfl) (by decide) rfl (fun ls hl => ?_)
                              rw [nI_1] at eq208
                              subst eq208
                              refine lv_goto (tgt := 116) hx hb dL_areMinima_211 (by decide) ?_
                              exact ih7 (j8 + 1) (by omega) (by omega) _ hS _ (lv_sub hl [1, 0, 3, 4, 5, 6, 7, 8, 9, 10, 11, 12, 13, 14, 15] rfl)
                            · refine lv_iload hx hb dL_areMinima_193 (lv_at hl 2 rfl) ?_
                              refine lv_iload hx hb dL_areMinima_195 (lv_at hl 6 rfl) ?_
                              refine lv_icmp_ge (tgt := 204) hx hb dL_areMinima_197 (by decide) (fun c_197 => ?_) (fun c_197 => ?_)
                              · refine lv_iconst (v := 0) hx hb dL_areMinima_204 (by decide) ?_
                                refine lv_iadd hx hb dL_areMinima_205 ?_
                                refine lv_topi (fun q206 eq206 => ?_)
                                refine lv_istore (lv' := [(11, .int q206), (15, .int (sp_mt μ j8)), (14, .int (nI j8)), (12, .int (sp_mt μ k8)), (13, .int 1), (8, .int (nI (ladL (mnA μ (μ 3 k9)) k8).length)), (10, .int (nI k8)), (9, .ref d9), (5, .int 1), (6, .int (nI pd9)), (7, .int (nI k9)), (0, .ref ho), (1, .ref (la 3)), (2, .ref (la 9)), (3, .ref (la 10)), (4, .int (nI zn))]) hx hb dL_areMinima_206 hl (by decide) rfl (fun ls hl => ?_)
                                rw [cnt_n (Or.inr (fun g => g.elim c_183 (fun g => absurd g.2 (Int32.not_lt.mpr c_197))))] at eq206
                                subst eq206
                                obtain ⟨q208, eq208⟩ : ∃ y : Int32, y = (nI j8) + 1 := ⟨_, rfl⟩
                                refine lv_iinc (v := q208) (lv' := [(14, .int q208), (11, .int (cntN (mnA μ (μ 3 k9)) (sp_mt μ) k8 (j8 + 1))), (15, .int (sp_mt μ j8)), (12, .int (sp_mt μ k8)), (13, .int 1), (8, .int (nI (ladL (mnA μ (μ 3 k9)) k8).length)), (10, .int (nI k8)), (9, .ref d9), (5, .int 1), (6, .int (nI pd9)), (7, .int (nI k9)), (0, .ref ho), (1, .ref (la 3)), (2, .ref (la 9)), (3, .ref (la 10)), (4, .int (nI zn))]) hx hb dL_areMinima_208 hl (k := 2) rfl (by rw [eq208]; rfl) (by decide) rfl (fun ls hl => ?_)
                                rw [nI_1] at eq208
                                subst eq208
                                refine lv_goto (tgt := 116) hx hb dL_areMinima_211 (by decide) ?_
                                exact ih7 (j8 + 1) (by omega) (by omega) _ hS _ (lv_sub hl [1, 0, 3, 4, 5, 6, 7, 8, 9, 10, 11, 12, 13, 14, 15] rfl)
                              · refine lv_iconst (v := 1) hx hb dL_areMinima_200 (by decide) ?_
                                refine lv_goto (tgt := 205) hx hb dL_areMinima_201 (by decide) ?_
                                refine lv_iadd hx hb dL_areMinima_205 ?_
                                refine lv_topi (fun q206 eq206 => ?_)
                                refine lv_istore (lv' := [(11, .int q206), (15, .int (sp_mt μ j8)), (14, .int (nI j8)), (12, .int (sp_mt μ k8)), (13, .int 1), (8, .int (nI (ladL (mnA μ (μ 3 k9)) k8).length)), (10, .int (nI k8)), (9, .ref d9), (5, .int 1), (6, .int (nI pd9)), (7, .int (nI k9)), (0, .ref ho), (1, .ref (la 3)), (2, .ref (la 9)), (3, .ref (la 10)), (4, .int (nI zn))]) hx hb dL_areMinima_206 hl (by decide) rfl (fun ls hl => ?_)
                                rw [cnt_y hlb9 (Or.inr ⟨c_190, Int32.not_le.mp c_197⟩)] at eq206
                                subst eq206
                                obtain ⟨q208, eq208⟩ : ∃ y : Int32, y = (nI j8) + 1 := ⟨_, rfl⟩
                                refine lv_iinc (v := q208) (lv' := [(14, .int q208), (11, .int (cntN (mnA μ (μ 3 k9)) (sp_mt μ) k8 (j8 + 1))), (15, .int (sp_mt μ j8)), (12, .int (sp_mt μ k8)), (13, .int 1), (8, .int (nI (ladL (mnA μ (μ 3 k9)) k8).length)), (10, .int (nI k8)), (9, .ref d9), (5, .int 1), (6, .int (nI pd9)), (7, .int (nI k9)), (0, .ref ho), (1, .ref (la 3)), (2, .ref (la 9)), (3, .ref (la 10)), (4, .int (nI zn))]) hx hb dL_areMinima_208 hl (k := 2) rfl (by rw [eq208]; rfl) (by decide) rfl (fun ls hl => ?_)
                                rw [nI_1] at eq208
                                subst eq208
                                refine lv_goto (tgt := 116) hx hb dL_areMinima_211 (by decide) ?_
                                exact ih7 (j8 + 1) (by omega) (by omega) _ hS _ (lv_sub hl [1, 0, 3, 4, 5, 6, 7, 8, 9, 10, 11, 12, 13, 14, 15] rfl)
                  exact L116 (cn 29 + 1) 0 (by omega) (by omega) _ hS _ (lv_sub hl [3, 0, 2, 1, 4, 5, 6, 7, 8, 9, 10, 11, 12, 13, 14] rfl)
          exact L42 (cn 29 + 1) 0 _ _ (fun _ => 0) (by omega) ⟨hS, hW, hL, hD, by omega, hZn, by omega, fun j hj => absurd hj (Nat.not_lt_zero _)⟩ _ (lv_sub hl [2, 0, 1, 3, 4, 5, 6, 7, 8, 9, 10] rfl)
  exact L17 (cn 1 + 1) 0 H0 _ G R (by omega) ⟨hS, hW, hL, hZn, by omega⟩ _ (lv_sub hl [2, 1, 0, 3, 4, 5, 6, 7] rfl)

