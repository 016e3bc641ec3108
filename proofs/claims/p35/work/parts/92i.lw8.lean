theorem hd_L_modulus : yL_modulus.cls ≠ "java/lang/invoke/MethodHandle" ∧ yL_modulus.cls ≠ "java/lang/invoke/VarHandle" ∧ (parseMethodDescriptor yL_modulus.desc).map (fun d => d.parameters.length) = some 5 := ⟨by decide, by decide, by decide +kernel⟩
theorem hd_X10_nearest : yX10_nearest.cls ≠ "java/lang/invoke/MethodHandle" ∧ yX10_nearest.cls ≠ "java/lang/invoke/VarHandle" ∧ (parseMethodDescriptor yX10_nearest.desc).map (fun d => d.parameters.length) = some 1 := ⟨by decide, by decide, by decide +kernel⟩
abbrev rmL_areNear : Room := { frames := 11, cells := 60, slots := 3000, locals := 203 }
set_option maxHeartbeats 4000000 in
set_option maxRecDepth 100000 in
theorem c_L_areNear (E : hk_E) (l : Launch) (hl9 : l.stackTraces = false) (H0 : Heap) {Z : Nat → Prop} {ho ts : Nat} {li : Nat → Nat} {rr : Nat → Nat → Nat} {G : hG} {R : hR} {la : Nat → Nat} {V : Nat → Nat → Int32} {cn : Nat → Nat} {sc : Nat → Int32} {μ : Nat → Nat → Int32} (hW : HW E Z (ho, li, rr, ts) G R (cn, sc, μ) H0) (hL : LW E la V H0) (hV : LV (cn, sc, μ) V) (hI : InvF (cn, sc, μ)) (hX : LXY (cn, sc, μ) V) (hZn : ∀ q, H0.size ≤ q → Z q) (hlz : ∀ k, k < 13 → ¬ Z (la k))  : hk_X E l yL_areNear wsL_areNear rmL_areNear (fun q => Z q) [.ref ho, .ref (la 3), .ref (la 5), .ref (la 10), .ref (la 11)] H0 (dpost E Z (ho, li, rr, ts) 1 (cn, sc, μ)) (fun _ _ => False) := by
  refine hk_X.ofW (cc := cL_areNear) (maxL := 16) (ret := (some .boolean)) (by decide +kernel) rfl (Nat.le_of_ble_eq_true rfl) ?_
  intro p e s m args below meth c ls Q hQ X hr hlk hx9 K hs9 hS hl
  obtain ⟨hx, hb, hml, hown, hts⟩ := id X
  have hAE : ∀ q, (fun q => Z q) q → hk_A E q := fun q h => hW.2.2.2.2.2.2.2.2.2.2.2.2 q h
  have hl : lv_has ls 16 [(0, .ref ho), (1, .ref (la 3)), (2, .ref (la 5)), (3, .ref (la 10)), (4, .ref (la 11))] := hl
  have hn1 : cn 1 ≤ 4 := hV.n1
  have hn8 : cn 8 ≤ 3 := hV.n8
  have hn12 : cn 12 ≤ 24 := hV.n12
  have hn22 : cn 22 ≤ 4 := hV.n22
  have hn29 : cn 29 ≤ 8 := hV.n29
  refine lv_iconst (v := 1) hx hb dL_areNear_0 (by decide) ?_
  refine lv_istore (lv' := [(5, .int 1), (0, .ref ho), (1, .ref (la 3)), (2, .ref (la 5)), (3, .ref (la 10)), (4, .ref (la 11))]) hx hb dL_areNear_1 hl (by decide) rfl (fun ls hl => ?_)
  refine lv_iconst (v := 0) hx hb dL_areNear_3 (by decide) ?_
  refine lv_istore (lv' := [(6, .int 0), (5, .int 1), (0, .ref ho), (1, .ref (la 3)), (2, .ref (la 5)), (3, .ref (la 10)), (4, .ref (la 11))]) hx hb dL_areNear_4 hl (by decide) rfl (fun ls hl => ?_)
  refine lv_iconst (v := 0) hx hb dL_areNear_6 (by decide) ?_
  refine lv_istore (lv' := [(7, .int 0), (6, .int 0), (5, .int 1), (0, .ref ho), (1, .ref (la 3)), (2, .ref (la 5)), (3, .ref (la 10)), (4, .ref (la 11))]) hx hb dL_areNear_7 hl (by decide) rfl (fun ls hl => ?_)
  have L9 : ∀ (n9 : Nat) (k9 : Nat) (H : Heap) (locs : List Loc) (G : hG) (R : hR), cn 1 + 1 ≤ k9 + n9 → (va_S (fun q => Z q) s.heap H locs ∧ HW E Z (ho, li, rr, ts) G R (cn, sc, μ) H ∧ LW E la V H ∧ (∀ q, H.size ≤ q → Z q) ∧ k9 ≤ cn 1) → ∀ (ls : Array Slot), lv_has ls 16 [(5, .int 1), (6, .int (nI (ladL (laidS (cn, sc, μ)) k9).length)), (7, .int (nI k9)), (0, .ref ho), (1, .ref (la 3)), (2, .ref (la 5)), (3, .ref (la 10)), (4, .ref (la 11))] → W p l e rmL_areNear s m args below meth c H locs (8 * k9) (400 * k9) Q (F0 m 9 ls []) := by
    intro n9
    induction n9 with
    | zero =>
      intro k9 H locs G R hm9 ⟨hS, hW, hL, hZn, hk⟩ ls hl
      exact absurd hm9 (by omega)
    | succ n9 ih =>
      intro k9 H locs G R hm9 ⟨hS, hW, hL, hZn, hk⟩ ls hl
      refine lv_iload hx hb dL_areNear_9 (lv_at hl 2 rfl) ?_
      refine lv_aload_n hx hb dL_areNear_11 rfl (lv_at hl 6 rfl) ?_
      refine lv_iconst (v := 0) hx hb dL_areNear_12 (by decide) ?_
      refine hk_ild X K hL.c10 (show vp_in (nI 0) 6 from vp_in_nI (by decide) (by decide)) dL_areNear_13 ?_
      rw [show (V 10) (0 : Int32).toNatClampNeg = nI (cn 1) from hV.g0]
      refine lv_icmp_ge (tgt := 261) hx hb dL_areNear_14 (by decide) (fun c_14 => ?_) (fun c_14 => ?_)
      · have hk9 : k9 = cn 1 := by
          have := (nI_leI (by omega) (by omega)).mp c_14
          omega
        rw [hk9] at hl
        refine lv_iload hx hb dL_areNear_261 (lv_at hl 0 rfl) ?_
        refine lv_if_eq (tgt := 280) hx hb dL_areNear_263 (by decide) (fun c_263 => ?_) (fun c_263 => ?_)
        · exact absurd c_263 (by decide)
        · refine lv_aload_n hx hb dL_areNear_266 rfl (lv_at hl 3 rfl) ?_
          refine lv_iload hx hb dL_areNear_267 (lv_at hl 1 rfl) ?_
          have hcd0 : cd_nearest (nI (ladL (laidS (cn, sc, μ)) (cn 1)).length) (cn, sc, μ) = 0 := near_cd (nI_pos' (by have h8 := ladL_le (a := laidS (cn, sc, μ)) (cn 1); omega))
          refine hk_callVx 1 (As := [.int (nI (ladL (laidS (cn, sc, μ)) (cn 1)).length)]) (rest := []) X K hAE hS hl.1 (HW.o hW) rfl (c_X10_nearest E l hl9 H hW hI hZn (p0 := nI (ladL (laidS (cn, sc, μ)) (cn 1)).length)) (fun q h => h) gL_areNear_X10_nearest rfl ⟨rfl, hd_X10_nearest⟩ rfl ⟨⟨(Nat.le_of_ble_eq_true rfl), (Nat.le_of_ble_eq_true rfl)⟩, (by show 8 * k9 + 8 ≤ 60; omega), (by show 400 * k9 + 400 ≤ 3000; omega)⟩ rfl (Nat.le_of_ble_eq_true rfl) dL_areNear_269 (fun x9 ce9 q9 H9 locs9 hp hS hz9 hk9 hce hcv hcl => by
              obtain ⟨hcs, -⟩ := hp
              rw [hcd0] at hcs
              rcases hcs with ⟨h, -⟩ | ⟨h, -⟩ | ⟨h, -⟩ <;> exact absurd h (by decide)
            ) (fun v9 H1 locsH1 hp hS hzH1 hkH1 => ?_)
          obtain ⟨-, hv, G, R, hW⟩ := hp
          subst hv
          have hL := hL.kept (fun k hk => hkH1 (la k) (hL.lt hk) (hlz k hk))
          have hZn := fun (q : Nat) (h : H1.size ≤ q) => hZn q (Nat.le_trans hzH1 h)
          refine lv_iconst (v := (-1)) hx hb dL_areNear_272 (by decide) ?_
          refine lv_icmp_ne (tgt := 280) hx hb dL_areNear_273 (by decide) (fun c_273 => ?_) (fun c_273 => ?_)
          · exact (c_273 (near_end (N := cn 1) (by omega))).elim
          · refine lv_iconst (v := 1) hx hb dL_areNear_276 (by decide) ?_
            refine lv_goto (tgt := 281) hx hb dL_areNear_277 (by decide) ?_
            exact hk_zretx X hr hlk hQ hS (by show 8 * k9 + 8 + 0 ≤ 60; omega) (by show 400 * k9 + 400 + 0 ≤ 3000; omega) dL_areNear_281 (Or.inr rfl) (⟨rfl, G, R, hW⟩)
      · have hk9 : k9 < cn 1 := Nat.lt_of_not_le (fun h => c_14 (nI_le h (by omega)))
        obtain ⟨ms, hms, hm⟩ := hV.a1 hk9
        have hm : mskR (cn 1) (μ 3) ms (μ 3 k9) (-1) := hm
        obtain ⟨hza, hloa, hlea⟩ := low_ent (InvF.ent hI) hn1 hk9 hm
        have hlba := lowb_le ms
        refine lv_iload hx hb dL_areNear_17 (lv_at hl 0 rfl) ?_
        refine lv_if_eq (tgt := 261) hx hb dL_areNear_19 (by decide) (fun c_19 => ?_) (fun c_19 => ?_)
        · exact absurd c_19 (by decide)
        · refine lv_aload_n hx hb dL_areNear_22 rfl (lv_at hl 4 rfl) ?_
          refine lv_iconst (v := 4) hx hb dL_areNear_23 (by decide) ?_
          refine lv_iload hx hb dL_areNear_24 (lv_at hl 2 rfl) ?_
          refine lv_imul hx hb dL_areNear_26 ?_
          refine lv_topi (fun z_2 ez_2 => ?_)
          have ez_2 : z_2 = nI (4 * k9) := ez_2.trans (nI_mul 4 k9)
          subst ez_2
          refine lv_iconst (v := 1) hx hb dL_areNear_27 (by decide) ?_
          refine lv_iadd hx hb dL_areNear_28 ?_
          refine lv_topi (fun z_3 ez_3 => ?_)
          have ez_3 : z_3 = nI ((4 * k9) + 1) := ez_3.trans (nI_add (4 * k9) 1)
          subst ez_3
          refine hk_ild X K hL.c3 (vp_in_nI (by omega) (by omega)) dL_areNear_29 ?_
          rw [show (V 3) (nI ((4 * k9) + 1)).toNatClampNeg = nI ms from (congrArg (V 3) (nI_clamp (show 4 * k9 + 1 < 2 ^ 31 by omega))).trans hms]
          refine lv_istore (lv' := [(8, .int (nI ms)), (5, .int 1), (6, .int (nI (ladL (laidS (cn, sc, μ)) k9).length)), (7, .int (nI k9)), (0, .ref ho), (1, .ref (la 3)), (2, .ref (la 5)), (3, .ref (la 10)), (4, .ref (la 11))]) hx hb dL_areNear_30 hl (by decide) rfl (fun ls hl => ?_)
          refine lv_iload hx hb dL_areNear_32 (lv_at hl 0 rfl) ?_
          refine hk_callS 1 (As := [.int (nI ms)]) (rest := []) X K hAE hS hl.1 (c_L_lowest E l H hm.1 hza) (fun _ h => h.elim) gL_areNear_L_lowest rfl hd_L_lowest rfl ⟨⟨(Nat.le_of_ble_eq_true rfl), (Nat.le_of_ble_eq_true rfl)⟩, (by show 8 * k9 + 0 ≤ 60; omega), (by show 400 * k9 + 0 ≤ 3000; omega)⟩ rfl (Nat.le_of_ble_eq_true rfl) dL_areNear_34 (fun v9 H4 locsH4 hp hS hzH4 hkH4 => ?_)
          obtain ⟨hv, hh⟩ := hp
          subst hv; subst hh
          refine lv_iload hx hb dL_areNear_37 (lv_at hl 3 rfl) ?_
          refine lv_icmp_ne (tgt := 65) hx hb dL_areNear_39 (by decide) (fun c_39 => ?_) (fun c_39 => ?_)
          · have hla : laidS (cn, sc, μ) k9 = 0 := laid_n (Or.inl (fun h => c_39 (hloa.symm.trans h)))
            refine lv_iconst (v := 0) hx hb dL_areNear_65 (by decide) ?_
            refine lv_istore (lv' := [(9, .int 0), (8, .int (nI ms)), (5, .int 1), (6, .int (nI (ladL (laidS (cn, sc, μ)) k9).length)), (7, .int (nI k9)), (0, .ref ho), (1, .ref (la 3)), (2, .ref (la 5)), (3, .ref (la 10)), (4, .ref (la 11))]) hx hb dL_areNear_66 hl (by decide) rfl (fun ls hl => ?_)
            refine lv_iload hx hb dL_areNear_68 (lv_at hl 0 rfl) ?_
            refine lv_if_eq (tgt := 86) hx hb dL_areNear_70 (by decide) (fun c_70 => ?_) (fun c_70 => ?_)
            · refine lv_iconst (v := 0) hx hb dL_areNear_86 (by decide) ?_
              refine lv_istore (lv' := [(10, .int 0), (9, .int 0), (8, .int (nI ms)), (5, .int 1), (6, .int (nI (ladL (laidS (cn, sc, μ)) k9).length)), (7, .int (nI k9)), (0, .ref ho), (1, .ref (la 3)), (2, .ref (la 5)), (3, .ref (la 10)), (4, .ref (la 11))]) hx hb dL_areNear_87 hl (by decide) rfl (fun ls hl => ?_)
              refine lv_iconst (v := 0) hx hb dL_areNear_89 (by decide) ?_
              refine lv_istore (lv' := [(11, .int 0), (10, .int 0), (9, .int 0), (8, .int (nI ms)), (5, .int 1), (6, .int (nI (ladL (laidS (cn, sc, μ)) k9).length)), (7, .int (nI k9)), (0, .ref ho), (1, .ref (la 3)), (2, .ref (la 5)), (3, .ref (la 10)), (4, .ref (la 11))]) hx hb dL_areNear_90 hl (by decide) rfl (fun ls hl => ?_)
              refine lv_iconst (v := 0) hx hb dL_areNear_92 (by decide) ?_
              refine lv_istore (lv' := [(12, .int 0), (11, .int 0), (10, .int 0), (9, .int 0), (8, .int (nI ms)), (5, .int 1), (6, .int (nI (ladL (laidS (cn, sc, μ)) k9).length)), (7, .int (nI k9)), (0, .ref ho), (1, .ref (la 3)), (2, .ref (la 5)), (3, .ref (la 10)), (4, .ref (la 11))]) hx hb dL_areNear_93 hl (by decide) rfl (fun ls hl => ?_)
              have L95 : ∀ (n8 : Nat) (j8 : Nat), cn 1 + 1 ≤ j8 + n8 → j8 ≤ cn 1 → ∀ (locs95 : List Loc), va_S (fun q => Z q) s.heap H locs95 → ∀ (ls : Array Slot), lv_has ls 16 [(11, .int 0), (12, .int (nI j8)), (5, .int 1), (6, .int (nI (ladL (laidS (cn, sc, μ)) k9).length)), (7, .int (nI k9)), (8, .int (nI ms)), (9, .int 0), (10, .int 0), (0, .ref ho), (1, .ref (la 3)), (2, .ref (la 5)), (3, .ref (la 10)), (4, .ref (la 11))] → W p l e rmL_areNear s m args below meth c H locs95 (8 * k9) (400 * k9) Q (F0 m 95 ls []) := by
                intro n8
                induction n8 with
                | zero =>
                  intro j8 hm8 hj8 locs95 hS ls hl
                  exact absurd hm8 (by omega)
                | succ n8 ih8 =>
                  intro j8 hm8 hj8 locs95 hS ls hl
                  refine lv_iload hx hb dL_areNear_95 (lv_at hl 1 rfl) ?_
                  refine lv_aload_n hx hb dL_areNear_97 rfl (lv_at hl 11 rfl) ?_
                  refine lv_iconst (v := 0) hx hb dL_areNear_98 (by decide) ?_
                  refine hk_ild X K hL.c10 (show vp_in (nI 0) 6 from vp_in_nI (by decide) (by decide)) dL_areNear_99 ?_
                  rw [show (V 10) (0 : Int32).toNatClampNeg = nI (cn 1) from hV.g0]
                  refine lv_icmp_ge (tgt := 217) hx hb dL_areNear_100 (by decide) (fun c_100 => ?_) (fun c_100 => ?_)
                  · refine lv_iload hx hb dL_areNear_217 (lv_at hl 6 rfl) ?_
                    refine lv_if_eq (tgt := 233) hx hb dL_areNear_219 (by decide) (fun c_219 => ?_) (fun c_219 => ?_)
                    · refine lv_iconst (v := 1) hx hb dL_areNear_233 (by decide) ?_
                      refine lv_goto (tgt := 238) hx hb dL_areNear_234 (by decide) ?_
                      refine lv_istore (lv' := [(5, .int 1), (11, .int 0), (12, .int (nI j8)), (6, .int (nI (ladL (laidS (cn, sc, μ)) k9).length)), (7, .int (nI k9)), (8, .int (nI ms)), (9, .int 0), (10, .int 0), (0, .ref ho), (1, .ref (la 3)), (2, .ref (la 5)), (3, .ref (la 10)), (4, .ref (la 11))]) hx hb dL_areNear_238 hl (by decide) rfl (fun ls hl => ?_)
                      refine lv_iload hx hb dL_areNear_240 (lv_at hl 3 rfl) ?_
                      refine lv_iload hx hb dL_areNear_242 (lv_at hl 6 rfl) ?_
                      refine lv_if_eq (tgt := 251) hx hb dL_areNear_244 (by decide) (fun c_244 => ?_) (fun c_244 => ?_)
                      · refine lv_iconst (v := 0) hx hb dL_areNear_251 (by decide) ?_
                        refine lv_iadd hx hb dL_areNear_252 ?_
                        refine lv_topi (fun q253 eq253 => ?_)
                        refine lv_istore (lv' := [(6, .int q253), (5, .int 1), (11, .int 0), (12, .int (nI j8)), (7, .int (nI k9)), (8, .int (nI ms)), (9, .int 0), (10, .int 0), (0, .ref ho), (1, .ref (la 3)), (2, .ref (la 5)), (3, .ref (la 10)), (4, .ref (la 11))]) hx hb dL_areNear_253 hl (by decide) rfl (fun ls hl => ?_)
                        rw [lad_n hla] at eq253
                        subst eq253
                        obtain ⟨q255, eq255⟩ : ∃ y : Int32, y = (nI k9) + 1 := ⟨_, rfl⟩
                        refine lv_iinc (v := q255) (lv' := [(7, .int q255), (6, .int (nI (ladL (laidS (cn, sc, μ)) (k9 + 1)).length)), (5, .int 1), (11, .int 0), (12, .int (nI j8)), (8, .int (nI ms)), (9, .int 0), (10, .int 0), (0, .ref ho), (1, .ref (la 3)), (2, .ref (la 5)), (3, .ref (la 10)), (4, .ref (la 11))]) hx hb dL_areNear_255 hl (k := 4) rfl (by rw [eq255]; rfl) (by decide) rfl (fun ls hl => ?_)
                        rw [nI_1] at eq255
                        subst eq255
                        refine lv_goto (tgt := 9) hx hb dL_areNear_258 (by decide) ?_
                        refine W.widen (k := 8 * (k9 + 1)) (n := 400 * (k9 + 1)) (by show 8 * k9 ≤ _; omega) (by show 400 * k9 ≤ _; omega) ?_
                        exact ih (k9 + 1) _ _ G R (by omega) ⟨hS, hW, hL, hZn, by omega⟩ _ (lv_sub hl [2, 1, 0, 8, 9, 10, 11, 12] rfl)
                      · exact absurd (by decide) c_244
                    · exact absurd (by decide) c_219
                  · have hj8 : j8 < cn 1 := Nat.lt_of_not_le (fun h => c_100 (nI_le h (by omega)))
                    refine lv_iload hx hb dL_areNear_103 (lv_at hl 6 rfl) ?_
                    refine lv_if_eq (tgt := 217) hx hb dL_areNear_105 (by decide) (fun c_105 => ?_) (fun c_105 => ?_)
                    · refine lv_iload hx hb dL_areNear_217 (lv_at hl 6 rfl) ?_
                      refine lv_if_eq (tgt := 233) hx hb dL_areNear_219 (by decide) (fun c_219 => ?_) (fun c_219 => ?_)
                      · refine lv_iconst (v := 1) hx hb dL_areNear_233 (by decide) ?_
                        refine lv_goto (tgt := 238) hx hb dL_areNear_234 (by decide) ?_
                        refine lv_istore (lv' := [(5, .int 1), (11, .int 0), (12, .int (nI j8)), (6, .int (nI (ladL (laidS (cn, sc, μ)) k9).length)), (7, .int (nI k9)), (8, .int (nI ms)), (9, .int 0), (10, .int 0), (0, .ref ho), (1, .ref (la 3)), (2, .ref (la 5)), (3, .ref (la 10)), (4, .ref (la 11))]) hx hb dL_areNear_238 hl (by decide) rfl (fun ls hl => ?_)
                        refine lv_iload hx hb dL_areNear_240 (lv_at hl 3 rfl) ?_
                        refine lv_iload hx hb dL_areNear_242 (lv_at hl 6 rfl) ?_
                        refine lv_if_eq (tgt := 251) hx hb dL_areNear_244 (by decide) (fun c_244 => ?_) (fun c_244 => ?_)
                        · refine lv_iconst (v := 0) hx hb dL_areNear_251 (by decide) ?_
                          refine lv_iadd hx hb dL_areNear_252 ?_
                          refine lv_topi (fun q253 eq253 => ?_)
                          refine lv_istore (lv' := [(6, .int q253), (5, .int 1), (11, .int 0), (12, .int (nI j8)), (7, .int (nI k9)), (8, .int (nI ms)), (9, .int 0), (10, .int 0), (0, .ref ho), (1, .ref (la 3)), (2, .ref (la 5)), (3, .ref (la 10)), (4, .ref (la 11))]) hx hb dL_areNear_253 hl (by decide) rfl (fun ls hl => ?_)
                          rw [lad_n hla] at eq253
                          subst eq253
                          obtain ⟨q255, eq255⟩ : ∃ y : Int32, y = (nI k9) + 1 := ⟨_, rfl⟩
                          refine lv_iinc (v := q255) (lv' := [(7, .int q255), (6, .int (nI (ladL (laidS (cn, sc, μ)) (k9 + 1)).length)), (5, .int 1), (11, .int 0), (12, .int (nI j8)), (8, .int (nI ms)), (9, .int 0), (10, .int 0), (0, .ref ho), (1, .ref (la 3)), (2, .ref (la 5)), (3, .ref (la 10)), (4, .ref (la 11))]) hx hb dL_areNear_255 hl (k := 4) rfl (by rw [eq255]; rfl) (by decide) rfl (fun ls hl => ?_)
                          rw [nI_1] at eq255
                          subst eq255
                          refine lv_goto (tgt := 9) hx hb dL_areNear_258 (by decide) ?_
                          refine W.widen (k := 8 * (k9 + 1)) (n := 400 * (k9 + 1)) (by show 8 * k9 ≤ _; omega) (by show 400 * k9 ≤ _; omega) ?_
                          exact ih (k9 + 1) _ _ G R (by omega) ⟨hS, hW, hL, hZn, by omega⟩ _ (lv_sub hl [2, 1, 0, 8, 9, 10, 11, 12] rfl)
                        · exact absurd (by decide) c_244
                      · exact absurd (by decide) c_219
                    · exact absurd (by decide) c_105
              exact L95 (cn 1 + 1) 0 (by omega) (by omega) _ hS _ (lv_sub hl [1, 0, 5, 6, 7, 4, 3, 2, 8, 9, 10, 11, 12] rfl)
            · exact absurd (by decide) c_70
          · have hea : μ 3 k9 = nI k9 := hloa.trans c_39
            rw [hea] at hm
            refine lv_aload_n hx hb dL_areNear_42 rfl (lv_at hl 6 rfl) ?_
            refine lv_aload_n hx hb dL_areNear_43 rfl (lv_at hl 7 rfl) ?_
            refine lv_iload hx hb dL_areNear_44 (lv_at hl 0 rfl) ?_
            refine hk_callS 3 (As := [.ref (la 5), .ref (la 10), .int (nI ms)]) (rest := []) X K hAE hS hl.1 (c_L_many E l H hL hV hI hm) (fun _ h => h.elim) gL_areNear_L_many rfl hd_L_many rfl ⟨⟨(Nat.le_of_ble_eq_true rfl), (Nat.le_of_ble_eq_true rfl)⟩, (by show 8 * k9 + 0 ≤ 60; omega), (by show 400 * k9 + 0 ≤ 3000; omega)⟩ rfl (Nat.le_of_ble_eq_true rfl) dL_areNear_46 (fun v9 H5 locsH5 hp hS hzH5 hkH5 => ?_)
            obtain ⟨hv, hh⟩ := hp
            subst hv; subst hh
            refine lv_if_le (tgt := 65) hx hb dL_areNear_49 (by decide) (fun c_49 => ?_) (fun c_49 => ?_)
            · have hla : laidS (cn, sc, μ) k9 = 0 := laid_n (Or.inr (Or.inl (by
                have h := (nI_leI (b := 0) (by have h9 := sp_sel_le (μ := μ) (e1 := nI k9) (e2 := -1) (cn 12); omega) (by omega)).mp c_49
                exact Nat.le_zero.mp h)))
              refine lv_iconst (v := 0) hx hb dL_areNear_65 (by decide) ?_
              refine lv_istore (lv' := [(9, .int 0), (8, .int (nI ms)), (5, .int 1), (6, .int (nI (ladL (laidS (cn, sc, μ)) k9).length)), (7, .int (nI k9)), (0, .ref ho), (1, .ref (la 3)), (2, .ref (la 5)), (3, .ref (la 10)), (4, .ref (la 11))]) hx hb dL_areNear_66 hl (by decide) rfl (fun ls hl => ?_)
              refine lv_iload hx hb dL_areNear_68 (lv_at hl 0 rfl) ?_
              refine lv_if_eq (tgt := 86) hx hb dL_areNear_70 (by decide) (fun c_70 => ?_) (fun c_70 => ?_)
              · refine lv_iconst (v := 0) hx hb dL_areNear_86 (by decide) ?_
                refine lv_istore (lv' := [(10, .int 0), (9, .int 0), (8, .int (nI ms)), (5, .int 1), (6, .int (nI (ladL (laidS (cn, sc, μ)) k9).length)), (7, .int (nI k9)), (0, .ref ho), (1, .ref (la 3)), (2, .ref (la 5)), (3, .ref (la 10)), (4, .ref (la 11))]) hx hb dL_areNear_87 hl (by decide) rfl (fun ls hl => ?_)
                refine lv_iconst (v := 0) hx hb dL_areNear_89 (by decide) ?_
                refine lv_istore (lv' := [(11, .int 0), (10, .int 0), (9, .int 0), (8, .int (nI ms)), (5, .int 1), (6, .int (nI (ladL (laidS (cn, sc, μ)) k9).length)), (7, .int (nI k9)), (0, .ref ho), (1, .ref (la 3)), (2, .ref (la 5)), (3, .ref (la 10)), (4, .ref (la 11))]) hx hb dL_areNear_90 hl (by decide) rfl (fun ls hl => ?_)
                refine lv_iconst (v := 0) hx hb dL_areNear_92 (by decide) ?_
                refine lv_istore (lv' := [(12, .int 0), (11, .int 0), (10, .int 0), (9, .int 0), (8, .int (nI ms)), (5, .int 1), (6, .int (nI (ladL (laidS (cn, sc, μ)) k9).length)), (7, .int (nI k9)), (0, .ref ho), (1, .ref (la 3)), (2, .ref (la 5)), (3, .ref (la 10)), (4, .ref (la 11))]) hx hb dL_areNear_93 hl (by decide) rfl (fun ls hl => ?_)
                have L95 : ∀ (n8 : Nat) (j8 : Nat), cn 1 + 1 ≤ j8 + n8 → j8 ≤ cn 1 → ∀ (locs95 : List Loc), va_S (fun q => Z q) s.heap H locs95 → ∀ (ls : Array Slot), lv_has ls 16 [(11, .int 0), (12, .int (nI j8)), (5, .int 1), (6, .int (nI (ladL (laidS (cn, sc, μ)) k9).length)), (7, .int (nI k9)), (8, .int (nI ms)), (9, .int 0), (10, .int 0), (0, .ref ho), (1, .ref (la 3)), (2, .ref (la 5)), (3, .ref (la 10)), (4, .ref (la 11))] → W p l e rmL_areNear s m args below meth c H locs95 (8 * k9) (400 * k9) Q (F0 m 95 ls []) := by
                  intro n8
                  induction n8 with
                  | zero =>
                    intro j8 hm8 hj8 locs95 hS ls hl
                    exact absurd hm8 (by omega)
                  | succ n8 ih8 =>
                    intro j8 hm8 hj8 locs95 hS ls hl
                    refine lv_iload hx hb dL_areNear_95 (lv_at hl 1 rfl) ?_
                    refine lv_aload_n hx hb dL_areNear_97 rfl (lv_at hl 11 rfl) ?_
                    refine lv_iconst (v := 0) hx hb dL_areNear_98 (by decide) ?_
                    refine hk_ild X K hL.c10 (show vp_in (nI 0) 6 from vp_in_nI (by decide) (by decide)) dL_areNear_99 ?_
                    rw [show (V 10) (0 : Int32).toNatClampNeg = nI (cn 1) from hV.g0]
                    refine lv_icmp_ge (tgt := 217) hx hb dL_areNear_100 (by decide) (fun c_100 => ?_) (fun c_100 => ?_)
                    · refine lv_iload hx hb dL_areNear_217 (lv_at hl 6 rfl) ?_
                      refine lv_if_eq (tgt := 233) hx hb dL_areNear_219 (by decide) (fun c_219 => ?_) (fun c_219 => ?_)
                      · refine lv_iconst (v := 1) hx hb dL_areNear_233 (by decide) ?_
                        refine lv_goto (tgt := 238) hx hb dL_areNear_234 (by decide) ?_
                        refine lv_istore (lv' := [(5, .int 1), (11, .int 0), (12, .int (nI j8)), (6, .int (nI (ladL (laidS (cn, sc, μ)) k9).length)), (7, .int (nI k9)), (8, .int (nI ms)), (9, .int 0), (10, .int 0), (0, .ref ho), (1, .ref (la 3)), (2, .ref (la 5)), (3, .ref (la 10)), (4, .ref (la 11))]) hx hb dL_areNear_238 hl (by decide) rfl (fun ls hl => ?_)
                        refine lv_iload hx hb dL_areNear_240 (lv_at hl 3 rfl) ?_
                        refine lv_iload hx hb dL_areNear_242 (lv_at hl 6 rfl) ?_
                        refine lv_if_eq (tgt := 251) hx hb dL_areNear_244 (by decide) (fun c_244 => ?_) (fun c_244 => ?_)
                        · refine lv_iconst (v := 0) hx hb dL_areNear_251 (by decide) ?_
                          refine lv_iadd hx hb dL_areNear_252 ?_
                          refine lv_topi (fun q253 eq253 => ?_)
                          refine lv_istore (lv' := [(6, .int q253), (5, .int 1), (11, .int 0), (12, .int (nI j8)), (7, .int (nI k9)), (8, .int (nI ms)), (9, .int 0), (10, .int 0), (0, .ref ho), (1, .ref (la 3)), (2, .ref (la 5)), (3, .ref (la 10)), (4, .ref (la 11))]) hx hb dL_areNear_253 hl (by decide) rfl (fun ls hl => ?_)
                          rw [lad_n hla] at eq253
                          subst eq253
                          obtain ⟨q255, eq255⟩ : ∃ y : Int32, y = (nI k9) + 1 := ⟨_, rfl⟩
                          refine lv_iinc (v := q255) (lv' := [(7, .int q255), (6, .int (nI (ladL (laidS (cn, sc, μ)) (k9 + 1)).length)), (5, .int 1), (11, .int 0), (12, .int (nI j8)), (8, .int (nI ms)), (9, .int 0), (10, .int 0), (0, .ref ho), (1, .ref (la 3)), (2, .ref (la 5)), (3, .ref (la 10)), (4, .ref (la 11))]) hx hb dL_areNear_255 hl (k := 4) rfl (by rw [eq255]; rfl) (by decide) rfl (fun ls hl => ?_)
                          rw [nI_1] at eq255
                          subst eq255
                          refine lv_goto (tgt := 9) hx hb dL_areNear_258 (by decide) ?_
                          refine W.widen (k := 8 * (k9 + 1)) (n := 400 * (k9 + 1)) (by show 8 * k9 ≤ _; omega) (by show 400 * k9 ≤ _; omega) ?_
                          exact ih (k9 + 1) _ _ G R (by omega) ⟨hS, hW, hL, hZn, by omega⟩ _ (lv_sub hl [2, 1, 0, 8, 9, 10, 11, 12] rfl)
                        · exact absurd (by decide) c_244
                      · exact absurd (by decide) c_219
                    · have hj8 : j8 < cn 1 := Nat.lt_of_not_le (fun h => c_100 (nI_le h (by omega)))
                      refine lv_iload hx hb dL_areNear_103 (lv_at hl 6 rfl) ?_
                      refine lv_if_eq (tgt := 217) hx hb dL_areNear_105 (by decide) (fun c_105 => ?_) (fun c_105 => ?_)
                      · refine lv_iload hx hb dL_areNear_217 (lv_at hl 6 rfl) ?_
                        refine lv_if_eq (tgt := 233) hx hb dL_areNear_219 (by decide) (fun c_219 => ?_) (fun c_219 => ?_)
                        · refine lv_iconst (v := 1) hx hb dL_areNear_233 (by decide) ?_
                          refine lv_goto (tgt := 238) hx hb dL_areNear_234 (by decide) ?_
                          refine lv_istore (lv' := [(5, .int 1), (11, .int 0), (12, .int (nI j8)), (6, .int (nI (ladL (laidS (cn, sc, μ)) k9).length)), (7, .int (nI k9)), (8, .int (nI ms)), (9, .int 0), (10, .int 0), (0, .ref ho), (1, .ref (la 3)), (2, .ref (la 5)), (3, .ref (la 10)), (4, .ref (la 11))]) hx hb dL_areNear_238 hl (by decide) rfl (fun ls hl => ?_)
                          refine lv_iload hx hb dL_areNear_240 (lv_at hl 3 rfl) ?_
                          refine lv_iload hx hb dL_areNear_242 (lv_at hl 6 rfl) ?_
                          refine lv_if_eq (tgt := 251) hx hb dL_areNear_244 (by decide) (fun c_244 => ?_) (fun c_244 => ?_)
                          · refine lv_iconst (v := 0) hx hb dL_areNear_251 (by decide) ?_
                            refine lv_iadd hx hb dL_areNear_252 ?_
                            refine lv_topi (fun q253 eq253 => ?_)
                            refine lv_istore (lv' := [(6, .int q253), (5, .int 1), (11, .int 0), (12, .int (nI j8)), (7, .int (nI k9)), (8, .int (nI ms)), (9, .int 0), (10, .int 0), (0, .ref ho), (1, .ref (la 3)), (2, .ref (la 5)), (3, .ref (la 10)), (4, .ref (la 11))]) hx hb dL_areNear_253 hl (by decide) rfl (fun ls hl => ?_)
                            rw [lad_n hla] at eq253
                            subst eq253
                            obtain ⟨q255, eq255⟩ : ∃ y : Int32, y = (nI k9) + 1 := ⟨_, rfl⟩
                            refine lv_iinc (v := q255) (lv' := [(7, .int q255), (6, .int (nI (ladL (laidS (cn, sc, μ)) (k9 + 1)).length)), (5, .int 1), (11, .int 0), (12, .int (nI j8)), (8, .int (nI ms)), (9, .int 0), (10, .int 0), (0, .ref ho), (1, .ref (la 3)), (2, .ref (la 5)), (3, .ref (la 10)), (4, .ref (la 11))]) hx hb dL_areNear_255 hl (k := 4) rfl (by rw [eq255]; rfl) (by decide) rfl (fun ls hl => ?_)
                            rw [nI_1] at eq255
                            subst eq255
                            refine lv_goto (tgt := 9) hx hb dL_areNear_258 (by decide) ?_
                            refine W.widen (k := 8 * (k9 + 1)) (n := 400 * (k9 + 1)) (by show 8 * k9 ≤ _; omega) (by show 400 * k9 ≤ _; omega) ?_
                            exact ih (k9 + 1) _ _ G R (by omega) ⟨hS, hW, hL, hZn, by omega⟩ _ (lv_sub hl [2, 1, 0, 8, 9, 10, 11, 12] rfl)
                          · exact absurd (by decide) c_244
                        · exact absurd (by decide) c_219
                      · exact absurd (by decide) c_105
                exact L95 (cn 1 + 1) 0 (by omega) (by omega) _ hS _ (lv_sub hl [1, 0, 5, 6, 7, 4, 3, 2, 8, 9, 10, 11, 12] rfl)
              · exact absurd (by decide) c_70
            · have h0a : 0 < (sp_sel μ (nI k9) (-1) (cn 12)).length := by
                rcases Nat.eq_zero_or_pos (sp_sel μ (nI k9) (-1) (cn 12)).length with h | h
                · rw [h] at c_49; exact absurd (Int32.le_refl _) c_49
                · exact h
              refine lv_aload_n hx hb dL_areNear_52 rfl (lv_at hl 5 rfl) ?_
              refine lv_iload hx hb dL_areNear_53 (lv_at hl 0 rfl) ?_
              refine hk_callS 2 (As := [.ref (la 3), .int (nI ms)]) (rest := []) X K hAE hS hl.1 (c_L_claim E l H hL hV hI hm (nI_pos' (by omega))) (fun _ h => h.elim) gL_areNear_L_claim rfl hd_L_claim rfl ⟨⟨(Nat.le_of_ble_eq_true rfl), (Nat.le_of_ble_eq_true rfl)⟩, (by show 8 * k9 + 0 ≤ 60; omega), (by show 400 * k9 + 0 ≤ 3000; omega)⟩ rfl (Nat.le_of_ble_eq_true rfl) dL_areNear_55 (fun v9 H6 locsH6 hp hS hzH6 hkH6 => ?_)
              obtain ⟨hv, hh⟩ := hp
              subst hv; subst hh
              refine lv_if_le (tgt := 65) hx hb dL_areNear_58 (by decide) (fun c_58 => ?_) (fun c_58 => ?_)
              · have hla : laidS (cn, sc, μ) k9 = 0 := laid_n (Or.inr (Or.inr (Int32.not_lt.mpr c_58)))
                refine lv_iconst (v := 0) hx hb dL_areNear_65 (by decide) ?_
                refine lv_istore (lv' := [(9, .int 0), (8, .int (nI ms)), (5, .int 1), (6, .int (nI (ladL (laidS (cn, sc, μ)) k9).length)), (7, .int (nI k9)), (0, .ref ho), (1, .ref (la 3)), (2, .ref (la 5)), (3, .ref (la 10)), (4, .ref (la 11))]) hx hb dL_areNear_66 hl (by decide) rfl (fun ls hl => ?_)
                refine lv_iload hx hb dL_areNear_68 (lv_at hl 0 rfl) ?_
                refine lv_if_eq (tgt := 86) hx hb dL_areNear_70 (by decide) (fun c_70 => ?_) (fun c_70 => ?_)
                · refine lv_iconst (v := 0) hx hb dL_areNear_86 (by decide) ?_
                  refine lv_istore (lv' := [(10, .int 0), (9, .int 0), (8, .int (nI ms)), (5, .int 1), (6, .int (nI (ladL (laidS (cn, sc, μ)) k9).length)), (7, .int (nI k9)), (0, .ref ho), (1, .ref (la 3)), (2, .ref (la 5)), (3, .ref (la 10)), (4, .ref (la 11))]) hx hb dL_areNear_87 hl (by decide) rfl (fun ls hl => ?_)
                  refine lv_iconst (v := 0) hx hb dL_areNear_89 (by decide) ?_
                  refine lv_istore (lv' := [(11, .int 0), (10, .int 0), (9, .int 0), (8, .int (nI ms)), (5, .int 1), (6, .int (nI (ladL (laidS (cn, sc, μ)) k9).length)), (7, .int (nI k9)), (0, .ref ho), (1, .ref (la 3)), (2, .ref (la 5)), (3, .ref (la 10)), (4, .ref (la 11))]) hx hb dL_areNear_90 hl (by decide) rfl (fun ls hl => ?_)
                  refine lv_iconst (v := 0) hx hb dL_areNear_92 (by decide) ?_
                  refine lv_istore (lv' := [(12, .int 0), (11, .int 0), (10, .int 0), (9, .int 0), (8, .int (nI ms)), (5, .int 1), (6, .int (nI (ladL (laidS (cn, sc, μ)) k9).length)), (7, .int (nI k9)), (0, .ref ho), (1, .ref (la 3)), (2, .ref (la 5)), (3, .ref (la 10)), (4, .ref (la 11))]) hx hb dL_areNear_93 hl (by decide) rfl (fun ls hl => ?_)
                  have L95 : ∀ (n8 : Nat) (j8 : Nat), cn 1 + 1 ≤ j8 + n8 → j8 ≤ cn 1 → ∀ (locs95 : List Loc), va_S (fun q => Z q) s.heap H locs95 → ∀ (ls : Array Slot), lv_has ls 16 [(11, .int 0), (12, .int (nI j8)), (5, .int 1), (6, .int (nI (ladL (laidS (cn, sc, μ)) k9).length)), (7, .int (nI k9)), (8, .int (nI ms)), (9, .int 0), (10, .int 0), (0, .ref ho), (1, .ref (la 3)), (2, .ref (la 5)), (3, .ref (la 10)), (4, .ref (la 11))] → W p l e rmL_areNear s m args below meth c H locs95 (8 * k9) (400 * k9) Q (F0 m 95 ls []) := by
                    intro n8
                    induction n8 with
                    | zero =>
                      intro j8 hm8 hj8 locs95 hS ls hl
                      exact absurd hm8 (by omega)
                    | succ n8 ih8 =>
                      intro j8 hm8 hj8 locs95 hS ls hl
                      refine lv_iload hx hb dL_areNear_95 (lv_at hl 1 rfl) ?_
                      refine lv_aload_n hx hb dL_areNear_97 rfl (lv_at hl 11 rfl) ?_
                      refine lv_iconst (v := 0) hx hb dL_areNear_98 (by decide) ?_
                      refine hk_ild X K hL.c10 (show vp_in (nI 0) 6 from vp_in_nI (by decide) (by decide)) dL_areNear_99 ?_
                      rw [show (V 10) (0 : Int32).toNatClampNeg = nI (cn 1) from hV.g0]
                      refine lv_icmp_ge (tgt := 217) hx hb dL_areNear_100 (by decide) (fun c_100 => ?_) (fun c_100 => ?_)
                      · refine lv_iload hx hb dL_areNear_217 (lv_at hl 6 rfl) ?_
                        refine lv_if_eq (tgt := 233) hx hb dL_areNear_219 (by decide) (fun c_219 => ?_) (fun c_219 => ?_)
                        · refine lv_iconst (v := 1) hx hb dL_areNear_233 (by decide) ?_
                          refine lv_goto (tgt := 238) hx hb dL_areNear_234 (by decide) ?_
                          refine lv_istore (lv' := [(5, .int 1), (11, .int 0), (12, .int (nI j8)), (6, .int (nI (ladL (laidS (cn, sc, μ)) k9).length)), (7, .int (nI k9)), (8, .int (nI ms)), (9, .int 0), (10, .int 0), (0, .ref ho), (1, .ref (la 3)), (2, .ref (la 5)), (3, .ref (la 10)), (4, .ref (la 11))]) hx hb dL_areNear_238 hl (by decide) rfl (fun ls hl => ?_)
                          refine lv_iload hx hb dL_areNear_240 (lv_at hl 3 rfl) ?_
                          refine lv_iload hx hb dL_areNear_242 (lv_at hl 6 rfl) ?_
                          refine lv_if_eq (tgt := 251) hx hb dL_areNear_244 (by decide) (fun c_244 => ?_) (fun c_244 => ?_)
                          · refine lv_iconst (v := 0) hx hb dL_areNear_251 (by decide) ?_
                            refine lv_iadd hx hb dL_areNear_252 ?_
                            refine lv_topi (fun q253 eq253 => ?_)
                            refine lv_istore (lv' := [(6, .int q253), (5, .int 1), (11, .int 0), (12, .int (nI j8)), (7, .int (nI k9)), (8, .int (nI ms)), (9, .int 0), (10, .int 0), (0, .ref ho), (1, .ref (la 3)), (2, .ref (la 5)), (3, .ref (la 10)), (4, .ref (la 11))]) hx hb dL_areNear_253 hl (by decide) rfl (fun ls hl => ?_)
                            rw [lad_n hla] at eq253
                            subst eq253
                            obtain ⟨q255, eq255⟩ : ∃ y : Int32, y = (nI k9) + 1 := ⟨_, rfl⟩
                            refine lv_iinc (v := q255) (lv' := [(7, .int q255), (6, .int (nI (ladL (laidS (cn, sc, μ)) (k9 + 1)).length)), (5, .int 1), (11, .int 0), (12, .int (nI j8)), (8, .int (nI ms)), (9, .int 0), (10, .int 0), (0, .ref ho), (1, .ref (la 3)), (2, .ref (la 5)), (3, .ref (la 10)), (4, .ref (la 11))]) hx hb dL_areNear_255 hl (k := 4) rfl (by rw [eq255]; rfl) (by decide) rfl (fun ls hl => ?_)
                            rw [nI_1] at eq255
                            subst eq255
                            refine lv_goto (tgt := 9) hx hb dL_areNear_258 (by decide) ?_
                            refine W.widen (k := 8 * (k9 + 1)) (n := 400 * (k9 + 1)) (by show 8 * k9 ≤ _; omega) (by show 400 * k9 ≤ _; omega) ?_
                            exact ih (k9 + 1) _ _ G R (by omega) ⟨hS, hW, hL, hZn, by omega⟩ _ (lv_sub hl [2, 1, 0, 8, 9, 10, 11, 12] rfl)
                          · exact absurd (by decide) c_244
                        · exact absurd (by decide) c_219
                      · have hj8 : j8 < cn 1 := Nat.lt_of_not_le (fun h => c_100 (nI_le h (by omega)))
                        refine lv_iload hx hb dL_areNear_103 (lv_at hl 6 rfl) ?_
                        refine lv_if_eq (tgt := 217) hx hb dL_areNear_105 (by decide) (fun c_105 => ?_) (fun c_105 => ?_)
                        · refine lv_iload hx hb dL_areNear_217 (lv_at hl 6 rfl) ?_
                          refine lv_if_eq (tgt := 233) hx hb dL_areNear_219 (by decide) (fun c_219 => ?_) (fun c_219 => ?_)
                          · refine lv_iconst (v := 1) hx hb dL_areNear_233 (by decide) ?_
                            refine lv_goto (tgt := 238) hx hb dL_areNear_234 (by decide) ?_
                            refine lv_istore (lv' := [(5, .int 1), (11, .int 0), (12, .int (nI j8)), (6, .int (nI (ladL (laidS (cn, sc, μ)) k9).length)), (7, .int (nI k9)), (8, .int (nI ms)), (9, .int 0), (10, .int 0), (0, .ref ho), (1, .ref (la 3)), (2, .ref (la 5)), (3, .ref (la 10)), (4, .ref (la 11))]) hx hb dL_areNear_238 hl (by decide) rfl (fun ls hl => ?_)
                            refine lv_iload hx hb dL_areNear_240 (lv_at hl 3 rfl) ?_
                            refine lv_iload hx hb dL_areNear_242 (lv_at hl 6 rfl) ?_
                            refine lv_if_eq (tgt := 251) hx hb dL_areNear_244 (by decide) (fun c_244 => ?_) (fun c_244 => ?_)
                            · refine lv_iconst (v := 0) hx hb dL_areNear_251 (by decide) ?_
                              refine lv_iadd hx hb dL_areNear_252 ?_
                              refine lv_topi (fun q253 eq253 => ?_)
                              refine lv_istore (lv' := [(6, .int q253), (5, .int 1), (11, .int 0), (12, .int (nI j8)), (7, .int (nI k9)), (8, .int (nI ms)), (9, .int 0), (10, .int 0), (0, .ref ho), (1, .ref (la 3)), (2, .ref (la 5)), (3, .ref (la 10)), (4, .ref (la 11))]) hx hb dL_areNear_253 hl (by decide) rfl (fun ls hl => ?_)
                              rw [lad_n hla] at eq253
                              subst eq253
                              obtain ⟨q255, eq255⟩ : ∃ y : Int32, y = (nI k9) + 1 := ⟨_, rfl⟩
                              refine lv_iinc (v := q255) (lv' := [(7, .int q255), (6, .int (nI (ladL (laidS (cn, sc, μ)) (k9 + 1)).length)), (5, .int 1), (11, .int 0), (12, .int (nI j8)), (8, .int (nI ms)), (9, .int 0), (10, .int 0), (0, .ref ho), (1, .ref (la 3)), (2, .ref (la 5)), (3, .ref (la 10)), (4, .ref (la 11))]) hx hb dL_areNear_255 hl (k := 4) rfl (by rw [eq255]; rfl) (by decide) rfl (fun ls hl => ?_)
                              rw [nI_1] at eq255
                              subst eq255
                              refine lv_goto (tgt := 9) hx hb dL_areNear_258 (by decide) ?_
                              refine W.widen (k := 8 * (k9 + 1)) (n := 400 * (k9 + 1)) (by show 8 * k9 ≤ _; omega) (by show 400 * k9 ≤ _; omega) ?_
                              exact ih (k9 + 1) _ _ G R (by omega) ⟨hS, hW, hL, hZn, by omega⟩ _ (lv_sub hl [2, 1, 0, 8, 9, 10, 11, 12] rfl)
                            · exact absurd (by decide) c_244
                          · exact absurd (by decide) c_219
                        · exact absurd (by decide) c_105
                  exact L95 (cn 1 + 1) 0 (by omega) (by omega) _ hS _ (lv_sub hl [1, 0, 5, 6, 7, 4, 3, 2, 8, 9, 10, 11, 12] rfl)
                · exact absurd (by decide) c_70
              · have hca : 0 < sp_clm (μ 3) (μ 4) (nI k9) (cn 1) 0 := Int32.not_le.mp c_58
                have hla : laidS (cn, sc, μ) k9 = 1 := laid_y hea h0a hca (show (sp_sel μ (nI k9) (-1) (cn 12)).length < 2 ^ 31 by have h9 := sp_sel_le (μ := μ) (e1 := nI k9) (e2 := -1) (cn 12); omega)
                refine lv_iconst (v := 1) hx hb dL_areNear_61 (by decide) ?_
                refine lv_goto (tgt := 66) hx hb dL_areNear_62 (by decide) ?_
                refine lv_istore (lv' := [(9, .int 1), (8, .int (nI ms)), (5, .int 1), (6, .int (nI (ladL (laidS (cn, sc, μ)) k9).length)), (7, .int (nI k9)), (0, .ref ho), (1, .ref (la 3)), (2, .ref (la 5)), (3, .ref (la 10)), (4, .ref (la 11))]) hx hb dL_areNear_66 hl (by decide) rfl (fun ls hl => ?_)
                refine lv_iload hx hb dL_areNear_68 (lv_at hl 0 rfl) ?_
                refine lv_if_eq (tgt := 86) hx hb dL_areNear_70 (by decide) (fun c_70 => ?_) (fun c_70 => ?_)
                · exact absurd c_70 (by decide)
                · refine lv_aload_n hx hb dL_areNear_73 rfl (lv_at hl 6 rfl) ?_
                  refine lv_aload_n hx hb dL_areNear_74 rfl (lv_at hl 7 rfl) ?_
                  refine lv_aload_n hx hb dL_areNear_75 rfl (lv_at hl 8 rfl) ?_
                  refine lv_aload hx hb dL_areNear_76 (lv_at hl 9 rfl) ?_
                  refine lv_iload hx hb dL_areNear_78 (lv_at hl 1 rfl) ?_
                  refine hk_callS 5 (As := [.ref (la 3), .ref (la 5), .ref (la 10), .ref (la 11), .int (nI ms)]) (rest := []) X K hAE hS hl.1 (c_L_modulus E l H hL hV hI hX hm (nI_pos' (by omega)) h0a hca hza (hea.symm.trans hloa)) (fun _ h => h.elim) gL_areNear_L_modulus rfl hd_L_modulus rfl ⟨⟨(Nat.le_of_ble_eq_true rfl), (Nat.le_of_ble_eq_true rfl)⟩, (by show 8 * k9 + 0 ≤ 60; omega), (by show 400 * k9 + 0 ≤ 3000; omega)⟩ rfl (Nat.le_of_ble_eq_true rfl) dL_areNear_80 (fun v9 H7 locsH7 hp hS hzH7 hkH7 => ?_)
                  obtain ⟨hv, hh⟩ := hp
                  subst hv; subst hh
                  refine lv_goto (tgt := 87) hx hb dL_areNear_83 (by decide) ?_
                  refine lv_istore (lv' := [(10, .int (mdS (cn, sc, μ) (nI k9))), (9, .int 1), (8, .int (nI ms)), (5, .int 1), (6, .int (nI (ladL (laidS (cn, sc, μ)) k9).length)), (7, .int (nI k9)), (0, .ref ho), (1, .ref (la 3)), (2, .ref (la 5)), (3, .ref (la 10)), (4, .ref (la 11))]) hx hb dL_areNear_87 hl (by decide) rfl (fun ls hl => ?_)
                  refine lv_iconst (v := 0) hx hb dL_areNear_89 (by decide) ?_
                  refine lv_istore (lv' := [(11, .int 0), (10, .int (mdS (cn, sc, μ) (nI k9))), (9, .int 1), (8, .int (nI ms)), (5, .int 1), (6, .int (nI (ladL (laidS (cn, sc, μ)) k9).length)), (7, .int (nI k9)), (0, .ref ho), (1, .ref (la 3)), (2, .ref (la 5)), (3, .ref (la 10)), (4, .ref (la 11))]) hx hb dL_areNear_90 hl (by decide) rfl (fun ls hl => ?_)
                  refine lv_iconst (v := 0) hx hb dL_areNear_92 (by decide) ?_
                  refine lv_istore (lv' := [(12, .int 0), (11, .int 0), (10, .int (mdS (cn, sc, μ) (nI k9))), (9, .int 1), (8, .int (nI ms)), (5, .int 1), (6, .int (nI (ladL (laidS (cn, sc, μ)) k9).length)), (7, .int (nI k9)), (0, .ref ho), (1, .ref (la 3)), (2, .ref (la 5)), (3, .ref (la 10)), (4, .ref (la 11))]) hx hb dL_areNear_93 hl (by decide) rfl (fun ls hl => ?_)
                  have L95 : ∀ (n8 : Nat) (j8 : Nat), cn 1 + 1 ≤ j8 + n8 → j8 ≤ cn 1 → ∀ (locs95 : List Loc), va_S (fun q => Z q) s.heap H locs95 → ∀ (ls : Array Slot), lv_has ls 16 [(11, .int (cntN (laidS (cn, sc, μ)) (modS (cn, sc, μ)) k9 j8)), (12, .int (nI j8)), (5, .int 1), (6, .int (nI (ladL (laidS (cn, sc, μ)) k9).length)), (7, .int (nI k9)), (8, .int (nI ms)), (9, .int 1), (10, .int (mdS (cn, sc, μ) (nI k9))), (0, .ref ho), (1, .ref (la 3)), (2, .ref (la 5)), (3, .ref (la 10)), (4, .ref (la 11))] → W p l e rmL_areNear s m args below meth c H locs95 (8 * k9) (400 * k9) Q (F0 m 95 ls []) := by
                    intro n8
                    induction n8 with
                    | zero =>
                      intro j8 hm8 hj8 locs95 hS ls hl
                      exact absurd hm8 (by omega)
                    | succ n8 ih8 =>
                      intro j8 hm8 hj8 locs95 hS ls hl
                      refine lv_iload hx hb dL_areNear_95 (lv_at hl 1 rfl) ?_
                      refine lv_aload_n hx hb dL_areNear_97 rfl (lv_at hl 11 rfl) ?_
                      refine lv_iconst (v := 0) hx hb dL_areNear_98 (by decide) ?_
                      refine hk_ild X K hL.c10 (show vp_in (nI 0) 6 from vp_in_nI (by decide) (by decide)) dL_areNear_99 ?_
                      rw [show (V 10) (0 : Int32).toNatClampNeg = nI (cn 1) from hV.g0]
                      refine lv_icmp_ge (tgt := 217) hx hb dL_areNear_100 (by decide) (fun c_100 => ?_) (fun c_100 => ?_)
                      · have hj8 : j8 = cn 1 := by
                          have := (nI_leI (by omega) (by omega)).mp c_100
                          omega
                        rw [hj8] at hl
                        refine lv_iload hx hb dL_areNear_217 (lv_at hl 6 rfl) ?_
                        refine lv_if_eq (tgt := 233) hx hb dL_areNear_219 (by decide) (fun c_219 => ?_) (fun c_219 => ?_)
                        · exact absurd c_219 (by decide)
                        · refine lv_aload_n hx hb dL_areNear_222 rfl (lv_at hl 8 rfl) ?_
                          refine lv_iload hx hb dL_areNear_223 (lv_at hl 0 rfl) ?_
                          have hcd0 : cd_nearest (cntN (laidS (cn, sc, μ)) (modS (cn, sc, μ)) k9 (cn 1)) (cn, sc, μ) = 0 := near_cd (by rw [cntN_list (by omega) _ (by omega)]; exact nI_pos' (by have h9 := List.countP_le_length (p := fun y => decide (bef (modS (cn, sc, μ)) (fun x y => x < y) y k9)) (l := ladL (laidS (cn, sc, μ)) (cn 1)); have h8 := ladL_le (a := laidS (cn, sc, μ)) (cn 1); omega))
                          refine hk_callVx 1 (As := [.int (cntN (laidS (cn, sc, μ)) (modS (cn, sc, μ)) k9 (cn 1))]) (rest := []) X K hAE hS hl.1 (HW.o hW) rfl (c_X10_nearest E l hl9 H hW hI hZn (p0 := cntN (laidS (cn, sc, μ)) (modS (cn, sc, μ)) k9 (cn 1))) (fun q h => h) gL_areNear_X10_nearest rfl ⟨rfl, hd_X10_nearest⟩ rfl ⟨⟨(Nat.le_of_ble_eq_true rfl), (Nat.le_of_ble_eq_true rfl)⟩, (by show 8 * k9 + 8 ≤ 60; omega), (by show 400 * k9 + 400 ≤ 3000; omega)⟩ rfl (Nat.le_of_ble_eq_true rfl) dL_areNear_225 (fun x9 ce9 q9 H9 locs9 hp hS hz9 hk9 hce hcv hcl => by
                              obtain ⟨hcs, -⟩ := hp
                              rw [hcd0] at hcs
                              rcases hcs with ⟨h, -⟩ | ⟨h, -⟩ | ⟨h, -⟩ <;> exact absurd h (by decide)
                            ) (fun v9 H8 locsH8 hp hS hzH8 hkH8 => ?_)
                          obtain ⟨-, hv, G, R, hW⟩ := hp
                          subst hv
                          have hL := hL.kept (fun k hk => hkH8 (la k) (hL.lt hk) (hlz k hk))
                          have hZn := fun (q : Nat) (h : H8.size ≤ q) => hZn q (Nat.le_trans hzH8 h)
                          refine lv_iload hx hb dL_areNear_228 (lv_at hl 4 rfl) ?_
                          refine lv_icmp_ne (tgt := 237) hx hb dL_areNear_230 (by decide) (fun c_230 => ?_) (fun c_230 => ?_)
                          · exact (c_230 (near_rank (N := cn 1) (by omega) hk9 (by rw [hla]; decide))).elim
                          · refine lv_iconst (v := 1) hx hb dL_areNear_233 (by decide) ?_
                            refine lv_goto (tgt := 238) hx hb dL_areNear_234 (by decide) ?_
                            refine lv_istore (lv' := [(5, .int 1), (11, .int (cntN (laidS (cn, sc, μ)) (modS (cn, sc, μ)) k9 (cn 1))), (12, .int (nI (cn 1))), (6, .int (nI (ladL (laidS (cn, sc, μ)) k9).length)), (7, .int (nI k9)), (8, .int (nI ms)), (9, .int 1), (10, .int (mdS (cn, sc, μ) (nI k9))), (0, .ref ho), (1, .ref (la 3)), (2, .ref (la 5)), (3, .ref (la 10)), (4, .ref (la 11))]) hx hb dL_areNear_238 hl (by decide) rfl (fun ls hl => ?_)
                            refine lv_iload hx hb dL_areNear_240 (lv_at hl 3 rfl) ?_
                            refine lv_iload hx hb dL_areNear_242 (lv_at hl 6 rfl) ?_
                            refine lv_if_eq (tgt := 251) hx hb dL_areNear_244 (by decide) (fun c_244 => ?_) (fun c_244 => ?_)
                            · exact absurd c_244 (by decide)
                            · refine lv_iconst (v := 1) hx hb dL_areNear_247 (by decide) ?_
                              refine lv_goto (tgt := 252) hx hb dL_areNear_248 (by decide) ?_
                              refine lv_iadd hx hb dL_areNear_252 ?_
                              refine lv_topi (fun q253 eq253 => ?_)
                              refine lv_istore (lv' := [(6, .int q253), (5, .int 1), (11, .int (cntN (laidS (cn, sc, μ)) (modS (cn, sc, μ)) k9 (cn 1))), (12, .int (nI (cn 1))), (7, .int (nI k9)), (8, .int (nI ms)), (9, .int 1), (10, .int (mdS (cn, sc, μ) (nI k9))), (0, .ref ho), (1, .ref (la 3)), (2, .ref (la 5)), (3, .ref (la 10)), (4, .ref (la 11))]) hx hb dL_areNear_253 hl (by decide) rfl (fun ls hl => ?_)
                              rw [lad_y (by rw [hla]; decide)] at eq253
                              subst eq253
                              obtain ⟨q255, eq255⟩ : ∃ y : Int32, y = (nI k9) + 1 := ⟨_, rfl⟩
                              refine lv_iinc (v := q255) (lv' := [(7, .int q255), (6, .int (nI (ladL (laidS (cn, sc, μ)) (k9 + 1)).length)), (5, .int 1), (11, .int (cntN (laidS (cn, sc, μ)) (modS (cn, sc, μ)) k9 (cn 1))), (12, .int (nI (cn 1))), (8, .int (nI ms)), (9, .int 1), (10, .int (mdS (cn, sc, μ) (nI k9))), (0, .ref ho), (1, .ref (la 3)), (2, .ref (la 5)), (3, .ref (la 10)), (4, .ref (la 11))]) hx hb dL_areNear_255 hl (k := 4) rfl (by rw [eq255]; rfl) (by decide) rfl (fun ls hl => ?_)
                              rw [nI_1] at eq255
                              subst eq255
                              refine lv_goto (tgt := 9) hx hb dL_areNear_258 (by decide) ?_
                              refine W.widen (k := 8 * (k9 + 1)) (n := 400 * (k9 + 1)) (by show 8 * k9 + 8 ≤ _; omega) (by show 400 * k9 + 400 ≤ _; omega) ?_
                              exact ih (k9 + 1) _ _ G R (by omega) ⟨hS, hW, hL, hZn, by omega⟩ _ (lv_sub hl [2, 1, 0, 8, 9, 10, 11, 12] rfl)
                      · have hj8 : j8 < cn 1 := Nat.lt_of_not_le (fun h => c_100 (nI_le h (by omega)))
                        obtain ⟨mt, hmt, hmy⟩ := hV.a1 hj8
                        have hmy : mskR (cn 1) (μ 3) mt (μ 3 j8) (-1) := hmy
                        obtain ⟨hzb, hlob, hleb⟩ := low_ent (InvF.ent hI) hn1 hj8 hmy
                        have hlbb := lowb_le mt
                        refine lv_iload hx hb dL_areNear_103 (lv_at hl 6 rfl) ?_
                        refine lv_if_eq (tgt := 217) hx hb dL_areNear_105 (by decide) (fun c_105 => ?_) (fun c_105 => ?_)
                        · exact absurd c_105 (by decide)
                        · refine lv_aload_n hx hb dL_areNear_108 rfl (lv_at hl 9 rfl) ?_
                          refine lv_iconst (v := 4) hx hb dL_areNear_109 (by decide) ?_
                          refine lv_iload hx hb dL_areNear_110 (lv_at hl 1 rfl) ?_
                          refine lv_imul hx hb dL_areNear_112 ?_
                          refine lv_topi (fun z_9 ez_9 => ?_)
                          have ez_9 : z_9 = nI (4 * j8) := ez_9.trans (nI_mul 4 j8)
                          subst ez_9
                          refine lv_iconst (v := 1) hx hb dL_areNear_113 (by decide) ?_
                          refine lv_iadd hx hb dL_areNear_114 ?_
                          refine lv_topi (fun z_10 ez_10 => ?_)
                          have ez_10 : z_10 = nI ((4 * j8) + 1) := ez_10.trans (nI_add (4 * j8) 1)
                          subst ez_10
                          refine hk_ild X K hL.c3 (vp_in_nI (by omega) (by omega)) dL_areNear_115 ?_
                          rw [show (V 3) (nI ((4 * j8) + 1)).toNatClampNeg = nI mt from (congrArg (V 3) (nI_clamp (show 4 * j8 + 1 < 2 ^ 31 by omega))).trans hmt]
                          refine lv_istore (lv' := [(13, .int (nI mt)), (11, .int (cntN (laidS (cn, sc, μ)) (modS (cn, sc, μ)) k9 j8)), (12, .int (nI j8)), (5, .int 1), (6, .int (nI (ladL (laidS (cn, sc, μ)) k9).length)), (7, .int (nI k9)), (8, .int (nI ms)), (9, .int 1), (10, .int (mdS (cn, sc, μ) (nI k9))), (0, .ref ho), (1, .ref (la 3)), (2, .ref (la 5)), (3, .ref (la 10)), (4, .ref (la 11))]) hx hb dL_areNear_116 hl (by decide) rfl (fun ls hl => ?_)
                          refine lv_iload hx hb dL_areNear_118 (lv_at hl 0 rfl) ?_
                          refine hk_callS 1 (As := [.int (nI mt)]) (rest := []) X K hAE hS hl.1 (c_L_lowest E l H hmy.1 hzb) (fun _ h => h.elim) gL_areNear_L_lowest rfl hd_L_lowest rfl ⟨⟨(Nat.le_of_ble_eq_true rfl), (Nat.le_of_ble_eq_true rfl)⟩, (by show 8 * k9 + 0 ≤ 60; omega), (by show 400 * k9 + 0 ≤ 3000; omega)⟩ rfl (Nat.le_of_ble_eq_true rfl) dL_areNear_120 (fun v9 H11 locsH11 hp hS hzH11 hkH11 => ?_)
                          obtain ⟨hv, hh⟩ := hp
                          subst hv; subst hh
                          refine lv_iload hx hb dL_areNear_123 (lv_at hl 2 rfl) ?_
                          refine lv_icmp_ne (tgt := 151) hx hb dL_areNear_125 (by decide) (fun c_125 => ?_) (fun c_125 => ?_)
                          · have hlb9 : laidS (cn, sc, μ) j8 = 0 := laid_n (Or.inl (fun h => c_125 (hlob.symm.trans h)))
                            refine lv_iconst (v := 0) hx hb dL_areNear_151 (by decide) ?_
                            refine lv_istore (lv' := [(14, .int 0), (13, .int (nI mt)), (11, .int (cntN (laidS (cn, sc, μ)) (modS (cn, sc, μ)) k9 j8)), (12, .int (nI j8)), (5, .int 1), (6, .int (nI (ladL (laidS (cn, sc, μ)) k9).length)), (7, .int (nI k9)), (8, .int (nI ms)), (9, .int 1), (10, .int (mdS (cn, sc, μ) (nI k9))), (0, .ref ho), (1, .ref (la 3)), (2, .ref (la 5)), (3, .ref (la 10)), (4, .ref (la 11))]) hx hb dL_areNear_152 hl (by decide) rfl (fun ls hl => ?_)
                            refine lv_iload hx hb dL_areNear_154 (lv_at hl 0 rfl) ?_
                            refine lv_if_eq (tgt := 172) hx hb dL_areNear_156 (by decide) (fun c_156 => ?_) (fun c_156 => ?_)
                            · refine lv_iconst (v := 0) hx hb dL_areNear_172 (by decide) ?_
                              refine lv_istore (lv' := [(15, .int 0), (14, .int 0), (13, .int (nI mt)), (11, .int (cntN (laidS (cn, sc, μ)) (modS (cn, sc, μ)) k9 j8)), (12, .int (nI j8)), (5, .int 1), (6, .int (nI (ladL (laidS (cn, sc, μ)) k9).length)), (7, .int (nI k9)), (8, .int (nI ms)), (9, .int 1), (10, .int (mdS (cn, sc, μ) (nI k9))), (0, .ref ho), (1, .ref (la 3)), (2, .ref (la 5)), (3, .ref (la 10)), (4, .ref (la 11))]) hx hb dL_areNear_173 hl (by decide) rfl (fun ls hl => ?_)
                              refine lv_iload hx hb dL_areNear_175 (lv_at hl 3 rfl) ?_
                              refine lv_iload hx hb dL_areNear_177 (lv_at hl 1 rfl) ?_
                              refine lv_if_eq (tgt := 207) hx hb dL_areNear_179 (by decide) (fun c_179 => ?_) (fun c_179 => ?_)
                              · refine lv_iconst (v := 0) hx hb dL_areNear_207 (by decide) ?_
                                refine lv_iadd hx hb dL_areNear_208 ?_
                                refine lv_topi (fun q209 eq209 => ?_)
                                refine lv_istore (lv' := [(11, .int q209), (15, .int 0), (14, .int 0), (13, .int (nI mt)), (12, .int (nI j8)), (5, .int 1), (6, .int (nI (ladL (laidS (cn, sc, μ)) k9).length)), (7, .int (nI k9)), (8, .int (nI ms)), (9, .int 1), (10, .int (mdS (cn, sc, μ) (nI k9))), (0, .ref ho), (1, .ref (la 3)), (2, .ref (la 5)), (3, .ref (la 10)), (4, .ref (la 11))]) hx hb dL_areNear_209 hl (by decide) rfl (fun ls hl => ?_)
                                rw [cnt_n (Or.inl hlb9)] at eq209
                                subst eq209
                                obtain ⟨q211, eq211⟩ : ∃ y : Int32, y = (nI j8) + 1 := ⟨_, rfl⟩
                                refine lv_iinc (v := q211) (lv' := [(12, .int q211), (11, .int (cntN (laidS (cn, sc, μ)) (modS (cn, sc, μ)) k9 (j8 + 1))), (15, .int 0), (14, .int 0), (13, .int (nI mt)), (5, .int 1), (6, .int (nI (ladL (laidS (cn, sc, μ)) k9).length)), (7, .int (nI k9)), (8, .int (nI ms)), (9, .int 1), (10, .int (mdS (cn, sc, μ) (nI k9))), (0, .ref ho), (1, .ref (la 3)), (2, .ref (la 5)), (3, .ref (la 10)), (4, .ref (la 11))]) hx hb dL_areNear_211 hl (k := 4) rfl (by rw [eq211]; rfl) (by decide) rfl (fun ls hl => ?_)
                                rw [nI_1] at eq211
                                subst eq211
                                refine lv_goto (tgt := 95) hx hb dL_areNear_214 (by decide) ?_
                                exact ih8 (j8 + 1) (by omega) (by omega) _ hS _ (lv_sub hl [1, 0, 5, 6, 7, 8, 9, 10, 11, 12, 13, 14, 15] rfl)
                              · exact absurd (by decide) c_179
                            · exact absurd (by decide) c_156
                          · have heb : μ 3 j8 = nI j8 := hlob.trans c_125
                            rw [heb] at hmy
                            refine lv_aload_n hx hb dL_areNear_128 rfl (lv_at hl 11 rfl) ?_
                            refine lv_aload_n hx hb dL_areNear_129 rfl (lv_at hl 12 rfl) ?_
                            refine lv_iload hx hb dL_areNear_130 (lv_at hl 0 rfl) ?_
                            refine hk_callS 3 (As := [.ref (la 5), .ref (la 10), .int (nI mt)]) (rest := []) X K hAE hS hl.1 (c_L_many E l H hL hV hI hmy) (fun _ h => h.elim) gL_areNear_L_many rfl hd_L_many rfl ⟨⟨(Nat.le_of_ble_eq_true rfl), (Nat.le_of_ble_eq_true rfl)⟩, (by show 8 * k9 + 0 ≤ 60; omega), (by show 400 * k9 + 0 ≤ 3000; omega)⟩ rfl (Nat.le_of_ble_eq_true rfl) dL_areNear_132 (fun v9 H12 locsH12 hp hS hzH12 hkH12 => ?_)
                            obtain ⟨hv, hh⟩ := hp
                            subst hv; subst hh
                            refine lv_if_le (tgt := 151) hx hb dL_areNear_135 (by decide) (fun c_135 => ?_) (fun c_135 => ?_)
                            · have hlb9 : laidS (cn, sc, μ) j8 = 0 := laid_n (Or.inr (Or.inl (by
                                have h := (nI_leI (b := 0) (by have h9 := sp_sel_le (μ := μ) (e1 := nI j8) (e2 := -1) (cn 12); omega) (by omega)).mp c_135
                                exact Nat.le_zero.mp h)))
                              refine lv_iconst (v := 0) hx hb dL_areNear_151 (by decide) ?_
                              refine lv_istore (lv' := [(14, .int 0), (13, .int (nI mt)), (11, .int (cntN (laidS (cn, sc, μ)) (modS (cn, sc, μ)) k9 j8)), (12, .int (nI j8)), (5, .int 1), (6, .int (nI (ladL (laidS (cn, sc, μ)) k9).length)), (7, .int (nI k9)), (8, .int (nI ms)), (9, .int 1), (10, .int (mdS (cn, sc, μ) (nI k9))), (0, .ref ho), (1, .ref (la 3)), (2, .ref (la 5)), (3, .ref (la 10)), (4, .ref (la 11))]) hx hb dL_areNear_152 hl (by decide) rfl (fun ls hl => ?_)
                              refine lv_iload hx hb dL_areNear_154 (lv_at hl 0 rfl) ?_
                              refine lv_if_eq (tgt := 172) hx hb dL_areNear_156 (by decide) (fun c_156 => ?_) (fun c_156 => ?_)
                              · refine lv_iconst (v := 0) hx hb dL_areNear_172 (by decide) ?_
                                refine lv_istore (lv' := [(15, .int 0), (14, .int 0), (13, .int (nI mt)), (11, .int (cntN (laidS (cn, sc, μ)) (modS (cn, sc, μ)) k9 j8)), (12, .int (nI j8)), (5, .int 1), (6, .int (nI (ladL (laidS (cn, sc, μ)) k9).length)), (7, .int (nI k9)), (8, .int (nI ms)), (9, .int 1), (10, .int (mdS (cn, sc, μ) (nI k9))), (0, .ref ho), (1, .ref (la 3)), (2, .ref (la 5)), (3, .ref (la 10)), (4, .ref (la 11))]) hx hb dL_areNear_173 hl (by decide) rfl (fun ls hl => ?_)
                                refine lv_iload hx hb dL_areNear_175 (lv_at hl 3 rfl) ?_
                                refine lv_iload hx hb dL_areNear_177 (lv_at hl 1 rfl) ?_
                                refine lv_if_eq (tgt := 207) hx hb dL_areNear_179 (by decide) (fun c_179 => ?_) (fun c_179 => ?_)
                                · refine lv_iconst (v := 0) hx hb dL_areNear_207 (by decide) ?_
                                  refine lv_iadd hx hb dL_areNear_208 ?_
                                  refine lv_topi (fun q209 eq209 => ?_)
                                  refine lv_istore (lv' := [(11, .int q209), (15, .int 0), (14, .int 0), (13, .int (nI mt)), (12, .int (nI j8)), (5, .int 1), (6, .int (nI (ladL (laidS (cn, sc, μ)) k9).length)), (7, .int (nI k9)), (8, .int (nI ms)), (9, .int 1), (10, .int (mdS (cn, sc, μ) (nI k9))), (0, .ref ho), (1, .ref (la 3)), (2, .ref (la 5)), (3, .ref (la 10)), (4, .ref (la 11))]) hx hb dL_areNear_209 hl (by decide) rfl (fun ls hl => ?_)
                                  rw [cnt_n (Or.inl hlb9)] at eq209
                                  subst eq209
                                  obtain ⟨q211, eq211⟩ : ∃ y : Int32, y = (nI j8) + 1 := ⟨_, rfl⟩
                                  refine lv_iinc (v := q211) (lv' := [(12, .int q211), (11, .int (cntN (laidS (cn, sc, μ)) (modS (cn, sc, μ)) k9 (j8 + 1))), (15, .int 0), (14, .int 0), (13, .int (nI mt)), (5, .int 1), (6, .int (nI (ladL (laidS (cn, sc, μ)) k9).length)), (7, .int (nI k9)), (8, .int (nI ms)), (9, .int 1), (10, .int (mdS (cn, sc, μ) (nI k9))), (0, .ref ho), (1, .ref (la 3)), (2, .ref (la 5)), (3, .ref (la 10)), (4, .ref (la 11))]) hx hb dL_areNear_211 hl (k := 4) rfl (by rw [eq211]; rfl) (by decide) rfl (fun ls hl => ?_)
                                  rw [nI_1] at eq211
                                  subst eq211
                                  refine lv_goto (tgt := 95) hx hb dL_areNear_214 (by decide) ?_
                                  exact ih8 (j8 + 1) (by omega) (by omega) _ hS _ (lv_sub hl [1, 0, 5, 6, 7, 8, 9, 10, 11, 12, 13, 14, 15] rfl)
                                · exact absurd (by decide) c_179
                              · exact absurd (by decide) c_156
                            · have h0b : 0 < (sp_sel μ (nI j8) (-1) (cn 12)).length := by
                                rcases Nat.eq_zero_or_pos (sp_sel μ (nI j8) (-1) (cn 12)).length with h | h
                                · rw [h] at c_135; exact absurd (Int32.le_refl _) c_135
                                · exact h
                              refine lv_aload_n hx hb dL_areNear_138 rfl (lv_at hl 10 rfl) ?_
                              refine lv_iload hx hb dL_areNear_139 (lv_at hl 0 rfl) ?_
                              refine hk_callS 2 (As := [.ref (la 3), .int (nI mt)]) (rest := []) X K hAE hS hl.1 (c_L_claim E l H hL hV hI hmy (nI_pos' (by omega))) (fun _ h => h.elim) gL_areNear_L_claim rfl hd_L_claim rfl ⟨⟨(Nat.le_of_ble_eq_true rfl), (Nat.le_of_ble_eq_true rfl)⟩, (by show 8 * k9 + 0 ≤ 60; omega), (by show 400 * k9 + 0 ≤ 3000; omega)⟩ rfl (Nat.le_of_ble_eq_true rfl) dL_areNear_141 (fun v9 H13 locsH13 hp hS hzH13 hkH13 => ?_)
                              obtain ⟨hv, hh⟩ := hp
                              subst hv; subst hh
                              refine lv_if_le (tgt := 151) hx hb dL_areNear_144 (by decide) (fun c_144 => ?_) (fun c_144 => ?_)
                              · have hlb9 : laidS (cn, sc, μ) j8 = 0 := laid_n (Or.inr (Or.inr (Int32.not_lt.mpr c_144)))
                                refine lv_iconst (v := 0) hx hb dL_areNear_151 (by decide) ?_
                                refine lv_istore (lv' := [(14, .int 0), (13, .int (nI mt)), (11, .int (cntN (laidS (cn, sc, μ)) (modS (cn, sc, μ)) k9 j8)), (12, .int (nI j8)), (5, .int 1), (6, .int (nI (ladL (laidS (cn, sc, μ)) k9).length)), (7, .int (nI k9)), (8, .int (nI ms)), (9, .int 1), (10, .int (mdS (cn, sc, μ) (nI k9))), (0, .ref ho), (1, .ref (la 3)), (2, .ref (la 5)), (3, .ref (la 10)), (4, .ref (la 11))]) hx hb dL_areNear_152 hl (by decide) rfl (fun ls hl => ?_)
                                refine lv_iload hx hb dL_areNear_154 (lv_at hl 0 rfl) ?_
                                refine lv_if_eq (tgt := 172) hx hb dL_areNear_156 (by decide) (fun c_156 => ?_) (fun c_156 => ?_)
                                · refine lv_iconst (v := 0) hx hb dL_areNear_172 (by decide) ?_
                                  refine lv_istore (lv' := [(15, .int 0), (14, .int 0), (13, .int (nI mt)), (11, .int (cntN (laidS (cn, sc, μ)) (modS (cn, sc, μ)) k9 j8)), (12, .int (nI j8)), (5, .int 1), (6, .int (nI (ladL (laidS (cn, sc, μ)) k9).length)), (7, .int (nI k9)), (8, .int (nI ms)), (9, .int 1), (10, .int (mdS (cn, sc, μ) (nI k9))), (0, .ref ho), (1, .ref (la 3)), (2, .ref (la 5)), (3, .ref (la 10)), (4, .ref (la 11))]) hx hb dL_areNear_173 hl (by decide) rfl (fun ls hl => ?_)
                                  refine lv_iload hx hb dL_areNear_175 (lv_at hl 3 rfl) ?_
                                  refine lv_iload hx hb dL_areNear_177 (lv_at hl 1 rfl) ?_
                                  refine lv_if_eq (tgt := 207) hx hb dL_areNear_179 (by decide) (fun c_179 => ?_) (fun c_179 => ?_)
                                  · refine lv_iconst (v := 0) hx hb dL_areNear_207 (by decide) ?_
                                    refine lv_iadd hx hb dL_areNear_208 ?_
                                    refine lv_topi (fun q209 eq209 => ?_)
                                    refine lv_istore (lv' := [(11, .int q209), (15, .int 0), (14, .int 0), (13, .int (nI mt)), (12, .int (nI j8)), (5, .int 1), (6, .int (nI (ladL (laidS (cn, sc, μ)) k9).length)), (7, .int (nI k9)), (8, .int (nI ms)), (9, .int 1), (10, .int (mdS (cn, sc, μ) (nI k9))), (0, .ref ho), (1, .ref (la 3)), (2, .ref (la 5)), (3, .ref (la 10)), (4, .ref (la 11))]) hx hb dL_areNear_209 hl (by decide) rfl (fun ls hl => ?_)
                                    rw [cnt_n (Or.inl hlb9)] at eq209
                                    subst eq209
                                    obtain ⟨q211, eq211⟩ : ∃ y : Int32, y = (nI j8) + 1 := ⟨_, rfl⟩
                                    refine lv_iinc (v := q211) (lv' := [(12, .int q211), (11, .int (cntN (laidS (cn, sc, μ)) (modS (cn, sc, μ)) k9 (j8 + 1))), (15, .int 0), (14, .int 0), (13, .int (nI mt)), (5, .int 1), (6, .int (nI (ladL (laidS (cn, sc, μ)) k9).length)), (7, .int (nI k9)), (8, .int (nI ms)), (9, .int 1), (10, .int (mdS (cn, sc, μ) (nI k9))), (0, .ref ho), (1, .ref (la 3)), (2, .ref (la 5)), (3, .ref (la 10)), (4, .ref (la 11))]) hx hb dL_areNear_211 hl (k := 4) rfl (by rw [eq211]; rfl) (by decide) rfl (fun ls hl => ?_)
                                    rw [nI_1] at eq211
                                    subst eq211
                                    refine lv_goto (tgt := 95) hx hb dL_areNear_214 (by decide) ?_
                                    exact ih8 (j8 + 1) (by omega) (by omega) _ hS _ (lv_sub hl [1, 0, 5, 6, 7, 8, 9, 10, 11, 12, 13, 14, 15] rfl)
                                  · exact absurd (by decide) c_179
                                · exact absurd (by decide) c_156
                              · have hcb : 0 < sp_clm (μ 3) (μ 4) (nI j8) (cn 1) 0 := Int32.not_le.mp c_144
                                have hlb9 : laidS (cn, sc, μ) j8 = 1 := laid_y heb h0b hcb (show (sp_sel μ (nI j8) (-1) (cn 12)).length < 2 ^ 31 by have h9 := sp_sel_le (μ := μ) (e1 := nI j8) (e2 := -1) (cn 12); omega)
                                refine lv_iconst (v := 1) hx hb dL_areNear_147 (by decide) ?_
                                refine lv_goto (tgt := 152) hx hb dL_areNear_148 (by decide) ?_
                                refine lv_istore (lv' := [(14, .int 1), (13, .int (nI mt)), (11, .int (cntN (laidS (cn, sc, μ)) (modS (cn, sc, μ)) k9 j8)), (12, .int (nI j8)), (5, .int 1), (6, .int (nI (ladL (laidS (cn, sc, μ)) k9).length)), (7, .int (nI k9)), (8, .int (nI ms)), (9, .int 1), (10, .int (mdS (cn, sc, μ) (nI k9))), (0, .ref ho), (1, .ref (la 3)), (2, .ref (la 5)), (3, .ref (la 10)), (4, .ref (la 11))]) hx hb dL_areNear_152 hl (by decide) rfl (fun ls hl => ?_)
                                refine lv_iload hx hb dL_areNear_154 (lv_at hl 0 rfl) ?_
                                refine lv_if_eq (tgt := 172) hx hb dL_areNear_156 (by decide) (fun c_156 => ?_) (fun c_156 => ?_)
                                · exact absurd c_156 (by decide)
                                · refine lv_aload_n hx hb dL_areNear_159 rfl (lv_at hl 11 rfl) ?_
                                  refine lv_aload_n hx hb dL_areNear_160 rfl (lv_at hl 12 rfl) ?_
                                  refine lv_aload_n hx hb dL_areNear_161 rfl (lv_at hl 13 rfl) ?_
                                  refine lv_aload hx hb dL_areNear_162 (lv_at hl 14 rfl) ?_
                                  refine lv_iload hx hb dL_areNear_164 (lv_at hl 1 rfl) ?_
                                  refine hk_callS 5 (As := [.ref (la 3), .ref (la 5), .ref (la 10), .ref (la 11), .int (nI mt)]) (rest := []) X K hAE hS hl.1 (c_L_modulus E l H hL hV hI hX hmy (nI_pos' (by omega)) h0b hcb hzb (heb.symm.trans hlob)) (fun _ h => h.elim) gL_areNear_L_modulus rfl hd_L_modulus rfl ⟨⟨(Nat.le_of_ble_eq_true rfl), (Nat.le_of_ble_eq_true rfl)⟩, (by show 8 * k9 + 0 ≤ 60; omega), (by show 400 * k9 + 0 ≤ 3000; omega)⟩ rfl (Nat.le_of_ble_eq_true rfl) dL_areNear_166 (fun v9 H14 locsH14 hp hS hzH14 hkH14 => ?_)
                                  obtain ⟨hv, hh⟩ := hp
                                  subst hv; subst hh
                                  refine lv_goto (tgt := 173) hx hb dL_areNear_169 (by decide) ?_
                                  refine lv_istore (lv' := [(15, .int (mdS (cn, sc, μ) (nI j8))), (14, .int 1), (13, .int (nI mt)), (11, .int (cntN (laidS (cn, sc, μ)) (modS (cn, sc, μ)) k9 j8)), (12, .int (nI j8)), (5, .int 1), (6, .int (nI (ladL (laidS (cn, sc, μ)) k9).length)), (7, .int (nI k9)), (8, .int (nI ms)), (9, .int 1), (10, .int (mdS (cn, sc, μ) (nI k9))), (0, .ref ho), (1, .ref (la 3)), (2, .ref (la 5)), (3, .ref (la 10)), (4, .ref (la 11))]) hx hb dL_areNear_173 hl (by decide) rfl (fun ls hl => ?_)
                                  refine lv_iload hx hb dL_areNear_175 (lv_at hl 3 rfl) ?_
                                  refine lv_iload hx hb dL_areNear_177 (lv_at hl 1 rfl) ?_
                                  refine lv_if_eq (tgt := 207) hx hb dL_areNear_179 (by decide) (fun c_179 => ?_) (fun c_179 => ?_)
                                  · exact absurd c_179 (by decide)
                                  · refine lv_iload hx hb dL_areNear_182 (lv_at hl 0 rfl) ?_
                                    refine lv_iload hx hb dL_areNear_184 (lv_at hl 10 rfl) ?_
                                    refine lv_icmp_lt (tgt := 203) hx hb dL_areNear_186 (by decide) (fun c_186 => ?_) (fun c_186 => ?_)
                                    · refine lv_iconst (v := 1) hx hb dL_areNear_203 (by decide) ?_
                                      refine lv_goto (tgt := 208) hx hb dL_areNear_204 (by decide) ?_
                                      refine lv_iadd hx hb dL_areNear_208 ?_
                                      refine lv_topi (fun q209 eq209 => ?_)
                                      refine lv_istore (lv' := [(11, .int q209), (15, .int (mdS (cn, sc, μ) (nI j8))), (14, .int 1), (13, .int (nI mt)), (12, .int (nI j8)), (5, .int 1), (6, .int (nI (ladL (laidS (cn, sc, μ)) k9).length)), (7, .int (nI k9)), (8, .int (nI ms)), (9, .int 1), (10, .int (mdS (cn, sc, μ) (nI k9))), (0, .ref ho), (1, .ref (la 3)), (2, .ref (la 5)), (3, .ref (la 10)), (4, .ref (la 11))]) hx hb dL_areNear_209 hl (by decide) rfl (fun ls hl => ?_)
                                      rw [cnt_y (by rw [hlb9]; decide) (Or.inl (by rw [mod_y hlb9, mod_y hla]; exact c_186))] at eq209
                                      subst eq209
                                      obtain ⟨q211, eq211⟩ : ∃ y : Int32, y = (nI j8) + 1 := ⟨_, rfl⟩
                                      refine lv_iinc (v := q211) (lv' := [(12, .int q211), (11, .int (cntN (laidS (cn, sc, μ)) (modS (cn, sc, μ)) k9 (j8 + 1))), (15, .int (mdS (cn, sc, μ) (nI j8))), (14, .int 1), (13, .int (nI mt)), (5, .int 1), (6, .int (nI (ladL (laidS (cn, sc, μ)) k9).length)), (7, .int (nI k9)), (8, .int (nI ms)), (9, .int 1), (10, .int (mdS (cn, sc, μ) (nI k9))), (0, .ref ho), (1, .ref (la 3)), (2, .ref (la 5)), (3, .ref (la 10)), (4, .ref (la 11))]) hx hb dL_areNear_211 hl (k := 4) rfl (by rw [eq211]; rfl) (by decide) rfl (fun ls hl => ?_)
                                      rw [nI_1] at eq211
                                      subst eq211
                                      refine lv_goto (tgt := 95) hx hb dL_areNear_214 (by decide) ?_
                                      exact ih8 (j8 + 1) (by omega) (by omega) _ hS _ (lv_sub hl [1, 0, 5, 6, 7, 8, 9, 10, 11, 12, 13, 14, 15] rfl)
                                    · refine lv_iload hx hb dL_areNear_189 (lv_at hl 0 rfl) ?_
                                      refine lv_iload hx hb dL_areNear_191 (lv_at hl 10 rfl) ?_
                                      refine lv_icmp_ne (tgt := 207) hx hb dL_areNear_193 (by decide) (fun c_193 => ?_) (fun c_193 => ?_)
                                      · refine lv_iconst (v := 0) hx hb dL_areNear_207 (by decide) ?_
                                        refine lv_iadd hx hb dL_areNear_208 ?_
                                        refine lv_topi (fun q209 eq209 => ?_)
                                        refine lv_istore (lv' := [(11, .int q209), (15, .int (mdS (cn, sc, μ) (nI j8))), (14, .int 1), (13, .int (nI mt)), (12, .int (nI j8)), (5, .int 1), (6, .int (nI (ladL (laidS (cn, sc, μ)) k9).length)), (7, .int (nI k9)), (8, .int (nI ms)), (9, .int 1), (10, .int (mdS (cn, sc, μ) (nI k9))), (0, .ref ho), (1, .ref (la 3)), (2, .ref (la 5)), (3, .ref (la 10)), (4, .ref (la 11))]) hx hb dL_areNear_209 hl (by decide) rfl (fun ls hl => ?_)
                                        rw [cnt_n (Or.inr (by rw [mod_y hlb9, mod_y hla]; exact fun g => g.elim c_186 (fun g => c_193 g.1)))] at eq209
                                        subst eq209
                                        obtain ⟨q211, eq211⟩ : ∃ y : Int32, y = (nI j8) + 1 := ⟨_, rfl⟩
                                        refine lv_iinc (v := q211) (lv' := [(12, .int q211), (11, .int (cntN (laidS (cn, sc, μ)) (modS (cn, sc, μ)) k9 (j8 + 1))), (15, .int (mdS (cn, sc, μ) (nI j8))), (14, .int 1), (13, .int (nI mt)), (5, .int 1), (6, .int (nI (ladL (laidS (cn, sc, μ)) k9).length)), (7, .int (nI k9)), (8, .int (nI ms)), (9, .int 1), (10, .int (mdS (cn, sc, μ) (nI k9))), (0, .ref ho), (1, .ref (la 3)), (2, .ref (la 5)), (3, .ref (la 10)), (4, .ref (la 11))]) hx hb dL_areNear_211 hl (k := 4) rfl (by rw [eq211]; rfl) (by decide) rfl (fun ls hl => ?_)
                                        rw [nI_1] at eq211
                                        subst eq211
                                        refine lv_goto (tgt := 95) hx hb dL_areNear_214 (by decide) ?_
                                        exact ih8 (j8 + 1) (by omega) (by omega) _ hS _ (lv_sub hl [1, 0, 5, 6, 7, 8, 9, 10, 11, 12, 13, 14, 15] rfl)
                                      · refine lv_iload hx hb dL_areNear_196 (lv_at hl 4 rfl) ?_
                                        refine lv_iload hx hb dL_areNear_198 (lv_at hl 7 rfl) ?_
                                        refine lv_icmp_ge (tgt := 207) hx hb dL_areNear_200 (by decide) (fun c_200 => ?_) (fun c_200 => ?_)
                                        · refine lv_iconst (v := 0) hx hb dL_areNear_207 (by decide) ?_
                                          refine lv_iadd hx hb dL_areNear_208 ?_
                                          refine lv_topi (fun q209 eq209 => ?_)
                                          refine lv_istore (lv' := [(11, .int q209), (15, .int (mdS (cn, sc, μ) (nI j8))), (14, .int 1), (13, .int (nI mt)), (12, .int (nI j8)), (5, .int 1), (6, .int (nI (ladL (laidS (cn, sc, μ)) k9).length)), (7, .int (nI k9)), (8, .int (nI ms)), (9, .int 1), (10, .int (mdS (cn, sc, μ) (nI k9))), (0, .ref ho), (1, .ref (la 3)), (2, .ref (la 5)), (3, .ref (la 10)), (4, .ref (la 11))]) hx hb dL_areNear_209 hl (by decide) rfl (fun ls hl => ?_)
                                          rw [cnt_n (Or.inr (by rw [mod_y hlb9, mod_y hla]; exact fun g => g.elim c_186 (fun g => absurd g.2 (Int32.not_lt.mpr c_200))))] at eq209
                                          subst eq209
                                          obtain ⟨q211, eq211⟩ : ∃ y : Int32, y = (nI j8) + 1 := ⟨_, rfl⟩
                                          refine lv_iinc (v := q211) (lv' := [(12, .int q211), (11, .int (cntN (laidS (cn, sc, μ)) (modS (cn, sc, μ)) k9 (j8 + 1))), (15, .int (mdS (cn, sc, μ) (nI j8))), (14, .int 1), (13, .int (nI mt)), (5, .int 1), (6, .int (nI (ladL (laidS (cn, sc, μ)) k9).length)), (7, .int (nI k9)), (8, .int (nI ms)), (9, .int 1), (10, .int (mdS (cn, sc, μ) (nI k9))), (0, .ref ho), (1, .ref (la 3)), (2, .ref (la 5)), (3, .ref (la 10)), (4, .ref (la 11))]) hx hb dL_areNear_211 hl (k := 4) rfl (by rw [eq211]; rfl) (by decide) rfl (fun ls hl => ?_)
                                          rw [nI_1] at eq211
                                          subst eq211
                                          refine lv_goto (tgt := 95) hx hb dL_areNear_214 (by decide) ?_
                                          exact ih8 (j8 + 1) (by omega) (by omega) _ hS _ (lv_sub hl [1, 0, 5, 6, 7, 8, 9, 10, 11, 12, 13, 14, 15] rfl)
                                        · refine lv_iconst (v := 1) hx hb dL_areNear_203 (by decide) ?_
                                          refine lv_goto (tgt := 208) hx hb dL_areNear_204 (by decide) ?_
                                          refine lv_iadd hx hb dL_areNear_208 ?_
                                          refine lv_topi (fun q209 eq209 => ?_)
                                          refine lv_istore (lv' := [(11, .int q209), (15, .int (mdS (cn, sc, μ) (nI j8))), (14, .int 1), (13, .int (nI mt)), (12, .int (nI j8)), (5, .int 1), (6, .int (nI (ladL (laidS (cn, sc, μ)) k9).length)), (7, .int (nI k9)), (8, .int (nI ms)), (9, .int 1), (10, .int (mdS (cn, sc, μ) (nI k9))), (0, .ref ho), (1, .ref (la 3)), (2, .ref (la 5)), (3, .ref (la 10)), (4, .ref (la 11))]) hx hb dL_areNear_209 hl (by decide) rfl (fun ls hl => ?_)
                                          rw [cnt_y (by rw [hlb9]; decide) (Or.inr (by rw [mod_y hlb9, mod_y hla]; exact ⟨c_193, Int32.not_le.mp c_200⟩))] at eq209
                                          subst eq209
                                          obtain ⟨q211, eq211⟩ : ∃ y : Int32, y = (nI j8) + 1 := ⟨_, rfl⟩
                                          refine lv_iinc (v := q211) (lv' := [(12, .int q211), (11, .int (cntN (laidS (cn, sc, μ)) (modS (cn, sc, μ)) k9 (j8 + 1))), (15, .int (mdS (cn, sc, μ) (nI j8))), (14, .int 1), (13, .int (nI mt)), (5, .int 1), (6, .int (nI (ladL (laidS (cn, sc, μ)) k9).length)), (7, .int (nI k9)), (8, .int (nI ms)), (9, .int 1), (10, .int (mdS (cn, sc, μ) (nI k9))), (0, .ref ho), (1, .ref (la 3)), (2, .ref (la 5)), (3, .ref (la 10)), (4, .ref (la 11))]) hx hb dL_areNear_211 hl (k := 4) rfl (by rw [eq211]; rfl) (by decide) rfl (fun ls hl => ?_)
                                          rw [nI_1] at eq211
                                          subst eq211
                                          refine lv_goto (tgt := 95) hx hb dL_areNear_214 (by decide) ?_
                                          exact ih8 (j8 + 1) (by omega) (by omega) _ hS _ (lv_sub hl [1, 0, 5, 6, 7, 8, 9, 10, 11, 12, 13, 14, 15] rfl)
                  exact L95 (cn 1 + 1) 0 (by omega) (by omega) _ hS _ (lv_sub hl [1, 0, 5, 6, 7, 4, 3, 2, 8, 9, 10, 11, 12] rfl)
  exact L9 (cn 1 + 1) 0 H0 _ G R (by omega) ⟨hS, hW, hL, hZn, by omega⟩ _ (lv_sub hl [2, 1, 0, 3, 4, 5, 6, 7] rfl)

