theorem hd_L_votes : yL_votes.cls ≠ "java/lang/invoke/MethodHandle" ∧ yL_votes.cls ≠ "java/lang/invoke/VarHandle" ∧ (parseMethodDescriptor yL_votes.desc).map (fun d => d.parameters.length) = some 8 := ⟨by decide, by decide, by decide +kernel⟩
theorem hd_X10_entries : yX10_entries.cls ≠ "java/lang/invoke/MethodHandle" ∧ yX10_entries.cls ≠ "java/lang/invoke/VarHandle" ∧ (parseMethodDescriptor yX10_entries.desc).map (fun d => d.parameters.length) = some 1 := ⟨by decide, by decide, by decide +kernel⟩
theorem hd_X10_entry : yX10_entry.cls ≠ "java/lang/invoke/MethodHandle" ∧ yX10_entry.cls ≠ "java/lang/invoke/VarHandle" ∧ (parseMethodDescriptor yX10_entry.desc).map (fun d => d.parameters.length) = some 1 := ⟨by decide, by decide, by decide +kernel⟩
theorem hd_X10_string : yX10_string.cls ≠ "java/lang/invoke/MethodHandle" ∧ yX10_string.cls ≠ "java/lang/invoke/VarHandle" ∧ (parseMethodDescriptor yX10_string.desc).map (fun d => d.parameters.length) = some 2 := ⟨by decide, by decide, by decide +kernel⟩
theorem hd_X10_together : yX10_together.cls ≠ "java/lang/invoke/MethodHandle" ∧ yX10_together.cls ≠ "java/lang/invoke/VarHandle" ∧ (parseMethodDescriptor yX10_together.desc).map (fun d => d.parameters.length) = some 3 := ⟨by decide, by decide, by decide +kernel⟩
abbrev rmL_areStars : Room := { frames := 13, cells := 900, slots := 45000, locals := 254 }
set_option maxHeartbeats 4000000 in
set_option maxRecDepth 100000 in
theorem c_L_areStars (E : hk_E) (l : Launch) (hl9 : l.stackTraces = false) (H0 : Heap) {Z : Nat → Prop} {ho ts : Nat} {li : Nat → Nat} {rr : Nat → Nat → Nat} {G : hG} {R : hR} {la : Nat → Nat} {V : Nat → Nat → Int32} {cn : Nat → Nat} {sc : Nat → Int32} {μ : Nat → Nat → Int32} (hW : HW E Z (ho, li, rr, ts) G R (cn, sc, μ) H0) (hL : LW E la V H0) (hV : LV (cn, sc, μ) V) (hI : InvF (cn, sc, μ)) (hX : LXY (cn, sc, μ) V) (hZn : ∀ q, H0.size ≤ q → Z q) (hlz : ∀ k, k < 13 → ¬ Z (la k)) {zn : Nat} (hz31 : zn < 2 ^ 31) : hk_X E l yL_areStars wsL_areStars rmL_areStars (fun q => Z q) [.ref ho, .ref (la 3), .ref (la 5), .ref (la 8), .ref (la 10), .ref (la 11), .ref (la 12), .int (nI zn)] H0 (dpost E Z (ho, li, rr, ts) 1 (cn, sc, μ)) (fun _ _ => False) := by
  refine hk_X.ofW (cc := cL_areStars) (maxL := 19) (ret := (some .boolean)) (by decide +kernel) rfl (Nat.le_of_ble_eq_true rfl) ?_
  intro p e s m args below meth c ls Q hQ X hr hlk hx9 K hs9 hS hl
  obtain ⟨hx, hb, hml, hown, hts⟩ := id X
  have hAE : ∀ q, (fun q => Z q) q → hk_A E q := fun q h => hW.2.2.2.2.2.2.2.2.2.2.2.2 q h
  have hl : lv_has ls 19 [(0, .ref ho), (1, .ref (la 3)), (2, .ref (la 5)), (3, .ref (la 8)), (4, .ref (la 10)), (5, .ref (la 11)), (6, .ref (la 12)), (7, .int (nI zn))] := hl
  have hn1 : cn 1 ≤ 4 := hV.n1
  have hn8 : cn 8 ≤ 3 := hV.n8
  have hn12 : cn 12 ≤ 24 := hV.n12
  have hn22 : cn 22 ≤ 4 := hV.n22
  have hn29 : cn 29 ≤ 8 := hV.n29
  refine lv_iconst (v := 1) hx hb dL_areStars_0 (by decide) ?_
  refine lv_istore (lv' := [(8, .int 1), (0, .ref ho), (1, .ref (la 3)), (2, .ref (la 5)), (3, .ref (la 8)), (4, .ref (la 10)), (5, .ref (la 11)), (6, .ref (la 12)), (7, .int (nI zn))]) hx hb dL_areStars_1 hl (by decide) rfl (fun ls hl => ?_)
  refine lv_iconst (v := 0) hx hb dL_areStars_3 (by decide) ?_
  refine lv_istore (lv' := [(9, .int 0), (8, .int 1), (0, .ref ho), (1, .ref (la 3)), (2, .ref (la 5)), (3, .ref (la 8)), (4, .ref (la 10)), (5, .ref (la 11)), (6, .ref (la 12)), (7, .int (nI zn))]) hx hb dL_areStars_4 hl (by decide) rfl (fun ls hl => ?_)
  refine lv_iconst (v := 0) hx hb dL_areStars_6 (by decide) ?_
  refine lv_istore (lv' := [(10, .int 0), (9, .int 0), (8, .int 1), (0, .ref ho), (1, .ref (la 3)), (2, .ref (la 5)), (3, .ref (la 8)), (4, .ref (la 10)), (5, .ref (la 11)), (6, .ref (la 12)), (7, .int (nI zn))]) hx hb dL_areStars_7 hl (by decide) rfl (fun ls hl => ?_)
  have L9 : ∀ (n9 : Nat) (k9 : Nat) (H : Heap) (locs : List Loc) (G : hG) (R : hR), cn 1 + 1 ≤ k9 + n9 → (va_S (fun q => Z q) s.heap H locs ∧ HW E Z (ho, li, rr, ts) G R (cn, sc, μ) H ∧ LW E la V H ∧ (∀ q, H.size ≤ q → Z q) ∧ k9 ≤ cn 1) → ∀ (ls : Array Slot), lv_has ls 19 [(8, .int 1), (9, .int (nI (ecN (μ 3) k9))), (10, .int (nI k9)), (0, .ref ho), (1, .ref (la 3)), (2, .ref (la 5)), (3, .ref (la 8)), (4, .ref (la 10)), (5, .ref (la 11)), (6, .ref (la 12)), (7, .int (nI zn))] → W p l e rmL_areStars s m args below meth c H locs (200 * k9) (10000 * k9) Q (F0 m 9 ls []) := by
    intro n9
    induction n9 with
    | zero =>
      intro k9 H locs G R hm9 ⟨hS, hW, hL, hZn, hk⟩ ls hl
      exact absurd hm9 (by omega)
    | succ n9 ih =>
      intro k9 H locs G R hm9 ⟨hS, hW, hL, hZn, hk⟩ ls hl
      refine lv_iload hx hb dL_areStars_9 (lv_at hl 2 rfl) ?_
      refine lv_aload hx hb dL_areStars_11 (lv_at hl 7 rfl) ?_
      refine lv_iconst (v := 0) hx hb dL_areStars_13 (by decide) ?_
      refine hk_ild X K hL.c10 (show vp_in (nI 0) 6 from vp_in_nI (by decide) (by decide)) dL_areStars_14 ?_
      rw [show (V 10) (0 : Int32).toNatClampNeg = nI (cn 1) from hV.g0]
      refine lv_icmp_ge (tgt := 496) hx hb dL_areStars_15 (by decide) (fun c_15 => ?_) (fun c_15 => ?_)
      · have hk9 : k9 = cn 1 := by
          have := (nI_leI (by omega) (by omega)).mp c_15
          omega
        rw [hk9] at hl
        have hec := ecN_le (μ 3) (cn 1)
        refine lv_iload hx hb dL_areStars_496 (lv_at hl 0 rfl) ?_
        refine lv_if_eq (tgt := 525) hx hb dL_areStars_498 (by decide) (fun c_498 => ?_) (fun c_498 => ?_)
        · exact absurd c_498 (by decide)
        · refine lv_aload_n hx hb dL_areStars_501 rfl (lv_at hl 3 rfl) ?_
          refine lv_iconst (v := (-1)) hx hb dL_areStars_502 (by decide) ?_
          have hcd0 : cd_entries (-1) (cn, sc, μ) = 0 := ents_cm
          refine hk_callVx 1 (As := [.int (-1)]) (rest := []) X K hAE hS hl.1 (HW.o hW) rfl (c_X10_entries E l hl9 H hW hI hZn (p0 := (-1))) (fun q h => h) gL_areStars_X10_entries rfl ⟨rfl, hd_X10_entries⟩ rfl ⟨⟨(Nat.le_of_ble_eq_true rfl), (Nat.le_of_ble_eq_true rfl)⟩, (by show 200 * k9 + 8 ≤ 900; omega), (by show 10000 * k9 + 400 ≤ 45000; omega)⟩ rfl (Nat.le_of_ble_eq_true rfl) dL_areStars_503 (fun x9 ce9 q9 H9 locs9 hp hS hz9 hk9 hce hcv hcl => by
              obtain ⟨hcs, -⟩ := hp
              rw [hcd0] at hcs
              rcases hcs with ⟨h, -⟩ | ⟨h, -⟩ | ⟨h, -⟩ <;> exact absurd h (by decide)
            ) (fun v9 H1 locsH1 hp hS hzH1 hkH1 => ?_)
          obtain ⟨-, hv, G, R, hW⟩ := hp
          subst hv
          have hL := hL.kept (fun k hk => hkH1 (la k) (hL.lt hk) (hlz k hk))
          have hZn := fun (q : Nat) (h : H1.size ≤ q) => hZn q (Nat.le_trans hzH1 h)
          refine lv_iload hx hb dL_areStars_506 (lv_at hl 1 rfl) ?_
          refine lv_icmp_ne (tgt := 525) hx hb dL_areStars_508 (by decide) (fun c_508 => ?_) (fun c_508 => ?_)
          · exact (c_508 (ent_m1 hn1)).elim
          · refine lv_aload_n hx hb dL_areStars_511 rfl (lv_at hl 3 rfl) ?_
            refine lv_iload hx hb dL_areStars_512 (lv_at hl 1 rfl) ?_
            have hcd0 : cd_entries (nI (ecN (μ 3) (cn 1))) (cn, sc, μ) = 0 := ents_cd (by omega)
            refine hk_callVx 1 (As := [.int (nI (ecN (μ 3) (cn 1)))]) (rest := []) X K hAE hS hl.1 (HW.o hW) rfl (c_X10_entries E l hl9 H1 hW hI hZn (p0 := nI (ecN (μ 3) (cn 1)))) (fun q h => h) gL_areStars_X10_entries rfl ⟨rfl, hd_X10_entries⟩ rfl ⟨⟨(Nat.le_of_ble_eq_true rfl), (Nat.le_of_ble_eq_true rfl)⟩, (by show 200 * k9 + 8 + 8 ≤ 900; omega), (by show 10000 * k9 + 400 + 400 ≤ 45000; omega)⟩ rfl (Nat.le_of_ble_eq_true rfl) dL_areStars_514 (fun x9 ce9 q9 H9 locs9 hp hS hz9 hk9 hce hcv hcl => by
                obtain ⟨hcs, -⟩ := hp
                rw [hcd0] at hcs
                rcases hcs with ⟨h, -⟩ | ⟨h, -⟩ | ⟨h, -⟩ <;> exact absurd h (by decide)
              ) (fun v9 H2 locsH2 hp hS hzH2 hkH2 => ?_)
            obtain ⟨-, hv, G, R, hW⟩ := hp
            subst hv
            have hL := hL.kept (fun k hk => hkH2 (la k) (hL.lt hk) (hlz k hk))
            have hZn := fun (q : Nat) (h : H2.size ≤ q) => hZn q (Nat.le_trans hzH2 h)
            refine lv_iconst (v := (-1)) hx hb dL_areStars_517 (by decide) ?_
            refine lv_icmp_ne (tgt := 525) hx hb dL_areStars_518 (by decide) (fun c_518 => ?_) (fun c_518 => ?_)
            · exact (c_518 (ent_end hn1)).elim
            · refine lv_iconst (v := 1) hx hb dL_areStars_521 (by decide) ?_
              refine lv_goto (tgt := 526) hx hb dL_areStars_522 (by decide) ?_
              exact hk_zretx X hr hlk hQ hS (by show 200 * k9 + 8 + 8 + 0 ≤ 900; omega) (by show 10000 * k9 + 400 + 400 + 0 ≤ 45000; omega) dL_areStars_526 (Or.inr rfl) (⟨rfl, G, R, hW⟩)
      · have hk9 : k9 < cn 1 := Nat.lt_of_not_le (fun h => c_15 (nI_le h (by omega)))
        obtain ⟨ms, hms, hm⟩ := hV.a1 hk9
        have hm : mskR (cn 1) (μ 3) ms (μ 3 k9) (-1) := hm
        obtain ⟨hza, hloa, hlea⟩ := low_ent (InvF.ent hI) hn1 hk9 hm
        have hlba := lowb_le ms
        have hpos : 0 ≤ μ 3 k9 := ent_pos hI hn1 hk9
        have hse9 := sp_sel_le (μ := μ) (e1 := μ 3 k9) (e2 := -1) (cn 12)
        obtain ⟨z9, ez9⟩ : ∃ y, y = zn % cn 1 := ⟨_, rfl⟩
        have hz9 : z9 < cn 1 := by rw [ez9]; exact Nat.mod_lt _ (by omega)
        obtain ⟨m2, hm2v, hm2⟩ := hV.a1 hz9
        have hm2 : mskR (cn 1) (μ 3) m2 (μ 3 z9) (-1) := hm2
        have hmu : mskR (cn 1) (μ 3) (ms ||| m2) (μ 3 k9) (μ 3 z9) := msk_or (ent_ne hI hn1) hm hm2
        refine lv_iload hx hb dL_areStars_18 (lv_at hl 0 rfl) ?_
        refine lv_if_eq (tgt := 496) hx hb dL_areStars_20 (by decide) (fun c_20 => ?_) (fun c_20 => ?_)
        · exact absurd c_20 (by decide)
        · refine lv_aload_n hx hb dL_areStars_23 rfl (lv_at hl 4 rfl) ?_
          refine lv_iconst (v := 4) hx hb dL_areStars_24 (by decide) ?_
          refine lv_iload hx hb dL_areStars_25 (lv_at hl 2 rfl) ?_
          refine lv_imul hx hb dL_areStars_27 ?_
          refine lv_topi (fun z_3 ez_3 => ?_)
          have ez_3 : z_3 = nI (4 * k9) := ez_3.trans (nI_mul 4 k9)
          subst ez_3
          refine lv_iconst (v := 1) hx hb dL_areStars_28 (by decide) ?_
          refine lv_iadd hx hb dL_areStars_29 ?_
          refine lv_topi (fun z_4 ez_4 => ?_)
          have ez_4 : z_4 = nI ((4 * k9) + 1) := ez_4.trans (nI_add (4 * k9) 1)
          subst ez_4
          refine hk_ild X K hL.c3 (vp_in_nI (by omega) (by omega)) dL_areStars_30 ?_
          rw [show (V 3) (nI ((4 * k9) + 1)).toNatClampNeg = nI ms from (congrArg (V 3) (nI_clamp (show 4 * k9 + 1 < 2 ^ 31 by omega))).trans hms]
          refine lv_istore (lv' := [(11, .int (nI ms)), (8, .int 1), (9, .int (nI (ecN (μ 3) k9))), (10, .int (nI k9)), (0, .ref ho), (1, .ref (la 3)), (2, .ref (la 5)), (3, .ref (la 8)), (4, .ref (la 10)), (5, .ref (la 11)), (6, .ref (la 12)), (7, .int (nI zn))]) hx hb dL_areStars_31 hl (by decide) rfl (fun ls hl => ?_)
          have J57 : ∀ (pd9 : Nat), (30 ≤ pd9 ∧ pd9 ≤ 3100) → ∀ (locs57 : List Loc), va_S (fun q => Z q) s.heap H locs57 → ∀ (ls : Array Slot), lv_has ls 19 [(12, .int (nI pd9)), (11, .int (nI ms)), (8, .int 1), (9, .int (nI (ecN (μ 3) k9))), (10, .int (nI k9)), (0, .ref ho), (1, .ref (la 3)), (2, .ref (la 5)), (3, .ref (la 8)), (4, .ref (la 10)), (5, .ref (la 11)), (6, .ref (la 12)), (7, .int (nI zn))] → W p l e rmL_areStars s m args below meth c H locs57 (200 * k9) (10000 * k9) Q (F0 m 57 ls []) := by
            intro pd9 hpd locs57 hS ls hl
            refine lv_aload_n hx hb dL_areStars_57 rfl (lv_at hl 7 rfl) ?_
            refine lv_aload hx hb dL_areStars_58 (lv_at hl 9 rfl) ?_
            refine lv_iload hx hb dL_areStars_60 (lv_at hl 1 rfl) ?_
            refine hk_callS 3 (As := [.ref (la 5), .ref (la 10), .int (nI ms)]) (rest := []) X K hAE hS hl.1 (c_L_many E l H hL hV hI hm) (fun _ h => h.elim) gL_areStars_L_many rfl hd_L_many rfl ⟨⟨(Nat.le_of_ble_eq_true rfl), (Nat.le_of_ble_eq_true rfl)⟩, (by show 200 * k9 + 0 ≤ 900; omega), (by show 10000 * k9 + 0 ≤ 45000; omega)⟩ rfl (Nat.le_of_ble_eq_true rfl) dL_areStars_62 (fun v9 H5 locsH5 hp hS hzH5 hkH5 => ?_)
            obtain ⟨hv, hh⟩ := hp
            subst hv; subst hh
            refine lv_if_le (tgt := 72) hx hb dL_areStars_65 (by decide) (fun c_65 => ?_) (fun c_65 => ?_)
            · have h0 : (sp_sel μ (μ 3 k9) (-1) (cn 12)).length = 0 := Nat.le_zero.mp ((nI_leI (b := 0) (by omega) (by omega)).mp c_65)
              have hcan : ¬ canS (cn, sc, μ) (μ 3 k9) := fun g => by
                have h1 : 0 < (sp_sel μ (μ 3 k9) (-1) (cn 12)).length := g.1
                omega
              refine lv_iconst (v := 0) hx hb dL_areStars_72 (by decide) ?_
              refine lv_istore (lv' := [(13, .int 0), (12, .int (nI pd9)), (11, .int (nI ms)), (8, .int 1), (9, .int (nI (ecN (μ 3) k9))), (10, .int (nI k9)), (0, .ref ho), (1, .ref (la 3)), (2, .ref (la 5)), (3, .ref (la 8)), (4, .ref (la 10)), (5, .ref (la 11)), (6, .ref (la 12)), (7, .int (nI zn))]) hx hb dL_areStars_73 hl (by decide) rfl (fun ls hl => ?_)
              refine lv_iload hx hb dL_areStars_75 (lv_at hl 0 rfl) ?_
              refine lv_if_eq (tgt := 93) hx hb dL_areStars_77 (by decide) (fun c_77 => ?_) (fun c_77 => ?_)
              · refine lv_iconst (v := 0) hx hb dL_areStars_93 (by decide) ?_
                refine lv_istore (lv' := [(14, .int 0), (13, .int 0), (12, .int (nI pd9)), (11, .int (nI ms)), (8, .int 1), (9, .int (nI (ecN (μ 3) k9))), (10, .int (nI k9)), (0, .ref ho), (1, .ref (la 3)), (2, .ref (la 5)), (3, .ref (la 8)), (4, .ref (la 10)), (5, .ref (la 11)), (6, .ref (la 12)), (7, .int (nI zn))]) hx hb dL_areStars_94 hl (by decide) rfl (fun ls hl => ?_)
                refine lv_aload_n hx hb dL_areStars_96 rfl (lv_at hl 7 rfl) ?_
                refine lv_iload hx hb dL_areStars_97 (lv_at hl 6 rfl) ?_
                have hcd0 : cd_entry (nI k9) (cn, sc, μ) = 0 := star_cd hk9 hn1
                refine hk_callVx 1 (As := [.int (nI k9)]) (rest := []) X K hAE hS hl.1 (HW.o hW) rfl (c_X10_entry E l hl9 H hW hI hZn (p0 := nI k9)) (fun q h => h) gL_areStars_X10_entry rfl ⟨rfl, hd_X10_entry⟩ rfl ⟨⟨(Nat.le_of_ble_eq_true rfl), (Nat.le_of_ble_eq_true rfl)⟩, (by show 200 * k9 + 8 ≤ 900; omega), (by show 10000 * k9 + 400 ≤ 45000; omega)⟩ rfl (Nat.le_of_ble_eq_true rfl) dL_areStars_99 (fun x9 ce9 q9 H9 locs9 hp hS hz9 hk9 hce hcv hcl => by
                    obtain ⟨hcs, -⟩ := hp
                    rw [hcd0] at hcs
                    rcases hcs with ⟨h, -⟩ | ⟨h, -⟩ | ⟨h, -⟩ <;> exact absurd h (by decide)
                  ) (fun v9 H6 locsH6 hp hS hzH6 hkH6 => ?_)
                obtain ⟨-, hv, G, R, hW⟩ := hp
                subst hv
                have hL := hL.kept (fun k hk => hkH6 (la k) (hL.lt hk) (hlz k hk))
                have hZn := fun (q : Nat) (h : H6.size ≤ q) => hZn q (Nat.le_trans hzH6 h)
                refine lv_iload hx hb dL_areStars_102 (lv_at hl 3 rfl) ?_
                refine hk_callS 1 (As := [.int (nI ms)]) (rest := [.int (an_entry (nI k9) (cn, sc, μ))]) X K hAE hS hl.1 (c_L_lowest E l H6 hm.1 hza) (fun _ h => h.elim) gL_areStars_L_lowest rfl hd_L_lowest rfl ⟨⟨(Nat.le_of_ble_eq_true rfl), (Nat.le_of_ble_eq_true rfl)⟩, (by show 200 * k9 + 8 + 0 ≤ 900; omega), (by show 10000 * k9 + 400 + 0 ≤ 45000; omega)⟩ rfl (Nat.le_of_ble_eq_true rfl) dL_areStars_104 (fun v9 H7 locsH7 hp hS hzH7 hkH7 => ?_)
                obtain ⟨hv, hh⟩ := hp
                subst hv; subst hh
                refine lv_icmp_ne (tgt := 256) hx hb dL_areStars_107 (by decide) (fun c_107 => ?_) (fun c_107 => ?_)
                · exact (c_107 ((star_an (S := (cn, sc, μ)) (by omega)).trans hloa)).elim
                · refine lv_aload_n hx hb dL_areStars_110 rfl (lv_at hl 7 rfl) ?_
                  refine lv_iload hx hb dL_areStars_111 (lv_at hl 6 rfl) ?_
                  refine lv_iload hx hb dL_areStars_113 (lv_at hl 2 rfl) ?_
                  have hcd0 : cd_string (nI k9) (nI pd9) (cn, sc, μ) = 0 := str_cd hk9 hn1 hpd.1 (by omega)
                  refine hk_callVx 2 (As := [.int (nI k9), .int (nI pd9)]) (rest := []) X K hAE hS hl.1 (HW.o hW) rfl (c_X10_string E l hl9 H6 hW hI hZn (p0 := nI k9) (p1 := nI pd9)) (fun q h => h) gL_areStars_X10_string rfl ⟨rfl, hd_X10_string⟩ rfl ⟨⟨(Nat.le_of_ble_eq_true rfl), (Nat.le_of_ble_eq_true rfl)⟩, (by show 200 * k9 + 8 + 8 ≤ 900; omega), (by show 10000 * k9 + 400 + 400 ≤ 45000; omega)⟩ rfl (Nat.le_of_ble_eq_true rfl) dL_areStars_115 (fun x9 ce9 q9 H9 locs9 hp hS hz9 hk9 hce hcv hcl => by
                      obtain ⟨hcs, -⟩ := hp
                      rw [hcd0] at hcs
                      rcases hcs with ⟨h, -⟩ | ⟨h, -⟩ | ⟨h, -⟩ <;> exact absurd h (by decide)
                    ) (fun v9 H8 locsH8 hp hS hzH8 hkH8 => ?_)
                  obtain ⟨-, hv, G, R, hW⟩ := hp
                  subst hv
                  have hL := hL.kept (fun k hk => hkH8 (la k) (hL.lt hk) (hlz k hk))
                  have hZn := fun (q : Nat) (h : H8.size ≤ q) => hZn q (Nat.le_trans hzH8 h)
                  refine lv_aload_n hx hb dL_areStars_118 rfl (lv_at hl 9 rfl) ?_
                  refine lv_aload hx hb dL_areStars_119 (lv_at hl 11 rfl) ?_
                  refine lv_aload hx hb dL_areStars_121 (lv_at hl 12 rfl) ?_
                  refine lv_aload hx hb dL_areStars_123 (lv_at hl 13 rfl) ?_
                  refine lv_iload hx hb dL_areStars_125 (lv_at hl 3 rfl) ?_
                  refine lv_iload hx hb dL_areStars_127 (lv_at hl 2 rfl) ?_
                  refine hk_callS 6 (As := [.ref (la 5), .ref (la 10), .ref (la 11), .ref (la 12), .int (nI ms), .int (nI pd9)]) (rest := [.int (an_string (nI k9) (nI pd9) (cn, sc, μ))]) X K hAE hS hl.1 (c_L_string E l H8 hL hV hI hX hm (P9 := nI pd9) (inr_nI (a := 30) (b := 1000000) hpd.1 (by omega) (by omega))) (fun _ h => h.elim) gL_areStars_L_string rfl hd_L_string rfl ⟨⟨(Nat.le_of_ble_eq_true rfl), (Nat.le_of_ble_eq_true rfl)⟩, (by show 200 * k9 + 8 + 8 + 0 ≤ 900; omega), (by show 10000 * k9 + 400 + 400 + 0 ≤ 45000; omega)⟩ rfl (Nat.le_of_ble_eq_true rfl) dL_areStars_129 (fun v9 H9 locsH9 hp hS hzH9 hkH9 => ?_)
                  obtain ⟨hv, hh⟩ := hp
                  subst hv; subst hh
                  refine lv_icmp_ne (tgt := 256) hx hb dL_areStars_132 (by decide) (fun c_132 => ?_) (fun c_132 => ?_)
                  · exact (c_132 (str_an (S := (cn, sc, μ)) (by omega))).elim
                  · refine lv_aload_n hx hb dL_areStars_135 rfl (lv_at hl 7 rfl) ?_
                    refine lv_iload hx hb dL_areStars_136 (lv_at hl 6 rfl) ?_
                    refine lv_iload hx hb dL_areStars_138 (lv_at hl 14 rfl) ?_
                    refine lv_aload hx hb dL_areStars_140 (lv_at hl 11 rfl) ?_
                    refine lv_iconst (v := 0) hx hb dL_areStars_142 (by decide) ?_
                    refine hk_ild X K hL.c10 (show vp_in (nI 0) 6 from vp_in_nI (by decide) (by decide)) dL_areStars_143 ?_
                    rw [show (V 10) (0 : Int32).toNatClampNeg = nI (cn 1) from hV.g0]
                    refine lv_irem hx hb dL_areStars_144 (nI_ne0 (by omega) (by omega)) ?_
                    refine lv_topi (fun z_10 ez_10 => ?_)
                    have ez_10 : z_10 = nI z9 := ez_10.trans ((pk_rem (a := zn) (d := (cn 1)) (by omega) (by omega) (by omega)).trans (congrArg nI (show zn % (cn 1) = z9 by omega)))
                    subst ez_10
                    refine lv_iload hx hb dL_areStars_145 (lv_at hl 2 rfl) ?_
                    have hcd0 : cd_together (nI k9) (nI z9) (nI pd9) (cn, sc, μ) = 0 := tog_cd hk9 hz9 hn1 hpd.1 (by omega)
                    refine hk_callVx 3 (As := [.int (nI k9), .int (nI z9), .int (nI pd9)]) (rest := []) X K hAE hS hl.1 (HW.o hW) rfl (c_X10_together E l hl9 H8 hW hI hZn (p0 := nI k9) (p1 := nI z9) (p2 := nI pd9)) (fun q h => h) gL_areStars_X10_together rfl ⟨rfl, hd_X10_together⟩ rfl ⟨⟨(Nat.le_of_ble_eq_true rfl), (Nat.le_of_ble_eq_true rfl)⟩, (by show 200 * k9 + 8 + 8 + 8 ≤ 900; omega), (by show 10000 * k9 + 400 + 400 + 400 ≤ 45000; omega)⟩ rfl (Nat.le_of_ble_eq_true rfl) dL_areStars_147 (fun x9 ce9 q9 H9 locs9 hp hS hz9 hk9 hce hcv hcl => by
                        obtain ⟨hcs, -⟩ := hp
                        rw [hcd0] at hcs
                        rcases hcs with ⟨h, -⟩ | ⟨h, -⟩ | ⟨h, -⟩ <;> exact absurd h (by decide)
                      ) (fun v9 H11 locsH11 hp hS hzH11 hkH11 => ?_)
                    obtain ⟨-, hv, G, R, hW⟩ := hp
                    subst hv
                    have hL := hL.kept (fun k hk => hkH11 (la k) (hL.lt hk) (hlz k hk))
                    have hZn := fun (q : Nat) (h : H11.size ≤ q) => hZn q (Nat.le_trans hzH11 h)
                    refine lv_aload_n hx hb dL_areStars_150 rfl (lv_at hl 9 rfl) ?_
                    refine lv_aload hx hb dL_areStars_151 (lv_at hl 11 rfl) ?_
                    refine lv_aload hx hb dL_areStars_153 (lv_at hl 12 rfl) ?_
                    refine lv_aload hx hb dL_areStars_155 (lv_at hl 13 rfl) ?_
                    refine lv_iload hx hb dL_areStars_157 (lv_at hl 3 rfl) ?_
                    refine lv_aload_n hx hb dL_areStars_159 rfl (lv_at hl 8 rfl) ?_
                    refine lv_iconst (v := 4) hx hb dL_areStars_160 (by decide) ?_
                    refine lv_iload hx hb dL_areStars_161 (lv_at hl 14 rfl) ?_
                    refine lv_aload hx hb dL_areStars_163 (lv_at hl 11 rfl) ?_
                    refine lv_iconst (v := 0) hx hb dL_areStars_165 (by decide) ?_
                    refine hk_ild X K hL.c10 (show vp_in (nI 0) 6 from vp_in_nI (by decide) (by decide)) dL_areStars_166 ?_
                    rw [show (V 10) (0 : Int32).toNatClampNeg = nI (cn 1) from hV.g0]
                    refine lv_irem hx hb dL_areStars_167 (nI_ne0 (by omega) (by omega)) ?_
                    refine lv_topi (fun z_12 ez_12 => ?_)
                    have ez_12 : z_12 = nI z9 := ez_12.trans ((pk_rem (a := zn) (d := (cn 1)) (by omega) (by omega) (by omega)).trans (congrArg nI (show zn % (cn 1) = z9 by omega)))
                    subst ez_12
                    refine lv_imul hx hb dL_areStars_168 ?_
                    refine lv_topi (fun z_13 ez_13 => ?_)
                    have ez_13 : z_13 = nI (4 * z9) := ez_13.trans (nI_mul 4 z9)
                    subst ez_13
                    refine lv_iconst (v := 1) hx hb dL_areStars_169 (by decide) ?_
                    refine lv_iadd hx hb dL_areStars_170 ?_
                    refine lv_topi (fun z_14 ez_14 => ?_)
                    have ez_14 : z_14 = nI ((4 * z9) + 1) := ez_14.trans (nI_add (4 * z9) 1)
                    subst ez_14
                    refine hk_ild X K hL.c3 (vp_in_nI (by omega) (by omega)) dL_areStars_171 ?_
                    rw [show (V 3) (nI ((4 * z9) + 1)).toNatClampNeg = nI m2 from (congrArg (V 3) (nI_clamp (show 4 * z9 + 1 < 2 ^ 31 by omega))).trans hm2v]
                    refine lv_ior hx hb dL_areStars_172 ?_
                    refine lv_topi (fun q172 eq172 => ?_)
                    rw [l_or ms hm.1 m2 hm2.1] at eq172
                    subst eq172
                    refine lv_iload hx hb dL_areStars_173 (lv_at hl 2 rfl) ?_
                    refine hk_callS 6 (As := [.ref (la 5), .ref (la 10), .ref (la 11), .ref (la 12), .int (nI (ms ||| m2)), .int (nI pd9)]) (rest := [.int (an_together (nI k9) (nI z9) (nI pd9) (cn, sc, μ))]) X K hAE hS hl.1 (c_L_string E l H11 hL hV hI hX hmu (P9 := nI pd9) (inr_nI (a := 30) (b := 1000000) hpd.1 (by omega) (by omega))) (fun _ h => h.elim) gL_areStars_L_string rfl hd_L_string rfl ⟨⟨(Nat.le_of_ble_eq_true rfl), (Nat.le_of_ble_eq_true rfl)⟩, (by show 200 * k9 + 8 + 8 + 8 + 0 ≤ 900; omega), (by show 10000 * k9 + 400 + 400 + 400 + 0 ≤ 45000; omega)⟩ rfl (Nat.le_of_ble_eq_true rfl) dL_areStars_175 (fun v9 H15 locsH15 hp hS hzH15 hkH15 => ?_)
                    obtain ⟨hv, hh⟩ := hp
                    subst hv; subst hh
                    refine lv_icmp_ne (tgt := 256) hx hb dL_areStars_178 (by decide) (fun c_178 => ?_) (fun c_178 => ?_)
                    · exact (c_178 (tog_an (S := (cn, sc, μ)) (by omega) (by omega))).elim
                    · refine lv_aload_n hx hb dL_areStars_181 rfl (lv_at hl 7 rfl) ?_
                      refine lv_bipush (v := 8) hx hb dL_areStars_182 (by decide) ?_
                      refine lv_iload hx hb dL_areStars_184 (lv_at hl 6 rfl) ?_
                      refine lv_iconst (v := 0) hx hb dL_areStars_186 (by decide) ?_
                      refine lv_iconst (v := 0) hx hb dL_areStars_187 (by decide) ?_
                      refine lv_iconst (v := 0) hx hb dL_areStars_188 (by decide) ?_
                      refine lv_iconst (v := 0) hx hb dL_areStars_189 (by decide) ?_
                      refine hk_callSxW 7 (As := [.ref ho, .int 8, .int (nI k9), .int 0, .int 0, .int 0, .int 0]) (rest := []) X K hAE hS hl.1 (c_L_does_mean E l hl9 H11 hW hI hZn (p0 := nI k9) (p1 := 0) (p2 := 0) (p3 := 0) (p4 := 0)) (fun q h => h) gL_areStars_L_does rfl hd_L_does rfl ⟨⟨(Nat.le_of_ble_eq_true rfl), (Nat.le_of_ble_eq_true rfl)⟩, (by show 200 * k9 + 8 + 8 + 8 + 12 ≤ 900; omega), (by show 10000 * k9 + 400 + 400 + 400 + 600 ≤ 45000; omega)⟩ rfl (Nat.le_of_ble_eq_true rfl) dL_areStars_190 (fun _ _ _ _ _ hp _ _ _ _ _ _ => False.elim hp) (fun v9 H16 locsH16 hp hS hzH16 hkH16 => ?_)
                      obtain ⟨hv, G, R, hW⟩ := hp
                      subst hv
                      have hL := hL.kept (fun k hk => hkH16 (la k) (hL.lt hk) (hlz k hk))
                      have hZn := fun (q : Nat) (h : H16.size ≤ q) => hZn q (Nat.le_trans hzH16 h)
                      refine lv_iload hx hb dL_areStars_193 (lv_at hl 1 rfl) ?_
                      refine lv_if_eq (tgt := 211) hx hb dL_areStars_195 (by decide) (fun c_195 => ?_) (fun c_195 => ?_)
                      · refine lv_ldc hx hb hown (hts (.constant RL 96 (-1111113)) (by decide +kernel)) dL_areStars_211 ?_
                        refine lv_icmp_ne (tgt := 256) hx hb dL_areStars_213 (by decide) (fun c_213 => ?_) (fun c_213 => ?_)
                        · exact (c_213 (mean_n (S := (cn, sc, μ)) hk9 hn1 h0)).elim
                        · refine lv_aload_n hx hb dL_areStars_216 rfl (lv_at hl 7 rfl) ?_
                          refine lv_bipush (v := 9) hx hb dL_areStars_217 (by decide) ?_
                          refine lv_iload hx hb dL_areStars_219 (lv_at hl 6 rfl) ?_
                          refine lv_iconst (v := 0) hx hb dL_areStars_221 (by decide) ?_
                          refine lv_iconst (v := 0) hx hb dL_areStars_222 (by decide) ?_
                          refine lv_iconst (v := 0) hx hb dL_areStars_223 (by decide) ?_
                          refine lv_iconst (v := 0) hx hb dL_areStars_224 (by decide) ?_
                          refine hk_callSxW 7 (As := [.ref ho, .int 9, .int (nI k9), .int 0, .int 0, .int 0, .int 0]) (rest := []) X K hAE hS hl.1 (c_L_does_modulus E l hl9 H16 hW hI hZn (p0 := nI k9) (p1 := 0) (p2 := 0) (p3 := 0) (p4 := 0)) (fun q h => h) gL_areStars_L_does rfl hd_L_does rfl ⟨⟨(Nat.le_of_ble_eq_true rfl), (Nat.le_of_ble_eq_true rfl)⟩, (by show 200 * k9 + 8 + 8 + 8 + 12 + 12 ≤ 900; omega), (by show 10000 * k9 + 400 + 400 + 400 + 600 + 600 ≤ 45000; omega)⟩ rfl (Nat.le_of_ble_eq_true rfl) dL_areStars_225 (fun _ _ _ _ _ hp _ _ _ _ _ _ => False.elim hp) (fun v9 H17 locsH17 hp hS hzH17 hkH17 => ?_)
                          obtain ⟨hv, G, R, hW⟩ := hp
                          subst hv
                          have hL := hL.kept (fun k hk => hkH17 (la k) (hL.lt hk) (hlz k hk))
                          have hZn := fun (q : Nat) (h : H17.size ≤ q) => hZn q (Nat.le_trans hzH17 h)
                          refine lv_iload hx hb dL_areStars_228 (lv_at hl 0 rfl) ?_
                          refine lv_if_eq (tgt := 247) hx hb dL_areStars_230 (by decide) (fun c_230 => ?_) (fun c_230 => ?_)
                          · refine lv_ldc hx hb hown (hts (.constant RL 96 (-1111113)) (by decide +kernel)) dL_areStars_247 ?_
                            refine lv_icmp_ne (tgt := 256) hx hb dL_areStars_249 (by decide) (fun c_249 => ?_) (fun c_249 => ?_)
                            · exact (c_249 (modu_n (S := (cn, sc, μ)) hk9 hn1 hcan)).elim
                            · refine lv_iconst (v := 1) hx hb dL_areStars_252 (by decide) ?_
                              refine lv_goto (tgt := 257) hx hb dL_areStars_253 (by decide) ?_
                              refine lv_istore (lv' := [(8, .int 1), (14, .int 0), (13, .int 0), (12, .int (nI pd9)), (11, .int (nI ms)), (9, .int (nI (ecN (μ 3) k9))), (10, .int (nI k9)), (0, .ref ho), (1, .ref (la 3)), (2, .ref (la 5)), (3, .ref (la 8)), (4, .ref (la 10)), (5, .ref (la 11)), (6, .ref (la 12)), (7, .int (nI zn))]) hx hb dL_areStars_257 hl (by decide) rfl (fun ls hl => ?_)
                              refine lv_iconst (v := (-1)) hx hb dL_areStars_259 (by decide) ?_
                              refine lv_istore (lv' := [(15, .int (-1)), (8, .int 1), (14, .int 0), (13, .int 0), (12, .int (nI pd9)), (11, .int (nI ms)), (9, .int (nI (ecN (μ 3) k9))), (10, .int (nI k9)), (0, .ref ho), (1, .ref (la 3)), (2, .ref (la 5)), (3, .ref (la 8)), (4, .ref (la 10)), (5, .ref (la 11)), (6, .ref (la 12)), (7, .int (nI zn))]) hx hb dL_areStars_260 hl (by decide) rfl (fun ls hl => ?_)
                              refine lv_iconst (v := 0) hx hb dL_areStars_262 (by decide) ?_
                              refine lv_istore (lv' := [(16, .int 0), (15, .int (-1)), (8, .int 1), (14, .int 0), (13, .int 0), (12, .int (nI pd9)), (11, .int (nI ms)), (9, .int (nI (ecN (μ 3) k9))), (10, .int (nI k9)), (0, .ref ho), (1, .ref (la 3)), (2, .ref (la 5)), (3, .ref (la 8)), (4, .ref (la 10)), (5, .ref (la 11)), (6, .ref (la 12)), (7, .int (nI zn))]) hx hb dL_areStars_263 hl (by decide) rfl (fun ls hl => ?_)
                              refine lv_iconst (v := 0) hx hb dL_areStars_265 (by decide) ?_
                              refine lv_istore (lv' := [(17, .int 0), (16, .int 0), (15, .int (-1)), (8, .int 1), (14, .int 0), (13, .int 0), (12, .int (nI pd9)), (11, .int (nI ms)), (9, .int (nI (ecN (μ 3) k9))), (10, .int (nI k9)), (0, .ref ho), (1, .ref (la 3)), (2, .ref (la 5)), (3, .ref (la 8)), (4, .ref (la 10)), (5, .ref (la 11)), (6, .ref (la 12)), (7, .int (nI zn))]) hx hb dL_areStars_266 hl (by decide) rfl (fun ls hl => ?_)
                              have L268 : ∀ (n8 : Nat) (j8 : Nat) (H : Heap) (locs : List Loc) (G : hG) (R : hR), 6 ≤ j8 + n8 → (va_S (fun q => Z q) s.heap H locs ∧ HW E Z (ho, li, rr, ts) G R (cn, sc, μ) H ∧ LW E la V H ∧ (∀ q, H.size ≤ q → Z q) ∧ j8 ≤ 5) → ∀ (ls : Array Slot), lv_has ls 19 [(15, .int (-1)), (16, .int 0), (17, .int (nI j8)), (8, .int 1), (9, .int (nI (ecN (μ 3) k9))), (10, .int (nI k9)), (11, .int (nI ms)), (12, .int (nI pd9)), (13, .int 0), (14, .int 0), (0, .ref ho), (1, .ref (la 3)), (2, .ref (la 5)), (3, .ref (la 8)), (4, .ref (la 10)), (5, .ref (la 11)), (6, .ref (la 12)), (7, .int (nI zn))] → W p l e rmL_areStars s m args below meth c H locs (200 * k9 + 8 + 8 + 8 + 12 + 12 + 24 * j8) (10000 * k9 + 400 + 400 + 400 + 600 + 600 + 1200 * j8) Q (F0 m 268 ls []) := by
                                intro n8
                                induction n8 with
                                | zero =>
                                  intro j8 H locs G R hm8 ⟨hS, hW, hL, hZn, hj8⟩ ls hl
                                  exact absurd hm8 (by omega)
                                | succ n8 ih8 =>
                                  intro j8 H locs G R hm8 ⟨hS, hW, hL, hZn, hj8⟩ ls hl
                                  refine lv_iload hx hb dL_areStars_268 (lv_at hl 2 rfl) ?_
                                  refine lv_iconst (v := 5) hx hb dL_areStars_270 (by decide) ?_
                                  refine lv_icmp_ge (tgt := 415) hx hb dL_areStars_271 (by decide) (fun c_271 => ?_) (fun c_271 => ?_)
                                  · have hj5 : j8 = 5 := by
                                      have := (nI_leI (a := 5) (b := j8) (by omega) (by omega)).mp c_271
                                      omega
                                    rw [hj5] at hl
                                    refine lv_iload hx hb dL_areStars_415 (lv_at hl 3 rfl) ?_
                                    refine lv_if_eq (tgt := 451) hx hb dL_areStars_417 (by decide) (fun c_417 => ?_) (fun c_417 => ?_)
                                    · exact absurd c_417 (by decide)
                                    · refine lv_aload_n hx hb dL_areStars_420 rfl (lv_at hl 10 rfl) ?_
                                      refine lv_bipush (v := 6) hx hb dL_areStars_421 (by decide) ?_
                                      refine lv_iload hx hb dL_areStars_423 (lv_at hl 5 rfl) ?_
                                      refine lv_iconst (v := 0) hx hb dL_areStars_425 (by decide) ?_
                                      refine lv_iconst (v := 0) hx hb dL_areStars_426 (by decide) ?_
                                      refine lv_iconst (v := 0) hx hb dL_areStars_427 (by decide) ?_
                                      refine lv_iconst (v := 0) hx hb dL_areStars_428 (by decide) ?_
                                      refine hk_callSxW 7 (As := [.ref ho, .int 6, .int (nI k9), .int 0, .int 0, .int 0, .int 0]) (rest := []) X K hAE hS hl.1 (c_L_does_kind E l hl9 H hW hI hZn (p0 := nI k9) (p1 := 0) (p2 := 0) (p3 := 0) (p4 := 0)) (fun q h => h) gL_areStars_L_does rfl hd_L_does rfl ⟨⟨(Nat.le_of_ble_eq_true rfl), (Nat.le_of_ble_eq_true rfl)⟩, (by show 200 * k9 + 8 + 8 + 8 + 12 + 12 + 24 * j8 + 12 ≤ 900; omega), (by show 10000 * k9 + 400 + 400 + 400 + 600 + 600 + 1200 * j8 + 600 ≤ 45000; omega)⟩ rfl (Nat.le_of_ble_eq_true rfl) dL_areStars_429 (fun _ _ _ _ _ hp _ _ _ _ _ _ => False.elim hp) (fun v9 H18 locsH18 hp hS hzH18 hkH18 => ?_)
                                      obtain ⟨hv, G, R, hW⟩ := hp
                                      subst hv
                                      have hL := hL.kept (fun k hk => hkH18 (la k) (hL.lt hk) (hlz k hk))
                                      have hZn := fun (q : Nat) (h : H18.size ≤ q) => hZn q (Nat.le_trans hzH18 h)
                                      refine lv_iload hx hb dL_areStars_432 (lv_at hl 9 rfl) ?_
                                      refine lv_if_eq (tgt := 442) hx hb dL_areStars_434 (by decide) (fun c_434 => ?_) (fun c_434 => ?_)
                                      · refine lv_ldc hx hb hown (hts (.constant RL 96 (-1111113)) (by decide +kernel)) dL_areStars_442 ?_
                                        refine lv_icmp_ne (tgt := 451) hx hb dL_areStars_444 (by decide) (fun c_444 => ?_) (fun c_444 => ?_)
                                        · exact (c_444 (kind_n (S := (cn, sc, μ)) hk9 hn1 hcan)).elim
                                        · refine lv_iconst (v := 1) hx hb dL_areStars_447 (by decide) ?_
                                          refine lv_goto (tgt := 452) hx hb dL_areStars_448 (by decide) ?_
                                          refine lv_istore (lv' := [(8, .int 1), (15, .int (-1)), (16, .int 0), (17, .int (nI 5)), (9, .int (nI (ecN (μ 3) k9))), (10, .int (nI k9)), (11, .int (nI ms)), (12, .int (nI pd9)), (13, .int 0), (14, .int 0), (0, .ref ho), (1, .ref (la 3)), (2, .ref (la 5)), (3, .ref (la 8)), (4, .ref (la 10)), (5, .ref (la 11)), (6, .ref (la 12)), (7, .int (nI zn))]) hx hb dL_areStars_452 hl (by decide) rfl (fun ls hl => ?_)
                                          refine lv_iload hx hb dL_areStars_454 (lv_at hl 6 rfl) ?_
                                          refine hk_callS 1 (As := [.int (nI ms)]) (rest := []) X K hAE hS hl.1 (c_L_lowest E l H18 hm.1 hza) (fun _ h => h.elim) gL_areStars_L_lowest rfl hd_L_lowest rfl ⟨⟨(Nat.le_of_ble_eq_true rfl), (Nat.le_of_ble_eq_true rfl)⟩, (by show 200 * k9 + 8 + 8 + 8 + 12 + 12 + 24 * j8 + 12 + 0 ≤ 900; omega), (by show 10000 * k9 + 400 + 400 + 400 + 600 + 600 + 1200 * j8 + 600 + 0 ≤ 45000; omega)⟩ rfl (Nat.le_of_ble_eq_true rfl) dL_areStars_456 (fun v9 H19 locsH19 hp hS hzH19 hkH19 => ?_)
                                          obtain ⟨hv, hh⟩ := hp
                                          subst hv; subst hh
                                          refine lv_iload hx hb dL_areStars_459 (lv_at hl 5 rfl) ?_
                                          refine lv_icmp_ne (tgt := 490) hx hb dL_areStars_461 (by decide) (fun c_461 => ?_) (fun c_461 => ?_)
                                          · have he9 : ¬ μ 3 k9 = nI k9 := fun h => c_461 (hloa.symm.trans h)
                                            obtain ⟨q490, eq490⟩ : ∃ y : Int32, y = (nI k9) + 1 := ⟨_, rfl⟩
                                            refine lv_iinc (v := q490) (lv' := [(10, .int q490), (8, .int 1), (15, .int (-1)), (16, .int 0), (17, .int (nI 5)), (9, .int (nI (ecN (μ 3) k9))), (11, .int (nI ms)), (12, .int (nI pd9)), (13, .int 0), (14, .int 0), (0, .ref ho), (1, .ref (la 3)), (2, .ref (la 5)), (3, .ref (la 8)), (4, .ref (la 10)), (5, .ref (la 11)), (6, .ref (la 12)), (7, .int (nI zn))]) hx hb dL_areStars_490 hl (k := 5) rfl (by rw [eq490]; rfl) (by decide) rfl (fun ls hl => ?_)
                                            rw [nI_1] at eq490
                                            subst eq490
                                            refine lv_goto (tgt := 9) hx hb dL_areStars_493 (by decide) ?_
                                            rw [ec_n he9] at hl
                                            refine W.widen (k := 200 * (k9 + 1)) (n := 10000 * (k9 + 1)) (by show 200 * k9 + 8 + 8 + 8 + 12 + 12 + 24 * j8 + 12 ≤ _; omega) (by show 10000 * k9 + 400 + 400 + 400 + 600 + 600 + 1200 * j8 + 600 ≤ _; omega) ?_
                                            exact ih (k9 + 1) _ _ G R (by omega) ⟨hS, hW, hL, hZn, by omega⟩ _ (lv_sub hl [1, 5, 0, 10, 11, 12, 13, 14, 15, 16, 17] rfl)
                                          · have he9 : μ 3 k9 = nI k9 := hloa.trans c_461
                                            have hec := ecN_le (μ 3) k9
                                            refine lv_iload hx hb dL_areStars_464 (lv_at hl 0 rfl) ?_
                                            refine lv_if_eq (tgt := 484) hx hb dL_areStars_466 (by decide) (fun c_466 => ?_) (fun c_466 => ?_)
                                            · exact absurd c_466 (by decide)
                                            · refine lv_aload_n hx hb dL_areStars_469 rfl (lv_at hl 10 rfl) ?_
                                              refine lv_iload hx hb dL_areStars_470 (lv_at hl 4 rfl) ?_
                                              have hcd0 : cd_entries (nI (ecN (μ 3) k9)) (cn, sc, μ) = 0 := ents_cd (by omega)
                                              refine hk_callVx 1 (As := [.int (nI (ecN (μ 3) k9))]) (rest := []) X K hAE hS hl.1 (HW.o hW) rfl (c_X10_entries E l hl9 H18 hW hI hZn (p0 := nI (ecN (μ 3) k9))) (fun q h => h) gL_areStars_X10_entries rfl ⟨rfl, hd_X10_entries⟩ rfl ⟨⟨(Nat.le_of_ble_eq_true rfl), (Nat.le_of_ble_eq_true rfl)⟩, (by show 200 * k9 + 8 + 8 + 8 + 12 + 12 + 24 * j8 + 12 + 8 ≤ 900; omega), (by show 10000 * k9 + 400 + 400 + 400 + 600 + 600 + 1200 * j8 + 600 + 400 ≤ 45000; omega)⟩ rfl (Nat.le_of_ble_eq_true rfl) dL_areStars_472 (fun x9 ce9 q9 H9 locs9 hp hS hz9 hk9 hce hcv hcl => by
                                                  obtain ⟨hcs, -⟩ := hp
                                                  rw [hcd0] at hcs
                                                  rcases hcs with ⟨h, -⟩ | ⟨h, -⟩ | ⟨h, -⟩ <;> exact absurd h (by decide)
                                                ) (fun v9 H20 locsH20 hp hS hzH20 hkH20 => ?_)
                                              obtain ⟨-, hv, G, R, hW⟩ := hp
                                              subst hv
                                              have hL := hL.kept (fun k hk => hkH20 (la k) (hL.lt hk) (hlz k hk))
                                              have hZn := fun (q : Nat) (h : H20.size ≤ q) => hZn q (Nat.le_trans hzH20 h)
                                              refine lv_iload hx hb dL_areStars_475 (lv_at hl 5 rfl) ?_
                                              refine lv_icmp_ne (tgt := 484) hx hb dL_areStars_477 (by decide) (fun c_477 => ?_) (fun c_477 => ?_)
                                              · exact (c_477 (ent_at hk9 hn1 he9)).elim
                                              · refine lv_iconst (v := 1) hx hb dL_areStars_480 (by decide) ?_
                                                refine lv_goto (tgt := 485) hx hb dL_areStars_481 (by decide) ?_
                                                refine lv_istore (lv' := [(8, .int 1), (15, .int (-1)), (16, .int 0), (17, .int (nI 5)), (9, .int (nI (ecN (μ 3) k9))), (10, .int (nI k9)), (11, .int (nI ms)), (12, .int (nI pd9)), (13, .int 0), (14, .int 0), (0, .ref ho), (1, .ref (la 3)), (2, .ref (la 5)), (3, .ref (la 8)), (4, .ref (la 10)), (5, .ref (la 11)), (6, .ref (la 12)), (7, .int (nI zn))]) hx hb dL_areStars_485 hl (by decide) rfl (fun ls hl => ?_)
                                                obtain ⟨q487, eq487⟩ : ∃ y : Int32, y = (nI (ecN (μ 3) k9)) + 1 := ⟨_, rfl⟩
                                                refine lv_iinc (v := q487) (lv' := [(9, .int q487), (8, .int 1), (15, .int (-1)), (16, .int 0), (17, .int (nI 5)), (10, .int (nI k9)), (11, .int (nI ms)), (12, .int (nI pd9)), (13, .int 0), (14, .int 0), (0, .ref ho), (1, .ref (la 3)), (2, .ref (la 5)), (3, .ref (la 8)), (4, .ref (la 10)), (5, .ref (la 11)), (6, .ref (la 12)), (7, .int (nI zn))]) hx hb dL_areStars_487 hl (k := 4) rfl (by rw [eq487]; rfl) (by decide) rfl (fun ls hl => ?_)
                                                rw [ec_y he9] at eq487
                                                subst eq487
                                                obtain ⟨q490, eq490⟩ : ∃ y : Int32, y = (nI k9) + 1 := ⟨_, rfl⟩
                                                refine lv_iinc (v := q490) (lv' := [(10, .int q490), (9, .int (nI (ecN (μ 3) (k9 + 1)))), (8, .int 1), (15, .int (-1)), (16, .int 0), (17, .int (nI 5)), (11, .int (nI ms)), (12, .int (nI pd9)), (13, .int 0), (14, .int 0), (0, .ref ho), (1, .ref (la 3)), (2, .ref (la 5)), (3, .ref (la 8)), (4, .ref (la 10)), (5, .ref (la 11)), (6, .ref (la 12)), (7, .int (nI zn))]) hx hb dL_areStars_490 hl (k := 5) rfl (by rw [eq490]; rfl) (by decide) rfl (fun ls hl => ?_)
                                                rw [nI_1] at eq490
                                                subst eq490
                                                refine lv_goto (tgt := 9) hx hb dL_areStars_493 (by decide) ?_
                                                refine W.widen (k := 200 * (k9 + 1)) (n := 10000 * (k9 + 1)) (by show 200 * k9 + 8 + 8 + 8 + 12 + 12 + 24 * j8 + 12 + 8 ≤ _; omega) (by show 10000 * k9 + 400 + 400 + 400 + 600 + 600 + 1200 * j8 + 600 + 400 ≤ _; omega) ?_
                                                exact ih (k9 + 1) _ _ G R (by omega) ⟨hS, hW, hL, hZn, by omega⟩ _ (lv_sub hl [2, 1, 0, 10, 11, 12, 13, 14, 15, 16, 17] rfl)
                                      · exact absurd (by decide) c_434
                                  · have hj5 : j8 < 5 := Nat.lt_of_not_le (fun h => c_271 (nI_le (a := 5) h (by omega)))
                                    refine lv_iload hx hb dL_areStars_274 (lv_at hl 3 rfl) ?_
                                    refine lv_if_eq (tgt := 415) hx hb dL_areStars_276 (by decide) (fun c_276 => ?_) (fun c_276 => ?_)
                                    · exact absurd c_276 (by decide)
                                    · refine lv_iload hx hb dL_areStars_279 (lv_at hl 9 rfl) ?_
                                      refine lv_if_eq (tgt := 303) hx hb dL_areStars_281 (by decide) (fun c_281 => ?_) (fun c_281 => ?_)
                                      · refine lv_ldc hx hb hown (hts (.constant RL 96 (-1111113)) (by decide +kernel)) dL_areStars_303 ?_
                                        refine lv_istore (lv' := [(18, .int (-1111113)), (15, .int (-1)), (16, .int 0), (17, .int (nI j8)), (8, .int 1), (9, .int (nI (ecN (μ 3) k9))), (10, .int (nI k9)), (11, .int (nI ms)), (12, .int (nI pd9)), (13, .int 0), (14, .int 0), (0, .ref ho), (1, .ref (la 3)), (2, .ref (la 5)), (3, .ref (la 8)), (4, .ref (la 10)), (5, .ref (la 11)), (6, .ref (la 12)), (7, .int (nI zn))]) hx hb dL_areStars_305 hl (by decide) rfl (fun ls hl => ?_)
                                        refine lv_iload hx hb dL_areStars_307 (lv_at hl 0 rfl) ?_
                                        refine lv_iload hx hb dL_areStars_309 (lv_at hl 2 rfl) ?_
                                        refine lv_icmp_le (tgt := 319) hx hb dL_areStars_311 (by decide) (fun c_311 => ?_) (fun c_311 => ?_)
                                        · refine lv_iload hx hb dL_areStars_319 (lv_at hl 1 rfl) ?_
                                          refine lv_istore (lv' := [(15, .int (-1)), (18, .int (-1111113)), (16, .int 0), (17, .int (nI j8)), (8, .int 1), (9, .int (nI (ecN (μ 3) k9))), (10, .int (nI k9)), (11, .int (nI ms)), (12, .int (nI pd9)), (13, .int 0), (14, .int 0), (0, .ref ho), (1, .ref (la 3)), (2, .ref (la 5)), (3, .ref (la 8)), (4, .ref (la 10)), (5, .ref (la 11)), (6, .ref (la 12)), (7, .int (nI zn))]) hx hb dL_areStars_321 hl (by decide) rfl (fun ls hl => ?_)
                                          refine lv_iload hx hb dL_areStars_323 (lv_at hl 1 rfl) ?_
                                          refine lv_iload hx hb dL_areStars_325 (lv_at hl 2 rfl) ?_
                                          refine lv_icmp_le (tgt := 335) hx hb dL_areStars_327 (by decide) (fun c_327 => ?_) (fun c_327 => ?_)
                                          · refine lv_iload hx hb dL_areStars_335 (lv_at hl 2 rfl) ?_
                                            refine lv_istore (lv' := [(16, .int 0), (15, .int (-1)), (18, .int (-1111113)), (17, .int (nI j8)), (8, .int 1), (9, .int (nI (ecN (μ 3) k9))), (10, .int (nI k9)), (11, .int (nI ms)), (12, .int (nI pd9)), (13, .int 0), (14, .int 0), (0, .ref ho), (1, .ref (la 3)), (2, .ref (la 5)), (3, .ref (la 8)), (4, .ref (la 10)), (5, .ref (la 11)), (6, .ref (la 12)), (7, .int (nI zn))]) hx hb dL_areStars_337 hl (by decide) rfl (fun ls hl => ?_)
                                            refine lv_aload_n hx hb dL_areStars_339 rfl (lv_at hl 11 rfl) ?_
                                            refine lv_iconst (v := 5) hx hb dL_areStars_340 (by decide) ?_
                                            refine lv_iload hx hb dL_areStars_341 (lv_at hl 6 rfl) ?_
                                            refine lv_iload hx hb dL_areStars_343 (lv_at hl 3 rfl) ?_
                                            refine lv_iconst (v := 0) hx hb dL_areStars_345 (by decide) ?_
                                            refine lv_iconst (v := 0) hx hb dL_areStars_346 (by decide) ?_
                                            refine lv_iconst (v := 0) hx hb dL_areStars_347 (by decide) ?_
                                            refine hk_callSxW 7 (As := [.ref ho, .int 5, .int (nI k9), .int (nI j8), .int 0, .int 0, .int 0]) (rest := []) X K hAE hS hl.1 (c_L_does_votes E l hl9 H hW hI hZn (p0 := nI k9) (p1 := nI j8) (p2 := 0) (p3 := 0) (p4 := 0)) (fun q h => h) gL_areStars_L_does rfl hd_L_does rfl ⟨⟨(Nat.le_of_ble_eq_true rfl), (Nat.le_of_ble_eq_true rfl)⟩, (by show 200 * k9 + 8 + 8 + 8 + 12 + 12 + 24 * j8 + 12 ≤ 900; omega), (by show 10000 * k9 + 400 + 400 + 400 + 600 + 600 + 1200 * j8 + 600 ≤ 45000; omega)⟩ rfl (Nat.le_of_ble_eq_true rfl) dL_areStars_348 (fun _ _ _ _ _ hp _ _ _ _ _ _ => False.elim hp) (fun v9 H21 locsH21 hp hS hzH21 hkH21 => ?_)
                                            obtain ⟨hv, G, R, hW⟩ := hp
                                            subst hv
                                            have hL := hL.kept (fun k hk => hkH21 (la k) (hL.lt hk) (hlz k hk))
                                            have hZn := fun (q : Nat) (h : H21.size ≤ q) => hZn q (Nat.le_trans hzH21 h)
                                            refine lv_iload hx hb dL_areStars_351 (lv_at hl 2 rfl) ?_
                                            refine lv_icmp_ne (tgt := 406) hx hb dL_areStars_353 (by decide) (fun c_353 => ?_) (fun c_353 => ?_)
                                            · exact (c_353 (vote_n (S := (cn, sc, μ)) hk9 hn1 hj5 hcan)).elim
                                            · refine lv_iload hx hb dL_areStars_356 (lv_at hl 3 rfl) ?_
                                              refine lv_iconst (v := 2) hx hb dL_areStars_358 (by decide) ?_
                                              refine lv_icmp_gt (tgt := 402) hx hb dL_areStars_359 (by decide) (fun c_359 => ?_) (fun c_359 => ?_)
                                              · refine lv_iconst (v := 1) hx hb dL_areStars_402 (by decide) ?_
                                                refine lv_goto (tgt := 407) hx hb dL_areStars_403 (by decide) ?_
                                                refine lv_istore (lv' := [(8, .int 1), (16, .int 0), (15, .int (-1)), (18, .int (-1111113)), (17, .int (nI j8)), (9, .int (nI (ecN (μ 3) k9))), (10, .int (nI k9)), (11, .int (nI ms)), (12, .int (nI pd9)), (13, .int 0), (14, .int 0), (0, .ref ho), (1, .ref (la 3)), (2, .ref (la 5)), (3, .ref (la 8)), (4, .ref (la 10)), (5, .ref (la 11)), (6, .ref (la 12)), (7, .int (nI zn))]) hx hb dL_areStars_407 hl (by decide) rfl (fun ls hl => ?_)
                                                obtain ⟨q409, eq409⟩ : ∃ y : Int32, y = (nI j8) + 1 := ⟨_, rfl⟩
                                                refine lv_iinc (v := q409) (lv' := [(17, .int q409), (8, .int 1), (16, .int 0), (15, .int (-1)), (18, .int (-1111113)), (9, .int (nI (ecN (μ 3) k9))), (10, .int (nI k9)), (11, .int (nI ms)), (12, .int (nI pd9)), (13, .int 0), (14, .int 0), (0, .ref ho), (1, .ref (la 3)), (2, .ref (la 5)), (3, .ref (la 8)), (4, .ref (la 10)), (5, .ref (la 11)), (6, .ref (la 12)), (7, .int (nI zn))]) hx hb dL_areStars_409 hl (k := 4) rfl (by rw [eq409]; rfl) (by decide) rfl (fun ls hl => ?_)
                                                rw [nI_1] at eq409
                                                subst eq409
                                                refine lv_goto (tgt := 268) hx hb dL_areStars_412 (by decide) ?_
                                                refine W.widen (k := 200 * k9 + 8 + 8 + 8 + 12 + 12 + 24 * (j8 + 1)) (n := 10000 * k9 + 400 + 400 + 400 + 600 + 600 + 1200 * (j8 + 1)) (by show 200 * k9 + 8 + 8 + 8 + 12 + 12 + 24 * j8 + 12 ≤ _; omega) (by show 10000 * k9 + 400 + 400 + 400 + 600 + 600 + 1200 * j8 + 600 ≤ _; omega) ?_
                                                exact ih8 (j8 + 1) _ _ G R (by omega) ⟨hS, hW, hL, hZn, by omega⟩ _ (lv_sub hl [3, 2, 0, 1, 5, 6, 7, 8, 9, 10, 11, 12, 13, 14, 15, 16, 17, 18] rfl)
                                              · have hj3 : j8 < 3 := by
                                                  have := Int32.not_lt.mp c_359
                                                  have := (nI_leI (a := j8) (b := 2) (by omega) (by omega)).mp this
                                                  omega
                                                refine lv_aload_n hx hb dL_areStars_362 rfl (lv_at hl 11 rfl) ?_
                                                refine lv_iconst (v := 4) hx hb dL_areStars_363 (by decide) ?_
                                                refine lv_iload hx hb dL_areStars_364 (lv_at hl 6 rfl) ?_
                                                refine lv_iload hx hb dL_areStars_366 (lv_at hl 3 rfl) ?_
                                                refine lv_iconst (v := 0) hx hb dL_areStars_368 (by decide) ?_
                                                refine lv_iconst (v := 0) hx hb dL_areStars_369 (by decide) ?_
                                                refine lv_iconst (v := 0) hx hb dL_areStars_370 (by decide) ?_
                                                refine hk_callSxW 7 (As := [.ref ho, .int 4, .int (nI k9), .int (nI j8), .int 0, .int 0, .int 0]) (rest := []) X K hAE hS hl.1 (c_L_does_feature E l hl9 H21 hW hI hZn (p0 := nI k9) (p1 := nI j8) (p2 := 0) (p3 := 0) (p4 := 0)) (fun q h => h) gL_areStars_L_does rfl hd_L_does rfl ⟨⟨(Nat.le_of_ble_eq_true rfl), (Nat.le_of_ble_eq_true rfl)⟩, (by show 200 * k9 + 8 + 8 + 8 + 12 + 12 + 24 * j8 + 12 + 12 ≤ 900; omega), (by show 10000 * k9 + 400 + 400 + 400 + 600 + 600 + 1200 * j8 + 600 + 600 ≤ 45000; omega)⟩ rfl (Nat.le_of_ble_eq_true rfl) dL_areStars_371 (fun _ _ _ _ _ hp _ _ _ _ _ _ => False.elim hp) (fun v9 H22 locsH22 hp hS hzH22 hkH22 => ?_)
                                                obtain ⟨hv, G, R, hW⟩ := hp
                                                subst hv
                                                have hL := hL.kept (fun k hk => hkH22 (la k) (hL.lt hk) (hlz k hk))
                                                have hZn := fun (q : Nat) (h : H22.size ≤ q) => hZn q (Nat.le_trans hzH22 h)
                                                refine lv_iload hx hb dL_areStars_374 (lv_at hl 10 rfl) ?_
                                                refine lv_if_eq (tgt := 397) hx hb dL_areStars_376 (by decide) (fun c_376 => ?_) (fun c_376 => ?_)
                                                · refine lv_ldc hx hb hown (hts (.constant RL 96 (-1111113)) (by decide +kernel)) dL_areStars_397 ?_
                                                  refine lv_icmp_ne (tgt := 406) hx hb dL_areStars_399 (by decide) (fun c_399 => ?_) (fun c_399 => ?_)
                                                  · exact (c_399 (feat_n (S := (cn, sc, μ)) hk9 hn1 hj3 hcan)).elim
                                                  · refine lv_iconst (v := 1) hx hb dL_areStars_402 (by decide) ?_
                                                    refine lv_goto (tgt := 407) hx hb dL_areStars_403 (by decide) ?_
                                                    refine lv_istore (lv' := [(8, .int 1), (16, .int 0), (15, .int (-1)), (18, .int (-1111113)), (17, .int (nI j8)), (9, .int (nI (ecN (μ 3) k9))), (10, .int (nI k9)), (11, .int (nI ms)), (12, .int (nI pd9)), (13, .int 0), (14, .int 0), (0, .ref ho), (1, .ref (la 3)), (2, .ref (la 5)), (3, .ref (la 8)), (4, .ref (la 10)), (5, .ref (la 11)), (6, .ref (la 12)), (7, .int (nI zn))]) hx hb dL_areStars_407 hl (by decide) rfl (fun ls hl => ?_)
                                                    obtain ⟨q409, eq409⟩ : ∃ y : Int32, y = (nI j8) + 1 := ⟨_, rfl⟩
                                                    refine lv_iinc (v := q409) (lv' := [(17, .int q409), (8, .int 1), (16, .int 0), (15, .int (-1)), (18, .int (-1111113)), (9, .int (nI (ecN (μ 3) k9))), (10, .int (nI k9)), (11, .int (nI ms)), (12, .int (nI pd9)), (13, .int 0), (14, .int 0), (0, .ref ho), (1, .ref (la 3)), (2, .ref (la 5)), (3, .ref (la 8)), (4, .ref (la 10)), (5, .ref (la 11)), (6, .ref (la 12)), (7, .int (nI zn))]) hx hb dL_areStars_409 hl (k := 4) rfl (by rw [eq409]; rfl) (by decide) rfl (fun ls hl => ?_)
                                                    rw [nI_1] at eq409
                                                    subst eq409
                                                    refine lv_goto (tgt := 268) hx hb dL_areStars_412 (by decide) ?_
                                                    refine W.widen (k := 200 * k9 + 8 + 8 + 8 + 12 + 12 + 24 * (j8 + 1)) (n := 10000 * k9 + 400 + 400 + 400 + 600 + 600 + 1200 * (j8 + 1)) (by show 200 * k9 + 8 + 8 + 8 + 12 + 12 + 24 * j8 + 12 + 12 ≤ _; omega) (by show 10000 * k9 + 400 + 400 + 400 + 600 + 600 + 1200 * j8 + 600 + 600 ≤ _; omega) ?_
                                                    exact ih8 (j8 + 1) _ _ G R (by omega) ⟨hS, hW, hL, hZn, by omega⟩ _ (lv_sub hl [3, 2, 0, 1, 5, 6, 7, 8, 9, 10, 11, 12, 13, 14, 15, 16, 17, 18] rfl)
                                                · exact absurd (by decide) c_376
                                          · exact absurd (by decide) c_327
                                        · exact absurd (by decide) c_311
                                      · exact absurd (by decide) c_281
                              exact L268 6 0 _ _ G R (by omega) ⟨hS, hW, hL, hZn, by omega⟩ _ (lv_sub hl [2, 1, 0, 3, 8, 9, 7, 6, 5, 4, 10, 11, 12, 13, 14, 15, 16, 17] rfl)
                          · exact absurd (by decide) c_230
                      · exact absurd (by decide) c_195
              · exact absurd (by decide) c_77
            · have h0 : 0 < (sp_sel μ (μ 3 k9) (-1) (cn 12)).length := by
                rcases Nat.eq_zero_or_pos (sp_sel μ (μ 3 k9) (-1) (cn 12)).length with h | h
                · rw [h] at c_65; exact absurd (Int32.le_refl _) c_65
                · exact h
              refine lv_iconst (v := 1) hx hb dL_areStars_68 (by decide) ?_
              refine lv_goto (tgt := 73) hx hb dL_areStars_69 (by decide) ?_
              refine lv_istore (lv' := [(13, .int 1), (12, .int (nI pd9)), (11, .int (nI ms)), (8, .int 1), (9, .int (nI (ecN (μ 3) k9))), (10, .int (nI k9)), (0, .ref ho), (1, .ref (la 3)), (2, .ref (la 5)), (3, .ref (la 8)), (4, .ref (la 10)), (5, .ref (la 11)), (6, .ref (la 12)), (7, .int (nI zn))]) hx hb dL_areStars_73 hl (by decide) rfl (fun ls hl => ?_)
              refine lv_iload hx hb dL_areStars_75 (lv_at hl 0 rfl) ?_
              refine lv_if_eq (tgt := 93) hx hb dL_areStars_77 (by decide) (fun c_77 => ?_) (fun c_77 => ?_)
              · exact absurd c_77 (by decide)
              · refine lv_aload_n hx hb dL_areStars_80 rfl (lv_at hl 7 rfl) ?_
                refine lv_iload hx hb dL_areStars_81 (lv_at hl 2 rfl) ?_
                refine hk_callS 2 (As := [.ref (la 3), .int (nI ms)]) (rest := []) X K hAE hS hl.1 (c_L_claim E l H hL hV hI hm hpos) (fun _ h => h.elim) gL_areStars_L_claim rfl hd_L_claim rfl ⟨⟨(Nat.le_of_ble_eq_true rfl), (Nat.le_of_ble_eq_true rfl)⟩, (by show 200 * k9 + 0 ≤ 900; omega), (by show 10000 * k9 + 0 ≤ 45000; omega)⟩ rfl (Nat.le_of_ble_eq_true rfl) dL_areStars_83 (fun v9 H23 locsH23 hp hS hzH23 hkH23 => ?_)
                obtain ⟨hv, hh⟩ := hp
                subst hv; subst hh
                refine lv_if_le (tgt := 93) hx hb dL_areStars_86 (by decide) (fun c_86 => ?_) (fun c_86 => ?_)
                · have hcan : ¬ canS (cn, sc, μ) (μ 3 k9) := fun g => g.2 |> Int32.not_lt.mpr c_86
                  refine lv_iconst (v := 0) hx hb dL_areStars_93 (by decide) ?_
                  refine lv_istore (lv' := [(14, .int 0), (13, .int 1), (12, .int (nI pd9)), (11, .int (nI ms)), (8, .int 1), (9, .int (nI (ecN (μ 3) k9))), (10, .int (nI k9)), (0, .ref ho), (1, .ref (la 3)), (2, .ref (la 5)), (3, .ref (la 8)), (4, .ref (la 10)), (5, .ref (la 11)), (6, .ref (la 12)), (7, .int (nI zn))]) hx hb dL_areStars_94 hl (by decide) rfl (fun ls hl => ?_)
                  refine lv_aload_n hx hb dL_areStars_96 rfl (lv_at hl 7 rfl) ?_
                  refine lv_iload hx hb dL_areStars_97 (lv_at hl 6 rfl) ?_
                  have hcd0 : cd_entry (nI k9) (cn, sc, μ) = 0 := star_cd hk9 hn1
                  refine hk_callVx 1 (As := [.int (nI k9)]) (rest := []) X K hAE hS hl.1 (HW.o hW) rfl (c_X10_entry E l hl9 H hW hI hZn (p0 := nI k9)) (fun q h => h) gL_areStars_X10_entry rfl ⟨rfl, hd_X10_entry⟩ rfl ⟨⟨(Nat.le_of_ble_eq_true rfl), (Nat.le_of_ble_eq_true rfl)⟩, (by show 200 * k9 + 8 ≤ 900; omega), (by show 10000 * k9 + 400 ≤ 45000; omega)⟩ rfl (Nat.le_of_ble_eq_true rfl) dL_areStars_99 (fun x9 ce9 q9 H9 locs9 hp hS hz9 hk9 hce hcv hcl => by
                      obtain ⟨hcs, -⟩ := hp
                      rw [hcd0] at hcs
                      rcases hcs with ⟨h, -⟩ | ⟨h, -⟩ | ⟨h, -⟩ <;> exact absurd h (by decide)
                    ) (fun v9 H24 locsH24 hp hS hzH24 hkH24 => ?_)
                  obtain ⟨-, hv, G, R, hW⟩ := hp
                  subst hv
                  have hL := hL.kept (fun k hk => hkH24 (la k) (hL.lt hk) (hlz k hk))
                  have hZn := fun (q : Nat) (h : H24.size ≤ q) => hZn q (Nat.le_trans hzH24 h)
                  refine lv_iload hx hb dL_areStars_102 (lv_at hl 3 rfl) ?_
                  refine hk_callS 1 (As := [.int (nI ms)]) (rest := [.int (an_entry (nI k9) (cn, sc, μ))]) X K hAE hS hl.1 (c_L_lowest E l H24 hm.1 hza) (fun _ h => h.elim) gL_areStars_L_lowest rfl hd_L_lowest rfl ⟨⟨(Nat.le_of_ble_eq_true rfl), (Nat.le_of_ble_eq_true rfl)⟩, (by show 200 * k9 + 8 + 0 ≤ 900; omega), (by show 10000 * k9 + 400 + 0 ≤ 45000; omega)⟩ rfl (Nat.le_of_ble_eq_true rfl) dL_areStars_104 (fun v9 H25 locsH25 hp hS hzH25 hkH25 => ?_)
                  obtain ⟨hv, hh⟩ := hp
                  subst hv; subst hh
                  refine lv_icmp_ne (tgt := 256) hx hb dL_areStars_107 (by decide) (fun c_107 => ?_) (fun c_107 => ?_)
                  · exact (c_107 ((star_an (S := (cn, sc, μ)) (by omega)).trans hloa)).elim
                  · refine lv_aload_n hx hb dL_areStars_110 rfl (lv_at hl 7 rfl) ?_
                    refine lv_iload hx hb dL_areStars_111 (lv_at hl 6 rfl) ?_
                    refine lv_iload hx hb dL_areStars_113 (lv_at hl 2 rfl) ?_
                    have hcd0 : cd_string (nI k9) (nI pd9) (cn, sc, μ) = 0 := str_cd hk9 hn1 hpd.1 (by omega)
                    refine hk_callVx 2 (As := [.int (nI k9), .int (nI pd9)]) (rest := []) X K hAE hS hl.1 (HW.o hW) rfl (c_X10_string E l hl9 H24 hW hI hZn (p0 := nI k9) (p1 := nI pd9)) (fun q h => h) gL_areStars_X10_string rfl ⟨rfl, hd_X10_string⟩ rfl ⟨⟨(Nat.le_of_ble_eq_true rfl), (Nat.le_of_ble_eq_true rfl)⟩, (by show 200 * k9 + 8 + 8 ≤ 900; omega), (by show 10000 * k9 + 400 + 400 ≤ 45000; omega)⟩ rfl (Nat.le_of_ble_eq_true rfl) dL_areStars_115 (fun x9 ce9 q9 H9 locs9 hp hS hz9 hk9 hce hcv hcl => by
                        obtain ⟨hcs, -⟩ := hp
                        rw [hcd0] at hcs
                        rcases hcs with ⟨h, -⟩ | ⟨h, -⟩ | ⟨h, -⟩ <;> exact absurd h (by decide)
                      ) (fun v9 H26 locsH26 hp hS hzH26 hkH26 => ?_)
                    obtain ⟨-, hv, G, R, hW⟩ := hp
                    subst hv
                    have hL := hL.kept (fun k hk => hkH26 (la k) (hL.lt hk) (hlz k hk))
                    have hZn := fun (q : Nat) (h : H26.size ≤ q) => hZn q (Nat.le_trans hzH26 h)
                    refine lv_aload_n hx hb dL_areStars_118 rfl (lv_at hl 9 rfl) ?_
                    refine lv_aload hx hb dL_areStars_119 (lv_at hl 11 rfl) ?_
                    refine lv_aload hx hb dL_areStars_121 (lv_at hl 12 rfl) ?_
                    refine lv_aload hx hb dL_areStars_123 (lv_at hl 13 rfl) ?_
                    refine lv_iload hx hb dL_areStars_125 (lv_at hl 3 rfl) ?_
                    refine lv_iload hx hb dL_areStars_127 (lv_at hl 2 rfl) ?_
                    refine hk_callS 6 (As := [.ref (la 5), .ref (la 10), .ref (la 11), .ref (la 12), .int (nI ms), .int (nI pd9)]) (rest := [.int (an_string (nI k9) (nI pd9) (cn, sc, μ))]) X K hAE hS hl.1 (c_L_string E l H26 hL hV hI hX hm (P9 := nI pd9) (inr_nI (a := 30) (b := 1000000) hpd.1 (by omega) (by omega))) (fun _ h => h.elim) gL_areStars_L_string rfl hd_L_string rfl ⟨⟨(Nat.le_of_ble_eq_true rfl), (Nat.le_of_ble_eq_true rfl)⟩, (by show 200 * k9 + 8 + 8 + 0 ≤ 900; omega), (by show 10000 * k9 + 400 + 400 + 0 ≤ 45000; omega)⟩ rfl (Nat.le_of_ble_eq_true rfl) dL_areStars_129 (fun v9 H27 locsH27 hp hS hzH27 hkH27 => ?_)
                    obtain ⟨hv, hh⟩ := hp
                    subst hv; subst hh
                    refine lv_icmp_ne (tgt := 256) hx hb dL_areStars_132 (by decide) (fun c_132 => ?_) (fun c_132 => ?_)
                    · exact (c_132 (str_an (S := (cn, sc, μ)) (by omega))).elim
                    · refine lv_aload_n hx hb dL_areStars_135 rfl (lv_at hl 7 rfl) ?_
                      refine lv_iload hx hb dL_areStars_136 (lv_at hl 6 rfl) ?_
                      refine lv_iload hx hb dL_areStars_138 (lv_at hl 14 rfl) ?_
                      refine lv_aload hx hb dL_areStars_140 (lv_at hl 11 rfl) ?_
                      refine lv_iconst (v := 0) hx hb dL_areStars_142 (by decide) ?_
                      refine hk_ild X K hL.c10 (show vp_in (nI 0) 6 from vp_in_nI (by decide) (by decide)) dL_areStars_143 ?_
                      rw [show (V 10) (0 : Int32).toNatClampNeg = nI (cn 1) from hV.g0]
                      refine lv_irem hx hb dL_areStars_144 (nI_ne0 (by omega) (by omega)) ?_
                      refine lv_topi (fun z_28 ez_28 => ?_)
                      have ez_28 : z_28 = nI z9 := ez_28.trans ((pk_rem (a := zn) (d := (cn 1)) (by omega) (by omega) (by omega)).trans (congrArg nI (show zn % (cn 1) = z9 by omega)))
                      subst ez_28
                      refine lv_iload hx hb dL_areStars_145 (lv_at hl 2 rfl) ?_
                      have hcd0 : cd_together (nI k9) (nI z9) (nI pd9) (cn, sc, μ) = 0 := tog_cd hk9 hz9 hn1 hpd.1 (by omega)
                      refine hk_callVx 3 (As := [.int (nI k9), .int (nI z9), .int (nI pd9)]) (rest := []) X K hAE hS hl.1 (HW.o hW) rfl (c_X10_together E l hl9 H26 hW hI hZn (p0 := nI k9) (p1 := nI z9) (p2 := nI pd9)) (fun q h => h) gL_areStars_X10_together rfl ⟨rfl, hd_X10_together⟩ rfl ⟨⟨(Nat.le_of_ble_eq_true rfl), (Nat.le_of_ble_eq_true rfl)⟩, (by show 200 * k9 + 8 + 8 + 8 ≤ 900; omega), (by show 10000 * k9 + 400 + 400 + 400 ≤ 45000; omega)⟩ rfl (Nat.le_of_ble_eq_true rfl) dL_areStars_147 (fun x9 ce9 q9 H9 locs9 hp hS hz9 hk9 hce hcv hcl => by
                          obtain ⟨hcs, -⟩ := hp
                          rw [hcd0] at hcs
                          rcases hcs with ⟨h, -⟩ | ⟨h, -⟩ | ⟨h, -⟩ <;> exact absurd h (by decide)
                        ) (fun v9 H29 locsH29 hp hS hzH29 hkH29 => ?_)
                      obtain ⟨-, hv, G, R, hW⟩ := hp
                      subst hv
                      have hL := hL.kept (fun k hk => hkH29 (la k) (hL.lt hk) (hlz k hk))
                      have hZn := fun (q : Nat) (h : H29.size ≤ q) => hZn q (Nat.le_trans hzH29 h)
                      refine lv_aload_n hx hb dL_areStars_150 rfl (lv_at hl 9 rfl) ?_
                      refine lv_aload hx hb dL_areStars_151 (lv_at hl 11 rfl) ?_
                      refine lv_aload hx hb dL_areStars_153 (lv_at hl 12 rfl) ?_
                      refine lv_aload hx hb dL_areStars_155 (lv_at hl 13 rfl) ?_
                      refine lv_iload hx hb dL_areStars_157 (lv_at hl 3 rfl) ?_
                      refine lv_aload_n hx hb dL_areStars_159 rfl (lv_at hl 8 rfl) ?_
                      refine lv_iconst (v := 4) hx hb dL_areStars_160 (by decide) ?_
                      refine lv_iload hx hb dL_areStars_161 (lv_at hl 14 rfl) ?_
                      refine lv_aload hx hb dL_areStars_163 (lv_at hl 11 rfl) ?_
                      refine lv_iconst (v := 0) hx hb dL_areStars_165 (by decide) ?_
                      refine hk_ild X K hL.c10 (show vp_in (nI 0) 6 from vp_in_nI (by decide) (by decide)) dL_areStars_166 ?_
                      rw [show (V 10) (0 : Int32).toNatClampNeg = nI (cn 1) from hV.g0]
                      refine lv_irem hx hb dL_areStars_167 (nI_ne0 (by omega) (by omega)) ?_
                      refine lv_topi (fun z_30 ez_30 => ?_)
                      have ez_30 : z_30 = nI z9 := ez_30.trans ((pk_rem (a := zn) (d := (cn 1)) (by omega) (by omega) (by omega)).trans (congrArg nI (show zn % (cn 1) = z9 by omega)))
                      subst ez_30
                      refine lv_imul hx hb dL_areStars_168 ?_
                      refine lv_topi (fun z_31 ez_31 => ?_)
                      have ez_31 : z_31 = nI (4 * z9) := ez_31.trans (nI_mul 4 z9)
                      subst ez_31
                      refine lv_iconst (v := 1) hx hb dL_areStars_169 (by decide) ?_
                      refine lv_iadd hx hb dL_areStars_170 ?_
                      refine lv_topi (fun z_32 ez_32 => ?_)
                      have ez_32 : z_32 = nI ((4 * z9) + 1) := ez_32.trans (nI_add (4 * z9) 1)
                      subst ez_32
                      refine hk_ild X K hL.c3 (vp_in_nI (by omega) (by omega)) dL_areStars_171 ?_
                      rw [show (V 3) (nI ((4 * z9) + 1)).toNatClampNeg = nI m2 from (congrArg (V 3) (nI_clamp (show 4 * z9 + 1 < 2 ^ 31 by omega))).trans hm2v]
                      refine lv_ior hx hb dL_areStars_172 ?_
                      refine lv_topi (fun q172 eq172 => ?_)
                      rw [l_or ms hm.1 m2 hm2.1] at eq172
                      subst eq172
                      refine lv_iload hx hb dL_areStars_173 (lv_at hl 2 rfl) ?_
                      refine hk_callS 6 (As := [.ref (la 5), .ref (la 10), .ref (la 11), .ref (la 12), .int (nI (ms ||| m2)), .int (nI pd9)]) (rest := [.int (an_together (nI k9) (nI z9) (nI pd9) (cn, sc, μ))]) X K hAE hS hl.1 (c_L_string E l H29 hL hV hI hX hmu (P9 := nI pd9) (inr_nI (a := 30) (b := 1000000) hpd.1 (by omega) (by omega))) (fun _ h => h.elim) gL_areStars_L_string rfl hd_L_string rfl ⟨⟨(Nat.le_of_ble_eq_true rfl), (Nat.le_of_ble_eq_true rfl)⟩, (by show 200 * k9 + 8 + 8 + 8 + 0 ≤ 900; omega), (by show 10000 * k9 + 400 + 400 + 400 + 0 ≤ 45000; omega)⟩ rfl (Nat.le_of_ble_eq_true rfl) dL_areStars_175 (fun v9 H33 locsH33 hp hS hzH33 hkH33 => ?_)
                      obtain ⟨hv, hh⟩ := hp
                      subst hv; subst hh
                      refine lv_icmp_ne (tgt := 256) hx hb dL_areStars_178 (by decide) (fun c_178 => ?_) (fun c_178 => ?_)
                      · exact (c_178 (tog_an (S := (cn, sc, μ)) (by omega) (by omega))).elim
                      · refine lv_aload_n hx hb dL_areStars_181 rfl (lv_at hl 7 rfl) ?_
                        refine lv_bipush (v := 8) hx hb dL_areStars_182 (by decide) ?_
                        refine lv_iload hx hb dL_areStars_184 (lv_at hl 6 rfl) ?_
                        refine lv_iconst (v := 0) hx hb dL_areStars_186 (by decide) ?_
                        refine lv_iconst (v := 0) hx hb dL_areStars_187 (by decide) ?_
                        refine lv_iconst (v := 0) hx hb dL_areStars_188 (by decide) ?_
                        refine lv_iconst (v := 0) hx hb dL_areStars_189 (by decide) ?_
                        refine hk_callSxW 7 (As := [.ref ho, .int 8, .int (nI k9), .int 0, .int 0, .int 0, .int 0]) (rest := []) X K hAE hS hl.1 (c_L_does_mean E l hl9 H29 hW hI hZn (p0 := nI k9) (p1 := 0) (p2 := 0) (p3 := 0) (p4 := 0)) (fun q h => h) gL_areStars_L_does rfl hd_L_does rfl ⟨⟨(Nat.le_of_ble_eq_true rfl), (Nat.le_of_ble_eq_true rfl)⟩, (by show 200 * k9 + 8 + 8 + 8 + 12 ≤ 900; omega), (by show 10000 * k9 + 400 + 400 + 400 + 600 ≤ 45000; omega)⟩ rfl (Nat.le_of_ble_eq_true rfl) dL_areStars_190 (fun _ _ _ _ _ hp _ _ _ _ _ _ => False.elim hp) (fun v9 H34 locsH34 hp hS hzH34 hkH34 => ?_)
                        obtain ⟨hv, G, R, hW⟩ := hp
                        subst hv
                        have hL := hL.kept (fun k hk => hkH34 (la k) (hL.lt hk) (hlz k hk))
                        have hZn := fun (q : Nat) (h : H34.size ≤ q) => hZn q (Nat.le_trans hzH34 h)
                        refine lv_iload hx hb dL_areStars_193 (lv_at hl 1 rfl) ?_
                        refine lv_if_eq (tgt := 211) hx hb dL_areStars_195 (by decide) (fun c_195 => ?_) (fun c_195 => ?_)
                        · exact absurd c_195 (by decide)
                        · refine lv_aload_n hx hb dL_areStars_198 rfl (lv_at hl 9 rfl) ?_
                          refine lv_aload hx hb dL_areStars_199 (lv_at hl 11 rfl) ?_
                          refine lv_aload hx hb dL_areStars_201 (lv_at hl 12 rfl) ?_
                          refine lv_iload hx hb dL_areStars_203 (lv_at hl 3 rfl) ?_
                          refine hk_callS 4 (As := [.ref (la 5), .ref (la 10), .ref (la 11), .int (nI ms)]) (rest := [.int (dv (cd_mean (nI k9) (cn, sc, μ)) (an_mean (nI k9) (cn, sc, μ)) (-1111111) (-1111113) 0)]) X K hAE hS hl.1 (c_L_mean E l H34 hL hV hI hX hm h0) (fun _ h => h.elim) gL_areStars_L_mean rfl hd_L_mean rfl ⟨⟨(Nat.le_of_ble_eq_true rfl), (Nat.le_of_ble_eq_true rfl)⟩, (by show 200 * k9 + 8 + 8 + 8 + 12 + 0 ≤ 900; omega), (by show 10000 * k9 + 400 + 400 + 400 + 600 + 0 ≤ 45000; omega)⟩ rfl (Nat.le_of_ble_eq_true rfl) dL_areStars_205 (fun v9 H35 locsH35 hp hS hzH35 hkH35 => ?_)
                          obtain ⟨hv, hh⟩ := hp
                          subst hv; subst hh
                          refine lv_goto (tgt := 213) hx hb dL_areStars_208 (by decide) ?_
                          refine lv_icmp_ne (tgt := 256) hx hb dL_areStars_213 (by decide) (fun c_213 => ?_) (fun c_213 => ?_)
                          · exact (c_213 (mean_y (S := (cn, sc, μ)) hk9 hn1 h0 (show (sp_sel μ (μ 3 k9) (-1) (cn 12)).length < 2 ^ 31 by omega))).elim
                          · refine lv_aload_n hx hb dL_areStars_216 rfl (lv_at hl 7 rfl) ?_
                            refine lv_bipush (v := 9) hx hb dL_areStars_217 (by decide) ?_
                            refine lv_iload hx hb dL_areStars_219 (lv_at hl 6 rfl) ?_
                            refine lv_iconst (v := 0) hx hb dL_areStars_221 (by decide) ?_
                            refine lv_iconst (v := 0) hx hb dL_areStars_222 (by decide) ?_
                            refine lv_iconst (v := 0) hx hb dL_areStars_223 (by decide) ?_
                            refine lv_iconst (v := 0) hx hb dL_areStars_224 (by decide) ?_
                            refine hk_callSxW 7 (As := [.ref ho, .int 9, .int (nI k9), .int 0, .int 0, .int 0, .int 0]) (rest := []) X K hAE hS hl.1 (c_L_does_modulus E l hl9 H34 hW hI hZn (p0 := nI k9) (p1 := 0) (p2 := 0) (p3 := 0) (p4 := 0)) (fun q h => h) gL_areStars_L_does rfl hd_L_does rfl ⟨⟨(Nat.le_of_ble_eq_true rfl), (Nat.le_of_ble_eq_true rfl)⟩, (by show 200 * k9 + 8 + 8 + 8 + 12 + 12 ≤ 900; omega), (by show 10000 * k9 + 400 + 400 + 400 + 600 + 600 ≤ 45000; omega)⟩ rfl (Nat.le_of_ble_eq_true rfl) dL_areStars_225 (fun _ _ _ _ _ hp _ _ _ _ _ _ => False.elim hp) (fun v9 H36 locsH36 hp hS hzH36 hkH36 => ?_)
                            obtain ⟨hv, G, R, hW⟩ := hp
                            subst hv
                            have hL := hL.kept (fun k hk => hkH36 (la k) (hL.lt hk) (hlz k hk))
                            have hZn := fun (q : Nat) (h : H36.size ≤ q) => hZn q (Nat.le_trans hzH36 h)
                            refine lv_iload hx hb dL_areStars_228 (lv_at hl 0 rfl) ?_
                            refine lv_if_eq (tgt := 247) hx hb dL_areStars_230 (by decide) (fun c_230 => ?_) (fun c_230 => ?_)
                            · refine lv_ldc hx hb hown (hts (.constant RL 96 (-1111113)) (by decide +kernel)) dL_areStars_247 ?_
                              refine lv_icmp_ne (tgt := 256) hx hb dL_areStars_249 (by decide) (fun c_249 => ?_) (fun c_249 => ?_)
                              · exact (c_249 (modu_n (S := (cn, sc, μ)) hk9 hn1 hcan)).elim
                              · refine lv_iconst (v := 1) hx hb dL_areStars_252 (by decide) ?_
                                refine lv_goto (tgt := 257) hx hb dL_areStars_253 (by decide) ?_
                                refine lv_istore (lv' := [(8, .int 1), (14, .int 0), (13, .int 1), (12, .int (nI pd9)), (11, .int (nI ms)), (9, .int (nI (ecN (μ 3) k9))), (10, .int (nI k9)), (0, .ref ho), (1, .ref (la 3)), (2, .ref (la 5)), (3, .ref (la 8)), (4, .ref (la 10)), (5, .ref (la 11)), (6, .ref (la 12)), (7, .int (nI zn))]) hx hb dL_areStars_257 hl (by decide) rfl (fun ls hl => ?_)
                                refine lv_iconst (v := (-1)) hx hb dL_areStars_259 (by decide) ?_
                                refine lv_istore (lv' := [(15, .int (-1)), (8, .int 1), (14, .int 0), (13, .int 1), (12, .int (nI pd9)), (11, .int (nI ms)), (9, .int (nI (ecN (μ 3) k9))), (10, .int (nI k9)), (0, .ref ho), (1, .ref (la 3)), (2, .ref (la 5)), (3, .ref (la 8)), (4, .ref (la 10)), (5, .ref (la 11)), (6, .ref (la 12)), (7, .int (nI zn))]) hx hb dL_areStars_260 hl (by decide) rfl (fun ls hl => ?_)
                                refine lv_iconst (v := 0) hx hb dL_areStars_262 (by decide) ?_
                                refine lv_istore (lv' := [(16, .int 0), (15, .int (-1)), (8, .int 1), (14, .int 0), (13, .int 1), (12, .int (nI pd9)), (11, .int (nI ms)), (9, .int (nI (ecN (μ 3) k9))), (10, .int (nI k9)), (0, .ref ho), (1, .ref (la 3)), (2, .ref (la 5)), (3, .ref (la 8)), (4, .ref (la 10)), (5, .ref (la 11)), (6, .ref (la 12)), (7, .int (nI zn))]) hx hb dL_areStars_263 hl (by decide) rfl (fun ls hl => ?_)
                                refine lv_iconst (v := 0) hx hb dL_areStars_265 (by decide) ?_
                                refine lv_istore (lv' := [(17, .int 0), (16, .int 0), (15, .int (-1)), (8, .int 1), (14, .int 0), (13, .int 1), (12, .int (nI pd9)), (11, .int (nI ms)), (9, .int (nI (ecN (μ 3) k9))), (10, .int (nI k9)), (0, .ref ho), (1, .ref (la 3)), (2, .ref (la 5)), (3, .ref (la 8)), (4, .ref (la 10)), (5, .ref (la 11)), (6, .ref (la 12)), (7, .int (nI zn))]) hx hb dL_areStars_266 hl (by decide) rfl (fun ls hl => ?_)
                                have L268 : ∀ (n8 : Nat) (j8 : Nat) (H : Heap) (locs : List Loc) (G : hG) (R : hR), 6 ≤ j8 + n8 → (va_S (fun q => Z q) s.heap H locs ∧ HW E Z (ho, li, rr, ts) G R (cn, sc, μ) H ∧ LW E la V H ∧ (∀ q, H.size ≤ q → Z q) ∧ j8 ≤ 5) → ∀ (ls : Array Slot), lv_has ls 19 [(15, .int (-1)), (16, .int 0), (17, .int (nI j8)), (8, .int 1), (9, .int (nI (ecN (μ 3) k9))), (10, .int (nI k9)), (11, .int (nI ms)), (12, .int (nI pd9)), (13, .int 1), (14, .int 0), (0, .ref ho), (1, .ref (la 3)), (2, .ref (la 5)), (3, .ref (la 8)), (4, .ref (la 10)), (5, .ref (la 11)), (6, .ref (la 12)), (7, .int (nI zn))] → W p l e rmL_areStars s m args below meth c H locs (200 * k9 + 8 + 8 + 8 + 12 + 12 + 24 * j8) (10000 * k9 + 400 + 400 + 400 + 600 + 600 + 1200 * j8) Q (F0 m 268 ls []) := by
                                  intro n8
                                  induction n8 with
                                  | zero =>
                                    intro j8 H locs G R hm8 ⟨hS, hW, hL, hZn, hj8⟩ ls hl
                                    exact absurd hm8 (by omega)
                                  | succ n8 ih8 =>
                                    intro j8 H locs G R hm8 ⟨hS, hW, hL, hZn, hj8⟩ ls hl
                                    refine lv_iload hx hb dL_areStars_268 (lv_at hl 2 rfl) ?_
                                    refine lv_iconst (v := 5) hx hb dL_areStars_270 (by decide) ?_
                                    refine lv_icmp_ge (tgt := 415) hx hb dL_areStars_271 (by decide) (fun c_271 => ?_) (fun c_271 => ?_)
                                    · have hj5 : j8 = 5 := by
                                        have := (nI_leI (a := 5) (b := j8) (by omega) (by omega)).mp c_271
                                        omega
                                      rw [hj5] at hl
                                      refine lv_iload hx hb dL_areStars_415 (lv_at hl 3 rfl) ?_
                                      refine lv_if_eq (tgt := 451) hx hb dL_areStars_417 (by decide) (fun c_417 => ?_) (fun c_417 => ?_)
                                      · exact absurd c_417 (by decide)
                                      · refine lv_aload_n hx hb dL_areStars_420 rfl (lv_at hl 10 rfl) ?_
                                        refine lv_bipush (v := 6) hx hb dL_areStars_421 (by decide) ?_
                                        refine lv_iload hx hb dL_areStars_423 (lv_at hl 5 rfl) ?_
                                        refine lv_iconst (v := 0) hx hb dL_areStars_425 (by decide) ?_
                                        refine lv_iconst (v := 0) hx hb dL_areStars_426 (by decide) ?_
                                        refine lv_iconst (v := 0) hx hb dL_areStars_427 (by decide) ?_
                                        refine lv_iconst (v := 0) hx hb dL_areStars_428 (by decide) ?_
                                        refine hk_callSxW 7 (As := [.ref ho, .int 6, .int (nI k9), .int 0, .int 0, .int 0, .int 0]) (rest := []) X K hAE hS hl.1 (c_L_does_kind E l hl9 H hW hI hZn (p0 := nI k9) (p1 := 0) (p2 := 0) (p3 := 0) (p4 := 0)) (fun q h => h) gL_areStars_L_does rfl hd_L_does rfl ⟨⟨(Nat.le_of_ble_eq_true rfl), (Nat.le_of_ble_eq_true rfl)⟩, (by show 200 * k9 + 8 + 8 + 8 + 12 + 12 + 24 * j8 + 12 ≤ 900; omega), (by show 10000 * k9 + 400 + 400 + 400 + 600 + 600 + 1200 * j8 + 600 ≤ 45000; omega)⟩ rfl (Nat.le_of_ble_eq_true rfl) dL_areStars_429 (fun _ _ _ _ _ hp _ _ _ _ _ _ => False.elim hp) (fun v9 H37 locsH37 hp hS hzH37 hkH37 => ?_)
                                        obtain ⟨hv, G, R, hW⟩ := hp
                                        subst hv
                                        have hL := hL.kept (fun k hk => hkH37 (la k) (hL.lt hk) (hlz k hk))
                                        have hZn := fun (q : Nat) (h : H37.size ≤ q) => hZn q (Nat.le_trans hzH37 h)
                                        refine lv_iload hx hb dL_areStars_432 (lv_at hl 9 rfl) ?_
                                        refine lv_if_eq (tgt := 442) hx hb dL_areStars_434 (by decide) (fun c_434 => ?_) (fun c_434 => ?_)
                                        · refine lv_ldc hx hb hown (hts (.constant RL 96 (-1111113)) (by decide +kernel)) dL_areStars_442 ?_
                                          refine lv_icmp_ne (tgt := 451) hx hb dL_areStars_444 (by decide) (fun c_444 => ?_) (fun c_444 => ?_)
                                          · exact (c_444 (kind_n (S := (cn, sc, μ)) hk9 hn1 hcan)).elim
                                          · refine lv_iconst (v := 1) hx hb dL_areStars_447 (by decide) ?_
                                            refine lv_goto (tgt := 452) hx hb dL_areStars_448 (by decide) ?_
                                            refine lv_istore (lv' := [(8, .int 1), (15, .int (-1)), (16, .int 0), (17, .int (nI 5)), (9, .int (nI (ecN (μ 3) k9))), (10, .int (nI k9)), (11, .int (nI ms)), (12, .int (nI pd9)), (13, .int 1), (14, .int 0), (0, .ref ho), (1, .ref (la 3)), (2, .ref (la 5)), (3, .ref (la 8)), (4, .ref (la 10)), (5, .ref (la 11)), (6, .ref (la 12)), (7, .int (nI zn))]) hx hb dL_areStars_452 hl (by decide) rfl (fun ls hl => ?_)
                                            refine lv_iload hx hb dL_areStars_454 (lv_at hl 6 rfl) ?_
                                            refine hk_callS 1 (As := [.int (nI ms)]) (rest := []) X K hAE hS hl.1 (c_L_lowest E l H37 hm.1 hza) (fun _ h => h.elim) gL_areStars_L_lowest rfl hd_L_lowest rfl ⟨⟨(Nat.le_of_ble_eq_true rfl), (Nat.le_of_ble_eq_true rfl)⟩, (by show 200 * k9 + 8 + 8 + 8 + 12 + 12 + 24 * j8 + 12 + 0 ≤ 900; omega), (by show 10000 * k9 + 400 + 400 + 400 + 600 + 600 + 1200 * j8 + 600 + 0 ≤ 45000; omega)⟩ rfl (Nat.le_of_ble_eq_true rfl) dL_areStars_456 (fun v9 H38 locsH38 hp hS hzH38 hkH38 => ?_)
                                            obtain ⟨hv, hh⟩ := hp
                                            subst hv; subst hh
                                            refine lv_iload hx hb dL_areStars_459 (lv_at hl 5 rfl) ?_
                                            refine lv_icmp_ne (tgt := 490) hx hb dL_areStars_461 (by decide) (fun c_461 => ?_) (fun c_461 => ?_)
                                            · have he9 : ¬ μ 3 k9 = nI k9 := fun h => c_461 (hloa.symm.trans h)
                                              obtain ⟨q490, eq490⟩ : ∃ y : Int32, y = (nI k9) + 1 := ⟨_, rfl⟩
                                              refine lv_iinc (v := q490) (lv' := [(10, .int q490), (8, .int 1), (15, .int (-1)), (16, .int 0), (17, .int (nI 5)), (9, .int (nI (ecN (μ 3) k9))), (11, .int (nI ms)), (12, .int (nI pd9)), (13, .int 1), (14, .int 0), (0, .ref ho), (1, .ref (la 3)), (2, .ref (la 5)), (3, .ref (la 8)), (4, .ref (la 10)), (5, .ref (la 11)), (6, .ref (la 12)), (7, .int (nI zn))]) hx hb dL_areStars_490 hl (k := 5) rfl (by rw [eq490]; rfl) (by decide) rfl (fun ls hl => ?_)
                                              rw [nI_1] at eq490
                                              subst eq490
                                              refine lv_goto (tgt := 9) hx hb dL_areStars_493 (by decide) ?_
                                              rw [ec_n he9] at hl
                                              refine W.widen (k := 200 * (k9 + 1)) (n := 10000 * (k9 + 1)) (by show 200 * k9 + 8 + 8 + 8 + 12 + 12 + 24 * j8 + 12 ≤ _; omega) (by show 10000 * k9 + 400 + 400 + 400 + 600 + 600 + 1200 * j8 + 600 ≤ _; omega) ?_
                                              exact ih (k9 + 1) _ _ G R (by omega) ⟨hS, hW, hL, hZn, by omega⟩ _ (lv_sub hl [1, 5, 0, 10, 11, 12, 13, 14, 15, 16, 17] rfl)
                                            · have he9 : μ 3 k9 = nI k9 := hloa.trans c_461
                                              have hec := ecN_le (μ 3) k9
                                              refine lv_iload hx hb dL_areStars_464 (lv_at hl 0 rfl) ?_
                                              refine lv_if_eq (tgt := 484) hx hb dL_areStars_466 (by decide) (fun c_466 => ?_) (fun c_466 => ?_)
                                              · exact absurd c_466 (by decide)
                                              · refine lv_aload_n hx hb dL_areStars_469 rfl (lv_at hl 10 rfl) ?_
                                                refine lv_iload hx hb dL_areStars_470 (lv_at hl 4 rfl) ?_
                                                have hcd0 : cd_entries (nI (ecN (μ 3) k9)) (cn, sc, μ) = 0 := ents_cd (by omega)
                                                refine hk_callVx 1 (As := [.int (nI (ecN (μ 3) k9))]) (rest := []) X K hAE hS hl.1 (HW.o hW) rfl (c_X10_entries E l hl9 H37 hW hI hZn (p0 := nI (ecN (μ 3) k9))) (fun q h => h) gL_areStars_X10_entries rfl ⟨rfl, hd_X10_entries⟩ rfl ⟨⟨(Nat.le_of_ble_eq_true rfl), (Nat.le_of_ble_eq_true rfl)⟩, (by show 200 * k9 + 8 + 8 + 8 + 12 + 12 + 24 * j8 + 12 + 8 ≤ 900; omega), (by show 10000 * k9 + 400 + 400 + 400 + 600 + 600 + 1200 * j8 + 600 + 400 ≤ 45000; omega)⟩ rfl (Nat.le_of_ble_eq_true rfl) dL_areStars_472 (fun x9 ce9 q9 H9 locs9 hp hS hz9 hk9 hce hcv hcl => by
                                                    obtain ⟨hcs, -⟩ := hp
                                                    rw [hcd0] at hcs
                                                    rcases hcs with ⟨h, -⟩ | ⟨h, -⟩ | ⟨h, -⟩ <;> exact absurd h (by decide)
                                                  ) (fun v9 H39 locsH39 hp hS hzH39 hkH39 => ?_)
                                                obtain ⟨-, hv, G, R, hW⟩ := hp
                                                subst hv
                                                have hL := hL.kept (fun k hk => hkH39 (la k) (hL.lt hk) (hlz k hk))
                                                have hZn := fun (q : Nat) (h : H39.size ≤ q) => hZn q (Nat.le_trans hzH39 h)
                                                refine lv_iload hx hb dL_areStars_475 (lv_at hl 5 rfl) ?_
                                                refine lv_icmp_ne (tgt := 484) hx hb dL_areStars_477 (by decide) (fun c_477 => ?_) (fun c_477 => ?_)
                                                · exact (c_477 (ent_at hk9 hn1 he9)).elim
                                                · refine lv_iconst (v := 1) hx hb dL_areStars_480 (by decide) ?_
                                                  refine lv_goto (tgt := 485) hx hb dL_areStars_481 (by decide) ?_
                                                  refine lv_istore (lv' := [(8, .int 1), (15, .int (-1)), (16, .int 0), (17, .int (nI 5)), (9, .int (nI (ecN (μ 3) k9))), (10, .int (nI k9)), (11, .int (nI ms)), (12, .int (nI pd9)), (13, .int 1), (14, .int 0), (0, .ref ho), (1, .ref (la 3)), (2, .ref (la 5)), (3, .ref (la 8)), (4, .ref (la 10)), (5, .ref (la 11)), (6, .ref (la 12)), (7, .int (nI zn))]) hx hb dL_areStars_485 hl (by decide) rfl (fun ls hl => ?_)
                                                  obtain ⟨q487, eq487⟩ : ∃ y : Int32, y = (nI (ecN (μ 3) k9)) + 1 := ⟨_, rfl⟩
                                                  refine lv_iinc (v := q487) (lv' := [(9, .int q487), (8, .int 1), (15, .int (-1)), (16, .int 0), (17, .int (nI 5)), (10, .int (nI k9)), (11, .int (nI ms)), (12, .int (nI pd9)), (13, .int 1), (14, .int 0), (0, .ref ho), (1, .ref (la 3)), (2, .ref (la 5)), (3, .ref (la 8)), (4, .ref (la 10)), (5, .ref (la 11)), (6, .ref (la 12)), (7, .int (nI zn))]) hx hb dL_areStars_487 hl (k := 4) rfl (by rw [eq487]; rfl) (by decide) rfl (fun ls hl => ?_)
                                                  rw [ec_y he9] at eq487
                                                  subst eq487
                                                  obtain ⟨q490, eq490⟩ : ∃ y : Int32, y = (nI k9) + 1 := ⟨_, rfl⟩
                                                  refine lv_iinc (v := q490) (lv' := [(10, .int q490), (9, .int (nI (ecN (μ 3) (k9 + 1)))), (8, .int 1), (15, .int (-1)), (16, .int 0), (17, .int (nI 5)), (11, .int (nI ms)), (12, .int (nI pd9)), (13, .int 1), (14, .int 0), (0, .ref ho), (1, .ref (la 3)), (2, .ref (la 5)), (3, .ref (la 8)), (4, .ref (la 10)), (5, .ref (la 11)), (6, .ref (la 12)), (7, .int (nI zn))]) hx hb dL_areStars_490 hl (k := 5) rfl (by rw [eq490]; rfl) (by decide) rfl (fun ls hl => ?_)
                                                  rw [nI_1] at eq490
                                                  subst eq490
                                                  refine lv_goto (tgt := 9) hx hb dL_areStars_493 (by decide) ?_
                                                  refine W.widen (k := 200 * (k9 + 1)) (n := 10000 * (k9 + 1)) (by show 200 * k9 + 8 + 8 + 8 + 12 + 12 + 24 * j8 + 12 + 8 ≤ _; omega) (by show 10000 * k9 + 400 + 400 + 400 + 600 + 600 + 1200 * j8 + 600 + 400 ≤ _; omega) ?_
                                                  exact ih (k9 + 1) _ _ G R (by omega) ⟨hS, hW, hL, hZn, by omega⟩ _ (lv_sub hl [2, 1, 0, 10, 11, 12, 13, 14, 15, 16, 17] rfl)
                                        · exact absurd (by decide) c_434
                                    · have hj5 : j8 < 5 := Nat.lt_of_not_le (fun h => c_271 (nI_le (a := 5) h (by omega)))
                                      refine lv_iload hx hb dL_areStars_274 (lv_at hl 3 rfl) ?_
                                      refine lv_if_eq (tgt := 415) hx hb dL_areStars_276 (by decide) (fun c_276 => ?_) (fun c_276 => ?_)
                                      · exact absurd c_276 (by decide)
                                      · refine lv_iload hx hb dL_areStars_279 (lv_at hl 9 rfl) ?_
                                        refine lv_if_eq (tgt := 303) hx hb dL_areStars_281 (by decide) (fun c_281 => ?_) (fun c_281 => ?_)
                                        · refine lv_ldc hx hb hown (hts (.constant RL 96 (-1111113)) (by decide +kernel)) dL_areStars_303 ?_
                                          refine lv_istore (lv' := [(18, .int (-1111113)), (15, .int (-1)), (16, .int 0), (17, .int (nI j8)), (8, .int 1), (9, .int (nI (ecN (μ 3) k9))), (10, .int (nI k9)), (11, .int (nI ms)), (12, .int (nI pd9)), (13, .int 1), (14, .int 0), (0, .ref ho), (1, .ref (la 3)), (2, .ref (la 5)), (3, .ref (la 8)), (4, .ref (la 10)), (5, .ref (la 11)), (6, .ref (la 12)), (7, .int (nI zn))]) hx hb dL_areStars_305 hl (by decide) rfl (fun ls hl => ?_)
                                          refine lv_iload hx hb dL_areStars_307 (lv_at hl 0 rfl) ?_
                                          refine lv_iload hx hb dL_areStars_309 (lv_at hl 2 rfl) ?_
                                          refine lv_icmp_le (tgt := 319) hx hb dL_areStars_311 (by decide) (fun c_311 => ?_) (fun c_311 => ?_)
                                          · refine lv_iload hx hb dL_areStars_319 (lv_at hl 1 rfl) ?_
                                            refine lv_istore (lv' := [(15, .int (-1)), (18, .int (-1111113)), (16, .int 0), (17, .int (nI j8)), (8, .int 1), (9, .int (nI (ecN (μ 3) k9))), (10, .int (nI k9)), (11, .int (nI ms)), (12, .int (nI pd9)), (13, .int 1), (14, .int 0), (0, .ref ho), (1, .ref (la 3)), (2, .ref (la 5)), (3, .ref (la 8)), (4, .ref (la 10)), (5, .ref (la 11)), (6, .ref (la 12)), (7, .int (nI zn))]) hx hb dL_areStars_321 hl (by decide) rfl (fun ls hl => ?_)
                                            refine lv_iload hx hb dL_areStars_323 (lv_at hl 1 rfl) ?_
                                            refine lv_iload hx hb dL_areStars_325 (lv_at hl 2 rfl) ?_
                                            refine lv_icmp_le (tgt := 335) hx hb dL_areStars_327 (by decide) (fun c_327 => ?_) (fun c_327 => ?_)
                                            · refine lv_iload hx hb dL_areStars_335 (lv_at hl 2 rfl) ?_
                                              refine lv_istore (lv' := [(16, .int 0), (15, .int (-1)), (18, .int (-1111113)), (17, .int (nI j8)), (8, .int 1), (9, .int (nI (ecN (μ 3) k9))), (10, .int (nI k9)), (11, .int (nI ms)), (12, .int (nI pd9)), (13, .int 1), (14, .int 0), (0, .ref ho), (1, .ref (la 3)), (2, .ref (la 5)), (3, .ref (la 8)), (4, .ref (la 10)), (5, .ref (la 11)), (6, .ref (la 12)), (7, .int (nI zn))]) hx hb dL_areStars_337 hl (by decide) rfl (fun ls hl => ?_)
                                              refine lv_aload_n hx hb dL_areStars_339 rfl (lv_at hl 11 rfl) ?_
                                              refine lv_iconst (v := 5) hx hb dL_areStars_340 (by decide) ?_
                                              refine lv_iload hx hb dL_areStars_341 (lv_at hl 6 rfl) ?_
                                              refine lv_iload hx hb dL_areStars_343 (lv_at hl 3 rfl) ?_
                                              refine lv_iconst (v := 0) hx hb dL_areStars_345 (by decide) ?_
                                              refine lv_iconst (v := 0) hx hb dL_areStars_346 (by decide) ?_
                                              refine lv_iconst (v := 0) hx hb dL_areStars_347 (by decide) ?_
                                              refine hk_callSxW 7 (As := [.ref ho, .int 5, .int (nI k9), .int (nI j8), .int 0, .int 0, .int 0]) (rest := []) X K hAE hS hl.1 (c_L_does_votes E l hl9 H hW hI hZn (p0 := nI k9) (p1 := nI j8) (p2 := 0) (p3 := 0) (p4 := 0)) (fun q h => h) gL_areStars_L_does rfl hd_L_does rfl ⟨⟨(Nat.le_of_ble_eq_true rfl), (Nat.le_of_ble_eq_true rfl)⟩, (by show 200 * k9 + 8 + 8 + 8 + 12 + 12 + 24 * j8 + 12 ≤ 900; omega), (by show 10000 * k9 + 400 + 400 + 400 + 600 + 600 + 1200 * j8 + 600 ≤ 45000; omega)⟩ rfl (Nat.le_of_ble_eq_true rfl) dL_areStars_348 (fun _ _ _ _ _ hp _ _ _ _ _ _ => False.elim hp) (fun v9 H40 locsH40 hp hS hzH40 hkH40 => ?_)
                                              obtain ⟨hv, G, R, hW⟩ := hp
                                              subst hv
                                              have hL := hL.kept (fun k hk => hkH40 (la k) (hL.lt hk) (hlz k hk))
                                              have hZn := fun (q : Nat) (h : H40.size ≤ q) => hZn q (Nat.le_trans hzH40 h)
                                              refine lv_iload hx hb dL_areStars_351 (lv_at hl 2 rfl) ?_
                                              refine lv_icmp_ne (tgt := 406) hx hb dL_areStars_353 (by decide) (fun c_353 => ?_) (fun c_353 => ?_)
                                              · exact (c_353 (vote_n (S := (cn, sc, μ)) hk9 hn1 hj5 hcan)).elim
                                              · refine lv_iload hx hb dL_areStars_356 (lv_at hl 3 rfl) ?_
                                                refine lv_iconst (v := 2) hx hb dL_areStars_358 (by decide) ?_
                                                refine lv_icmp_gt (tgt := 402) hx hb dL_areStars_359 (by decide) (fun c_359 => ?_) (fun c_359 => ?_)
                                                · refine lv_iconst (v := 1) hx hb dL_areStars_402 (by decide) ?_
                                                  refine lv_goto (tgt := 407) hx hb dL_areStars_403 (by decide) ?_
                                                  refine lv_istore (lv' := [(8, .int 1), (16, .int 0), (15, .int (-1)), (18, .int (-1111113)), (17, .int (nI j8)), (9, .int (nI (ecN (μ 3) k9))), (10, .int (nI k9)), (11, .int (nI ms)), (12, .int (nI pd9)), (13, .int 1), (14, .int 0), (0, .ref ho), (1, .ref (la 3)), (2, .ref (la 5)), (3, .ref (la 8)), (4, .ref (la 10)), (5, .ref (la 11)), (6, .ref (la 12)), (7, .int (nI zn))]) hx hb dL_areStars_407 hl (by decide) rfl (fun ls hl => ?_)
                                                  obtain ⟨q409, eq409⟩ : ∃ y : Int32, y = (nI j8) + 1 := ⟨_, rfl⟩
                                                  refine lv_iinc (v := q409) (lv' := [(17, .int q409), (8, .int 1), (16, .int 0), (15, .int (-1)), (18, .int (-1111113)), (9, .int (nI (ecN (μ 3) k9))), (10, .int (nI k9)), (11, .int (nI ms)), (12, .int (nI pd9)), (13, .int 1), (14, .int 0), (0, .ref ho), (1, .ref (la 3)), (2, .ref (la 5)), (3, .ref (la 8)), (4, .ref (la 10)), (5, .ref (la 11)), (6, .ref (la 12)), (7, .int (nI zn))]) hx hb dL_areStars_409 hl (k := 4) rfl (by rw [eq409]; rfl) (by decide) rfl (fun ls hl => ?_)
                                                  rw [nI_1] at eq409
                                                  subst eq409
                                                  refine lv_goto (tgt := 268) hx hb dL_areStars_412 (by decide) ?_
                                                  refine W.widen (k := 200 * k9 + 8 + 8 + 8 + 12 + 12 + 24 * (j8 + 1)) (n := 10000 * k9 + 400 + 400 + 400 + 600 + 600 + 1200 * (j8 + 1)) (by show 200 * k9 + 8 + 8 + 8 + 12 + 12 + 24 * j8 + 12 ≤ _; omega) (by show 10000 * k9 + 400 + 400 + 400 + 600 + 600 + 1200 * j8 + 600 ≤ _; omega) ?_
                                                  exact ih8 (j8 + 1) _ _ G R (by omega) ⟨hS, hW, hL, hZn, by omega⟩ _ (lv_sub hl [3, 2, 0, 1, 5, 6, 7, 8, 9, 10, 11, 12, 13, 14, 15, 16, 17, 18] rfl)
                                                · have hj3 : j8 < 3 := by
                                                    have := Int32.not_lt.mp c_359
                                                    have := (nI_leI (a := j8) (b := 2) (by omega) (by omega)).mp this
                                                    omega
                                                  refine lv_aload_n hx hb dL_areStars_362 rfl (lv_at hl 11 rfl) ?_
                                                  refine lv_iconst (v := 4) hx hb dL_areStars_363 (by decide) ?_
                                                  refine lv_iload hx hb dL_areStars_364 (lv_at hl 6 rfl) ?_
                                                  refine lv_iload hx hb dL_areStars_366 (lv_at hl 3 rfl) ?_
                                                  refine lv_iconst (v := 0) hx hb dL_areStars_368 (by decide) ?_
                                                  refine lv_iconst (v := 0) hx hb dL_areStars_369 (by decide) ?_
                                                  refine lv_iconst (v := 0) hx hb dL_areStars_370 (by decide) ?_
                                                  refine hk_callSxW 7 (As := [.ref ho, .int 4, .int (nI k9), .int (nI j8), .int 0, .int 0, .int 0]) (rest := []) X K hAE hS hl.1 (c_L_does_feature E l hl9 H40 hW hI hZn (p0 := nI k9) (p1 := nI j8) (p2 := 0) (p3 := 0) (p4 := 0)) (fun q h => h) gL_areStars_L_does rfl hd_L_does rfl ⟨⟨(Nat.le_of_ble_eq_true rfl), (Nat.le_of_ble_eq_true rfl)⟩, (by show 200 * k9 + 8 + 8 + 8 + 12 + 12 + 24 * j8 + 12 + 12 ≤ 900; omega), (by show 10000 * k9 + 400 + 400 + 400 + 600 + 600 + 1200 * j8 + 600 + 600 ≤ 45000; omega)⟩ rfl (Nat.le_of_ble_eq_true rfl) dL_areStars_371 (fun _ _ _ _ _ hp _ _ _ _ _ _ => False.elim hp) (fun v9 H41 locsH41 hp hS hzH41 hkH41 => ?_)
                                                  obtain ⟨hv, G, R, hW⟩ := hp
                                                  subst hv
                                                  have hL := hL.kept (fun k hk => hkH41 (la k) (hL.lt hk) (hlz k hk))
                                                  have hZn := fun (q : Nat) (h : H41.size ≤ q) => hZn q (Nat.le_trans hzH41 h)
                                                  refine lv_iload hx hb dL_areStars_374 (lv_at hl 10 rfl) ?_
                                                  refine lv_if_eq (tgt := 397) hx hb dL_areStars_376 (by decide) (fun c_376 => ?_) (fun c_376 => ?_)
                                                  · refine lv_ldc hx hb hown (hts (.constant RL 96 (-1111113)) (by decide +kernel)) dL_areStars_397 ?_
                                                    refine lv_icmp_ne (tgt := 406) hx hb dL_areStars_399 (by decide) (fun c_399 => ?_) (fun c_399 => ?_)
                                                    · exact (c_399 (feat_n (S := (cn, sc, μ)) hk9 hn1 hj3 hcan)).elim
                                                    · refine lv_iconst (v := 1) hx hb dL_areStars_402 (by decide) ?_
                                                      refine lv_goto (tgt := 407) hx hb dL_areStars_403 (by decide) ?_
                                                      refine lv_istore (lv' := [(8, .int 1), (16, .int 0), (15, .int (-1)), (18, .int (-1111113)), (17, .int (nI j8)), (9, .int (nI (ecN (μ 3) k9))), (10, .int (nI k9)), (11, .int (nI ms)), (12, .int (nI pd9)), (13, .int 1), (14, .int 0), (0, .ref ho), (1, .ref (la 3)), (2, .ref (la 5)), (3, .ref (la 8)), (4, .ref (la 10)), (5, .ref (la 11)), (6, .ref (la 12)), (7, .int (nI zn))]) hx hb dL_areStars_407 hl (by decide) rfl (fun ls hl => ?_)
                                                      obtain ⟨q409, eq409⟩ : ∃ y : Int32, y = (nI j8) + 1 := ⟨_, rfl⟩
                                                      refine lv_iinc (v := q409) (lv' := [(17, .int q409), (8, .int 1), (16, .int 0), (15, .int (-1)), (18, .int (-1111113)), (9, .int (nI (ecN (μ 3) k9))), (10, .int (nI k9)), (11, .int (nI ms)), (12, .int (nI pd9)), (13, .int 1), (14, .int 0), (0, .ref ho), (1, .ref (la 3)), (2, .ref (la 5)), (3, .ref (la 8)), (4, .ref (la 10)), (5, .ref (la 11)), (6, .ref (la 12)), (7, .int (nI zn))]) hx hb dL_areStars_409 hl (k := 4) rfl (by rw [eq409]; rfl) (by decide) rfl (fun ls hl => ?_)
                                                      rw [nI_1] at eq409
                                                      subst eq409
                                                      refine lv_goto (tgt := 268) hx hb dL_areStars_412 (by decide) ?_
                                                      refine W.widen (k := 200 * k9 + 8 + 8 + 8 + 12 + 12 + 24 * (j8 + 1)) (n := 10000 * k9 + 400 + 400 + 400 + 600 + 600 + 1200 * (j8 + 1)) (by show 200 * k9 + 8 + 8 + 8 + 12 + 12 + 24 * j8 + 12 + 12 ≤ _; omega) (by show 10000 * k9 + 400 + 400 + 400 + 600 + 600 + 1200 * j8 + 600 + 600 ≤ _; omega) ?_
                                                      exact ih8 (j8 + 1) _ _ G R (by omega) ⟨hS, hW, hL, hZn, by omega⟩ _ (lv_sub hl [3, 2, 0, 1, 5, 6, 7, 8, 9, 10, 11, 12, 13, 14, 15, 16, 17, 18] rfl)
                                                  · exact absurd (by decide) c_376
                                            · exact absurd (by decide) c_327
                                          · exact absurd (by decide) c_311
                                        · exact absurd (by decide) c_281
                                exact L268 6 0 _ _ G R (by omega) ⟨hS, hW, hL, hZn, by omega⟩ _ (lv_sub hl [2, 1, 0, 3, 8, 9, 7, 6, 5, 4, 10, 11, 12, 13, 14, 15, 16, 17] rfl)
                            · exact absurd (by decide) c_230
                · have hc : 0 < sp_clm (μ 3) (μ 4) (μ 3 k9) (cn 1) 0 := Int32.not_le.mp c_86
                  have hcan : canS (cn, sc, μ) (μ 3 k9) := ⟨h0, hc⟩
                  refine lv_iconst (v := 1) hx hb dL_areStars_89 (by decide) ?_
                  refine lv_goto (tgt := 94) hx hb dL_areStars_90 (by decide) ?_
                  refine lv_istore (lv' := [(14, .int 1), (13, .int 1), (12, .int (nI pd9)), (11, .int (nI ms)), (8, .int 1), (9, .int (nI (ecN (μ 3) k9))), (10, .int (nI k9)), (0, .ref ho), (1, .ref (la 3)), (2, .ref (la 5)), (3, .ref (la 8)), (4, .ref (la 10)), (5, .ref (la 11)), (6, .ref (la 12)), (7, .int (nI zn))]) hx hb dL_areStars_94 hl (by decide) rfl (fun ls hl => ?_)
                  refine lv_aload_n hx hb dL_areStars_96 rfl (lv_at hl 7 rfl) ?_
                  refine lv_iload hx hb dL_areStars_97 (lv_at hl 6 rfl) ?_
                  have hcd0 : cd_entry (nI k9) (cn, sc, μ) = 0 := star_cd hk9 hn1
                  refine hk_callVx 1 (As := [.int (nI k9)]) (rest := []) X K hAE hS hl.1 (HW.o hW) rfl (c_X10_entry E l hl9 H hW hI hZn (p0 := nI k9)) (fun q h => h) gL_areStars_X10_entry rfl ⟨rfl, hd_X10_entry⟩ rfl ⟨⟨(Nat.le_of_ble_eq_true rfl), (Nat.le_of_ble_eq_true rfl)⟩, (by show 200 * k9 + 8 ≤ 900; omega), (by show 10000 * k9 + 400 ≤ 45000; omega)⟩ rfl (Nat.le_of_ble_eq_true rfl) dL_areStars_99 (fun x9 ce9 q9 H9 locs9 hp hS hz9 hk9 hce hcv hcl => by
                      obtain ⟨hcs, -⟩ := hp
                      rw [hcd0] at hcs
                      rcases hcs with ⟨h, -⟩ | ⟨h, -⟩ | ⟨h, -⟩ <;> exact absurd h (by decide)
                    ) (fun v9 H42 locsH42 hp hS hzH42 hkH42 => ?_)
                  obtain ⟨-, hv, G, R, hW⟩ := hp
                  subst hv
                  have hL := hL.kept (fun k hk => hkH42 (la k) (hL.lt hk) (hlz k hk))
                  have hZn := fun (q : Nat) (h : H42.size ≤ q) => hZn q (Nat.le_trans hzH42 h)
                  refine lv_iload hx hb dL_areStars_102 (lv_at hl 3 rfl) ?_
                  refine hk_callS 1 (As := [.int (nI ms)]) (rest := [.int (an_entry (nI k9) (cn, sc, μ))]) X K hAE hS hl.1 (c_L_lowest E l H42 hm.1 hza) (fun _ h => h.elim) gL_areStars_L_lowest rfl hd_L_lowest rfl ⟨⟨(Nat.le_of_ble_eq_true rfl), (Nat.le_of_ble_eq_true rfl)⟩, (by show 200 * k9 + 8 + 0 ≤ 900; omega), (by show 10000 * k9 + 400 + 0 ≤ 45000; omega)⟩ rfl (Nat.le_of_ble_eq_true rfl) dL_areStars_104 (fun v9 H43 locsH43 hp hS hzH43 hkH43 => ?_)
                  obtain ⟨hv, hh⟩ := hp
                  subst hv; subst hh
                  refine lv_icmp_ne (tgt := 256) hx hb dL_areStars_107 (by decide) (fun c_107 => ?_) (fun c_107 => ?_)
                  · exact (c_107 ((star_an (S := (cn, sc, μ)) (by omega)).trans hloa)).elim
                  · refine lv_aload_n hx hb dL_areStars_110 rfl (lv_at hl 7 rfl) ?_
                    refine lv_iload hx hb dL_areStars_111 (lv_at hl 6 rfl) ?_
                    refine lv_iload hx hb dL_areStars_113 (lv_at hl 2 rfl) ?_
                    have hcd0 : cd_string (nI k9) (nI pd9) (cn, sc, μ) = 0 := str_cd hk9 hn1 hpd.1 (by omega)
                    refine hk_callVx 2 (As := [.int (nI k9), .int (nI pd9)]) (rest := []) X K hAE hS hl.1 (HW.o hW) rfl (c_X10_string E l hl9 H42 hW hI hZn (p0 := nI k9) (p1 := nI pd9)) (fun q h => h) gL_areStars_X10_string rfl ⟨rfl, hd_X10_string⟩ rfl ⟨⟨(Nat.le_of_ble_eq_true rfl), (Nat.le_of_ble_eq_true rfl)⟩, (by show 200 * k9 + 8 + 8 ≤ 900; omega), (by show 10000 * k9 + 400 + 400 ≤ 45000; omega)⟩ rfl (Nat.le_of_ble_eq_true rfl) dL_areStars_115 (fun x9 ce9 q9 H9 locs9 hp hS hz9 hk9 hce hcv hcl => by
                        obtain ⟨hcs, -⟩ := hp
                        rw [hcd0] at hcs
                        rcases hcs with ⟨h, -⟩ | ⟨h, -⟩ | ⟨h, -⟩ <;> exact absurd h (by decide)
                      ) (fun v9 H44 locsH44 hp hS hzH44 hkH44 => ?_)
                    obtain ⟨-, hv, G, R, hW⟩ := hp
                    subst hv
                    have hL := hL.kept (fun k hk => hkH44 (la k) (hL.lt hk) (hlz k hk))
                    have hZn := fun (q : Nat) (h : H44.size ≤ q) => hZn q (Nat.le_trans hzH44 h)
                    refine lv_aload_n hx hb dL_areStars_118 rfl (lv_at hl 9 rfl) ?_
                    refine lv_aload hx hb dL_areStars_119 (lv_at hl 11 rfl) ?_
                    refine lv_aload hx hb dL_areStars_121 (lv_at hl 12 rfl) ?_
                    refine lv_aload hx hb dL_areStars_123 (lv_at hl 13 rfl) ?_
                    refine lv_iload hx hb dL_areStars_125 (lv_at hl 3 rfl) ?_
                    refine lv_iload hx hb dL_areStars_127 (lv_at hl 2 rfl) ?_
                    refine hk_callS 6 (As := [.ref (la 5), .ref (la 10), .ref (la 11), .ref (la 12), .int (nI ms), .int (nI pd9)]) (rest := [.int (an_string (nI k9) (nI pd9) (cn, sc, μ))]) X K hAE hS hl.1 (c_L_string E l H44 hL hV hI hX hm (P9 := nI pd9) (inr_nI (a := 30) (b := 1000000) hpd.1 (by omega) (by omega))) (fun _ h => h.elim) gL_areStars_L_string rfl hd_L_string rfl ⟨⟨(Nat.le_of_ble_eq_true rfl), (Nat.le_of_ble_eq_true rfl)⟩, (by show 200 * k9 + 8 + 8 + 0 ≤ 900; omega), (by show 10000 * k9 + 400 + 400 + 0 ≤ 45000; omega)⟩ rfl (Nat.le_of_ble_eq_true rfl) dL_areStars_129 (fun v9 H45 locsH45 hp hS hzH45 hkH45 => ?_)
                    obtain ⟨hv, hh⟩ := hp
                    subst hv; subst hh
                    refine lv_icmp_ne (tgt := 256) hx hb dL_areStars_132 (by decide) (fun c_132 => ?_) (fun c_132 => ?_)
                    · exact (c_132 (str_an (S := (cn, sc, μ)) (by omega))).elim
                    · refine lv_aload_n hx hb dL_areStars_135 rfl (lv_at hl 7 rfl) ?_
                      refine lv_iload hx hb dL_areStars_136 (lv_at hl 6 rfl) ?_
                      refine lv_iload hx hb dL_areStars_138 (lv_at hl 14 rfl) ?_
                      refine lv_aload hx hb dL_areStars_140 (lv_at hl 11 rfl) ?_
                      refine lv_iconst (v := 0) hx hb dL_areStars_142 (by decide) ?_
                      refine hk_ild X K hL.c10 (show vp_in (nI 0) 6 from vp_in_nI (by decide) (by decide)) dL_areStars_143 ?_
                      rw [show (V 10) (0 : Int32).toNatClampNeg = nI (cn 1) from hV.g0]
                      refine lv_irem hx hb dL_areStars_144 (nI_ne0 (by omega) (by omega)) ?_
                      refine lv_topi (fun z_46 ez_46 => ?_)
                      have ez_46 : z_46 = nI z9 := ez_46.trans ((pk_rem (a := zn) (d := (cn 1)) (by omega) (by omega) (by omega)).trans (congrArg nI (show zn % (cn 1) = z9 by omega)))
                      subst ez_46
                      refine lv_iload hx hb dL_areStars_145 (lv_at hl 2 rfl) ?_
                      have hcd0 : cd_together (nI k9) (nI z9) (nI pd9) (cn, sc, μ) = 0 := tog_cd hk9 hz9 hn1 hpd.1 (by omega)
                      refine hk_callVx 3 (As := [.int (nI k9), .int (nI z9), .int (nI pd9)]) (rest := []) X K hAE hS hl.1 (HW.o hW) rfl (c_X10_together E l hl9 H44 hW hI hZn (p0 := nI k9) (p1 := nI z9) (p2 := nI pd9)) (fun q h => h) gL_areStars_X10_together rfl ⟨rfl, hd_X10_together⟩ rfl ⟨⟨(Nat.le_of_ble_eq_true rfl), (Nat.le_of_ble_eq_true rfl)⟩, (by show 200 * k9 + 8 + 8 + 8 ≤ 900; omega), (by show 10000 * k9 + 400 + 400 + 400 ≤ 45000; omega)⟩ rfl (Nat.le_of_ble_eq_true rfl) dL_areStars_147 (fun x9 ce9 q9 H9 locs9 hp hS hz9 hk9 hce hcv hcl => by
                          obtain ⟨hcs, -⟩ := hp
                          rw [hcd0] at hcs
                          rcases hcs with ⟨h, -⟩ | ⟨h, -⟩ | ⟨h, -⟩ <;> exact absurd h (by decide)
                        ) (fun v9 H47 locsH47 hp hS hzH47 hkH47 => ?_)
                      obtain ⟨-, hv, G, R, hW⟩ := hp
                      subst hv
                      have hL := hL.kept (fun k hk => hkH47 (la k) (hL.lt hk) (hlz k hk))
                      have hZn := fun (q : Nat) (h : H47.size ≤ q) => hZn q (Nat.le_trans hzH47 h)
                      refine lv_aload_n hx hb dL_areStars_150 rfl (lv_at hl 9 rfl) ?_
                      refine lv_aload hx hb dL_areStars_151 (lv_at hl 11 rfl) ?_
                      refine lv_aload hx hb dL_areStars_153 (lv_at hl 12 rfl) ?_
                      refine lv_aload hx hb dL_areStars_155 (lv_at hl 13 rfl) ?_
                      refine lv_iload hx hb dL_areStars_157 (lv_at hl 3 rfl) ?_
                      refine lv_aload_n hx hb dL_areStars_159 rfl (lv_at hl 8 rfl) ?_
                      refine lv_iconst (v := 4) hx hb dL_areStars_160 (by decide) ?_
                      refine lv_iload hx hb dL_areStars_161 (lv_at hl 14 rfl) ?_
                      refine lv_aload hx hb dL_areStars_163 (lv_at hl 11 rfl) ?_
                      refine lv_iconst (v := 0) hx hb dL_areStars_165 (by decide) ?_
                      refine hk_ild X K hL.c10 (show vp_in (nI 0) 6 from vp_in_nI (by decide) (by decide)) dL_areStars_166 ?_
                      rw [show (V 10) (0 : Int32).toNatClampNeg = nI (cn 1) from hV.g0]
                      refine lv_irem hx hb dL_areStars_167 (nI_ne0 (by omega) (by omega)) ?_
                      refine lv_topi (fun z_48 ez_48 => ?_)
                      have ez_48 : z_48 = nI z9 := ez_48.trans ((pk_rem (a := zn) (d := (cn 1)) (by omega) (by omega) (by omega)).trans (congrArg nI (show zn % (cn 1) = z9 by omega)))
                      subst ez_48
                      refine lv_imul hx hb dL_areStars_168 ?_
                      refine lv_topi (fun z_49 ez_49 => ?_)
                      have ez_49 : z_49 = nI (4 * z9) := ez_49.trans (nI_mul 4 z9)
                      subst ez_49
                      refine lv_iconst (v := 1) hx hb dL_areStars_169 (by decide) ?_
                      refine lv_iadd hx hb dL_areStars_170 ?_
                      refine lv_topi (fun z_50 ez_50 => ?_)
                      have ez_50 : z_50 = nI ((4 * z9) + 1) := ez_50.trans (nI_add (4 * z9) 1)
                      subst ez_50
                      refine hk_ild X K hL.c3 (vp_in_nI (by omega) (by omega)) dL_areStars_171 ?_
                      rw [show (V 3) (nI ((4 * z9) + 1)).toNatClampNeg = nI m2 from (congrArg (V 3) (nI_clamp (show 4 * z9 + 1 < 2 ^ 31 by omega))).trans hm2v]
                      refine lv_ior hx hb dL_areStars_172 ?_
                      refine lv_topi (fun q172 eq172 => ?_)
                      rw [l_or ms hm.1 m2 hm2.1] at eq172
                      subst eq172
                      refine lv_iload hx hb dL_areStars_173 (lv_at hl 2 rfl) ?_
                      refine hk_callS 6 (As := [.ref (la 5), .ref (la 10), .ref (la 11), .ref (la 12), .int (nI (ms ||| m2)), .int (nI pd9)]) (rest := [.int (an_together (nI k9) (nI z9) (nI pd9) (cn, sc, μ))]) X K hAE hS hl.1 (c_L_string E l H47 hL hV hI hX hmu (P9 := nI pd9) (inr_nI (a := 30) (b := 1000000) hpd.1 (by omega) (by omega))) (fun _ h => h.elim) gL_areStars_L_string rfl hd_L_string rfl ⟨⟨(Nat.le_of_ble_eq_true rfl), (Nat.le_of_ble_eq_true rfl)⟩, (by show 200 * k9 + 8 + 8 + 8 + 0 ≤ 900; omega), (by show 10000 * k9 + 400 + 400 + 400 + 0 ≤ 45000; omega)⟩ rfl (Nat.le_of_ble_eq_true rfl) dL_areStars_175 (fun v9 H51 locsH51 hp hS hzH51 hkH51 => ?_)
                      obtain ⟨hv, hh⟩ := hp
                      subst hv; subst hh
                      refine lv_icmp_ne (tgt := 256) hx hb dL_areStars_178 (by decide) (fun c_178 => ?_) (fun c_178 => ?_)
                      · exact (c_178 (tog_an (S := (cn, sc, μ)) (by omega) (by omega))).elim
                      · refine lv_aload_n hx hb dL_areStars_181 rfl (lv_at hl 7 rfl) ?_
                        refine lv_bipush (v := 8) hx hb dL_areStars_182 (by decide) ?_
                        refine lv_iload hx hb dL_areStars_184 (lv_at hl 6 rfl) ?_
                        refine lv_iconst (v := 0) hx hb dL_areStars_186 (by decide) ?_
                        refine lv_iconst (v := 0) hx hb dL_areStars_187 (by decide) ?_
                        refine lv_iconst (v := 0) hx hb dL_areStars_188 (by decide) ?_
                        refine lv_iconst (v := 0) hx hb dL_areStars_189 (by decide) ?_
                        refine hk_callSxW 7 (As := [.ref ho, .int 8, .int (nI k9), .int 0, .int 0, .int 0, .int 0]) (rest := []) X K hAE hS hl.1 (c_L_does_mean E l hl9 H47 hW hI hZn (p0 := nI k9) (p1 := 0) (p2 := 0) (p3 := 0) (p4 := 0)) (fun q h => h) gL_areStars_L_does rfl hd_L_does rfl ⟨⟨(Nat.le_of_ble_eq_true rfl), (Nat.le_of_ble_eq_true rfl)⟩, (by show 200 * k9 + 8 + 8 + 8 + 12 ≤ 900; omega), (by show 10000 * k9 + 400 + 400 + 400 + 600 ≤ 45000; omega)⟩ rfl (Nat.le_of_ble_eq_true rfl) dL_areStars_190 (fun _ _ _ _ _ hp _ _ _ _ _ _ => False.elim hp) (fun v9 H52 locsH52 hp hS hzH52 hkH52 => ?_)
                        obtain ⟨hv, G, R, hW⟩ := hp
                        subst hv
                        have hL := hL.kept (fun k hk => hkH52 (la k) (hL.lt hk) (hlz k hk))
                        have hZn := fun (q : Nat) (h : H52.size ≤ q) => hZn q (Nat.le_trans hzH52 h)
                        refine lv_iload hx hb dL_areStars_193 (lv_at hl 1 rfl) ?_
                        refine lv_if_eq (tgt := 211) hx hb dL_areStars_195 (by decide) (fun c_195 => ?_) (fun c_195 => ?_)
                        · exact absurd c_195 (by decide)
                        · refine lv_aload_n hx hb dL_areStars_198 rfl (lv_at hl 9 rfl) ?_
                          refine lv_aload hx hb dL_areStars_199 (lv_at hl 11 rfl) ?_
                          refine lv_aload hx hb dL_areStars_201 (lv_at hl 12 rfl) ?_
                          refine lv_iload hx hb dL_areStars_203 (lv_at hl 3 rfl) ?_
                          refine hk_callS 4 (As := [.ref (la 5), .ref (la 10), .ref (la 11), .int (nI ms)]) (rest := [.int (dv (cd_mean (nI k9) (cn, sc, μ)) (an_mean (nI k9) (cn, sc, μ)) (-1111111) (-1111113) 0)]) X K hAE hS hl.1 (c_L_mean E l H52 hL hV hI hX hm h0) (fun _ h => h.elim) gL_areStars_L_mean rfl hd_L_mean rfl ⟨⟨(Nat.le_of_ble_eq_true rfl), (Nat.le_of_ble_eq_true rfl)⟩, (by show 200 * k9 + 8 + 8 + 8 + 12 + 0 ≤ 900; omega), (by show 10000 * k9 + 400 + 400 + 400 + 600 + 0 ≤ 45000; omega)⟩ rfl (Nat.le_of_ble_eq_true rfl) dL_areStars_205 (fun v9 H53 locsH53 hp hS hzH53 hkH53 => ?_)
                          obtain ⟨hv, hh⟩ := hp
                          subst hv; subst hh
                          refine lv_goto (tgt := 213) hx hb dL_areStars_208 (by decide) ?_
                          refine lv_icmp_ne (tgt := 256) hx hb dL_areStars_213 (by decide) (fun c_213 => ?_) (fun c_213 => ?_)
                          · exact (c_213 (mean_y (S := (cn, sc, μ)) hk9 hn1 h0 (show (sp_sel μ (μ 3 k9) (-1) (cn 12)).length < 2 ^ 31 by omega))).elim
                          · refine lv_aload_n hx hb dL_areStars_216 rfl (lv_at hl 7 rfl) ?_
                            refine lv_bipush (v := 9) hx hb dL_areStars_217 (by decide) ?_
                            refine lv_iload hx hb dL_areStars_219 (lv_at hl 6 rfl) ?_
                            refine lv_iconst (v := 0) hx hb dL_areStars_221 (by decide) ?_
                            refine lv_iconst (v := 0) hx hb dL_areStars_222 (by decide) ?_
                            refine lv_iconst (v := 0) hx hb dL_areStars_223 (by decide) ?_
                            refine lv_iconst (v := 0) hx hb dL_areStars_224 (by decide) ?_
                            refine hk_callSxW 7 (As := [.ref ho, .int 9, .int (nI k9), .int 0, .int 0, .int 0, .int 0]) (rest := []) X K hAE hS hl.1 (c_L_does_modulus E l hl9 H52 hW hI hZn (p0 := nI k9) (p1 := 0) (p2 := 0) (p3 := 0) (p4 := 0)) (fun q h => h) gL_areStars_L_does rfl hd_L_does rfl ⟨⟨(Nat.le_of_ble_eq_true rfl), (Nat.le_of_ble_eq_true rfl)⟩, (by show 200 * k9 + 8 + 8 + 8 + 12 + 12 ≤ 900; omega), (by show 10000 * k9 + 400 + 400 + 400 + 600 + 600 ≤ 45000; omega)⟩ rfl (Nat.le_of_ble_eq_true rfl) dL_areStars_225 (fun _ _ _ _ _ hp _ _ _ _ _ _ => False.elim hp) (fun v9 H54 locsH54 hp hS hzH54 hkH54 => ?_)
                            obtain ⟨hv, G, R, hW⟩ := hp
                            subst hv
                            have hL := hL.kept (fun k hk => hkH54 (la k) (hL.lt hk) (hlz k hk))
                            have hZn := fun (q : Nat) (h : H54.size ≤ q) => hZn q (Nat.le_trans hzH54 h)
                            refine lv_iload hx hb dL_areStars_228 (lv_at hl 0 rfl) ?_
                            refine lv_if_eq (tgt := 247) hx hb dL_areStars_230 (by decide) (fun c_230 => ?_) (fun c_230 => ?_)
                            · exact absurd c_230 (by decide)
                            · refine lv_aload_n hx hb dL_areStars_233 rfl (lv_at hl 8 rfl) ?_
                              refine lv_aload_n hx hb dL_areStars_234 rfl (lv_at hl 9 rfl) ?_
                              refine lv_aload hx hb dL_areStars_235 (lv_at hl 11 rfl) ?_
                              refine lv_aload hx hb dL_areStars_237 (lv_at hl 12 rfl) ?_
                              refine lv_iload hx hb dL_areStars_239 (lv_at hl 3 rfl) ?_
                              refine hk_callS 5 (As := [.ref (la 3), .ref (la 5), .ref (la 10), .ref (la 11), .int (nI ms)]) (rest := [.int (dv (cd_modulus (nI k9) (cn, sc, μ)) (an_modulus (nI k9) (cn, sc, μ)) (-1111111) (-1111113) 0)]) X K hAE hS hl.1 (c_L_modulus E l H54 hL hV hI hX hm hpos h0 hc hza hloa) (fun _ h => h.elim) gL_areStars_L_modulus rfl hd_L_modulus rfl ⟨⟨(Nat.le_of_ble_eq_true rfl), (Nat.le_of_ble_eq_true rfl)⟩, (by show 200 * k9 + 8 + 8 + 8 + 12 + 12 + 0 ≤ 900; omega), (by show 10000 * k9 + 400 + 400 + 400 + 600 + 600 + 0 ≤ 45000; omega)⟩ rfl (Nat.le_of_ble_eq_true rfl) dL_areStars_241 (fun v9 H55 locsH55 hp hS hzH55 hkH55 => ?_)
                              obtain ⟨hv, hh⟩ := hp
                              subst hv; subst hh
                              refine lv_goto (tgt := 249) hx hb dL_areStars_244 (by decide) ?_
                              refine lv_icmp_ne (tgt := 256) hx hb dL_areStars_249 (by decide) (fun c_249 => ?_) (fun c_249 => ?_)
                              · exact (c_249 (modu_y (S := (cn, sc, μ)) hk9 hn1 hn12 hcan)).elim
                              · refine lv_iconst (v := 1) hx hb dL_areStars_252 (by decide) ?_
                                refine lv_goto (tgt := 257) hx hb dL_areStars_253 (by decide) ?_
                                refine lv_istore (lv' := [(8, .int 1), (14, .int 1), (13, .int 1), (12, .int (nI pd9)), (11, .int (nI ms)), (9, .int (nI (ecN (μ 3) k9))), (10, .int (nI k9)), (0, .ref ho), (1, .ref (la 3)), (2, .ref (la 5)), (3, .ref (la 8)), (4, .ref (la 10)), (5, .ref (la 11)), (6, .ref (la 12)), (7, .int (nI zn))]) hx hb dL_areStars_257 hl (by decide) rfl (fun ls hl => ?_)
                                refine lv_iconst (v := (-1)) hx hb dL_areStars_259 (by decide) ?_
                                refine lv_istore (lv' := [(15, .int (-1)), (8, .int 1), (14, .int 1), (13, .int 1), (12, .int (nI pd9)), (11, .int (nI ms)), (9, .int (nI (ecN (μ 3) k9))), (10, .int (nI k9)), (0, .ref ho), (1, .ref (la 3)), (2, .ref (la 5)), (3, .ref (la 8)), (4, .ref (la 10)), (5, .ref (la 11)), (6, .ref (la 12)), (7, .int (nI zn))]) hx hb dL_areStars_260 hl (by decide) rfl (fun ls hl => ?_)
                                refine lv_iconst (v := 0) hx hb dL_areStars_262 (by decide) ?_
                                refine lv_istore (lv' := [(16, .int 0), (15, .int (-1)), (8, .int 1), (14, .int 1), (13, .int 1), (12, .int (nI pd9)), (11, .int (nI ms)), (9, .int (nI (ecN (μ 3) k9))), (10, .int (nI k9)), (0, .ref ho), (1, .ref (la 3)), (2, .ref (la 5)), (3, .ref (la 8)), (4, .ref (la 10)), (5, .ref (la 11)), (6, .ref (la 12)), (7, .int (nI zn))]) hx hb dL_areStars_263 hl (by decide) rfl (fun ls hl => ?_)
                                refine lv_iconst (v := 0) hx hb dL_areStars_265 (by decide) ?_
                                refine lv_istore (lv' := [(17, .int 0), (16, .int 0), (15, .int (-1)), (8, .int 1), (14, .int 1), (13, .int 1), (12, .int (nI pd9)), (11, .int (nI ms)), (9, .int (nI (ecN (μ 3) k9))), (10, .int (nI k9)), (0, .ref ho), (1, .ref (la 3)), (2, .ref (la 5)), (3, .ref (la 8)), (4, .ref (la 10)), (5, .ref (la 11)), (6, .ref (la 12)), (7, .int (nI zn))]) hx hb dL_areStars_266 hl (by decide) rfl (fun ls hl => ?_)
                                have L268 : ∀ (n8 : Nat) (j8 : Nat) (H : Heap) (locs : List Loc) (G : hG) (R : hR) (b8 m8 : Int32), 6 ≤ j8 + n8 → (va_S (fun q => Z q) s.heap H locs ∧ HW E Z (ho, li, rr, ts) G R (cn, sc, μ) H ∧ LW E la V H ∧ (∀ q, H.size ≤ q → Z q) ∧ j8 ≤ 5 ∧ sp_kd (fun z => vtS (cn, sc, μ) (μ 3 k9) (nI z)) j8 = (b8, m8)) → ∀ (ls : Array Slot), lv_has ls 19 [(15, .int b8), (16, .int m8), (17, .int (nI j8)), (8, .int 1), (9, .int (nI (ecN (μ 3) k9))), (10, .int (nI k9)), (11, .int (nI ms)), (12, .int (nI pd9)), (13, .int 1), (14, .int 1), (0, .ref ho), (1, .ref (la 3)), (2, .ref (la 5)), (3, .ref (la 8)), (4, .ref (la 10)), (5, .ref (la 11)), (6, .ref (la 12)), (7, .int (nI zn))] → W p l e rmL_areStars s m args below meth c H locs (200 * k9 + 8 + 8 + 8 + 12 + 12 + 24 * j8) (10000 * k9 + 400 + 400 + 400 + 600 + 600 + 1200 * j8) Q (F0 m 268 ls []) := by
                                  intro n8
                                  induction n8 with
                                  | zero =>
                                    intro j8 H locs G R b8 m8 hm8 ⟨hS, hW, hL, hZn, hj8, hb8⟩ ls hl
                                    exact absurd hm8 (by omega)
                                  | succ n8 ih8 =>
                                    intro j8 H locs G R b8 m8 hm8 ⟨hS, hW, hL, hZn, hj8, hb8⟩ ls hl
                                    refine lv_iload hx hb dL_areStars_268 (lv_at hl 2 rfl) ?_
                                    refine lv_iconst (v := 5) hx hb dL_areStars_270 (by decide) ?_
                                    refine lv_icmp_ge (tgt := 415) hx hb dL_areStars_271 (by decide) (fun c_271 => ?_) (fun c_271 => ?_)
                                    · have hj5 : j8 = 5 := by
                                        have := (nI_leI (a := 5) (b := j8) (by omega) (by omega)).mp c_271
                                        omega
                                      rw [hj5] at hl
                                      rw [hj5] at hb8
                                      refine lv_iload hx hb dL_areStars_415 (lv_at hl 3 rfl) ?_
                                      refine lv_if_eq (tgt := 451) hx hb dL_areStars_417 (by decide) (fun c_417 => ?_) (fun c_417 => ?_)
                                      · exact absurd c_417 (by decide)
                                      · refine lv_aload_n hx hb dL_areStars_420 rfl (lv_at hl 10 rfl) ?_
                                        refine lv_bipush (v := 6) hx hb dL_areStars_421 (by decide) ?_
                                        refine lv_iload hx hb dL_areStars_423 (lv_at hl 5 rfl) ?_
                                        refine lv_iconst (v := 0) hx hb dL_areStars_425 (by decide) ?_
                                        refine lv_iconst (v := 0) hx hb dL_areStars_426 (by decide) ?_
                                        refine lv_iconst (v := 0) hx hb dL_areStars_427 (by decide) ?_
                                        refine lv_iconst (v := 0) hx hb dL_areStars_428 (by decide) ?_
                                        refine hk_callSxW 7 (As := [.ref ho, .int 6, .int (nI k9), .int 0, .int 0, .int 0, .int 0]) (rest := []) X K hAE hS hl.1 (c_L_does_kind E l hl9 H hW hI hZn (p0 := nI k9) (p1 := 0) (p2 := 0) (p3 := 0) (p4 := 0)) (fun q h => h) gL_areStars_L_does rfl hd_L_does rfl ⟨⟨(Nat.le_of_ble_eq_true rfl), (Nat.le_of_ble_eq_true rfl)⟩, (by show 200 * k9 + 8 + 8 + 8 + 12 + 12 + 24 * j8 + 12 ≤ 900; omega), (by show 10000 * k9 + 400 + 400 + 400 + 600 + 600 + 1200 * j8 + 600 ≤ 45000; omega)⟩ rfl (Nat.le_of_ble_eq_true rfl) dL_areStars_429 (fun _ _ _ _ _ hp _ _ _ _ _ _ => False.elim hp) (fun v9 H56 locsH56 hp hS hzH56 hkH56 => ?_)
                                        obtain ⟨hv, G, R, hW⟩ := hp
                                        subst hv
                                        have hL := hL.kept (fun k hk => hkH56 (la k) (hL.lt hk) (hlz k hk))
                                        have hZn := fun (q : Nat) (h : H56.size ≤ q) => hZn q (Nat.le_trans hzH56 h)
                                        refine lv_iload hx hb dL_areStars_432 (lv_at hl 9 rfl) ?_
                                        refine lv_if_eq (tgt := 442) hx hb dL_areStars_434 (by decide) (fun c_434 => ?_) (fun c_434 => ?_)
                                        · exact absurd c_434 (by decide)
                                        · refine lv_iload hx hb dL_areStars_437 (lv_at hl 0 rfl) ?_
                                          refine lv_goto (tgt := 444) hx hb dL_areStars_439 (by decide) ?_
                                          refine lv_icmp_ne (tgt := 451) hx hb dL_areStars_444 (by decide) (fun c_444 => ?_) (fun c_444 => ?_)
                                          · exact (c_444 (kind_y (S := (cn, sc, μ)) hk9 hn1 hn12 hcan hb8)).elim
                                          · refine lv_iconst (v := 1) hx hb dL_areStars_447 (by decide) ?_
                                            refine lv_goto (tgt := 452) hx hb dL_areStars_448 (by decide) ?_
                                            refine lv_istore (lv' := [(8, .int 1), (15, .int b8), (16, .int m8), (17, .int (nI 5)), (9, .int (nI (ecN (μ 3) k9))), (10, .int (nI k9)), (11, .int (nI ms)), (12, .int (nI pd9)), (13, .int 1), (14, .int 1), (0, .ref ho), (1, .ref (la 3)), (2, .ref (la 5)), (3, .ref (la 8)), (4, .ref (la 10)), (5, .ref (la 11)), (6, .ref (la 12)), (7, .int (nI zn))]) hx hb dL_areStars_452 hl (by decide) rfl (fun ls hl => ?_)
                                            refine lv_iload hx hb dL_areStars_454 (lv_at hl 6 rfl) ?_
                                            refine hk_callS 1 (As := [.int (nI ms)]) (rest := []) X K hAE hS hl.1 (c_L_lowest E l H56 hm.1 hza) (fun _ h => h.elim) gL_areStars_L_lowest rfl hd_L_lowest rfl ⟨⟨(Nat.le_of_ble_eq_true rfl), (Nat.le_of_ble_eq_true rfl)⟩, (by show 200 * k9 + 8 + 8 + 8 + 12 + 12 + 24 * j8 + 12 + 0 ≤ 900; omega), (by show 10000 * k9 + 400 + 400 + 400 + 600 + 600 + 1200 * j8 + 600 + 0 ≤ 45000; omega)⟩ rfl (Nat.le_of_ble_eq_true rfl) dL_areStars_456 (fun v9 H57 locsH57 hp hS hzH57 hkH57 => ?_)
                                            obtain ⟨hv, hh⟩ := hp
                                            subst hv; subst hh
                                            refine lv_iload hx hb dL_areStars_459 (lv_at hl 5 rfl) ?_
                                            refine lv_icmp_ne (tgt := 490) hx hb dL_areStars_461 (by decide) (fun c_461 => ?_) (fun c_461 => ?_)
                                            · have he9 : ¬ μ 3 k9 = nI k9 := fun h => c_461 (hloa.symm.trans h)
                                              obtain ⟨q490, eq490⟩ : ∃ y : Int32, y = (nI k9) + 1 := ⟨_, rfl⟩
                                              refine lv_iinc (v := q490) (lv' := [(10, .int q490), (8, .int 1), (15, .int b8), (16, .int m8), (17, .int (nI 5)), (9, .int (nI (ecN (μ 3) k9))), (11, .int (nI ms)), (12, .int (nI pd9)), (13, .int 1), (14, .int 1), (0, .ref ho), (1, .ref (la 3)), (2, .ref (la 5)), (3, .ref (la 8)), (4, .ref (la 10)), (5, .ref (la 11)), (6, .ref (la 12)), (7, .int (nI zn))]) hx hb dL_areStars_490 hl (k := 5) rfl (by rw [eq490]; rfl) (by decide) rfl (fun ls hl => ?_)
                                              rw [nI_1] at eq490
                                              subst eq490
                                              refine lv_goto (tgt := 9) hx hb dL_areStars_493 (by decide) ?_
                                              rw [ec_n he9] at hl
                                              refine W.widen (k := 200 * (k9 + 1)) (n := 10000 * (k9 + 1)) (by show 200 * k9 + 8 + 8 + 8 + 12 + 12 + 24 * j8 + 12 ≤ _; omega) (by show 10000 * k9 + 400 + 400 + 400 + 600 + 600 + 1200 * j8 + 600 ≤ _; omega) ?_
                                              exact ih (k9 + 1) _ _ G R (by omega) ⟨hS, hW, hL, hZn, by omega⟩ _ (lv_sub hl [1, 5, 0, 10, 11, 12, 13, 14, 15, 16, 17] rfl)
                                            · have he9 : μ 3 k9 = nI k9 := hloa.trans c_461
                                              have hec := ecN_le (μ 3) k9
                                              refine lv_iload hx hb dL_areStars_464 (lv_at hl 0 rfl) ?_
                                              refine lv_if_eq (tgt := 484) hx hb dL_areStars_466 (by decide) (fun c_466 => ?_) (fun c_466 => ?_)
                                              · exact absurd c_466 (by decide)
                                              · refine lv_aload_n hx hb dL_areStars_469 rfl (lv_at hl 10 rfl) ?_
                                                refine lv_iload hx hb dL_areStars_470 (lv_at hl 4 rfl) ?_
                                                have hcd0 : cd_entries (nI (ecN (μ 3) k9)) (cn, sc, μ) = 0 := ents_cd (by omega)
                                                refine hk_callVx 1 (As := [.int (nI (ecN (μ 3) k9))]) (rest := []) X K hAE hS hl.1 (HW.o hW) rfl (c_X10_entries E l hl9 H56 hW hI hZn (p0 := nI (ecN (μ 3) k9))) (fun q h => h) gL_areStars_X10_entries rfl ⟨rfl, hd_X10_entries⟩ rfl ⟨⟨(Nat.le_of_ble_eq_true rfl), (Nat.le_of_ble_eq_true rfl)⟩, (by show 200 * k9 + 8 + 8 + 8 + 12 + 12 + 24 * j8 + 12 + 8 ≤ 900; omega), (by show 10000 * k9 + 400 + 400 + 400 + 600 + 600 + 1200 * j8 + 600 + 400 ≤ 45000; omega)⟩ rfl (Nat.le_of_ble_eq_true rfl) dL_areStars_472 (fun x9 ce9 q9 H9 locs9 hp hS hz9 hk9 hce hcv hcl => by
                                                    obtain ⟨hcs, -⟩ := hp
                                                    rw [hcd0] at hcs
                                                    rcases hcs with ⟨h, -⟩ | ⟨h, -⟩ | ⟨h, -⟩ <;> exact absurd h (by decide)
                                                  ) (fun v9 H58 locsH58 hp hS hzH58 hkH58 => ?_)
                                                obtain ⟨-, hv, G, R, hW⟩ := hp
                                                subst hv
                                                have hL := hL.kept (fun k hk => hkH58 (la k) (hL.lt hk) (hlz k hk))
                                                have hZn := fun (q : Nat) (h : H58.size ≤ q) => hZn q (Nat.le_trans hzH58 h)
                                                refine lv_iload hx hb dL_areStars_475 (lv_at hl 5 rfl) ?_
                                                refine lv_icmp_ne (tgt := 484) hx hb dL_areStars_477 (by decide) (fun c_477 => ?_) (fun c_477 => ?_)
                                                · exact (c_477 (ent_at hk9 hn1 he9)).elim
                                                · refine lv_iconst (v := 1) hx hb dL_areStars_480 (by decide) ?_
                                                  refine lv_goto (tgt := 485) hx hb dL_areStars_481 (by decide) ?_
                                                  refine lv_istore (lv' := [(8, .int 1), (15, .int b8), (16, .int m8), (17, .int (nI 5)), (9, .int (nI (ecN (μ 3) k9))), (10, .int (nI k9)), (11, .int (nI ms)), (12, .int (nI pd9)), (13, .int 1), (14, .int 1), (0, .ref ho), (1, .ref (la 3)), (2, .ref (la 5)), (3, .ref (la 8)), (4, .ref (la 10)), (5, .ref (la 11)), (6, .ref (la 12)), (7, .int (nI zn))]) hx hb dL_areStars_485 hl (by decide) rfl (fun ls hl => ?_)
                                                  obtain ⟨q487, eq487⟩ : ∃ y : Int32, y = (nI (ecN (μ 3) k9)) + 1 := ⟨_, rfl⟩
                                                  refine lv_iinc (v := q487) (lv' := [(9, .int q487), (8, .int 1), (15, .int b8), (16, .int m8), (17, .int (nI 5)), (10, .int (nI k9)), (11, .int (nI ms)), (12, .int (nI pd9)), (13, .int 1), (14, .int 1), (0, .ref ho), (1, .ref (la 3)), (2, .ref (la 5)), (3, .ref (la 8)), (4, .ref (la 10)), (5, .ref (la 11)), (6, .ref (la 12)), (7, .int (nI zn))]) hx hb dL_areStars_487 hl (k := 4) rfl (by rw [eq487]; rfl) (by decide) rfl (fun ls hl => ?_)
                                                  rw [ec_y he9] at eq487
                                                  subst eq487
                                                  obtain ⟨q490, eq490⟩ : ∃ y : Int32, y = (nI k9) + 1 := ⟨_, rfl⟩
                                                  refine lv_iinc (v := q490) (lv' := [(10, .int q490), (9, .int (nI (ecN (μ 3) (k9 + 1)))), (8, .int 1), (15, .int b8), (16, .int m8), (17, .int (nI 5)), (11, .int (nI ms)), (12, .int (nI pd9)), (13, .int 1), (14, .int 1), (0, .ref ho), (1, .ref (la 3)), (2, .ref (la 5)), (3, .ref (la 8)), (4, .ref (la 10)), (5, .ref (la 11)), (6, .ref (la 12)), (7, .int (nI zn))]) hx hb dL_areStars_490 hl (k := 5) rfl (by rw [eq490]; rfl) (by decide) rfl (fun ls hl => ?_)
                                                  rw [nI_1] at eq490
                                                  subst eq490
                                                  refine lv_goto (tgt := 9) hx hb dL_areStars_493 (by decide) ?_
                                                  refine W.widen (k := 200 * (k9 + 1)) (n := 10000 * (k9 + 1)) (by show 200 * k9 + 8 + 8 + 8 + 12 + 12 + 24 * j8 + 12 + 8 ≤ _; omega) (by show 10000 * k9 + 400 + 400 + 400 + 600 + 600 + 1200 * j8 + 600 + 400 ≤ _; omega) ?_
                                                  exact ih (k9 + 1) _ _ G R (by omega) ⟨hS, hW, hL, hZn, by omega⟩ _ (lv_sub hl [2, 1, 0, 10, 11, 12, 13, 14, 15, 16, 17] rfl)
                                    · have hj5 : j8 < 5 := Nat.lt_of_not_le (fun h => c_271 (nI_le (a := 5) h (by omega)))
                                      refine lv_iload hx hb dL_areStars_274 (lv_at hl 3 rfl) ?_
                                      refine lv_if_eq (tgt := 415) hx hb dL_areStars_276 (by decide) (fun c_276 => ?_) (fun c_276 => ?_)
                                      · exact absurd c_276 (by decide)
                                      · refine lv_iload hx hb dL_areStars_279 (lv_at hl 9 rfl) ?_
                                        refine lv_if_eq (tgt := 303) hx hb dL_areStars_281 (by decide) (fun c_281 => ?_) (fun c_281 => ?_)
                                        · exact absurd c_281 (by decide)
                                        · refine lv_aload_n hx hb dL_areStars_284 rfl (lv_at hl 11 rfl) ?_
                                          refine lv_aload_n hx hb dL_areStars_285 rfl (lv_at hl 12 rfl) ?_
                                          refine lv_aload_n hx hb dL_areStars_286 rfl (lv_at hl 13 rfl) ?_
                                          refine lv_aload hx hb dL_areStars_287 (lv_at hl 14 rfl) ?_
                                          refine lv_aload hx hb dL_areStars_289 (lv_at hl 15 rfl) ?_
                                          refine lv_aload hx hb dL_areStars_291 (lv_at hl 16 rfl) ?_
                                          refine lv_iload hx hb dL_areStars_293 (lv_at hl 6 rfl) ?_
                                          refine lv_iload hx hb dL_areStars_295 (lv_at hl 2 rfl) ?_
                                          refine hk_callS 8 (As := [.ref (la 3), .ref (la 5), .ref (la 8), .ref (la 10), .ref (la 11), .ref (la 12), .int (nI ms), .int (nI j8)]) (rest := []) X K hAE hS hl.1 (c_L_votes E l H hL hV hI hX hm hpos h0 hc (kd := nI j8)) (fun _ h => h.elim) gL_areStars_L_votes rfl hd_L_votes rfl ⟨⟨(Nat.le_of_ble_eq_true rfl), (Nat.le_of_ble_eq_true rfl)⟩, (by show 200 * k9 + 8 + 8 + 8 + 12 + 12 + 24 * j8 + 0 ≤ 900; omega), (by show 10000 * k9 + 400 + 400 + 400 + 600 + 600 + 1200 * j8 + 0 ≤ 45000; omega)⟩ rfl (Nat.le_of_ble_eq_true rfl) dL_areStars_297 (fun v9 H59 locsH59 hp hS hzH59 hkH59 => ?_)
                                          obtain ⟨hv, hh⟩ := hp
                                          subst hv; subst hh
                                          refine lv_goto (tgt := 305) hx hb dL_areStars_300 (by decide) ?_
                                          refine lv_istore (lv' := [(18, .int (vtS (cn, sc, μ) (μ 3 k9) (nI j8))), (15, .int b8), (16, .int m8), (17, .int (nI j8)), (8, .int 1), (9, .int (nI (ecN (μ 3) k9))), (10, .int (nI k9)), (11, .int (nI ms)), (12, .int (nI pd9)), (13, .int 1), (14, .int 1), (0, .ref ho), (1, .ref (la 3)), (2, .ref (la 5)), (3, .ref (la 8)), (4, .ref (la 10)), (5, .ref (la 11)), (6, .ref (la 12)), (7, .int (nI zn))]) hx hb dL_areStars_305 hl (by decide) rfl (fun ls hl => ?_)
                                          refine lv_iload hx hb dL_areStars_307 (lv_at hl 0 rfl) ?_
                                          refine lv_iload hx hb dL_areStars_309 (lv_at hl 2 rfl) ?_
                                          refine lv_icmp_le (tgt := 319) hx hb dL_areStars_311 (by decide) (fun c_311 => ?_) (fun c_311 => ?_)
                                          · refine lv_iload hx hb dL_areStars_319 (lv_at hl 1 rfl) ?_
                                            refine lv_istore (lv' := [(15, .int b8), (18, .int (vtS (cn, sc, μ) (μ 3 k9) (nI j8))), (16, .int m8), (17, .int (nI j8)), (8, .int 1), (9, .int (nI (ecN (μ 3) k9))), (10, .int (nI k9)), (11, .int (nI ms)), (12, .int (nI pd9)), (13, .int 1), (14, .int 1), (0, .ref ho), (1, .ref (la 3)), (2, .ref (la 5)), (3, .ref (la 8)), (4, .ref (la 10)), (5, .ref (la 11)), (6, .ref (la 12)), (7, .int (nI zn))]) hx hb dL_areStars_321 hl (by decide) rfl (fun ls hl => ?_)
                                            refine lv_iload hx hb dL_areStars_323 (lv_at hl 1 rfl) ?_
                                            refine lv_iload hx hb dL_areStars_325 (lv_at hl 2 rfl) ?_
                                            refine lv_icmp_le (tgt := 335) hx hb dL_areStars_327 (by decide) (fun c_327 => ?_) (fun c_327 => ?_)
                                            · refine lv_iload hx hb dL_areStars_335 (lv_at hl 2 rfl) ?_
                                              refine lv_istore (lv' := [(16, .int m8), (15, .int b8), (18, .int (vtS (cn, sc, μ) (μ 3 k9) (nI j8))), (17, .int (nI j8)), (8, .int 1), (9, .int (nI (ecN (μ 3) k9))), (10, .int (nI k9)), (11, .int (nI ms)), (12, .int (nI pd9)), (13, .int 1), (14, .int 1), (0, .ref ho), (1, .ref (la 3)), (2, .ref (la 5)), (3, .ref (la 8)), (4, .ref (la 10)), (5, .ref (la 11)), (6, .ref (la 12)), (7, .int (nI zn))]) hx hb dL_areStars_337 hl (by decide) rfl (fun ls hl => ?_)
                                              refine lv_aload_n hx hb dL_areStars_339 rfl (lv_at hl 11 rfl) ?_
                                              refine lv_iconst (v := 5) hx hb dL_areStars_340 (by decide) ?_
                                              refine lv_iload hx hb dL_areStars_341 (lv_at hl 6 rfl) ?_
                                              refine lv_iload hx hb dL_areStars_343 (lv_at hl 3 rfl) ?_
                                              refine lv_iconst (v := 0) hx hb dL_areStars_345 (by decide) ?_
                                              refine lv_iconst (v := 0) hx hb dL_areStars_346 (by decide) ?_
                                              refine lv_iconst (v := 0) hx hb dL_areStars_347 (by decide) ?_
                                              refine hk_callSxW 7 (As := [.ref ho, .int 5, .int (nI k9), .int (nI j8), .int 0, .int 0, .int 0]) (rest := []) X K hAE hS hl.1 (c_L_does_votes E l hl9 H hW hI hZn (p0 := nI k9) (p1 := nI j8) (p2 := 0) (p3 := 0) (p4 := 0)) (fun q h => h) gL_areStars_L_does rfl hd_L_does rfl ⟨⟨(Nat.le_of_ble_eq_true rfl), (Nat.le_of_ble_eq_true rfl)⟩, (by show 200 * k9 + 8 + 8 + 8 + 12 + 12 + 24 * j8 + 12 ≤ 900; omega), (by show 10000 * k9 + 400 + 400 + 400 + 600 + 600 + 1200 * j8 + 600 ≤ 45000; omega)⟩ rfl (Nat.le_of_ble_eq_true rfl) dL_areStars_348 (fun _ _ _ _ _ hp _ _ _ _ _ _ => False.elim hp) (fun v9 H60 locsH60 hp hS hzH60 hkH60 => ?_)
                                              obtain ⟨hv, G, R, hW⟩ := hp
                                              subst hv
                                              have hL := hL.kept (fun k hk => hkH60 (la k) (hL.lt hk) (hlz k hk))
                                              have hZn := fun (q : Nat) (h : H60.size ≤ q) => hZn q (Nat.le_trans hzH60 h)
                                              refine lv_iload hx hb dL_areStars_351 (lv_at hl 2 rfl) ?_
                                              refine lv_icmp_ne (tgt := 406) hx hb dL_areStars_353 (by decide) (fun c_353 => ?_) (fun c_353 => ?_)
                                              · exact (c_353 (vote_y (S := (cn, sc, μ)) hk9 hn1 hn12 hj5 hcan)).elim
                                              · refine lv_iload hx hb dL_areStars_356 (lv_at hl 3 rfl) ?_
                                                refine lv_iconst (v := 2) hx hb dL_areStars_358 (by decide) ?_
                                                refine lv_icmp_gt (tgt := 402) hx hb dL_areStars_359 (by decide) (fun c_359 => ?_) (fun c_359 => ?_)
                                                · refine lv_iconst (v := 1) hx hb dL_areStars_402 (by decide) ?_
                                                  refine lv_goto (tgt := 407) hx hb dL_areStars_403 (by decide) ?_
                                                  refine lv_istore (lv' := [(8, .int 1), (16, .int m8), (15, .int b8), (18, .int (vtS (cn, sc, μ) (μ 3 k9) (nI j8))), (17, .int (nI j8)), (9, .int (nI (ecN (μ 3) k9))), (10, .int (nI k9)), (11, .int (nI ms)), (12, .int (nI pd9)), (13, .int 1), (14, .int 1), (0, .ref ho), (1, .ref (la 3)), (2, .ref (la 5)), (3, .ref (la 8)), (4, .ref (la 10)), (5, .ref (la 11)), (6, .ref (la 12)), (7, .int (nI zn))]) hx hb dL_areStars_407 hl (by decide) rfl (fun ls hl => ?_)
                                                  obtain ⟨q409, eq409⟩ : ∃ y : Int32, y = (nI j8) + 1 := ⟨_, rfl⟩
                                                  refine lv_iinc (v := q409) (lv' := [(17, .int q409), (8, .int 1), (16, .int m8), (15, .int b8), (18, .int (vtS (cn, sc, μ) (μ 3 k9) (nI j8))), (9, .int (nI (ecN (μ 3) k9))), (10, .int (nI k9)), (11, .int (nI ms)), (12, .int (nI pd9)), (13, .int 1), (14, .int 1), (0, .ref ho), (1, .ref (la 3)), (2, .ref (la 5)), (3, .ref (la 8)), (4, .ref (la 10)), (5, .ref (la 11)), (6, .ref (la 12)), (7, .int (nI zn))]) hx hb dL_areStars_409 hl (k := 4) rfl (by rw [eq409]; rfl) (by decide) rfl (fun ls hl => ?_)
                                                  rw [nI_1] at eq409
                                                  subst eq409
                                                  refine lv_goto (tgt := 268) hx hb dL_areStars_412 (by decide) ?_
                                                  refine W.widen (k := 200 * k9 + 8 + 8 + 8 + 12 + 12 + 24 * (j8 + 1)) (n := 10000 * k9 + 400 + 400 + 400 + 600 + 600 + 1200 * (j8 + 1)) (by show 200 * k9 + 8 + 8 + 8 + 12 + 12 + 24 * j8 + 12 ≤ _; omega) (by show 10000 * k9 + 400 + 400 + 400 + 600 + 600 + 1200 * j8 + 600 ≤ _; omega) ?_
                                                  exact ih8 (j8 + 1) _ _ G R b8 m8 (by omega) ⟨hS, hW, hL, hZn, by omega, kd_n hb8 rfl c_311⟩ _ (lv_sub hl [3, 2, 0, 1, 5, 6, 7, 8, 9, 10, 11, 12, 13, 14, 15, 16, 17, 18] rfl)
                                                · have hj3 : j8 < 3 := by
                                                    have := Int32.not_lt.mp c_359
                                                    have := (nI_leI (a := j8) (b := 2) (by omega) (by omega)).mp this
                                                    omega
                                                  refine lv_aload_n hx hb dL_areStars_362 rfl (lv_at hl 11 rfl) ?_
                                                  refine lv_iconst (v := 4) hx hb dL_areStars_363 (by decide) ?_
                                                  refine lv_iload hx hb dL_areStars_364 (lv_at hl 6 rfl) ?_
                                                  refine lv_iload hx hb dL_areStars_366 (lv_at hl 3 rfl) ?_
                                                  refine lv_iconst (v := 0) hx hb dL_areStars_368 (by decide) ?_
                                                  refine lv_iconst (v := 0) hx hb dL_areStars_369 (by decide) ?_
                                                  refine lv_iconst (v := 0) hx hb dL_areStars_370 (by decide) ?_
                                                  refine hk_callSxW 7 (As := [.ref ho, .int 4, .int (nI k9), .int (nI j8), .int 0, .int 0, .int 0]) (rest := []) X K hAE hS hl.1 (c_L_does_feature E l hl9 H60 hW hI hZn (p0 := nI k9) (p1 := nI j8) (p2 := 0) (p3 := 0) (p4 := 0)) (fun q h => h) gL_areStars_L_does rfl hd_L_does rfl ⟨⟨(Nat.le_of_ble_eq_true rfl), (Nat.le_of_ble_eq_true rfl)⟩, (by show 200 * k9 + 8 + 8 + 8 + 12 + 12 + 24 * j8 + 12 + 12 ≤ 900; omega), (by show 10000 * k9 + 400 + 400 + 400 + 600 + 600 + 1200 * j8 + 600 + 600 ≤ 45000; omega)⟩ rfl (Nat.le_of_ble_eq_true rfl) dL_areStars_371 (fun _ _ _ _ _ hp _ _ _ _ _ _ => False.elim hp) (fun v9 H61 locsH61 hp hS hzH61 hkH61 => ?_)
                                                  obtain ⟨hv, G, R, hW⟩ := hp
                                                  subst hv
                                                  have hL := hL.kept (fun k hk => hkH61 (la k) (hL.lt hk) (hlz k hk))
                                                  have hZn := fun (q : Nat) (h : H61.size ≤ q) => hZn q (Nat.le_trans hzH61 h)
                                                  refine lv_iload hx hb dL_areStars_374 (lv_at hl 10 rfl) ?_
                                                  refine lv_if_eq (tgt := 397) hx hb dL_areStars_376 (by decide) (fun c_376 => ?_) (fun c_376 => ?_)
                                                  · exact absurd c_376 (by decide)
                                                  · refine lv_aload_n hx hb dL_areStars_379 rfl (lv_at hl 12 rfl) ?_
                                                    refine lv_aload_n hx hb dL_areStars_380 rfl (lv_at hl 13 rfl) ?_
                                                    refine lv_aload hx hb dL_areStars_381 (lv_at hl 15 rfl) ?_
                                                    refine lv_aload hx hb dL_areStars_383 (lv_at hl 16 rfl) ?_
                                                    refine lv_aload hx hb dL_areStars_385 (lv_at hl 17 rfl) ?_
                                                    refine lv_iload hx hb dL_areStars_387 (lv_at hl 7 rfl) ?_
                                                    refine lv_iload hx hb dL_areStars_389 (lv_at hl 3 rfl) ?_
                                                    refine hk_callS 7 (As := [.ref (la 3), .ref (la 5), .ref (la 10), .ref (la 11), .ref (la 12), .int (nI ms), .int (nI j8)]) (rest := [.int (dv (cd_feature (nI k9) (nI j8) (cn, sc, μ)) (an_feature (nI k9) (nI j8) (cn, sc, μ)) (-1111111) (-1111112) (-1111113))]) X K hAE hS hl.1 (c_L_feature E l H61 hL hV hI hX hm hpos h0 hc (wh := nI j8) (inr_nI (a := 0) (b := 2) (by omega) (by omega) (by omega))) (fun _ h => h.elim) gL_areStars_L_feature rfl hd_L_feature rfl ⟨⟨(Nat.le_of_ble_eq_true rfl), (Nat.le_of_ble_eq_true rfl)⟩, (by show 200 * k9 + 8 + 8 + 8 + 12 + 12 + 24 * j8 + 12 + 12 + 0 ≤ 900; omega), (by show 10000 * k9 + 400 + 400 + 400 + 600 + 600 + 1200 * j8 + 600 + 600 + 0 ≤ 45000; omega)⟩ rfl (Nat.le_of_ble_eq_true rfl) dL_areStars_391 (fun v9 H62 locsH62 hp hS hzH62 hkH62 => ?_)
                                                    obtain ⟨hv, hh⟩ := hp
                                                    subst hv; subst hh
                                                    refine lv_goto (tgt := 399) hx hb dL_areStars_394 (by decide) ?_
                                                    refine lv_icmp_ne (tgt := 406) hx hb dL_areStars_399 (by decide) (fun c_399 => ?_) (fun c_399 => ?_)
                                                    · exact (c_399 (feat_y (S := (cn, sc, μ)) hk9 hn1 hn12 hj3 hcan)).elim
                                                    · refine lv_iconst (v := 1) hx hb dL_areStars_402 (by decide) ?_
                                                      refine lv_goto (tgt := 407) hx hb dL_areStars_403 (by decide) ?_
                                                      refine lv_istore (lv' := [(8, .int 1), (16, .int m8), (15, .int b8), (18, .int (vtS (cn, sc, μ) (μ 3 k9) (nI j8))), (17, .int (nI j8)), (9, .int (nI (ecN (μ 3) k9))), (10, .int (nI k9)), (11, .int (nI ms)), (12, .int (nI pd9)), (13, .int 1), (14, .int 1), (0, .ref ho), (1, .ref (la 3)), (2, .ref (la 5)), (3, .ref (la 8)), (4, .ref (la 10)), (5, .ref (la 11)), (6, .ref (la 12)), (7, .int (nI zn))]) hx hb dL_areStars_407 hl (by decide) rfl (fun ls hl => ?_)
                                                      obtain ⟨q409, eq409⟩ : ∃ y : Int32, y = (nI j8) + 1 := ⟨_, rfl⟩
                                                      refine lv_iinc (v := q409) (lv' := [(17, .int q409), (8, .int 1), (16, .int m8), (15, .int b8), (18, .int (vtS (cn, sc, μ) (μ 3 k9) (nI j8))), (9, .int (nI (ecN (μ 3) k9))), (10, .int (nI k9)), (11, .int (nI ms)), (12, .int (nI pd9)), (13, .int 1), (14, .int 1), (0, .ref ho), (1, .ref (la 3)), (2, .ref (la 5)), (3, .ref (la 8)), (4, .ref (la 10)), (5, .ref (la 11)), (6, .ref (la 12)), (7, .int (nI zn))]) hx hb dL_areStars_409 hl (k := 4) rfl (by rw [eq409]; rfl) (by decide) rfl (fun ls hl => ?_)
                                                      rw [nI_1] at eq409
                                                      subst eq409
                                                      refine lv_goto (tgt := 268) hx hb dL_areStars_412 (by decide) ?_
                                                      refine W.widen (k := 200 * k9 + 8 + 8 + 8 + 12 + 12 + 24 * (j8 + 1)) (n := 10000 * k9 + 400 + 400 + 400 + 600 + 600 + 1200 * (j8 + 1)) (by show 200 * k9 + 8 + 8 + 8 + 12 + 12 + 24 * j8 + 12 + 12 ≤ _; omega) (by show 10000 * k9 + 400 + 400 + 400 + 600 + 600 + 1200 * j8 + 600 + 600 ≤ _; omega) ?_
                                                      exact ih8 (j8 + 1) _ _ G R b8 m8 (by omega) ⟨hS, hW, hL, hZn, by omega, kd_n hb8 rfl c_311⟩ _ (lv_sub hl [3, 2, 0, 1, 5, 6, 7, 8, 9, 10, 11, 12, 13, 14, 15, 16, 17, 18] rfl)
                                            · exact absurd c_311 c_327
                                          · refine lv_iload hx hb dL_areStars_314 (lv_at hl 3 rfl) ?_
                                            refine lv_goto (tgt := 321) hx hb dL_areStars_316 (by decide) ?_
                                            refine lv_istore (lv' := [(15, .int (nI j8)), (18, .int (vtS (cn, sc, μ) (μ 3 k9) (nI j8))), (16, .int m8), (17, .int (nI j8)), (8, .int 1), (9, .int (nI (ecN (μ 3) k9))), (10, .int (nI k9)), (11, .int (nI ms)), (12, .int (nI pd9)), (13, .int 1), (14, .int 1), (0, .ref ho), (1, .ref (la 3)), (2, .ref (la 5)), (3, .ref (la 8)), (4, .ref (la 10)), (5, .ref (la 11)), (6, .ref (la 12)), (7, .int (nI zn))]) hx hb dL_areStars_321 hl (by decide) rfl (fun ls hl => ?_)
                                            refine lv_iload hx hb dL_areStars_323 (lv_at hl 1 rfl) ?_
                                            refine lv_iload hx hb dL_areStars_325 (lv_at hl 2 rfl) ?_
                                            refine lv_icmp_le (tgt := 335) hx hb dL_areStars_327 (by decide) (fun c_327 => ?_) (fun c_327 => ?_)
                                            · exact absurd c_327 c_311
                                            · refine lv_iload hx hb dL_areStars_330 (lv_at hl 1 rfl) ?_
                                              refine lv_goto (tgt := 337) hx hb dL_areStars_332 (by decide) ?_
                                              refine lv_istore (lv' := [(16, .int (vtS (cn, sc, μ) (μ 3 k9) (nI j8))), (15, .int (nI j8)), (18, .int (vtS (cn, sc, μ) (μ 3 k9) (nI j8))), (17, .int (nI j8)), (8, .int 1), (9, .int (nI (ecN (μ 3) k9))), (10, .int (nI k9)), (11, .int (nI ms)), (12, .int (nI pd9)), (13, .int 1), (14, .int 1), (0, .ref ho), (1, .ref (la 3)), (2, .ref (la 5)), (3, .ref (la 8)), (4, .ref (la 10)), (5, .ref (la 11)), (6, .ref (la 12)), (7, .int (nI zn))]) hx hb dL_areStars_337 hl (by decide) rfl (fun ls hl => ?_)
                                              refine lv_aload_n hx hb dL_areStars_339 rfl (lv_at hl 11 rfl) ?_
                                              refine lv_iconst (v := 5) hx hb dL_areStars_340 (by decide) ?_
                                              refine lv_iload hx hb dL_areStars_341 (lv_at hl 6 rfl) ?_
                                              refine lv_iload hx hb dL_areStars_343 (lv_at hl 3 rfl) ?_
                                              refine lv_iconst (v := 0) hx hb dL_areStars_345 (by decide) ?_
                                              refine lv_iconst (v := 0) hx hb dL_areStars_346 (by decide) ?_
                                              refine lv_iconst (v := 0) hx hb dL_areStars_347 (by decide) ?_
                                              refine hk_callSxW 7 (As := [.ref ho, .int 5, .int (nI k9), .int (nI j8), .int 0, .int 0, .int 0]) (rest := []) X K hAE hS hl.1 (c_L_does_votes E l hl9 H hW hI hZn (p0 := nI k9) (p1 := nI j8) (p2 := 0) (p3 := 0) (p4 := 0)) (fun q h => h) gL_areStars_L_does rfl hd_L_does rfl ⟨⟨(Nat.le_of_ble_eq_true rfl), (Nat.le_of_ble_eq_true rfl)⟩, (by show 200 * k9 + 8 + 8 + 8 + 12 + 12 + 24 * j8 + 12 ≤ 900; omega), (by show 10000 * k9 + 400 + 400 + 400 + 600 + 600 + 1200 * j8 + 600 ≤ 45000; omega)⟩ rfl (Nat.le_of_ble_eq_true rfl) dL_areStars_348 (fun _ _ _ _ _ hp _ _ _ _ _ _ => False.elim hp) (fun v9 H63 locsH63 hp hS hzH63 hkH63 => ?_)
                                              obtain ⟨hv, G, R, hW⟩ := hp
                                              subst hv
                                              have hL := hL.kept (fun k hk => hkH63 (la k) (hL.lt hk) (hlz k hk))
                                              have hZn := fun (q : Nat) (h : H63.size ≤ q) => hZn q (Nat.le_trans hzH63 h)
                                              refine lv_iload hx hb dL_areStars_351 (lv_at hl 2 rfl) ?_
                                              refine lv_icmp_ne (tgt := 406) hx hb dL_areStars_353 (by decide) (fun c_353 => ?_) (fun c_353 => ?_)
                                              · exact (c_353 (vote_y (S := (cn, sc, μ)) hk9 hn1 hn12 hj5 hcan)).elim
                                              · refine lv_iload hx hb dL_areStars_356 (lv_at hl 3 rfl) ?_
                                                refine lv_iconst (v := 2) hx hb dL_areStars_358 (by decide) ?_
                                                refine lv_icmp_gt (tgt := 402) hx hb dL_areStars_359 (by decide) (fun c_359 => ?_) (fun c_359 => ?_)
                                                · refine lv_iconst (v := 1) hx hb dL_areStars_402 (by decide) ?_
                                                  refine lv_goto (tgt := 407) hx hb dL_areStars_403 (by decide) ?_
                                                  refine lv_istore (lv' := [(8, .int 1), (16, .int (vtS (cn, sc, μ) (μ 3 k9) (nI j8))), (15, .int (nI j8)), (18, .int (vtS (cn, sc, μ) (μ 3 k9) (nI j8))), (17, .int (nI j8)), (9, .int (nI (ecN (μ 3) k9))), (10, .int (nI k9)), (11, .int (nI ms)), (12, .int (nI pd9)), (13, .int 1), (14, .int 1), (0, .ref ho), (1, .ref (la 3)), (2, .ref (la 5)), (3, .ref (la 8)), (4, .ref (la 10)), (5, .ref (la 11)), (6, .ref (la 12)), (7, .int (nI zn))]) hx hb dL_areStars_407 hl (by decide) rfl (fun ls hl => ?_)
                                                  obtain ⟨q409, eq409⟩ : ∃ y : Int32, y = (nI j8) + 1 := ⟨_, rfl⟩
                                                  refine lv_iinc (v := q409) (lv' := [(17, .int q409), (8, .int 1), (16, .int (vtS (cn, sc, μ) (μ 3 k9) (nI j8))), (15, .int (nI j8)), (18, .int (vtS (cn, sc, μ) (μ 3 k9) (nI j8))), (9, .int (nI (ecN (μ 3) k9))), (10, .int (nI k9)), (11, .int (nI ms)), (12, .int (nI pd9)), (13, .int 1), (14, .int 1), (0, .ref ho), (1, .ref (la 3)), (2, .ref (la 5)), (3, .ref (la 8)), (4, .ref (la 10)), (5, .ref (la 11)), (6, .ref (la 12)), (7, .int (nI zn))]) hx hb dL_areStars_409 hl (k := 4) rfl (by rw [eq409]; rfl) (by decide) rfl (fun ls hl => ?_)
                                                  rw [nI_1] at eq409
                                                  subst eq409
                                                  refine lv_goto (tgt := 268) hx hb dL_areStars_412 (by decide) ?_
                                                  refine W.widen (k := 200 * k9 + 8 + 8 + 8 + 12 + 12 + 24 * (j8 + 1)) (n := 10000 * k9 + 400 + 400 + 400 + 600 + 600 + 1200 * (j8 + 1)) (by show 200 * k9 + 8 + 8 + 8 + 12 + 12 + 24 * j8 + 12 ≤ _; omega) (by show 10000 * k9 + 400 + 400 + 400 + 600 + 600 + 1200 * j8 + 600 ≤ _; omega) ?_
                                                  exact ih8 (j8 + 1) _ _ G R (nI j8) (vtS (cn, sc, μ) (μ 3 k9) (nI j8)) (by omega) ⟨hS, hW, hL, hZn, by omega, kd_y hb8 rfl c_311⟩ _ (lv_sub hl [3, 2, 0, 1, 5, 6, 7, 8, 9, 10, 11, 12, 13, 14, 15, 16, 17, 18] rfl)
                                                · have hj3 : j8 < 3 := by
                                                    have := Int32.not_lt.mp c_359
                                                    have := (nI_leI (a := j8) (b := 2) (by omega) (by omega)).mp this
                                                    omega
                                                  refine lv_aload_n hx hb dL_areStars_362 rfl (lv_at hl 11 rfl) ?_
                                                  refine lv_iconst (v := 4) hx hb dL_areStars_363 (by decide) ?_
                                                  refine lv_iload hx hb dL_areStars_364 (lv_at hl 6 rfl) ?_
                                                  refine lv_iload hx hb dL_areStars_366 (lv_at hl 3 rfl) ?_
                                                  refine lv_iconst (v := 0) hx hb dL_areStars_368 (by decide) ?_
                                                  refine lv_iconst (v := 0) hx hb dL_areStars_369 (by decide) ?_
                                                  refine lv_iconst (v := 0) hx hb dL_areStars_370 (by decide) ?_
                                                  refine hk_callSxW 7 (As := [.ref ho, .int 4, .int (nI k9), .int (nI j8), .int 0, .int 0, .int 0]) (rest := []) X K hAE hS hl.1 (c_L_does_feature E l hl9 H63 hW hI hZn (p0 := nI k9) (p1 := nI j8) (p2 := 0) (p3 := 0) (p4 := 0)) (fun q h => h) gL_areStars_L_does rfl hd_L_does rfl ⟨⟨(Nat.le_of_ble_eq_true rfl), (Nat.le_of_ble_eq_true rfl)⟩, (by show 200 * k9 + 8 + 8 + 8 + 12 + 12 + 24 * j8 + 12 + 12 ≤ 900; omega), (by show 10000 * k9 + 400 + 400 + 400 + 600 + 600 + 1200 * j8 + 600 + 600 ≤ 45000; omega)⟩ rfl (Nat.le_of_ble_eq_true rfl) dL_areStars_371 (fun _ _ _ _ _ hp _ _ _ _ _ _ => False.elim hp) (fun v9 H64 locsH64 hp hS hzH64 hkH64 => ?_)
                                                  obtain ⟨hv, G, R, hW⟩ := hp
                                                  subst hv
                                                  have hL := hL.kept (fun k hk => hkH64 (la k) (hL.lt hk) (hlz k hk))
                                                  have hZn := fun (q : Nat) (h : H64.size ≤ q) => hZn q (Nat.le_trans hzH64 h)
                                                  refine lv_iload hx hb dL_areStars_374 (lv_at hl 10 rfl) ?_
                                                  refine lv_if_eq (tgt := 397) hx hb dL_areStars_376 (by decide) (fun c_376 => ?_) (fun c_376 => ?_)
                                                  · exact absurd c_376 (by decide)
                                                  · refine lv_aload_n hx hb dL_areStars_379 rfl (lv_at hl 12 rfl) ?_
                                                    refine lv_aload_n hx hb dL_areStars_380 rfl (lv_at hl 13 rfl) ?_
                                                    refine lv_aload hx hb dL_areStars_381 (lv_at hl 15 rfl) ?_
                                                    refine lv_aload hx hb dL_areStars_383 (lv_at hl 16 rfl) ?_
                                                    refine lv_aload hx hb dL_areStars_385 (lv_at hl 17 rfl) ?_
                                                    refine lv_iload hx hb dL_areStars_387 (lv_at hl 7 rfl) ?_
                                                    refine lv_iload hx hb dL_areStars_389 (lv_at hl 3 rfl) ?_
                                                    refine hk_callS 7 (As := [.ref (la 3), .ref (la 5), .ref (la 10), .ref (la 11), .ref (la 12), .int (nI ms), .int (nI j8)]) (rest := [.int (dv (cd_feature (nI k9) (nI j8) (cn, sc, μ)) (an_feature (nI k9) (nI j8) (cn, sc, μ)) (-1111111) (-1111112) (-1111113))]) X K hAE hS hl.1 (c_L_feature E l H64 hL hV hI hX hm hpos h0 hc (wh := nI j8) (inr_nI (a := 0) (b := 2) (by omega) (by omega) (by omega))) (fun _ h => h.elim) gL_areStars_L_feature rfl hd_L_feature rfl ⟨⟨(Nat.le_of_ble_eq_true rfl), (Nat.le_of_ble_eq_true rfl)⟩, (by show 200 * k9 + 8 + 8 + 8 + 12 + 12 + 24 * j8 + 12 + 12 + 0 ≤ 900; omega), (by show 10000 * k9 + 400 + 400 + 400 + 600 + 600 + 1200 * j8 + 600 + 600 + 0 ≤ 45000; omega)⟩ rfl (Nat.le_of_ble_eq_true rfl) dL_areStars_391 (fun v9 H65 locsH65 hp hS hzH65 hkH65 => ?_)
                                                    obtain ⟨hv, hh⟩ := hp
                                                    subst hv; subst hh
                                                    refine lv_goto (tgt := 399) hx hb dL_areStars_394 (by decide) ?_
                                                    refine lv_icmp_ne (tgt := 406) hx hb dL_areStars_399 (by decide) (fun c_399 => ?_) (fun c_399 => ?_)
                                                    · exact (c_399 (feat_y (S := (cn, sc, μ)) hk9 hn1 hn12 hj3 hcan)).elim
                                                    · refine lv_iconst (v := 1) hx hb dL_areStars_402 (by decide) ?_
                                                      refine lv_goto (tgt := 407) hx hb dL_areStars_403 (by decide) ?_
                                                      refine lv_istore (lv' := [(8, .int 1), (16, .int (vtS (cn, sc, μ) (μ 3 k9) (nI j8))), (15, .int (nI j8)), (18, .int (vtS (cn, sc, μ) (μ 3 k9) (nI j8))), (17, .int (nI j8)), (9, .int (nI (ecN (μ 3) k9))), (10, .int (nI k9)), (11, .int (nI ms)), (12, .int (nI pd9)), (13, .int 1), (14, .int 1), (0, .ref ho), (1, .ref (la 3)), (2, .ref (la 5)), (3, .ref (la 8)), (4, .ref (la 10)), (5, .ref (la 11)), (6, .ref (la 12)), (7, .int (nI zn))]) hx hb dL_areStars_407 hl (by decide) rfl (fun ls hl => ?_)
                                                      obtain ⟨q409, eq409⟩ : ∃ y : Int32, y = (nI j8) + 1 := ⟨_, rfl⟩
                                                      refine lv_iinc (v := q409) (lv' := [(17, .int q409), (8, .int 1), (16, .int (vtS (cn, sc, μ) (μ 3 k9) (nI j8))), (15, .int (nI j8)), (18, .int (vtS (cn, sc, μ) (μ 3 k9) (nI j8))), (9, .int (nI (ecN (μ 3) k9))), (10, .int (nI k9)), (11, .int (nI ms)), (12, .int (nI pd9)), (13, .int 1), (14, .int 1), (0, .ref ho), (1, .ref (la 3)), (2, .ref (la 5)), (3, .ref (la 8)), (4, .ref (la 10)), (5, .ref (la 11)), (6, .ref (la 12)), (7, .int (nI zn))]) hx hb dL_areStars_409 hl (k := 4) rfl (by rw [eq409]; rfl) (by decide) rfl (fun ls hl => ?_)
                                                      rw [nI_1] at eq409
                                                      subst eq409
                                                      refine lv_goto (tgt := 268) hx hb dL_areStars_412 (by decide) ?_
                                                      refine W.widen (k := 200 * k9 + 8 + 8 + 8 + 12 + 12 + 24 * (j8 + 1)) (n := 10000 * k9 + 400 + 400 + 400 + 600 + 600 + 1200 * (j8 + 1)) (by show 200 * k9 + 8 + 8 + 8 + 12 + 12 + 24 * j8 + 12 + 12 ≤ _; omega) (by show 10000 * k9 + 400 + 400 + 400 + 600 + 600 + 1200 * j8 + 600 + 600 ≤ _; omega) ?_
                                                      exact ih8 (j8 + 1) _ _ G R (nI j8) (vtS (cn, sc, μ) (μ 3 k9) (nI j8)) (by omega) ⟨hS, hW, hL, hZn, by omega, kd_y hb8 rfl c_311⟩ _ (lv_sub hl [3, 2, 0, 1, 5, 6, 7, 8, 9, 10, 11, 12, 13, 14, 15, 16, 17, 18] rfl)
                                exact L268 6 0 _ _ G R (-1) 0 (by omega) ⟨hS, hW, hL, hZn, by omega, rfl⟩ _ (lv_sub hl [2, 1, 0, 3, 8, 9, 7, 6, 5, 4, 10, 11, 12, 13, 14, 15, 16, 17] rfl)
          refine lv_bipush (v := 30) hx hb dL_areStars_33 (by decide) ?_
          refine lv_iload hx hb dL_areStars_35 (lv_at hl 11 rfl) ?_
          refine lv_iload hx hb dL_areStars_37 (lv_at hl 11 rfl) ?_
          refine lv_iconst (v := 2) hx hb dL_areStars_39 (by decide) ?_
          refine lv_irem hx hb dL_areStars_40 (by decide) ?_
          refine lv_topi (fun z_66 ez_66 => ?_)
          have ez_66 : z_66 = nI (zn % 2) := ez_66.trans (pk_rem (a := zn) (d := 2) (by omega) (by omega) (by omega))
          subst ez_66
          refine lv_if_ne (tgt := 50) hx hb dL_areStars_41 (by decide) (fun c_41 => ?_) (fun c_41 => ?_)
          · refine lv_sipush (v := 400) hx hb dL_areStars_50 (by decide) ?_
            refine lv_irem hx hb dL_areStars_53 (by decide) ?_
            refine lv_topi (fun z_67 ez_67 => ?_)
            have ez_67 : z_67 = nI (zn % 400) := ez_67.trans (pk_rem (a := zn) (d := 400) (by omega) (by omega) (by omega))
            subst ez_67
            refine lv_iadd hx hb dL_areStars_54 ?_
            refine lv_topi (fun z_68 ez_68 => ?_)
            have ez_68 : z_68 = nI (30 + (zn % 400)) := ez_68.trans (nI_add 30 (zn % 400))
            subst ez_68
            refine lv_istore (lv' := [(12, .int (nI (30 + (zn % 400)))), (11, .int (nI ms)), (8, .int 1), (9, .int (nI (ecN (μ 3) k9))), (10, .int (nI k9)), (0, .ref ho), (1, .ref (la 3)), (2, .ref (la 5)), (3, .ref (la 8)), (4, .ref (la 10)), (5, .ref (la 11)), (6, .ref (la 12)), (7, .int (nI zn))]) hx hb dL_areStars_55 hl (by decide) rfl (fun ls hl => ?_)
            exact J57 (30 + (zn % 400)) (by omega) _ hS _ (lv_sub hl [0, 1, 2, 3, 4, 5, 6, 7, 8, 9, 10, 11, 12] rfl)
          · refine lv_sipush (v := 3000) hx hb dL_areStars_44 (by decide) ?_
            refine lv_goto (tgt := 53) hx hb dL_areStars_47 (by decide) ?_
            refine lv_irem hx hb dL_areStars_53 (by decide) ?_
            refine lv_topi (fun z_69 ez_69 => ?_)
            have ez_69 : z_69 = nI (zn % 3000) := ez_69.trans (pk_rem (a := zn) (d := 3000) (by omega) (by omega) (by omega))
            subst ez_69
            refine lv_iadd hx hb dL_areStars_54 ?_
            refine lv_topi (fun z_70 ez_70 => ?_)
            have ez_70 : z_70 = nI (30 + (zn % 3000)) := ez_70.trans (nI_add 30 (zn % 3000))
            subst ez_70
            refine lv_istore (lv' := [(12, .int (nI (30 + (zn % 3000)))), (11, .int (nI ms)), (8, .int 1), (9, .int (nI (ecN (μ 3) k9))), (10, .int (nI k9)), (0, .ref ho), (1, .ref (la 3)), (2, .ref (la 5)), (3, .ref (la 8)), (4, .ref (la 10)), (5, .ref (la 11)), (6, .ref (la 12)), (7, .int (nI zn))]) hx hb dL_areStars_55 hl (by decide) rfl (fun ls hl => ?_)
            exact J57 (30 + (zn % 3000)) (by omega) _ hS _ (lv_sub hl [0, 1, 2, 3, 4, 5, 6, 7, 8, 9, 10, 11, 12] rfl)
  exact L9 (cn 1 + 1) 0 H0 _ G R (by omega) ⟨hS, hW, hL, hZn, by omega⟩ _ (lv_sub hl [2, 1, 0, 3, 4, 5, 6, 7, 8, 9, 10] rfl)

