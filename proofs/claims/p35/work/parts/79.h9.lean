theorem hd_X10_renumber : yX10_renumber.cls ≠ "java/lang/invoke/MethodHandle" ∧ yX10_renumber.cls ≠ "java/lang/invoke/VarHandle" ∧ (parseMethodDescriptor yX10_renumber.desc).map (fun d => d.parameters.length) = some 2 := ⟨by decide, by decide, by decide +kernel⟩
theorem hkw_X10_merge_2_161 : ∀ w ∈ (vx_atS RX10 161 "java/lang/IllegalStateException" ["java/lang/RuntimeException", "java/lang/Exception"]).filter goodWord, w ∈ wsX10_merge := by decide +kernel
abbrev rmX10_merge : Room := { frames := 10, cells := 8, slots := 400, locals := 178 }
theorem iX10_merge_X7 : ∀ w ∈ wsX70, w ∈ wsX10_merge := by decide +kernel
set_option maxHeartbeats 4000000 in
set_option maxRecDepth 100000 in
theorem c_X10_merge (E : hk_E) (l : Launch) (hl9 : l.stackTraces = false) (H0 : Heap) {Z : Nat → Prop} {ho ts : Nat} {li : Nat → Nat} {rr : Nat → Nat → Nat} {G : hG} {R : hR} {cn : Nat → Nat} {sc : Nat → Int32} {μ : Nat → Nat → Int32} (hW : HW E Z (ho, li, rr, ts) G R (cn, sc, μ) H0) (hI : InvF (cn, sc, μ)) (hZn : ∀ q, H0.size ≤ q → Z q) {p0 p1 : Int32}  : hk_X E l yX10_merge wsX10_merge rmX10_merge (Z) [.ref ho, .int p0, .int p1] H0 (hpost E Z (ho, li, rr, ts) (cd_merge p0 p1 (cn, sc, μ)) (an_merge p0 p1 (cn, sc, μ)) (st_merge p0 p1 (cn, sc, μ))) (hpx E Z (ho, li, rr, ts) (cd_merge p0 p1 (cn, sc, μ)) (cn, sc, μ) [XI, XS]) := by
  refine hk_X.ofW (cc := cX10_merge) (maxL := 6) (ret := (some .int)) (by decide +kernel) rfl (Nat.le_of_ble_eq_true rfl) ?_
  intro p e s m args below meth c ls Q hQ X hr hlk hx9 K hs9 hS hl
  obtain ⟨hx, hb, hml, hown, hts⟩ := id X
  have hAE : ∀ q, (Z) q → hk_A E q := hW.2.2.2.2.2.2.2.2.2.2.2.2
  have hl : lv_has ls 6 [(0, .ref ho), (1, .int p0), (2, .int p1)] := hl
  have hI9 := hI.1
  have hZA : ∀ q, Z q → hk_A E q := hW.2.2.2.2.2.2.2.2.2.2.2.2
  have hc1 : cn 1 ≤ 12 := hI9.1.1
  have hc8 : cn 8 ≤ 8 := hI9.1.2.1
  have hc12 : cn 12 ≤ 80 := hI9.1.2.2.1
  have hc22 : cn 22 ≤ 8 := hI9.1.2.2.2.1
  have hc29 : cn 29 ≤ 30 := hI9.1.2.2.2.2
  have hEn := entI_of hI9
  refine lv_aload_n hx hb dX10_merge_0 rfl (lv_at hl 0 rfl) ?_
  refine lv_iload_n hx hb dX10_merge_1 rfl (lv_at hl 1 rfl) ?_
  refine hk_callVx 1 (As := [.int p0]) (rest := []) X K hAE hS hl.1 (HW.o hW) rfl (c_X10_starAt E l hl9 H0 hW hc1 (i9 := p0)) (fun q h => hZn q (Nat.le_trans (Nat.le_refl _) h)) gX10_merge_X10_starAt rfl ⟨rfl, hd_X10_starAt⟩ rfl ⟨⟨(Nat.le_of_ble_eq_true rfl), (Nat.le_of_ble_eq_true rfl)⟩, (Nat.le_of_ble_eq_true rfl), (Nat.le_of_ble_eq_true rfl)⟩ rfl (Nat.le_of_ble_eq_true rfl) dX10_merge_2 (fun x9 ce9 q9 H1 locsH1 hp hS hzH1 hkH1 hce hcv hcl => hk_out hx9 hlk hQ hS hce hcv hcl (Nat.le_of_ble_eq_true rfl) (Nat.le_of_ble_eq_true rfl) (hpx_1 hW (fun q h1 h2 => hkH1 q h1 h2) (Or.inl ⟨by unfold cd_merge; (try dsimp only); rw [if_neg hp.2], hp.1⟩))) (fun v9 H1 locsH1 hp hS hzH1 hkH1 => ?_)
  obtain ⟨hv, hh⟩ := hp
  obtain ⟨hv, c_2⟩ := hv
  subst hv; subst hh
  refine hk_get (ref := "LightcurveHouse$Star") (v := .int (μ 3 (ix p0))) X K (HW.e2 hW (isS_xl c_2 (show cn 1 < 2 ^ 31 by omega))) rfl iX10_merge_X7 2 (by decide) (by decide +kernel) (fun _ h => h) rfl dX10_merge_5 ?_
  refine lv_istore_n (lv' := [(3, .int (μ 3 (ix p0))), (0, .ref ho), (1, .int p0), (2, .int p1)]) hx hb dX10_merge_8 rfl hl (by decide) rfl (fun ls hl => ?_)
  refine lv_aload_n hx hb dX10_merge_9 rfl (lv_at hl 1 rfl) ?_
  refine lv_iload_n hx hb dX10_merge_10 rfl (lv_at hl 3 rfl) ?_
  refine hk_callVx 1 (As := [.int p1]) (rest := []) X K hAE hS hl.1 (HW.o hW) rfl (c_X10_starAt E l hl9 H0 hW hc1 (i9 := p1)) (fun q h => hZn q (Nat.le_trans (Nat.le_refl _) h)) gX10_merge_X10_starAt rfl ⟨rfl, hd_X10_starAt⟩ rfl ⟨⟨(Nat.le_of_ble_eq_true rfl), (Nat.le_of_ble_eq_true rfl)⟩, (Nat.le_of_ble_eq_true rfl), (Nat.le_of_ble_eq_true rfl)⟩ rfl (Nat.le_of_ble_eq_true rfl) dX10_merge_11 (fun x9 ce9 q9 H2 locsH2 hp hS hzH2 hkH2 hce hcv hcl => hk_out hx9 hlk hQ hS hce hcv hcl (Nat.le_of_ble_eq_true rfl) (Nat.le_of_ble_eq_true rfl) (hpx_1 hW (fun q h1 h2 => hkH2 q h1 h2) (Or.inl ⟨by unfold cd_merge; (try dsimp only); rw [if_pos c_2, if_neg hp.2], hp.1⟩))) (fun v9 H2 locsH2 hp hS hzH2 hkH2 => ?_)
  obtain ⟨hv, hh⟩ := hp
  obtain ⟨hv, c_11⟩ := hv
  subst hv; subst hh
  refine hk_get (ref := "LightcurveHouse$Star") (v := .int (μ 3 (ix p1))) X K (HW.e2 hW (isS_xl c_11 (show cn 1 < 2 ^ 31 by omega))) rfl iX10_merge_X7 2 (by decide) (by decide +kernel) (fun _ h => h) rfl dX10_merge_14 ?_
  refine lv_istore (lv' := [(4, .int (μ 3 (ix p1))), (3, .int (μ 3 (ix p0))), (0, .ref ho), (1, .int p0), (2, .int p1)]) hx hb dX10_merge_17 hl (by decide) rfl (fun ls hl => ?_)
  refine lv_iload_n hx hb dX10_merge_19 rfl (lv_at hl 1 rfl) ?_
  refine lv_iload hx hb dX10_merge_20 (lv_at hl 0 rfl) ?_
  refine lv_icmp_ne (tgt := 35) hx hb dX10_merge_22 (by decide) (fun c_22 => ?_) (fun c_22 => ?_)
  · 
    refine lv_iload_n hx hb dX10_merge_35 rfl (lv_at hl 1 rfl) ?_
    refine lv_iload hx hb dX10_merge_36 (lv_at hl 0 rfl) ?_
    refine va_mmin (rest := []) hx hb (by rw [hml]; exact hl.1.symm) hown (hts (.methodLink RX10 162 Lib.Math.min.name) (by decide +kernel)) (hts (.static Lib.Math.min.name) (by decide +kernel)) (hts (.initialized "java/lang/Math") (by decide +kernel)) (hts (.code Lib.Math.min.name Lib.Math.min.code 2 (some .int)) (by decide +kernel)) (Nat.le_of_ble_eq_true rfl) (Nat.le_of_ble_eq_true rfl) (Nat.le_of_ble_eq_true rfl) (Nat.le_of_ble_eq_true rfl) dX10_merge_38 ?_
    refine lv_topi (fun kp ekp => ?_)
    refine lv_istore (lv' := [(5, .int kp), (4, .int (μ 3 (ix p1))), (3, .int (μ 3 (ix p0))), (0, .ref ho), (1, .int p0), (2, .int p1)]) hx hb dX10_merge_41 hl (by decide) rfl (fun ls hl => ?_)
    refine lv_aload_n hx hb dX10_merge_43 rfl (lv_at hl 3 rfl) ?_
    refine lv_iload_n hx hb dX10_merge_44 rfl (lv_at hl 2 rfl) ?_
    refine lv_iload hx hb dX10_merge_45 (lv_at hl 1 rfl) ?_
    refine va_mmax (rest := [.ref ho]) hx hb (by rw [hml]; exact hl.1.symm) hown (hts (.methodLink RX10 168 Lib.Math.max.name) (by decide +kernel)) (hts (.static Lib.Math.max.name) (by decide +kernel)) (hts (.initialized "java/lang/Math") (by decide +kernel)) (hts (.code Lib.Math.max.name Lib.Math.max.code 2 (some .int)) (by decide +kernel)) (Nat.le_of_ble_eq_true rfl) (Nat.le_of_ble_eq_true rfl) (Nat.le_of_ble_eq_true rfl) (Nat.le_of_ble_eq_true rfl) dX10_merge_47 ?_
    refine lv_topi (fun mx emx => ?_)
    refine lv_iload hx hb dX10_merge_50 (lv_at hl 0 rfl) ?_
    refine hk_callV 2 (As := [.int mx, .int kp]) (rest := []) X K hAE hS hl.1 (HW.o hW) rfl (c_X10_renumber E l H0 hW hc1 (e9 := mx) (v9 := kp)) (fun _ h => h) gX10_merge_X10_renumber rfl ⟨rfl, hd_X10_renumber⟩ rfl ⟨⟨(Nat.le_of_ble_eq_true rfl), (Nat.le_of_ble_eq_true rfl)⟩, (Nat.le_of_ble_eq_true rfl), (Nat.le_of_ble_eq_true rfl)⟩ rfl (Nat.le_of_ble_eq_true rfl) dX10_merge_52 (fun v9 H3 locsH3 hp hS hzH3 hkH3 => ?_)
    obtain ⟨hv, hW, hz9⟩ := hp
    subst hv
    refine lv_iload hx hb dX10_merge_55 (lv_at hl 0 rfl) ?_
    exact hk_iretx X hr hlk hQ hS (Nat.le_of_ble_eq_true rfl) (Nat.le_of_ble_eq_true rfl) dX10_merge_57 (⟨by unfold cd_merge; (try dsimp only); rw [if_pos c_2, if_pos c_11, if_neg c_22], congrArg some (congrArg Value.int (ekp.trans (mrg_low hEn (isS_xl c_2 (show cn 1 < 2 ^ 31 by omega)) (isS_xl c_11 (show cn 1 < 2 ^ 31 by omega)) c_22).symm)), _, _, by rw [emx, ekp, mrg_eq hEn (isS_xl c_2 (show cn 1 < 2 ^ 31 by omega)) (isS_xl c_11 (show cn 1 < 2 ^ 31 by omega)) c_22] at hW; exact hW⟩)
  · exact hk_throw (text := "the stars are of one entry") X rfl K hl9 hx9 hlk hQ hS hAE (by decide) (by decide +kernel) (by decide +kernel) (by decide +kernel) hkw_X10_merge_2_161 hkb_2 (by decide +kernel) hkg_2_161 hl.1 dX10_merge_25 dX10_merge_28 dX10_merge_29 dX10_merge_31 dX10_merge_34 (Nat.le_of_ble_eq_true rfl) (Nat.le_of_ble_eq_true rfl) (Nat.le_of_ble_eq_true rfl) (Nat.le_of_ble_eq_true rfl) (fun H9 hz9 hq9 => hpx_1 hW (fun q h1 _ => hq9 q h1) (Or.inr (Or.inl ⟨by unfold cd_merge; (try dsimp only); rw [if_pos c_2, if_pos c_11, if_pos c_22], rfl⟩))) (Nat.le_of_ble_eq_true rfl) (Nat.le_of_ble_eq_true rfl)

theorem hd_X10_lowestOther : yX10_lowestOther.cls ≠ "java/lang/invoke/MethodHandle" ∧ yX10_lowestOther.cls ≠ "java/lang/invoke/VarHandle" ∧ (parseMethodDescriptor yX10_lowestOther.desc).map (fun d => d.parameters.length) = some 1 := ⟨by decide, by decide, by decide +kernel⟩
theorem hkw_X10_split_2_161 : ∀ w ∈ (vx_atS RX10 161 "java/lang/IllegalStateException" ["java/lang/RuntimeException", "java/lang/Exception"]).filter goodWord, w ∈ wsX10_split := by decide +kernel
abbrev rmX10_split : Room := { frames := 10, cells := 8, slots := 400, locals := 178 }
theorem iX10_split_X7 : ∀ w ∈ wsX70, w ∈ wsX10_split := by decide +kernel
set_option maxHeartbeats 4000000 in
set_option maxRecDepth 100000 in
theorem c_X10_split (E : hk_E) (l : Launch) (hl9 : l.stackTraces = false) (H0 : Heap) {Z : Nat → Prop} {ho ts : Nat} {li : Nat → Nat} {rr : Nat → Nat → Nat} {G : hG} {R : hR} {cn : Nat → Nat} {sc : Nat → Int32} {μ : Nat → Nat → Int32} (hW : HW E Z (ho, li, rr, ts) G R (cn, sc, μ) H0) (hI : InvF (cn, sc, μ)) (hZn : ∀ q, H0.size ≤ q → Z q) {p0 : Int32}  : hk_X E l yX10_split wsX10_split rmX10_split (Z) [.ref ho, .int p0] H0 (hpost E Z (ho, li, rr, ts) (cd_split p0 (cn, sc, μ)) (an_split p0 (cn, sc, μ)) (st_split p0 (cn, sc, μ))) (hpx E Z (ho, li, rr, ts) (cd_split p0 (cn, sc, μ)) (cn, sc, μ) [XI, XS]) := by
  refine hk_X.ofW (cc := cX10_split) (maxL := 4) (ret := (some .int)) (by decide +kernel) rfl (Nat.le_of_ble_eq_true rfl) ?_
  intro p e s m args below meth c ls Q hQ X hr hlk hx9 K hs9 hS hl
  obtain ⟨hx, hb, hml, hown, hts⟩ := id X
  have hAE : ∀ q, (Z) q → hk_A E q := hW.2.2.2.2.2.2.2.2.2.2.2.2
  have hl : lv_has ls 4 [(0, .ref ho), (1, .int p0)] := hl
  have hI9 := hI.1
  have hZA : ∀ q, Z q → hk_A E q := hW.2.2.2.2.2.2.2.2.2.2.2.2
  have hc1 : cn 1 ≤ 12 := hI9.1.1
  have hc8 : cn 8 ≤ 8 := hI9.1.2.1
  have hc12 : cn 12 ≤ 80 := hI9.1.2.2.1
  have hc22 : cn 22 ≤ 8 := hI9.1.2.2.2.1
  have hc29 : cn 29 ≤ 30 := hI9.1.2.2.2.2
  have hEn := entI_of hI9
  refine lv_aload_n hx hb dX10_split_0 rfl (lv_at hl 0 rfl) ?_
  refine lv_iload_n hx hb dX10_split_1 rfl (lv_at hl 1 rfl) ?_
  refine hk_callVx 1 (As := [.int p0]) (rest := []) X K hAE hS hl.1 (HW.o hW) rfl (c_X10_starAt E l hl9 H0 hW hc1 (i9 := p0)) (fun q h => hZn q (Nat.le_trans (Nat.le_refl _) h)) gX10_split_X10_starAt rfl ⟨rfl, hd_X10_starAt⟩ rfl ⟨⟨(Nat.le_of_ble_eq_true rfl), (Nat.le_of_ble_eq_true rfl)⟩, (Nat.le_of_ble_eq_true rfl), (Nat.le_of_ble_eq_true rfl)⟩ rfl (Nat.le_of_ble_eq_true rfl) dX10_split_2 (fun x9 ce9 q9 H1 locsH1 hp hS hzH1 hkH1 hce hcv hcl => hk_out hx9 hlk hQ hS hce hcv hcl (Nat.le_of_ble_eq_true rfl) (Nat.le_of_ble_eq_true rfl) (hpx_1 hW (fun q h1 h2 => hkH1 q h1 h2) (Or.inl ⟨by unfold cd_split; (try dsimp only); rw [if_neg hp.2], hp.1⟩))) (fun v9 H1 locsH1 hp hS hzH1 hkH1 => ?_)
  obtain ⟨hv, hh⟩ := hp
  obtain ⟨hv, c_2⟩ := hv
  subst hv; subst hh
  refine lv_astore_n (lv' := [(2, .ref (gad G 2 (ix p0))), (0, .ref ho), (1, .int p0)]) hx hb dX10_split_5 rfl hl (by decide) rfl (fun ls hl => ?_)
  refine lv_aload_n hx hb dX10_split_6 rfl (lv_at hl 1 rfl) ?_
  refine lv_aload_n hx hb dX10_split_7 rfl (lv_at hl 0 rfl) ?_
  refine hk_callV 1 (As := [.ref (gad G 2 (ix p0))]) (rest := []) X K hAE hS hl.1 (HW.o hW) rfl (c_X10_lowestOther E l H0 hW hI9 (isS_xl c_2 (show cn 1 < 2 ^ 31 by omega))) (fun _ h => h.elim) gX10_split_X10_lowestOther rfl ⟨rfl, hd_X10_lowestOther⟩ rfl ⟨⟨(Nat.le_of_ble_eq_true rfl), (Nat.le_of_ble_eq_true rfl)⟩, (Nat.le_of_ble_eq_true rfl), (Nat.le_of_ble_eq_true rfl)⟩ rfl (Nat.le_of_ble_eq_true rfl) dX10_split_8 (fun v9 H2 locsH2 hp hS hzH2 hkH2 => ?_)
  obtain ⟨hv, hh⟩ := hp
  subst hv; subst hh
  refine lv_topi (fun lo9 elo9 => ?_)
  refine lv_istore_n (lv' := [(3, .int lo9), (2, .ref (gad G 2 (ix p0))), (0, .ref ho), (1, .int p0)]) hx hb dX10_split_11 rfl hl (by decide) rfl (fun ls hl => ?_)
  refine lv_iload_n hx hb dX10_split_12 rfl (lv_at hl 0 rfl) ?_
  refine lv_iconst (v := (-1)) hx hb dX10_split_13 (by decide) ?_
  refine lv_icmp_ne (tgt := 27) hx hb dX10_split_14 (by decide) (fun c_14 => ?_) (fun c_14 => ?_)
  · 
    refine lv_aload_n hx hb dX10_split_27 rfl (lv_at hl 2 rfl) ?_
    refine lv_aload_n hx hb dX10_split_28 rfl (lv_at hl 1 rfl) ?_
    refine hk_get (ref := "LightcurveHouse$Star") (v := .int (μ 3 (ix p0))) X K (HW.e2 hW (isS_xl c_2 (show cn 1 < 2 ^ 31 by omega))) rfl iX10_split_X7 2 (by decide) (by decide +kernel) (fun _ h => h) rfl dX10_split_29 ?_
    refine lv_iload_n hx hb dX10_split_32 rfl (lv_at hl 0 rfl) ?_
    refine hk_callV 2 (As := [.int (μ 3 (ix p0)), .int lo9]) (rest := []) X K hAE hS hl.1 (HW.o hW) rfl (c_X10_renumber E l H0 hW hc1 (e9 := μ 3 (ix p0)) (v9 := lo9)) (fun _ h => h) gX10_split_X10_renumber rfl ⟨rfl, hd_X10_renumber⟩ rfl ⟨⟨(Nat.le_of_ble_eq_true rfl), (Nat.le_of_ble_eq_true rfl)⟩, (Nat.le_of_ble_eq_true rfl), (Nat.le_of_ble_eq_true rfl)⟩ rfl (Nat.le_of_ble_eq_true rfl) dX10_split_33 (fun v9 H3 locsH3 hp hS hzH3 hkH3 => ?_)
    obtain ⟨hv, hW, hz9⟩ := hp
    subst hv
    refine lv_aload_n hx hb dX10_split_36 rfl (lv_at hl 1 rfl) ?_
    refine lv_aload_n hx hb dX10_split_37 rfl (lv_at hl 1 rfl) ?_
    refine hk_get (ref := "LightcurveHouse$Star") (v := .int (nI (ix p0))) X K (HW.e2 hW (isS_xl c_2 (show cn 1 < 2 ^ 31 by omega))) rfl iX10_split_X7 0 (by decide) (by decide +kernel) (fun _ h => h) rfl dX10_split_38 ?_
    refine hk_put (ref := "LightcurveHouse$Star") X K (HW.e2 hW (isS_xl c_2 (show cn 1 < 2 ^ 31 by omega))) rfl iX10_split_X7 tyX7 tyX7_ok nmX7 hS ((hW.2.2.2.2.2.2.2.2.2.2.1 2 (by decide) _ (isS_xl c_2 (show cn 1 < 2 ^ 31 by omega))).2) 2 (by decide) (by decide +kernel) (fun _ h => h) (by decide +kernel) rfl rfl (Nat.le_of_ble_eq_true rfl) dX10_split_41 (fun H4 locsH4 hOH4 hzH4 hqH4 hS => ?_)
    have hW := HW.put (S' := (cn, sc, va_up μ 3 (upd (sp_ren (μ 3) (μ 3 (ix p0)) lo9 (cn 1)) (ix p0) (nI (ix p0))))) hW 2 (ix p0) (by decide) (isS_xl c_2 (show cn 1 < 2 ^ 31 by omega)) (by show hk_O E _ 7 [.int (nI (ix p0)), .int (μ 2 (ix p0)), .int (upd (sp_ren (μ 3) (μ 3 (ix p0)) lo9 (cn 1)) (ix p0) (nI (ix p0)) (ix p0)), .int (μ 4 (ix p0)), .int (μ 5 (ix p0))] _; rw [upd_at]; exact hOH4) hqH4 (fun j9 => by rcases j9 with _ | _ | _ | _ | _ | _ | _ <;> rfl) (fun j9 i9 h1 h2 h3 => by
      rcases lt7 h1 with g | g | g | g | g | g | g <;> subst g
      · exact hfs_c0 rfl
      · exact hfs_c1 rfl rfl
      · have g2 : i9 ≠ (ix p0) := h3.resolve_left (fun g => g rfl)
        exact ⟨rfl, by show [Value.int (nI i9), Value.int (μ 2 i9), Value.int (upd (sp_ren (μ 3) (μ 3 (ix p0)) lo9 (cn 1)) (ix p0) (nI (ix p0)) i9), Value.int (μ 4 i9), Value.int (μ 5 i9)] = [Value.int (nI i9), Value.int (μ 2 i9), Value.int ((sp_ren (μ 3) (μ 3 (ix p0)) lo9 (cn 1)) i9), Value.int (μ 4 i9), Value.int (μ 5 i9)]; rw [upd_ne g2]⟩
      · exact hfs_c3 rfl rfl rfl
      · exact hfs_c4 rfl rfl rfl rfl rfl rfl rfl rfl rfl
      · exact hfs_c5 rfl rfl rfl rfl rfl rfl
      · exact hfs_c6 rfl rfl
      ) rfl
    refine lv_iload_n hx hb dX10_split_44 rfl (lv_at hl 0 rfl) ?_
    exact hk_iretx X hr hlk hQ hS (Nat.le_of_ble_eq_true rfl) (Nat.le_of_ble_eq_true rfl) dX10_split_45 (⟨by unfold cd_split; (try dsimp only); rw [if_pos c_2, if_neg (fun g => c_14 (elo9.trans ((low_iff (f := μ 3) (hEn.ne12 (isS_xl c_2 (show cn 1 < 2 ^ 31 by omega))) (isS_xl c_2 (show cn 1 < 2 ^ 31 by omega)) (show cn 1 < 2 ^ 30 by omega)).mpr g)))], congrArg some (congrArg Value.int elo9), _, _, by rw [spl_eq (nI_ix c_2.1).symm elo9] at hW; exact hW⟩)
  · exact hk_throw (text := "the star is an entry by itself") X rfl K hl9 hx9 hlk hQ hS hAE (by decide) (by decide +kernel) (by decide +kernel) (by decide +kernel) hkw_X10_split_2_161 hkb_2 (by decide +kernel) hkg_2_161 hl.1 dX10_split_17 dX10_split_20 dX10_split_21 dX10_split_23 dX10_split_26 (Nat.le_of_ble_eq_true rfl) (Nat.le_of_ble_eq_true rfl) (Nat.le_of_ble_eq_true rfl) (Nat.le_of_ble_eq_true rfl) (fun H9 hz9 hq9 => hpx_1 hW (fun q h1 _ => hq9 q h1) (Or.inr (Or.inl ⟨by unfold cd_split; (try dsimp only); rw [if_pos c_2, if_pos ((low_iff (f := μ 3) (hEn.ne12 (isS_xl c_2 (show cn 1 < 2 ^ 31 by omega))) (isS_xl c_2 (show cn 1 < 2 ^ 31 by omega)) (show cn 1 < 2 ^ 30 by omega)).mp (elo9.symm.trans c_14))], rfl⟩))) (Nat.le_of_ble_eq_true rfl) (Nat.le_of_ble_eq_true rfl)

theorem hent_a {f : Nat → Int32} {p : Int32} {n k m : Nat} (hk : k < n) (h1 : f k = nI k) (h2 : ¬ nI m = p) : sp_ent f p (n - k) k m = sp_ent f p (n - (k + 1)) (k + 1) (m + 1) := by
  rw [show n - k = (n - (k + 1)) + 1 by omega, sp_ent, if_pos h1, if_neg h2]
theorem hent_b {f : Nat → Int32} {p : Int32} {n k m : Nat} (hk : k < n) (h1 : ¬ f k = nI k) : sp_ent f p (n - k) k m = sp_ent f p (n - (k + 1)) (k + 1) m := by
  rw [show n - k = (n - (k + 1)) + 1 by omega, sp_ent, if_neg h1]
theorem hent_c {f : Nat → Int32} {p : Int32} {n k m : Nat} (hk : k < n) (h1 : f k = nI k) (h2 : nI m = p) : sp_ent f p (n - k) k m = nI k := by
  rw [show n - k = (n - (k + 1)) + 1 by omega, sp_ent, if_pos h1, if_pos h2]
theorem hent_d {f : Nat → Int32} {p : Int32} {n k m : Nat} (hk : n ≤ k) : sp_ent f p (n - k) k m = if p = -1 then nI m else -1 := by
  rw [show n - k = 0 by omega, sp_ent]
theorem hd_X7_isEntry : yX7_isEntry.cls ≠ "java/lang/invoke/MethodHandle" ∧ yX7_isEntry.cls ≠ "java/lang/invoke/VarHandle" ∧ (parseMethodDescriptor yX7_isEntry.desc).map (fun d => d.parameters.length) = some 0 := ⟨by decide, by decide, by decide +kernel⟩
theorem hkw_X10_entries_0_187 : ∀ w ∈ (vx_atS RX10 187 "java/lang/IndexOutOfBoundsException" ["java/lang/RuntimeException", "java/lang/Exception"]).filter goodWord, w ∈ wsX10_entries := by decide +kernel
abbrev rmX10_entries : Room := { frames := 9, cells := 8, slots := 400, locals := 154 }
theorem iX10_entries_X10 : ∀ w ∈ wsX100, w ∈ wsX10_entries := by decide +kernel
set_option maxHeartbeats 4000000 in
set_option maxRecDepth 100000 in
theorem c_X10_entries (E : hk_E) (l : Launch) (hl9 : l.stackTraces = false) (H0 : Heap) {Z : Nat → Prop} {ho ts : Nat} {li : Nat → Nat} {rr : Nat → Nat → Nat} {G : hG} {R : hR} {cn : Nat → Nat} {sc : Nat → Int32} {μ : Nat → Nat → Int32} (hW : HW E Z (ho, li, rr, ts) G R (cn, sc, μ) H0) (hI : InvF (cn, sc, μ)) (hZn : ∀ q, H0.size ≤ q → Z q) {p0 : Int32}  : hk_X E l yX10_entries wsX10_entries rmX10_entries (Z) [.ref ho, .int p0] H0 (hpost E Z (ho, li, rr, ts) (cd_entries p0 (cn, sc, μ)) (an_entries p0 (cn, sc, μ)) (st_entries p0 (cn, sc, μ))) (hpx E Z (ho, li, rr, ts) (cd_entries p0 (cn, sc, μ)) (cn, sc, μ) [XI]) := by
  refine hk_X.ofW (cc := cX10_entries) (maxL := 4) (ret := (some .int)) (by decide +kernel) rfl (Nat.le_of_ble_eq_true rfl) ?_
  intro p e s m args below meth c ls Q hQ X hr hlk hx9 K hs9 hS hl
  obtain ⟨hx, hb, hml, hown, hts⟩ := id X
  have hAE : ∀ q, (Z) q → hk_A E q := hW.2.2.2.2.2.2.2.2.2.2.2.2
  have hl : lv_has ls 4 [(0, .ref ho), (1, .int p0)] := hl
  have hI9 := hI.1
  have hZA : ∀ q, Z q → hk_A E q := hW.2.2.2.2.2.2.2.2.2.2.2.2
  have hc1 : cn 1 ≤ 12 := hI9.1.1
  have hc8 : cn 8 ≤ 8 := hI9.1.2.1
  have hc12 : cn 12 ≤ 80 := hI9.1.2.2.1
  have hc22 : cn 22 ≤ 8 := hI9.1.2.2.2.1
  have hc29 : cn 29 ≤ 30 := hI9.1.2.2.2.2
  refine lv_iload_n hx hb dX10_entries_0 rfl (lv_at hl 1 rfl) ?_
  refine lv_iconst (v := (-1)) hx hb dX10_entries_1 (by decide) ?_
  refine lv_icmp_ge (tgt := 15) hx hb dX10_entries_2 (by decide) (fun c_2 => ?_) (fun c_2 => ?_)
  · 
    refine lv_iconst (v := 0) hx hb dX10_entries_15 (by decide) ?_
    refine lv_topi (fun z_1 ez_1 => ?_)
    have ez_1 : z_1 = nI 0 := ez_1
    subst ez_1
    refine lv_istore_n (lv' := [(2, .int (nI 0)), (0, .ref ho), (1, .int p0)]) hx hb dX10_entries_16 rfl hl (by decide) rfl (fun ls hl => ?_)
    refine lv_iconst (v := 0) hx hb dX10_entries_17 (by decide) ?_
    refine lv_topi (fun z_2 ez_2 => ?_)
    have ez_2 : z_2 = nI 0 := ez_2
    subst ez_2
    refine lv_istore_n (lv' := [(3, .int (nI 0)), (2, .int (nI 0)), (0, .ref ho), (1, .int p0)]) hx hb dX10_entries_18 rfl hl (by decide) rfl (fun ls hl => ?_)
    have L19 : ∀ (n9 : Nat) (k m9 : Nat) (locs : List Loc), cn 1 + 1 ≤ k + n9 → (va_S (Z) s.heap H0 locs ∧ k ≤ cn 1 ∧ m9 ≤ k ∧ sp_ent (μ 3) p0 (cn 1 - k) k m9 = sp_ent (μ 3) p0 (cn 1) 0 0) → ∀ (ls : Array Slot), lv_has ls 4 [(3, .int (nI k)), (2, .int (nI m9)), (0, .ref ho), (1, .int p0)] → W p l e rmX10_entries s m args below meth c H0 locs 0 0 Q (F0 m 19 ls []) := by
      intro n9
      induction n9 with
      | zero =>
        intro k m9 locs hm hinv ls hl
        obtain ⟨hS, hinv⟩ := hinv
        have hi1 := hinv.1
        have hi2 := hinv.2.1
        exact absurd hm (by omega)
      | succ n9 ih =>
        intro k m9 locs hm hinv ls hl
        obtain ⟨hS, hinv⟩ := hinv
        have hi1 := hinv.1
        have hi2 := hinv.2.1
        refine lv_iload_n hx hb dX10_entries_19 rfl (lv_at hl 0 rfl) ?_
        refine lv_aload_n hx hb dX10_entries_20 rfl (lv_at hl 2 rfl) ?_
        refine hk_get (ref := "LightcurveHouse") (v := .ref (li 2)) X K (HW.o hW) rfl iX10_entries_X10 2 (by decide) (by decide +kernel) (fun _ h => h) rfl dX10_entries_21 ?_
        refine hk_callV 0 (As := []) (rest := [.int (nI k)]) X K hAE hS hl.1 (HW.l2 hW).1 rfl (c_Jx4a65c_size_8abf5 E l H0 (HW.l2 hW)) (fun _ h => h.elim) gX10_entries_Jx4a65c_size_8abf5 rfl ⟨rfl, hd_Jx4a65c_size_8abf5⟩ rfl ⟨⟨(Nat.le_of_ble_eq_true rfl), (Nat.le_of_ble_eq_true rfl)⟩, (Nat.le_of_ble_eq_true rfl), (Nat.le_of_ble_eq_true rfl)⟩ rfl (Nat.le_of_ble_eq_true rfl) dX10_entries_24 (fun v9 H3 locsH3 hp hS hzH3 hkH3 => ?_)
        obtain ⟨hv, hh⟩ := hp
        subst hv; subst hh
        refine lv_icmp_ge (tgt := 63) hx hb dX10_entries_27 (by decide) (fun c_27 => ?_) (fun c_27 => ?_)
        · have hk : cn 1 ≤ k := (nI_leI (by omega) (by omega)).mp c_27
          refine lv_iload_n hx hb dX10_entries_63 rfl (lv_at hl 3 rfl) ?_
          refine lv_iconst (v := (-1)) hx hb dX10_entries_64 (by decide) ?_
          refine lv_icmp_ne (tgt := 72) hx hb dX10_entries_65 (by decide) (fun c_65 => ?_) (fun c_65 => ?_)
          · refine lv_iconst (v := (-1)) hx hb dX10_entries_72 (by decide) ?_
            exact hk_iretx X hr hlk hQ hS (Nat.le_of_ble_eq_true rfl) (Nat.le_of_ble_eq_true rfl) dX10_entries_73 (⟨by unfold cd_entries; (try dsimp only); rw [if_pos c_2], congrArg some (congrArg Value.int ((if_neg c_65).symm.trans ((hent_d hk).symm.trans hinv.2.2))), _, _, hW⟩)
          · refine lv_iload_n hx hb dX10_entries_68 rfl (lv_at hl 1 rfl) ?_
            refine lv_goto (tgt := 73) hx hb dX10_entries_69 (by decide) ?_
            exact hk_iretx X hr hlk hQ hS (Nat.le_of_ble_eq_true rfl) (Nat.le_of_ble_eq_true rfl) dX10_entries_73 (⟨by unfold cd_entries; (try dsimp only); rw [if_pos c_2], congrArg some (congrArg Value.int ((if_pos c_65).symm.trans ((hent_d hk).symm.trans hinv.2.2))), _, _, hW⟩)
        · have hk : k < cn 1 := Nat.lt_of_not_le (fun h => c_27 (nI_le h (by omega)))
          refine lv_aload_n hx hb dX10_entries_30 rfl (lv_at hl 2 rfl) ?_
          refine hk_get (ref := "LightcurveHouse") (v := .ref (li 2)) X K (HW.o hW) rfl iX10_entries_X10 2 (by decide) (by decide +kernel) (fun _ h => h) rfl dX10_entries_31 ?_
          refine lv_iload_n hx hb dX10_entries_34 rfl (lv_at hl 0 rfl) ?_
          refine hk_callV 1 (As := [.int (nI k)]) (rest := []) X K hAE hS hl.1 (HW.l2 hW).1 rfl (c_Jx4a65c_get_915e3 E l H0 (HW.l2 hW) (HW.c2 hW).1 (Nat.lt_of_le_of_lt (HW.c2 hW).2 (by decide)) hk) (fun _ h => h.elim) gX10_entries_Jx4a65c_get_915e3 rfl ⟨rfl, hd_Jx4a65c_get_915e3⟩ rfl ⟨⟨(Nat.le_of_ble_eq_true rfl), (Nat.le_of_ble_eq_true rfl)⟩, (Nat.le_of_ble_eq_true rfl), (Nat.le_of_ble_eq_true rfl)⟩ rfl (Nat.le_of_ble_eq_true rfl) dX10_entries_35 (fun v9 H4 locsH4 hp hS hzH4 hkH4 => ?_)
          obtain ⟨hv, hh⟩ := hp
          subst hv; subst hh
          refine hk_cast X K (HW.e2 hW hk) rfl (by decide +kernel) dX10_entries_38 ?_
          refine hk_callV 0 (As := []) (rest := []) X K hAE hS hl.1 (HW.e2 hW hk) rfl (c_X7_isEntry E l H0 hW hk) (fun _ h => h.elim) gX10_entries_X7_isEntry rfl ⟨rfl, hd_X7_isEntry⟩ rfl ⟨⟨(Nat.le_of_ble_eq_true rfl), (Nat.le_of_ble_eq_true rfl)⟩, (Nat.le_of_ble_eq_true rfl), (Nat.le_of_ble_eq_true rfl)⟩ rfl (Nat.le_of_ble_eq_true rfl) dX10_entries_41 (fun v9 H5 locsH5 hp hS hzH5 hkH5 => ?_)
          obtain ⟨hv, hh⟩ := hp
          subst hh
          rcases hv with ⟨hv, c_41⟩ | ⟨hv, c_41⟩
          · subst hv
            refine lv_if_eq (tgt := 57) hx hb dX10_entries_44 (by decide) (fun c_44 => ?_) (fun c_44 => ?_)
            · exact absurd c_44 (by decide)
            · refine lv_iload_n hx hb dX10_entries_47 rfl (lv_at hl 1 rfl) ?_
              refine lv_iload_n hx hb dX10_entries_48 rfl (lv_at hl 3 rfl) ?_
              refine lv_icmp_ne (tgt := 54) hx hb dX10_entries_49 (by decide) (fun c_49 => ?_) (fun c_49 => ?_)
              · obtain ⟨q54, eq54⟩ : ∃ y : Int32, y = (nI m9) + 1 := ⟨_, rfl⟩
                refine lv_iinc (v := q54) (lv' := [(2, .int q54), (3, .int (nI k)), (0, .ref ho), (1, .int p0)]) hx hb dX10_entries_54 hl (k := 1) rfl (by rw [eq54]; rfl) (by decide) rfl (fun ls hl => ?_)
                rw [nI_1] at eq54
                subst eq54
                obtain ⟨q57, eq57⟩ : ∃ y : Int32, y = (nI k) + 1 := ⟨_, rfl⟩
                refine lv_iinc (v := q57) (lv' := [(3, .int q57), (2, .int (nI (m9 + 1))), (0, .ref ho), (1, .int p0)]) hx hb dX10_entries_57 hl (k := 1) rfl (by rw [eq57]; rfl) (by decide) rfl (fun ls hl => ?_)
                rw [nI_1] at eq57
                subst eq57
                refine lv_goto (tgt := 19) hx hb dX10_entries_60 (by decide) ?_
                exact ih (k + 1) (m9 + 1) _ (by omega) ⟨hS, by omega, by omega, by rw [← hent_a hk c_41 c_49]; exact hinv.2.2⟩ _ (lv_sub hl [0, 1, 2, 3] rfl)
              · refine lv_iload_n hx hb dX10_entries_52 rfl (lv_at hl 0 rfl) ?_
                exact hk_iretx X hr hlk hQ hS (Nat.le_of_ble_eq_true rfl) (Nat.le_of_ble_eq_true rfl) dX10_entries_53 (⟨by unfold cd_entries; (try dsimp only); rw [if_pos c_2], congrArg some (congrArg Value.int ((hent_c hk c_41 c_49).symm.trans hinv.2.2)), _, _, hW⟩)
          · subst hv
            refine lv_if_eq (tgt := 57) hx hb dX10_entries_44 (by decide) (fun c_44 => ?_) (fun c_44 => ?_)
            · obtain ⟨q57, eq57⟩ : ∃ y : Int32, y = (nI k) + 1 := ⟨_, rfl⟩
              refine lv_iinc (v := q57) (lv' := [(3, .int q57), (2, .int (nI m9)), (0, .ref ho), (1, .int p0)]) hx hb dX10_entries_57 hl (k := 0) rfl (by rw [eq57]; rfl) (by decide) rfl (fun ls hl => ?_)
              rw [nI_1] at eq57
              subst eq57
              refine lv_goto (tgt := 19) hx hb dX10_entries_60 (by decide) ?_
              exact ih (k + 1) m9 _ (by omega) ⟨hS, by omega, by omega, by rw [← hent_b hk c_41]; exact hinv.2.2⟩ _ (lv_sub hl [0, 1, 2, 3] rfl)
            · exact absurd (by decide) c_44
    exact L19 (cn 1 + 1) 0 0 _ (by omega) ⟨hS, Nat.zero_le _, Nat.le_refl _, rfl⟩ _ (lv_sub hl [0, 1, 2, 3] rfl)
  · exact hk_throw (text := "no such place") X rfl K hl9 hx9 hlk hQ hS hAE (by decide) (by decide +kernel) (by decide +kernel) (by decide +kernel) hkw_X10_entries_0_187 hkb_0 (by decide +kernel) hkg_0_187 hl.1 dX10_entries_5 dX10_entries_8 dX10_entries_9 dX10_entries_11 dX10_entries_14 (Nat.le_of_ble_eq_true rfl) (Nat.le_of_ble_eq_true rfl) (Nat.le_of_ble_eq_true rfl) (Nat.le_of_ble_eq_true rfl) (fun H9 hz9 hq9 => hpx_1 hW (fun q h1 _ => hq9 q h1) (Or.inl ⟨by unfold cd_entries; (try dsimp only); rw [if_neg c_2], rfl⟩)) (Nat.le_of_ble_eq_true rfl) (Nat.le_of_ble_eq_true rfl)

