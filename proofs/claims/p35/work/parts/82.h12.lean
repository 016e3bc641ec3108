theorem HW.rZ {E : hk_E} {Z : Nat → Prop} {C : hC} {G : hG} {R : hR} {S : mS} {H : Heap} (h : HW E Z C G R S H) {r : Nat} (hr : r < 4) : ∀ q, (q = C.2.2.1 r 0 ∨ q = C.2.2.1 r 1 ∨ q = C.2.2.1 r 2) → Z q := by
  have x := (h.rx r hr).2.2
  rintro q (g | g | g)
  · rw [g]; exact x.1
  · rw [g]; exact x.2.1
  · rw [g]; exact x.2.2
theorem hcur.trial {R : hR} {μ : Nat → Nat → Int32} {L : List Nat} (h : hcur R μ L) {f : Nat → Int32} : hcur (R.1, R.2.1, R.2.2.1, f) μ L := ⟨h.1, h.2.1, h.2.2⟩
theorem hper_pos {P : Int32} (h : inr P 30 1000000) : 0 < P := Int32.lt_of_lt_of_le (by decide) h.1
theorem hd_X10_gatherCurve : yX10_gatherCurve.cls ≠ "java/lang/invoke/MethodHandle" ∧ yX10_gatherCurve.cls ≠ "java/lang/invoke/VarHandle" ∧ (parseMethodDescriptor yX10_gatherCurve.desc).map (fun d => d.parameters.length) = some 2 := ⟨by decide, by decide, by decide +kernel⟩
theorem hd_X10_stringLength : yX10_stringLength.cls ≠ "java/lang/invoke/MethodHandle" ∧ yX10_stringLength.cls ≠ "java/lang/invoke/VarHandle" ∧ (parseMethodDescriptor yX10_stringLength.desc).map (fun d => d.parameters.length) = some 1 := ⟨by decide, by decide, by decide +kernel⟩
abbrev rmX10_string : Room := { frames := 10, cells := 8, slots := 400, locals := 179 }
theorem iX10_string_X7 : ∀ w ∈ wsX70, w ∈ wsX10_string := by decide +kernel
set_option maxHeartbeats 4000000 in
set_option maxRecDepth 100000 in
theorem c_X10_string (E : hk_E) (l : Launch) (hl9 : l.stackTraces = false) (H0 : Heap) {Z : Nat → Prop} {ho ts : Nat} {li : Nat → Nat} {rr : Nat → Nat → Nat} {G : hG} {R : hR} {cn : Nat → Nat} {sc : Nat → Int32} {μ : Nat → Nat → Int32} (hW : HW E Z (ho, li, rr, ts) G R (cn, sc, μ) H0) (hI : InvF (cn, sc, μ)) (hZn : ∀ q, H0.size ≤ q → Z q) {p0 p1 : Int32}  : hk_X E l yX10_string wsX10_string rmX10_string (Z) [.ref ho, .int p0, .int p1] H0 (hpost E Z (ho, li, rr, ts) (cd_string p0 p1 (cn, sc, μ)) (an_string p0 p1 (cn, sc, μ)) (st_string p0 p1 (cn, sc, μ))) (hpx E Z (ho, li, rr, ts) (cd_string p0 p1 (cn, sc, μ)) (cn, sc, μ) [XI, XA]) := by
  refine hk_X.ofW (cc := cX10_string) (maxL := 4) (ret := (some .int)) (by decide +kernel) rfl (Nat.le_of_ble_eq_true rfl) ?_
  intro p e s m args below meth c ls Q hQ X hr hlk hx9 K hs9 hS hl
  obtain ⟨hx, hb, hml, hown, hts⟩ := id X
  have hAE : ∀ q, (Z) q → hk_A E q := hW.2.2.2.2.2.2.2.2.2.2.2.2
  have hl : lv_has ls 4 [(0, .ref ho), (1, .int p0), (2, .int p1)] := hl
  have hI9 := hI.1
  have hZA : ∀ q, Z q → hk_A E q := hW.2.2.2.2.2.2.2.2.2.2.2.2
  have hc1 : cn 1 ≤ 12 := hI9.1.1
  have hc8 : cn 8 ≤ 8 := hI9.1.2.1
  have hc12 : cn 12 ≤ 80 := hI9.1.2.2.1
  have hc22 : cn 22 ≤ 8 := hI9.1.2.2.2.1
  have hc29 : cn 29 ≤ 30 := hI9.1.2.2.2.2
  refine lv_aload_n hx hb dX10_string_0 rfl (lv_at hl 0 rfl) ?_
  refine lv_iload_n hx hb dX10_string_1 rfl (lv_at hl 1 rfl) ?_
  refine hk_callVx 1 (As := [.int p0]) (rest := []) X K hAE hS hl.1 (HW.o hW) rfl (c_X10_starAt E l hl9 H0 hW hc1 (i9 := p0)) (fun q h => hZn q (Nat.le_trans (Nat.le_refl _) h)) gX10_string_X10_starAt rfl ⟨rfl, hd_X10_starAt⟩ rfl ⟨⟨(Nat.le_of_ble_eq_true rfl), (Nat.le_of_ble_eq_true rfl)⟩, (Nat.le_of_ble_eq_true rfl), (Nat.le_of_ble_eq_true rfl)⟩ rfl (Nat.le_of_ble_eq_true rfl) dX10_string_2 (fun x9 ce9 q9 H1 locsH1 hp hS hzH1 hkH1 hce hcv hcl => hk_out hx9 hlk hQ hS hce hcv hcl (Nat.le_of_ble_eq_true rfl) (Nat.le_of_ble_eq_true rfl) (hpx_1 hW (fun q h1 h2 => hkH1 q h1 h2) (Or.inl ⟨by unfold cd_string; (try dsimp only); rw [if_neg hp.2], hp.1⟩))) (fun v9 H1 locsH1 hp hS hzH1 hkH1 => ?_)
  obtain ⟨hv, hh⟩ := hp
  obtain ⟨hv, c_2⟩ := hv
  subst hv; subst hh
  refine lv_astore_n (lv' := [(3, .ref (gad G 2 (ix p0))), (0, .ref ho), (1, .int p0), (2, .int p1)]) hx hb dX10_string_5 rfl hl (by decide) rfl (fun ls hl => ?_)
  refine lv_iload_n hx hb dX10_string_6 rfl (lv_at hl 3 rfl) ?_
  refine hk_callSx 1 (As := [.int p1]) (rest := []) X K hAE hS hl.1 (c_X10_needPeriod E l hl9 H0 (a9 := p1)) (fun q h => hZn q (Nat.le_trans (Nat.le_refl _) h)) gX10_string_X10_needPeriod rfl hd_X10_needPeriod rfl ⟨⟨(Nat.le_of_ble_eq_true rfl), (Nat.le_of_ble_eq_true rfl)⟩, (Nat.le_of_ble_eq_true rfl), (Nat.le_of_ble_eq_true rfl)⟩ rfl (Nat.le_of_ble_eq_true rfl) dX10_string_7 (fun x9 ce9 q9 H2 locsH2 hp hS hzH2 hkH2 hce hcv hcl => hk_out hx9 hlk hQ hS hce hcv hcl (Nat.le_of_ble_eq_true rfl) (Nat.le_of_ble_eq_true rfl) (hpx_1 hW (fun q h1 h2 => hkH2 q h1 h2) (Or.inr (Or.inl ⟨by unfold cd_string; (try dsimp only); rw [if_pos c_2, if_neg hp.2], hp.1⟩)))) (fun v9 H2 locsH2 hp hS hzH2 hkH2 => ?_)
  obtain ⟨hv, hh⟩ := hp
  obtain ⟨hv, c_7⟩ := hv
  subst hv; subst hh
  refine lv_aload_n hx hb dX10_string_10 rfl (lv_at hl 1 rfl) ?_
  refine lv_aload_n hx hb dX10_string_11 rfl (lv_at hl 0 rfl) ?_
  refine hk_get (ref := "LightcurveHouse$Star") (v := .int (μ 3 (ix p0))) X K (HW.e2 hW (isS_xl c_2 (show cn 1 < 2 ^ 31 by omega))) rfl iX10_string_X7 2 (by decide) (by decide +kernel) (fun _ h => h) rfl dX10_string_12 ?_
  refine lv_aload_n hx hb dX10_string_15 rfl (lv_at hl 0 rfl) ?_
  refine hk_get (ref := "LightcurveHouse$Star") (v := .int (μ 3 (ix p0))) X K (HW.e2 hW (isS_xl c_2 (show cn 1 < 2 ^ 31 by omega))) rfl iX10_string_X7 2 (by decide) (by decide +kernel) (fun _ h => h) rfl dX10_string_16 ?_
  refine hk_callV 2 (As := [.int (μ 3 (ix p0)), .int (μ 3 (ix p0))]) (rest := []) X K hAE hS hl.1 (HW.o hW) rfl (c_X10_gatherCurve E l H0 hW hI9 (e1 := μ 3 (ix p0)) (e2 := μ 3 (ix p0))) (HW.rZ hW (r := 0) (by decide)) gX10_string_X10_gatherCurve rfl ⟨rfl, hd_X10_gatherCurve⟩ rfl ⟨⟨(Nat.le_of_ble_eq_true rfl), (Nat.le_of_ble_eq_true rfl)⟩, (Nat.le_of_ble_eq_true rfl), (Nat.le_of_ble_eq_true rfl)⟩ rfl (Nat.le_of_ble_eq_true rfl) dX10_string_19 (fun v9 H3 locsH3 hp hS hzH3 hkH3 => ?_)
  obtain ⟨hv, ⟨n9, k9, v9, hW, hup, hrl⟩, hszH3⟩ := hp
  subst hv
  have hc : hcur (va_up R.1 0 n9, va_up R.2.1 0 k9, va_up R.2.2.1 0 v9, R.2.2.2) μ (sp_sel μ (μ 3 (ix p0)) (μ 3 (ix p0)) (cn 12)) := ⟨hrl, hup, sp_sel_up _⟩
  rw [sel_one hI9 _ _ (Nat.le_refl _)] at hc
  obtain ⟨R, hW, hc⟩ : ∃ R2 : hR, HW E Z (ho, li, rr, ts) G R2 (cn, sc, μ) H3 ∧ hcur R2 μ (sp_sel μ (μ 3 (ix p0)) (-1) (cn 12)) := ⟨_, hW, hc⟩
  refine lv_aload_n hx hb dX10_string_22 rfl (lv_at hl 1 rfl) ?_
  refine lv_iload_n hx hb dX10_string_23 rfl (lv_at hl 3 rfl) ?_
  refine hk_callV 1 (As := [.int p1]) (rest := []) X K hAE hS hl.1 (HW.o hW) rfl (c_X10_stringLength E l H3 hW hc (P := p1) (hper_pos c_7)) (HW.rZ hW (r := 1) (by decide)) gX10_string_X10_stringLength rfl ⟨rfl, hd_X10_stringLength⟩ rfl ⟨⟨(Nat.le_of_ble_eq_true rfl), (Nat.le_of_ble_eq_true rfl)⟩, (Nat.le_of_ble_eq_true rfl), (Nat.le_of_ble_eq_true rfl)⟩ rfl (Nat.le_of_ble_eq_true rfl) dX10_string_24 (fun v9 H4 locsH4 hp hS hzH4 hkH4 => ?_)
  obtain ⟨hv, ⟨n9, k9, v9, hW⟩, hszH4⟩ := hp
  subst hv
  obtain ⟨R, hW, hc⟩ : ∃ R2 : hR, HW E Z (ho, li, rr, ts) G R2 (cn, sc, μ) H4 ∧ hcur R2 μ (sp_sel μ (μ 3 (ix p0)) (-1) (cn 12)) := ⟨_, hW, hc.other (by decide)⟩
  exact hk_iretx X hr hlk hQ hS (Nat.le_of_ble_eq_true rfl) (Nat.le_of_ble_eq_true rfl) dX10_string_27 (⟨by unfold cd_string; (try dsimp only); rw [if_pos c_2, if_pos c_7], rfl, _, _, hW⟩)

abbrev rmX10_together : Room := { frames := 10, cells := 8, slots := 400, locals := 179 }
theorem iX10_together_X7 : ∀ w ∈ wsX70, w ∈ wsX10_together := by decide +kernel
set_option maxHeartbeats 4000000 in
set_option maxRecDepth 100000 in
theorem c_X10_together (E : hk_E) (l : Launch) (hl9 : l.stackTraces = false) (H0 : Heap) {Z : Nat → Prop} {ho ts : Nat} {li : Nat → Nat} {rr : Nat → Nat → Nat} {G : hG} {R : hR} {cn : Nat → Nat} {sc : Nat → Int32} {μ : Nat → Nat → Int32} (hW : HW E Z (ho, li, rr, ts) G R (cn, sc, μ) H0) (hI : InvF (cn, sc, μ)) (hZn : ∀ q, H0.size ≤ q → Z q) {p0 p1 p2 : Int32}  : hk_X E l yX10_together wsX10_together rmX10_together (Z) [.ref ho, .int p0, .int p1, .int p2] H0 (hpost E Z (ho, li, rr, ts) (cd_together p0 p1 p2 (cn, sc, μ)) (an_together p0 p1 p2 (cn, sc, μ)) (st_together p0 p1 p2 (cn, sc, μ))) (hpx E Z (ho, li, rr, ts) (cd_together p0 p1 p2 (cn, sc, μ)) (cn, sc, μ) [XI, XA]) := by
  refine hk_X.ofW (cc := cX10_together) (maxL := 6) (ret := (some .int)) (by decide +kernel) rfl (Nat.le_of_ble_eq_true rfl) ?_
  intro p e s m args below meth c ls Q hQ X hr hlk hx9 K hs9 hS hl
  obtain ⟨hx, hb, hml, hown, hts⟩ := id X
  have hAE : ∀ q, (Z) q → hk_A E q := hW.2.2.2.2.2.2.2.2.2.2.2.2
  have hl : lv_has ls 6 [(0, .ref ho), (1, .int p0), (2, .int p1), (3, .int p2)] := hl
  have hI9 := hI.1
  have hZA : ∀ q, Z q → hk_A E q := hW.2.2.2.2.2.2.2.2.2.2.2.2
  have hc1 : cn 1 ≤ 12 := hI9.1.1
  have hc8 : cn 8 ≤ 8 := hI9.1.2.1
  have hc12 : cn 12 ≤ 80 := hI9.1.2.2.1
  have hc22 : cn 22 ≤ 8 := hI9.1.2.2.2.1
  have hc29 : cn 29 ≤ 30 := hI9.1.2.2.2.2
  refine lv_aload_n hx hb dX10_together_0 rfl (lv_at hl 0 rfl) ?_
  refine lv_iload_n hx hb dX10_together_1 rfl (lv_at hl 1 rfl) ?_
  refine hk_callVx 1 (As := [.int p0]) (rest := []) X K hAE hS hl.1 (HW.o hW) rfl (c_X10_starAt E l hl9 H0 hW hc1 (i9 := p0)) (fun q h => hZn q (Nat.le_trans (Nat.le_refl _) h)) gX10_together_X10_starAt rfl ⟨rfl, hd_X10_starAt⟩ rfl ⟨⟨(Nat.le_of_ble_eq_true rfl), (Nat.le_of_ble_eq_true rfl)⟩, (Nat.le_of_ble_eq_true rfl), (Nat.le_of_ble_eq_true rfl)⟩ rfl (Nat.le_of_ble_eq_true rfl) dX10_together_2 (fun x9 ce9 q9 H1 locsH1 hp hS hzH1 hkH1 hce hcv hcl => hk_out hx9 hlk hQ hS hce hcv hcl (Nat.le_of_ble_eq_true rfl) (Nat.le_of_ble_eq_true rfl) (hpx_1 hW (fun q h1 h2 => hkH1 q h1 h2) (Or.inl ⟨by unfold cd_together; (try dsimp only); rw [if_neg hp.2], hp.1⟩))) (fun v9 H1 locsH1 hp hS hzH1 hkH1 => ?_)
  obtain ⟨hv, hh⟩ := hp
  obtain ⟨hv, c_2⟩ := hv
  subst hv; subst hh
  refine lv_astore (lv' := [(4, .ref (gad G 2 (ix p0))), (0, .ref ho), (1, .int p0), (2, .int p1), (3, .int p2)]) hx hb dX10_together_5 hl (by decide) rfl (fun ls hl => ?_)
  refine lv_aload_n hx hb dX10_together_7 rfl (lv_at hl 1 rfl) ?_
  refine lv_iload_n hx hb dX10_together_8 rfl (lv_at hl 3 rfl) ?_
  refine hk_callVx 1 (As := [.int p1]) (rest := []) X K hAE hS hl.1 (HW.o hW) rfl (c_X10_starAt E l hl9 H0 hW hc1 (i9 := p1)) (fun q h => hZn q (Nat.le_trans (Nat.le_refl _) h)) gX10_together_X10_starAt rfl ⟨rfl, hd_X10_starAt⟩ rfl ⟨⟨(Nat.le_of_ble_eq_true rfl), (Nat.le_of_ble_eq_true rfl)⟩, (Nat.le_of_ble_eq_true rfl), (Nat.le_of_ble_eq_true rfl)⟩ rfl (Nat.le_of_ble_eq_true rfl) dX10_together_9 (fun x9 ce9 q9 H2 locsH2 hp hS hzH2 hkH2 hce hcv hcl => hk_out hx9 hlk hQ hS hce hcv hcl (Nat.le_of_ble_eq_true rfl) (Nat.le_of_ble_eq_true rfl) (hpx_1 hW (fun q h1 h2 => hkH2 q h1 h2) (Or.inl ⟨by unfold cd_together; (try dsimp only); rw [if_pos c_2, if_neg hp.2], hp.1⟩))) (fun v9 H2 locsH2 hp hS hzH2 hkH2 => ?_)
  obtain ⟨hv, hh⟩ := hp
  obtain ⟨hv, c_9⟩ := hv
  subst hv; subst hh
  refine lv_astore (lv' := [(5, .ref (gad G 2 (ix p1))), (4, .ref (gad G 2 (ix p0))), (0, .ref ho), (1, .int p0), (2, .int p1), (3, .int p2)]) hx hb dX10_together_12 hl (by decide) rfl (fun ls hl => ?_)
  refine lv_iload_n hx hb dX10_together_14 rfl (lv_at hl 5 rfl) ?_
  refine hk_callSx 1 (As := [.int p2]) (rest := []) X K hAE hS hl.1 (c_X10_needPeriod E l hl9 H0 (a9 := p2)) (fun q h => hZn q (Nat.le_trans (Nat.le_refl _) h)) gX10_together_X10_needPeriod rfl hd_X10_needPeriod rfl ⟨⟨(Nat.le_of_ble_eq_true rfl), (Nat.le_of_ble_eq_true rfl)⟩, (Nat.le_of_ble_eq_true rfl), (Nat.le_of_ble_eq_true rfl)⟩ rfl (Nat.le_of_ble_eq_true rfl) dX10_together_15 (fun x9 ce9 q9 H3 locsH3 hp hS hzH3 hkH3 hce hcv hcl => hk_out hx9 hlk hQ hS hce hcv hcl (Nat.le_of_ble_eq_true rfl) (Nat.le_of_ble_eq_true rfl) (hpx_1 hW (fun q h1 h2 => hkH3 q h1 h2) (Or.inr (Or.inl ⟨by unfold cd_together; (try dsimp only); rw [if_pos c_2, if_pos c_9, if_neg hp.2], hp.1⟩)))) (fun v9 H3 locsH3 hp hS hzH3 hkH3 => ?_)
  obtain ⟨hv, hh⟩ := hp
  obtain ⟨hv, c_15⟩ := hv
  subst hv; subst hh
  refine lv_aload_n hx hb dX10_together_18 rfl (lv_at hl 2 rfl) ?_
  refine lv_aload hx hb dX10_together_19 (lv_at hl 1 rfl) ?_
  refine hk_get (ref := "LightcurveHouse$Star") (v := .int (μ 3 (ix p0))) X K (HW.e2 hW (isS_xl c_2 (show cn 1 < 2 ^ 31 by omega))) rfl iX10_together_X7 2 (by decide) (by decide +kernel) (fun _ h => h) rfl dX10_together_21 ?_
  refine lv_aload hx hb dX10_together_24 (lv_at hl 0 rfl) ?_
  refine hk_get (ref := "LightcurveHouse$Star") (v := .int (μ 3 (ix p1))) X K (HW.e2 hW (isS_xl c_9 (show cn 1 < 2 ^ 31 by omega))) rfl iX10_together_X7 2 (by decide) (by decide +kernel) (fun _ h => h) rfl dX10_together_26 ?_
  refine hk_callV 2 (As := [.int (μ 3 (ix p0)), .int (μ 3 (ix p1))]) (rest := []) X K hAE hS hl.1 (HW.o hW) rfl (c_X10_gatherCurve E l H0 hW hI9 (e1 := μ 3 (ix p0)) (e2 := μ 3 (ix p1))) (HW.rZ hW (r := 0) (by decide)) gX10_together_X10_gatherCurve rfl ⟨rfl, hd_X10_gatherCurve⟩ rfl ⟨⟨(Nat.le_of_ble_eq_true rfl), (Nat.le_of_ble_eq_true rfl)⟩, (Nat.le_of_ble_eq_true rfl), (Nat.le_of_ble_eq_true rfl)⟩ rfl (Nat.le_of_ble_eq_true rfl) dX10_together_29 (fun v9 H4 locsH4 hp hS hzH4 hkH4 => ?_)
  obtain ⟨hv, ⟨n9, k9, v9, hW, hup, hrl⟩, hszH4⟩ := hp
  subst hv
  have hc : hcur (va_up R.1 0 n9, va_up R.2.1 0 k9, va_up R.2.2.1 0 v9, R.2.2.2) μ (sp_sel μ (μ 3 (ix p0)) (μ 3 (ix p1)) (cn 12)) := ⟨hrl, hup, sp_sel_up _⟩
  obtain ⟨R, hW, hc⟩ : ∃ R2 : hR, HW E Z (ho, li, rr, ts) G R2 (cn, sc, μ) H4 ∧ hcur R2 μ (sp_sel μ (μ 3 (ix p0)) (μ 3 (ix p1)) (cn 12)) := ⟨_, hW, hc⟩
  refine lv_aload_n hx hb dX10_together_32 rfl (lv_at hl 2 rfl) ?_
  refine lv_iload_n hx hb dX10_together_33 rfl (lv_at hl 5 rfl) ?_
  refine hk_callV 1 (As := [.int p2]) (rest := []) X K hAE hS hl.1 (HW.o hW) rfl (c_X10_stringLength E l H4 hW hc (P := p2) (hper_pos c_15)) (HW.rZ hW (r := 1) (by decide)) gX10_together_X10_stringLength rfl ⟨rfl, hd_X10_stringLength⟩ rfl ⟨⟨(Nat.le_of_ble_eq_true rfl), (Nat.le_of_ble_eq_true rfl)⟩, (Nat.le_of_ble_eq_true rfl), (Nat.le_of_ble_eq_true rfl)⟩ rfl (Nat.le_of_ble_eq_true rfl) dX10_together_34 (fun v9 H5 locsH5 hp hS hzH5 hkH5 => ?_)
  obtain ⟨hv, ⟨n9, k9, v9, hW⟩, hszH5⟩ := hp
  subst hv
  obtain ⟨R, hW, hc⟩ : ∃ R2 : hR, HW E Z (ho, li, rr, ts) G R2 (cn, sc, μ) H5 ∧ hcur R2 μ (sp_sel μ (μ 3 (ix p0)) (μ 3 (ix p1)) (cn 12)) := ⟨_, hW, hc.other (by decide)⟩
  exact hk_iretx X hr hlk hQ hS (Nat.le_of_ble_eq_true rfl) (Nat.le_of_ble_eq_true rfl) dX10_together_37 (⟨by unfold cd_together; (try dsimp only); rw [if_pos c_2, if_pos c_9, if_pos c_15], rfl, _, _, hW⟩)

theorem one_le {n : Nat} (h : 1 ≤ n) (h2 : n < 2000000) : (1 : Int32) ≤ nI n := by
  rw [show (1 : Int32) = nI 1 from rfl]
  exact nI_le h (by omega)
abbrev rmX10_countTrials : Room := { frames := 8, cells := 4, slots := 24, locals := 132 }
set_option maxHeartbeats 4000000 in
set_option maxRecDepth 100000 in
theorem c_X10_countTrials (E : hk_E) (l : Launch) (hl9 : l.stackTraces = false) (H0 : Heap) {fr to st : Int32}  : hk_X E l yX10_countTrials wsX10_countTrials rmX10_countTrials (fun q => H0.size ≤ q) [.int fr, .int to, .int st] H0 (fun z H1 => (z = some (.int (nI (trN fr to st))) ∧ trOK fr to st ∧ (to - fr) / st + 1 ≤ 200) ∧ H0 = H1) (fun x H1 => x = XA ∧ ¬ (trOK fr to st ∧ (to - fr) / st + 1 ≤ 200)) := by
  refine hk_X.ofW (cc := cX10_countTrials) (maxL := 4) (ret := (some .int)) (by decide +kernel) rfl (Nat.le_of_ble_eq_true rfl) ?_
  intro p e s m args below meth c ls Q hQ X hr hlk hx9 K hs9 hS hl
  obtain ⟨hx, hb, hml, hown, hts⟩ := id X
  have hAE : ∀ q, (fun q => H0.size ≤ q) q → hk_A E q := fun q h => Nat.le_trans (by rw [← hs9]; exact K.2.2.2.2.2.2.2) h
  have hl : lv_has ls 4 [(0, .int fr), (1, .int to), (2, .int st)] := hl
  refine lv_iload_n hx hb dX10_countTrials_0 rfl (lv_at hl 0 rfl) ?_
  refine hk_callSx 1 (As := [.int fr]) (rest := []) X K hAE hS hl.1 (c_X10_needPeriod E l hl9 H0 (a9 := fr)) (fun _ h => h) gX10_countTrials_X10_needPeriod rfl hd_X10_needPeriod rfl ⟨⟨(Nat.le_of_ble_eq_true rfl), (Nat.le_of_ble_eq_true rfl)⟩, (Nat.le_of_ble_eq_true rfl), (Nat.le_of_ble_eq_true rfl)⟩ rfl (Nat.le_of_ble_eq_true rfl) dX10_countTrials_1 (fun x9 ce9 q9 H1 locsH1 hp hS hzH1 hkH1 hce hcv hcl => hk_out hx9 hlk hQ hS hce hcv hcl (Nat.le_of_ble_eq_true rfl) (Nat.le_of_ble_eq_true rfl) (⟨hp.1, fun h => hp.2 h.1.1⟩)) (fun v9 H1 locsH1 hp hS hzH1 hkH1 => ?_)
  obtain ⟨hv, hh⟩ := hp
  obtain ⟨hv, c_1⟩ := hv
  subst hv; subst hh
  refine lv_iload_n hx hb dX10_countTrials_4 rfl (lv_at hl 1 rfl) ?_
  refine lv_iload_n hx hb dX10_countTrials_5 rfl (lv_at hl 0 rfl) ?_
  refine lv_ldc hx hb hown (hts (.constant RX10 246 (1000000)) (by decide +kernel)) dX10_countTrials_6 ?_
  refine hk_callSx 3 (As := [.int to, .int fr, .int 1000000]) (rest := []) X K hAE hS hl.1 (c_X10_needRange E l hl9 H0 (a9 := to) (lo := fr) (hi := 1000000)) (fun _ h => h) gX10_countTrials_X10_needRange rfl hd_X10_needRange rfl ⟨⟨(Nat.le_of_ble_eq_true rfl), (Nat.le_of_ble_eq_true rfl)⟩, (Nat.le_of_ble_eq_true rfl), (Nat.le_of_ble_eq_true rfl)⟩ rfl (Nat.le_of_ble_eq_true rfl) dX10_countTrials_8 (fun x9 ce9 q9 H2 locsH2 hp hS hzH2 hkH2 hce hcv hcl => hk_out hx9 hlk hQ hS hce hcv hcl (Nat.le_of_ble_eq_true rfl) (Nat.le_of_ble_eq_true rfl) (⟨hp.1, fun h => hp.2 h.1.2.1⟩)) (fun v9 H2 locsH2 hp hS hzH2 hkH2 => ?_)
  obtain ⟨hv, hh⟩ := hp
  obtain ⟨hv, c_8⟩ := hv
  subst hv; subst hh
  refine lv_iload_n hx hb dX10_countTrials_11 rfl (lv_at hl 2 rfl) ?_
  refine lv_iconst (v := 1) hx hb dX10_countTrials_12 (by decide) ?_
  refine lv_ldc hx hb hown (hts (.constant RX10 246 (1000000)) (by decide +kernel)) dX10_countTrials_13 ?_
  refine hk_callSx 3 (As := [.int st, .int 1, .int 1000000]) (rest := []) X K hAE hS hl.1 (c_X10_needRange E l hl9 H0 (a9 := st) (lo := 1) (hi := 1000000)) (fun _ h => h) gX10_countTrials_X10_needRange rfl hd_X10_needRange rfl ⟨⟨(Nat.le_of_ble_eq_true rfl), (Nat.le_of_ble_eq_true rfl)⟩, (Nat.le_of_ble_eq_true rfl), (Nat.le_of_ble_eq_true rfl)⟩ rfl (Nat.le_of_ble_eq_true rfl) dX10_countTrials_15 (fun x9 ce9 q9 H3 locsH3 hp hS hzH3 hkH3 hce hcv hcl => hk_out hx9 hlk hQ hS hce hcv hcl (Nat.le_of_ble_eq_true rfl) (Nat.le_of_ble_eq_true rfl) (⟨hp.1, fun h => hp.2 h.1.2.2⟩)) (fun v9 H3 locsH3 hp hS hzH3 hkH3 => ?_)
  obtain ⟨hv, hh⟩ := hp
  obtain ⟨hv, c_15⟩ := hv
  subst hv; subst hh
  refine lv_iload_n hx hb dX10_countTrials_18 rfl (lv_at hl 1 rfl) ?_
  refine lv_iload_n hx hb dX10_countTrials_19 rfl (lv_at hl 0 rfl) ?_
  refine lv_isub hx hb dX10_countTrials_20 ?_
  refine lv_iload_n hx hb dX10_countTrials_21 rfl (lv_at hl 2 rfl) ?_
  refine hk_callS 2 (As := [.int (to - fr), .int st]) (rest := []) X K hAE hS hl.1 (c_X10_quotient E l H0 (n := to - fr) (d := st) (Int32.lt_of_lt_of_le (by decide) c_15.1)) (fun _ h => h.elim) gX10_countTrials_X10_quotient rfl hd_X10_quotient rfl ⟨⟨(Nat.le_of_ble_eq_true rfl), (Nat.le_of_ble_eq_true rfl)⟩, (Nat.le_of_ble_eq_true rfl), (Nat.le_of_ble_eq_true rfl)⟩ rfl (Nat.le_of_ble_eq_true rfl) dX10_countTrials_22 (fun v9 H4 locsH4 hp hS hzH4 hkH4 => ?_)
  obtain ⟨hv, hh⟩ := hp
  subst hv; subst hh
  have hty := tr_yes (fr := fr) (to := to) (st := st) ⟨c_1, c_8, c_15⟩
  refine lv_iconst (v := 1) hx hb dX10_countTrials_25 (by decide) ?_
  refine lv_iadd hx hb dX10_countTrials_26 ?_
  refine lv_topi (fun tr9 etr9 => ?_)
  rw [hty.2.2.2.1, hty.1] at etr9
  subst etr9
  refine lv_istore_n (lv' := [(3, .int (nI (trN fr to st))), (0, .int fr), (1, .int to), (2, .int st)]) hx hb dX10_countTrials_27 rfl hl (by decide) rfl (fun ls hl => ?_)
  refine lv_iload_n hx hb dX10_countTrials_28 rfl (lv_at hl 0 rfl) ?_
  refine lv_iconst (v := 1) hx hb dX10_countTrials_29 (by decide) ?_
  refine lv_sipush (v := 200) hx hb dX10_countTrials_30 (by decide) ?_
  refine hk_callSx 3 (As := [.int (nI (trN fr to st)), .int 1, .int 200]) (rest := []) X K hAE hS hl.1 (c_X10_needRange E l hl9 H0 (a9 := nI (trN fr to st)) (lo := 1) (hi := 200)) (fun _ h => h) gX10_countTrials_X10_needRange rfl hd_X10_needRange rfl ⟨⟨(Nat.le_of_ble_eq_true rfl), (Nat.le_of_ble_eq_true rfl)⟩, (Nat.le_of_ble_eq_true rfl), (Nat.le_of_ble_eq_true rfl)⟩ rfl (Nat.le_of_ble_eq_true rfl) dX10_countTrials_33 (fun x9 ce9 q9 H5 locsH5 hp hS hzH5 hkH5 hce hcv hcl => hk_out hx9 hlk hQ hS hce hcv hcl (Nat.le_of_ble_eq_true rfl) (Nat.le_of_ble_eq_true rfl) (⟨hp.1, fun h => hp.2 ⟨one_le hty.2.1 hty.2.2.1, by rw [← hty.1]; exact h.2⟩⟩)) (fun v9 H5 locsH5 hp hS hzH5 hkH5 => ?_)
  obtain ⟨hv, hh⟩ := hp
  obtain ⟨hv, c_33⟩ := hv
  subst hv; subst hh
  refine lv_iload_n hx hb dX10_countTrials_36 rfl (lv_at hl 0 rfl) ?_
  exact hk_iretx X hr hlk hQ hS (Nat.le_of_ble_eq_true rfl) (Nat.le_of_ble_eq_true rfl) dX10_countTrials_37 (⟨⟨rfl, ⟨c_1, c_8, c_15⟩, by rw [hty.1]; exact c_33.2⟩, rfl⟩)

theorem hkw_X10_gatherCurveForTrials_2_161 : ∀ w ∈ (vx_atS RX10 161 "java/lang/IllegalStateException" ["java/lang/RuntimeException", "java/lang/Exception"]).filter goodWord, w ∈ wsX10_gatherCurveForTrials := by decide +kernel
abbrev rmX10_gatherCurveForTrials : Room := { frames := 10, cells := 1, slots := 6, locals := 179 }
theorem iX10_gatherCurveForTrials_X10 : ∀ w ∈ wsX100, w ∈ wsX10_gatherCurveForTrials := by decide +kernel
set_option maxHeartbeats 4000000 in
set_option maxRecDepth 100000 in
theorem c_X10_gatherCurveForTrials (E : hk_E) (l : Launch) (hl9 : l.stackTraces = false) (H0 : Heap) {Z : Nat → Prop} {ho ts : Nat} {li : Nat → Nat} {rr : Nat → Nat → Nat} {G : hG} {R : hR} {cn : Nat → Nat} {sc : Nat → Int32} {μ : Nat → Nat → Int32} (hW : HW E Z (ho, li, rr, ts) G R (cn, sc, μ) H0) (hI : Inv (cn, sc, μ)) {e9 : Int32}  : hk_X E l yX10_gatherCurveForTrials wsX10_gatherCurveForTrials rmX10_gatherCurveForTrials (fun q => (q = rr 0 0 ∨ q = rr 0 1 ∨ q = rr 0 2) ∨ H0.size ≤ q) [.ref ho, .int e9] H0 (fun z H1 => (z = none ∧ 3 ≤ nI (sp_sel μ e9 (-1) (cn 12)).length) ∧ (∃ R2 : hR, HW E Z (ho, li, rr, ts) G R2 (cn, sc, μ) H1 ∧ hcur R2 μ (sp_sel μ e9 (-1) (cn 12))) ∧ H0.size ≤ H1.size) (fun x H1 => (x = XS ∧ ¬ 3 ≤ nI (sp_sel μ e9 (-1) (cn 12)).length) ∧ (∃ R2 : hR, HW E Z (ho, li, rr, ts) G R2 (cn, sc, μ) H1)) := by
  refine hk_X.ofW (cc := cX10_gatherCurveForTrials) (maxL := 2) (ret := none) (by decide +kernel) rfl (Nat.le_of_ble_eq_true rfl) ?_
  intro p e s m args below meth c ls Q hQ X hr hlk hx9 K hs9 hS hl
  obtain ⟨hx, hb, hml, hown, hts⟩ := id X
  have hAE : ∀ q, (fun q => (q = rr 0 0 ∨ q = rr 0 1 ∨ q = rr 0 2) ∨ H0.size ≤ q) q → hk_A E q := fun q h => h.elim (fun h => by rcases h with h | h | h <;> rw [h]; exact (HW.rx hW 0 (by decide)).1.1; exact (HW.rx hW 0 (by decide)).1.2.1; exact (HW.rx hW 0 (by decide)).1.2.2) (fun h => Nat.le_trans (by rw [← hs9]; exact K.2.2.2.2.2.2.2) h)
  have hl : lv_has ls 2 [(0, .ref ho), (1, .int e9)] := hl
  have hc1 : cn 1 ≤ 12 := hI.1.1
  have hc8 : cn 8 ≤ 8 := hI.1.2.1
  have hc12 : cn 12 ≤ 80 := hI.1.2.2.1
  have hc22 : cn 22 ≤ 8 := hI.1.2.2.2.1
  have hc29 : cn 29 ≤ 30 := hI.1.2.2.2.2
  have hI9 := hI
  refine lv_aload_n hx hb dX10_gatherCurveForTrials_0 rfl (lv_at hl 0 rfl) ?_
  refine lv_iload_n hx hb dX10_gatherCurveForTrials_1 rfl (lv_at hl 1 rfl) ?_
  refine lv_iload_n hx hb dX10_gatherCurveForTrials_2 rfl (lv_at hl 1 rfl) ?_
  refine hk_callV 2 (As := [.int e9, .int e9]) (rest := []) X K hAE hS hl.1 (HW.o hW) rfl (c_X10_gatherCurve E l H0 hW hI9 (e1 := e9) (e2 := e9)) (fun q h => Or.inl h) gX10_gatherCurveForTrials_X10_gatherCurve rfl ⟨rfl, hd_X10_gatherCurve⟩ rfl ⟨⟨(Nat.le_of_ble_eq_true rfl), (Nat.le_of_ble_eq_true rfl)⟩, (Nat.le_of_ble_eq_true rfl), (Nat.le_of_ble_eq_true rfl)⟩ rfl (Nat.le_of_ble_eq_true rfl) dX10_gatherCurveForTrials_3 (fun v9 H1 locsH1 hp hS hzH1 hkH1 => ?_)
  obtain ⟨hv, ⟨n9, k9, v9, hW, hup, hrl⟩, hszH1⟩ := hp
  subst hv
  have hc : hcur (va_up R.1 0 n9, va_up R.2.1 0 k9, va_up R.2.2.1 0 v9, R.2.2.2) μ (sp_sel μ e9 e9 (cn 12)) := ⟨hrl, hup, sp_sel_up _⟩
  rw [sel_one hI9 _ _ (Nat.le_refl _)] at hc
  obtain ⟨R, hW, hc⟩ : ∃ R2 : hR, HW E Z (ho, li, rr, ts) G R2 (cn, sc, μ) H1 ∧ hcur R2 μ (sp_sel μ e9 (-1) (cn 12)) := ⟨_, hW, hc⟩
  refine lv_aload_n hx hb dX10_gatherCurveForTrials_6 rfl (lv_at hl 0 rfl) ?_
  refine hk_get (ref := "LightcurveHouse") (v := .ref (rr 0 0)) X K (HW.o hW) rfl iX10_gatherCurveForTrials_X10 8 (by decide) (by decide +kernel) (fun _ h => h) rfl dX10_gatherCurveForTrials_7 ?_
  refine hk_callV 0 (As := []) (rest := []) X K hAE hS hl.1 (HW.r0 hW).1.1 rfl (c_X5_size E l H1 (HW.r0 hW).1) (fun _ h => h.elim) gX10_gatherCurveForTrials_X5_size rfl ⟨rfl, hd_X5_size⟩ rfl ⟨⟨(Nat.le_of_ble_eq_true rfl), (Nat.le_of_ble_eq_true rfl)⟩, (Nat.le_of_ble_eq_true rfl), (Nat.le_of_ble_eq_true rfl)⟩ rfl (Nat.le_of_ble_eq_true rfl) dX10_gatherCurveForTrials_10 (fun v9 H2 locsH2 hp hS hzH2 hkH2 => ?_)
  obtain ⟨hv, hh⟩ := hp
  rw [hc.len] at hv
  subst hv; subst hh
  refine lv_iconst (v := 3) hx hb dX10_gatherCurveForTrials_13 (by decide) ?_
  refine lv_icmp_ge (tgt := 28) hx hb dX10_gatherCurveForTrials_14 (by decide) (fun c_14 => ?_) (fun c_14 => ?_)
  · exact hk_vretx X hr hlk hQ hS (Nat.le_of_ble_eq_true rfl) (Nat.le_of_ble_eq_true rfl) dX10_gatherCurveForTrials_28 (⟨⟨rfl, c_14⟩, ⟨R, hW, hc⟩, (Nat.le_of_eq hszH1.symm)⟩)
  · exact hk_throwW (text := "the entry has too few looks") X rfl K hl9 hx9 hlk hQ hS hAE (by decide) (by decide +kernel) (by decide +kernel) (by decide +kernel) hkw_X10_gatherCurveForTrials_2_161 hkb_2 (by decide +kernel) hkg_2_161 hl.1 dX10_gatherCurveForTrials_17 dX10_gatherCurveForTrials_20 dX10_gatherCurveForTrials_21 dX10_gatherCurveForTrials_24 dX10_gatherCurveForTrials_27 (Nat.le_of_ble_eq_true rfl) (Nat.le_of_ble_eq_true rfl) (Nat.le_of_ble_eq_true rfl) (Nat.le_of_ble_eq_true rfl) (fun H9 hz9 hq9 => ⟨⟨rfl, c_14⟩, R, hW.kept (fun q h1 _ => hq9 q h1)⟩) (Nat.le_of_ble_eq_true rfl) (Nat.le_of_ble_eq_true rfl)

