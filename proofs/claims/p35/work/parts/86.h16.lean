theorem hcur_mn {R : hR} {μ : Nat → Nat → Int32} {L : List Nat} (hc : hcur R μ L) : qd (sp_sm (R.2.2.1 0) (R.1 0)) (nI (R.1 0)) = sp_mn μ L := by
  unfold sp_mn
  rw [hc.len, mean_eq (t := sp_time μ) (l := sp_light μ) (L := L) (v := R.2.2.1 0) (fun i hi => (hc.1.2 i (by rw [sSort_len]; exact hi)).2)]
abbrev rmX10_meanOfCurve : Room := { frames := 2, cells := 0, slots := 0, locals := 43 }
theorem iX10_meanOfCurve_X10 : ∀ w ∈ wsX100, w ∈ wsX10_meanOfCurve := by decide +kernel
set_option maxHeartbeats 4000000 in
set_option maxRecDepth 100000 in
theorem c_X10_meanOfCurve (E : hk_E) (l : Launch) (H0 : Heap) {Z : Nat → Prop} {ho ts : Nat} {li : Nat → Nat} {rr : Nat → Nat → Nat} {G : hG} {R : hR} {cn : Nat → Nat} {sc : Nat → Int32} {μ : Nat → Nat → Int32} (hW : HW E Z (ho, li, rr, ts) G R (cn, sc, μ) H0) {L : List Nat} (hc : hcur R μ L) (hLp : 0 < L.length)  : hk_M E l yX10_meanOfCurve wsX10_meanOfCurve rmX10_meanOfCurve (fun _ => False) [.ref ho] H0 (fun z H1 => z = some (.int (sp_mn μ L)) ∧ H0 = H1) := by
  refine hk_M.ofW (cc := cX10_meanOfCurve) (maxL := 3) (ret := (some .int)) (by decide +kernel) rfl (Nat.le_of_ble_eq_true rfl) ?_
  intro p e s m args below meth c ls Q hQ X hr hlk hnm K hs9 hS hl
  obtain ⟨hx, hb, hml, hown, hts⟩ := id X
  have hAE : ∀ q, (fun _ => False) q → hk_A E q := fun _ h => h.elim
  have hl : lv_has ls 3 [(0, .ref ho)] := hl
  have hR0 : R.1 0 ≤ 80 := (HW.r0 hW).2
  refine lv_iconst (v := 0) hx hb dX10_meanOfCurve_0 (by decide) ?_
  refine lv_istore_n (lv' := [(1, .int 0), (0, .ref ho)]) hx hb dX10_meanOfCurve_1 rfl hl (by decide) rfl (fun ls hl => ?_)
  refine lv_iconst (v := 0) hx hb dX10_meanOfCurve_2 (by decide) ?_
  refine lv_topi (fun z_1 ez_1 => ?_)
  have ez_1 : z_1 = nI 0 := ez_1
  subst ez_1
  refine lv_istore_n (lv' := [(2, .int (nI 0)), (1, .int 0), (0, .ref ho)]) hx hb dX10_meanOfCurve_3 rfl hl (by decide) rfl (fun ls hl => ?_)
  have L4 : ∀ (n8 : Nat) (k : Nat) (s8 : Int32) (locs : List Loc), R.1 0 + 1 ≤ k + n8 → (va_S (fun _ => False) s.heap H0 locs ∧ k ≤ R.1 0 ∧ s8 = sp_sm (R.2.2.1 0) k) → ∀ (ls : Array Slot), lv_has ls 3 [(2, .int (nI k)), (1, .int s8), (0, .ref ho)] → W p l e rmX10_meanOfCurve s m args below meth c H0 locs 0 0 Q (F0 m 4 ls []) := by
    intro n8
    induction n8 with
    | zero =>
      intro k s8 locs hm hinv ls hl
      obtain ⟨hS, hinv⟩ := hinv
      obtain ⟨hi1, hs8⟩ := hinv
      exact absurd hm (by omega)
    | succ n8 ih =>
      intro k s8 locs hm hinv ls hl
      obtain ⟨hS, hinv⟩ := hinv
      obtain ⟨hi1, hs8⟩ := hinv
      refine lv_iload_n hx hb dX10_meanOfCurve_4 rfl (lv_at hl 0 rfl) ?_
      refine lv_aload_n hx hb dX10_meanOfCurve_5 rfl (lv_at hl 2 rfl) ?_
      refine hk_get (ref := "LightcurveHouse") (v := .ref (rr 0 0)) X K (HW.o hW) rfl iX10_meanOfCurve_X10 8 (by decide) (by decide +kernel) (fun _ h => h) rfl dX10_meanOfCurve_6 ?_
      refine hk_callV 0 (As := []) (rest := [.int (nI k)]) X K hAE hS hl.1 (HW.r0 hW).1.1 rfl (c_X5_size E l H0 (HW.r0 hW).1) (fun _ h => h.elim) gX10_meanOfCurve_X5_size rfl ⟨rfl, hd_X5_size⟩ rfl ⟨⟨(Nat.le_of_ble_eq_true rfl), (Nat.le_of_ble_eq_true rfl)⟩, (Nat.le_of_ble_eq_true rfl), (Nat.le_of_ble_eq_true rfl)⟩ rfl (Nat.le_of_ble_eq_true rfl) dX10_meanOfCurve_9 (fun v9 H2 locsH2 hp hS hzH2 hkH2 => ?_)
      obtain ⟨hv, hh⟩ := hp
      subst hv; subst hh
      refine lv_icmp_ge (tgt := 32) hx hb dX10_meanOfCurve_12 (by decide) (fun c_12 => ?_) (fun c_12 => ?_)
      · have hk : R.1 0 ≤ k := (nI_leI (by omega) (by omega)).mp c_12
        refine lv_iload_n hx hb dX10_meanOfCurve_32 rfl (lv_at hl 1 rfl) ?_
        refine lv_aload_n hx hb dX10_meanOfCurve_33 rfl (lv_at hl 2 rfl) ?_
        refine hk_get (ref := "LightcurveHouse") (v := .ref (rr 0 0)) X K (HW.o hW) rfl iX10_meanOfCurve_X10 8 (by decide) (by decide +kernel) (fun _ h => h) rfl dX10_meanOfCurve_34 ?_
        refine hk_callV 0 (As := []) (rest := [.int s8]) X K hAE hS hl.1 (HW.r0 hW).1.1 rfl (c_X5_size E l H0 (HW.r0 hW).1) (fun _ h => h.elim) gX10_meanOfCurve_X5_size rfl ⟨rfl, hd_X5_size⟩ rfl ⟨⟨(Nat.le_of_ble_eq_true rfl), (Nat.le_of_ble_eq_true rfl)⟩, (Nat.le_of_ble_eq_true rfl), (Nat.le_of_ble_eq_true rfl)⟩ rfl (Nat.le_of_ble_eq_true rfl) dX10_meanOfCurve_37 (fun v9 H3 locsH3 hp hS hzH3 hkH3 => ?_)
        obtain ⟨hv, hh⟩ := hp
        subst hv; subst hh
        refine hk_callS 2 (As := [.int s8, .int (nI (R.1 0))]) (rest := []) X K hAE hS hl.1 (c_X10_quotient E l H0 (n := s8) (d := nI (R.1 0)) (by rw [show (0 : Int32) = nI 0 from rfl]; exact nI_lt (by rw [hc.len]; exact hLp) (by omega))) (fun _ h => h.elim) gX10_meanOfCurve_X10_quotient rfl hd_X10_quotient rfl ⟨⟨(Nat.le_of_ble_eq_true rfl), (Nat.le_of_ble_eq_true rfl)⟩, (Nat.le_of_ble_eq_true rfl), (Nat.le_of_ble_eq_true rfl)⟩ rfl (Nat.le_of_ble_eq_true rfl) dX10_meanOfCurve_40 (fun v9 H4 locsH4 hp hS hzH4 hkH4 => ?_)
        obtain ⟨hv, hh⟩ := hp
        subst hv; subst hh
        exact hk_iret X hr hlk hQ hS (Nat.le_of_ble_eq_true rfl) (Nat.le_of_ble_eq_true rfl) dX10_meanOfCurve_43 (⟨by rw [← hcur_mn hc, hs8, show k = R.1 0 by omega], rfl⟩)
      · have hk : k < R.1 0 := Nat.lt_of_not_le (fun h => c_12 (nI_le h (by omega)))
        refine lv_iload_n hx hb dX10_meanOfCurve_15 rfl (lv_at hl 1 rfl) ?_
        refine lv_aload_n hx hb dX10_meanOfCurve_16 rfl (lv_at hl 2 rfl) ?_
        refine hk_get (ref := "LightcurveHouse") (v := .ref (rr 0 0)) X K (HW.o hW) rfl iX10_meanOfCurve_X10 8 (by decide) (by decide +kernel) (fun _ h => h) rfl dX10_meanOfCurve_17 ?_
        refine lv_iload_n hx hb dX10_meanOfCurve_20 rfl (lv_at hl 0 rfl) ?_
        refine hk_callV 1 (As := [.int (nI k)]) (rest := [.int s8]) X K hAE hS hl.1 (HW.r0 hW).1.1 rfl (c_X5_value E l H0 (HW.r0 hW).1 (HW.r0 hW).2 (by decide) (nI k)) (fun _ h => h.elim) gX10_meanOfCurve_X5_value rfl ⟨rfl, hd_X5_value⟩ rfl ⟨⟨(Nat.le_of_ble_eq_true rfl), (Nat.le_of_ble_eq_true rfl)⟩, (Nat.le_of_ble_eq_true rfl), (Nat.le_of_ble_eq_true rfl)⟩ rfl (Nat.le_of_ble_eq_true rfl) dX10_meanOfCurve_21 (fun v9 H5 locsH5 hp hS hzH5 hkH5 => ?_)
        obtain ⟨hv, hh⟩ := hp
        rw [row_get_in (show k < R.1 0 by omega) (by omega)] at hv
        subst hv; subst hh
        refine lv_iadd hx hb dX10_meanOfCurve_24 ?_
        refine lv_topi (fun s9 es9 => ?_)
        refine lv_istore_n (lv' := [(1, .int s9), (2, .int (nI k)), (0, .ref ho)]) hx hb dX10_meanOfCurve_25 rfl hl (by decide) rfl (fun ls hl => ?_)
        obtain ⟨q26, eq26⟩ : ∃ y : Int32, y = (nI k) + 1 := ⟨_, rfl⟩
        refine lv_iinc (v := q26) (lv' := [(2, .int q26), (1, .int s9), (0, .ref ho)]) hx hb dX10_meanOfCurve_26 hl (k := 1) rfl (by rw [eq26]; rfl) (by decide) rfl (fun ls hl => ?_)
        rw [nI_1] at eq26
        subst eq26
        refine lv_goto (tgt := 4) hx hb dX10_meanOfCurve_29 (by decide) ?_
        exact ih (k + 1) s9 _ (by omega) ⟨hS, by omega, by rw [es9, hs8, sp_sm]⟩ _ (lv_sub hl [0, 1, 2] rfl)
  exact L4 (R.1 0 + 1) 0 0 _ (by omega) ⟨hS, Nat.zero_le _, rfl⟩ _ (lv_sub hl [0, 1, 2] rfl)

theorem hd_X10_meanOfCurve : yX10_meanOfCurve.cls ≠ "java/lang/invoke/MethodHandle" ∧ yX10_meanOfCurve.cls ≠ "java/lang/invoke/VarHandle" ∧ (parseMethodDescriptor yX10_meanOfCurve.desc).map (fun d => d.parameters.length) = some 0 := ⟨by decide, by decide, by decide +kernel⟩
theorem hkw_X10_mean_2_161 : ∀ w ∈ (vx_atS RX10 161 "java/lang/IllegalStateException" ["java/lang/RuntimeException", "java/lang/Exception"]).filter goodWord, w ∈ wsX10_mean := by decide +kernel
abbrev rmX10_mean : Room := { frames := 10, cells := 8, slots := 400, locals := 179 }
theorem iX10_mean_X10 : ∀ w ∈ wsX100, w ∈ wsX10_mean := by decide +kernel
theorem iX10_mean_X7 : ∀ w ∈ wsX70, w ∈ wsX10_mean := by decide +kernel
set_option maxHeartbeats 4000000 in
set_option maxRecDepth 100000 in
theorem c_X10_mean (E : hk_E) (l : Launch) (hl9 : l.stackTraces = false) (H0 : Heap) {Z : Nat → Prop} {ho ts : Nat} {li : Nat → Nat} {rr : Nat → Nat → Nat} {G : hG} {R : hR} {cn : Nat → Nat} {sc : Nat → Int32} {μ : Nat → Nat → Int32} (hW : HW E Z (ho, li, rr, ts) G R (cn, sc, μ) H0) (hI : InvF (cn, sc, μ)) (hZn : ∀ q, H0.size ≤ q → Z q) {p0 : Int32}  : hk_X E l yX10_mean wsX10_mean rmX10_mean (Z) [.ref ho, .int p0] H0 (hpost E Z (ho, li, rr, ts) (cd_mean p0 (cn, sc, μ)) (an_mean p0 (cn, sc, μ)) (st_mean p0 (cn, sc, μ))) (hpx E Z (ho, li, rr, ts) (cd_mean p0 (cn, sc, μ)) (cn, sc, μ) [XI, XS]) := by
  refine hk_X.ofW (cc := cX10_mean) (maxL := 3) (ret := (some .int)) (by decide +kernel) rfl (Nat.le_of_ble_eq_true rfl) ?_
  intro p e s m args below meth c ls Q hQ X hr hlk hx9 K hs9 hS hl
  obtain ⟨hx, hb, hml, hown, hts⟩ := id X
  have hAE : ∀ q, (Z) q → hk_A E q := hW.2.2.2.2.2.2.2.2.2.2.2.2
  have hl : lv_has ls 3 [(0, .ref ho), (1, .int p0)] := hl
  have hI9 := hI.1
  have hZA : ∀ q, Z q → hk_A E q := hW.2.2.2.2.2.2.2.2.2.2.2.2
  have hc1 : cn 1 ≤ 12 := hI9.1.1
  have hc8 : cn 8 ≤ 8 := hI9.1.2.1
  have hc12 : cn 12 ≤ 80 := hI9.1.2.2.1
  have hc22 : cn 22 ≤ 8 := hI9.1.2.2.2.1
  have hc29 : cn 29 ≤ 30 := hI9.1.2.2.2.2
  refine lv_aload_n hx hb dX10_mean_0 rfl (lv_at hl 0 rfl) ?_
  refine lv_iload_n hx hb dX10_mean_1 rfl (lv_at hl 1 rfl) ?_
  refine hk_callVx 1 (As := [.int p0]) (rest := []) X K hAE hS hl.1 (HW.o hW) rfl (c_X10_starAt E l hl9 H0 hW hc1 (i9 := p0)) (fun q h => hZn q (Nat.le_trans (Nat.le_refl _) h)) gX10_mean_X10_starAt rfl ⟨rfl, hd_X10_starAt⟩ rfl ⟨⟨(Nat.le_of_ble_eq_true rfl), (Nat.le_of_ble_eq_true rfl)⟩, (Nat.le_of_ble_eq_true rfl), (Nat.le_of_ble_eq_true rfl)⟩ rfl (Nat.le_of_ble_eq_true rfl) dX10_mean_2 (fun x9 ce9 q9 H1 locsH1 hp hS hzH1 hkH1 hce hcv hcl => hk_out hx9 hlk hQ hS hce hcv hcl (Nat.le_of_ble_eq_true rfl) (Nat.le_of_ble_eq_true rfl) (hpx_1 hW (fun q h1 h2 => hkH1 q h1 h2) (Or.inl ⟨by unfold cd_mean; (try dsimp only); rw [if_neg hp.2], hp.1⟩))) (fun v9 H1 locsH1 hp hS hzH1 hkH1 => ?_)
  obtain ⟨hv, hh⟩ := hp
  obtain ⟨hv, c_2⟩ := hv
  subst hv; subst hh
  refine lv_astore_n (lv' := [(2, .ref (gad G 2 (ix p0))), (0, .ref ho), (1, .int p0)]) hx hb dX10_mean_5 rfl hl (by decide) rfl (fun ls hl => ?_)
  refine lv_aload_n hx hb dX10_mean_6 rfl (lv_at hl 1 rfl) ?_
  refine lv_aload_n hx hb dX10_mean_7 rfl (lv_at hl 0 rfl) ?_
  refine hk_get (ref := "LightcurveHouse$Star") (v := .int (μ 3 (ix p0))) X K (HW.e2 hW (isS_xl c_2 (show cn 1 < 2 ^ 31 by omega))) rfl iX10_mean_X7 2 (by decide) (by decide +kernel) (fun _ h => h) rfl dX10_mean_8 ?_
  refine lv_aload_n hx hb dX10_mean_11 rfl (lv_at hl 0 rfl) ?_
  refine hk_get (ref := "LightcurveHouse$Star") (v := .int (μ 3 (ix p0))) X K (HW.e2 hW (isS_xl c_2 (show cn 1 < 2 ^ 31 by omega))) rfl iX10_mean_X7 2 (by decide) (by decide +kernel) (fun _ h => h) rfl dX10_mean_12 ?_
  refine hk_callV 2 (As := [.int (μ 3 (ix p0)), .int (μ 3 (ix p0))]) (rest := []) X K hAE hS hl.1 (HW.o hW) rfl (c_X10_gatherCurve E l H0 hW hI9 (e1 := μ 3 (ix p0)) (e2 := μ 3 (ix p0))) (HW.rZ hW (r := 0) (by decide)) gX10_mean_X10_gatherCurve rfl ⟨rfl, hd_X10_gatherCurve⟩ rfl ⟨⟨(Nat.le_of_ble_eq_true rfl), (Nat.le_of_ble_eq_true rfl)⟩, (Nat.le_of_ble_eq_true rfl), (Nat.le_of_ble_eq_true rfl)⟩ rfl (Nat.le_of_ble_eq_true rfl) dX10_mean_15 (fun v9 H2 locsH2 hp hS hzH2 hkH2 => ?_)
  obtain ⟨hv, ⟨n9, k9, v9, hW, hup, hrl⟩, hszH2⟩ := hp
  subst hv
  rw [sel_one hI9 _ _ (Nat.le_refl _)] at hrl
  obtain ⟨R, hW, hc⟩ : ∃ R2 : hR, HW E Z (ho, li, rr, ts) G R2 (cn, sc, μ) H2 ∧ hcur R2 μ (selS (cn, sc, μ) (μ 3 (ix p0))) := ⟨_, hW, ⟨hrl, hup, sp_sel_up _⟩⟩
  refine lv_aload_n hx hb dX10_mean_18 rfl (lv_at hl 1 rfl) ?_
  refine hk_get (ref := "LightcurveHouse") (v := .ref (rr 0 0)) X K (HW.o hW) rfl iX10_mean_X10 8 (by decide) (by decide +kernel) (fun _ h => h) rfl dX10_mean_19 ?_
  refine hk_callV 0 (As := []) (rest := []) X K hAE hS hl.1 (HW.r0 hW).1.1 rfl (c_X5_size E l H2 (HW.r0 hW).1) (fun _ h => h.elim) gX10_mean_X5_size rfl ⟨rfl, hd_X5_size⟩ rfl ⟨⟨(Nat.le_of_ble_eq_true rfl), (Nat.le_of_ble_eq_true rfl)⟩, (Nat.le_of_ble_eq_true rfl), (Nat.le_of_ble_eq_true rfl)⟩ rfl (Nat.le_of_ble_eq_true rfl) dX10_mean_22 (fun v9 H3 locsH3 hp hS hzH3 hkH3 => ?_)
  obtain ⟨hv, hh⟩ := hp
  rw [hc.len] at hv
  subst hv; subst hh
  refine lv_if_ne (tgt := 39) hx hb dX10_mean_25 (by decide) (fun c_25 => ?_) (fun c_25 => ?_)
  · have hLp9 : 0 < (selS (cn, sc, μ) (μ 3 (ix p0))).length := Nat.pos_of_ne_zero (fun g => c_25 (by rw [g]; rfl))
    refine lv_aload_n hx hb dX10_mean_39 rfl (lv_at hl 1 rfl) ?_
    refine hk_callV 0 (As := []) (rest := []) X K hAE hS hl.1 (HW.o hW) rfl (c_X10_meanOfCurve E l H2 hW hc hLp9) (fun _ h => h.elim) gX10_mean_X10_meanOfCurve rfl ⟨rfl, hd_X10_meanOfCurve⟩ rfl ⟨⟨(Nat.le_of_ble_eq_true rfl), (Nat.le_of_ble_eq_true rfl)⟩, (Nat.le_of_ble_eq_true rfl), (Nat.le_of_ble_eq_true rfl)⟩ rfl (Nat.le_of_ble_eq_true rfl) dX10_mean_40 (fun v9 H4 locsH4 hp hS hzH4 hkH4 => ?_)
    obtain ⟨hv, hh⟩ := hp
    subst hv; subst hh
    exact hk_iretx X hr hlk hQ hS (Nat.le_of_ble_eq_true rfl) (Nat.le_of_ble_eq_true rfl) dX10_mean_43 (⟨by unfold cd_mean; (try dsimp only); rw [if_pos c_2, if_neg c_25], rfl, _, _, hW⟩)
  · exact hk_throwW (text := "the entry has no look") X rfl K hl9 hx9 hlk hQ hS hAE (by decide) (by decide +kernel) (by decide +kernel) (by decide +kernel) hkw_X10_mean_2_161 hkb_2 (by decide +kernel) hkg_2_161 hl.1 dX10_mean_28 dX10_mean_31 dX10_mean_32 dX10_mean_35 dX10_mean_38 (Nat.le_of_ble_eq_true rfl) (Nat.le_of_ble_eq_true rfl) (Nat.le_of_ble_eq_true rfl) (Nat.le_of_ble_eq_true rfl) (fun H9 hz9 hq9 => hpx_1 hW (fun q h1 _ => hq9 q h1) (Or.inr (Or.inl ⟨by unfold cd_mean; (try dsimp only); rw [if_pos c_2, if_pos c_25], rfl⟩))) (Nat.le_of_ble_eq_true rfl) (Nat.le_of_ble_eq_true rfl)

abbrev rmX10_halvings : Room := { frames := 0, cells := 0, slots := 0, locals := 0 }
set_option maxHeartbeats 4000000 in
set_option maxRecDepth 100000 in
theorem c_X10_halvings (E : hk_E) (l : Launch) (H0 : Heap) {c9 : Nat} (hc9 : c9 < 2 ^ 31)  : hk_M E l yX10_halvings wsX10_halvings rmX10_halvings (fun _ => False) [.int (nI c9)] H0 (fun z H1 => z = some (.int (nI (hlvN 31 c9))) ∧ H0 = H1) := by
  refine hk_M.ofW (cc := cX10_halvings) (maxL := 3) (ret := (some .int)) (by decide +kernel) rfl (Nat.le_of_ble_eq_true rfl) ?_
  intro p e s m args below meth c ls Q hQ X hr hlk hnm K hs9 hS hl
  obtain ⟨hx, hb, hml, hown, hts⟩ := id X
  have hAE : ∀ q, (fun _ => False) q → hk_A E q := fun _ h => h.elim
  have hl : lv_has ls 3 [(0, .int (nI c9))] := hl
  refine lv_iconst (v := 0) hx hb dX10_halvings_0 (by decide) ?_
  refine lv_topi (fun z_1 ez_1 => ?_)
  have ez_1 : z_1 = nI 0 := ez_1
  subst ez_1
  refine lv_istore_n (lv' := [(1, .int (nI 0)), (0, .int (nI c9))]) hx hb dX10_halvings_1 rfl hl (by decide) rfl (fun ls hl => ?_)
  refine lv_iload_n hx hb dX10_halvings_2 rfl (lv_at hl 1 rfl) ?_
  refine lv_istore_n (lv' := [(2, .int (nI c9)), (1, .int (nI 0)), (0, .int (nI c9))]) hx hb dX10_halvings_3 rfl hl (by decide) rfl (fun ls hl => ?_)
  have L4 : ∀ (n8 : Nat) (f9 r9 m9 : Nat) (locs : List Loc), r9 + 1 ≤ n8 → (va_S (fun _ => False) s.heap H0 locs ∧ r9 < 2 ^ f9 ∧ m9 + hlvN f9 r9 = hlvN 31 c9 ∧ r9 ≤ c9) → ∀ (ls : Array Slot), lv_has ls 3 [(2, .int (nI r9)), (1, .int (nI m9)), (0, .int (nI c9))] → W p l e rmX10_halvings s m args below meth c H0 locs 0 0 Q (F0 m 4 ls []) := by
    intro n8
    induction n8 with
    | zero =>
      intro f9 r9 m9 locs hm hinv ls hl
      obtain ⟨hS, hinv⟩ := hinv
      obtain ⟨hr9, hsum, hrc⟩ := hinv
      exact absurd hm (by omega)
    | succ n8 ih =>
      intro f9 r9 m9 locs hm hinv ls hl
      obtain ⟨hS, hinv⟩ := hinv
      obtain ⟨hr9, hsum, hrc⟩ := hinv
      refine lv_iload_n hx hb dX10_halvings_4 rfl (lv_at hl 0 rfl) ?_
      refine lv_iconst (v := 1) hx hb dX10_halvings_5 (by decide) ?_
      refine lv_icmp_le (tgt := 19) hx hb dX10_halvings_6 (by decide) (fun c_6 => ?_) (fun c_6 => ?_)
      · have hr1 : r9 ≤ 1 := (nI_leI (b := 1) (by omega) (by omega)).mp c_6
        refine lv_iload_n hx hb dX10_halvings_19 rfl (lv_at hl 1 rfl) ?_
        exact hk_iret X hr hlk hQ hS (Nat.le_of_ble_eq_true rfl) (Nat.le_of_ble_eq_true rfl) dX10_halvings_20 (⟨by rw [← hsum, hlvN_0 hr1, Nat.add_zero], rfl⟩)
      · have hr1 : ¬ r9 ≤ 1 := fun g => c_6 (nI_le (b := 1) g (by omega))
        obtain ⟨f8, hf7, hf8, hf9⟩ := hlvN_1 hr1 hr9
        obtain ⟨q9, eq9⟩ : ∃ y : Int32, y = (nI m9) + 1 := ⟨_, rfl⟩
        refine lv_iinc (v := q9) (lv' := [(1, .int q9), (2, .int (nI r9)), (0, .int (nI c9))]) hx hb dX10_halvings_9 hl (k := 1) rfl (by rw [eq9]; rfl) (by decide) rfl (fun ls hl => ?_)
        rw [nI_1] at eq9
        subst eq9
        refine lv_iload_n hx hb dX10_halvings_12 rfl (lv_at hl 1 rfl) ?_
        refine lv_iconst (v := 2) hx hb dX10_halvings_13 (by decide) ?_
        refine lv_idiv hx hb dX10_halvings_14 (by decide) ?_
        refine lv_topi (fun r8 er8 => ?_)
        rw [show nI r9 / 2 = nI (r9 / 2) from pk_div (d := 2) (by omega) (by omega) (by omega)] at er8
        subst er8
        refine lv_istore_n (lv' := [(2, .int (nI (r9 / 2))), (1, .int (nI (m9 + 1))), (0, .int (nI c9))]) hx hb dX10_halvings_15 rfl hl (by decide) rfl (fun ls hl => ?_)
        refine lv_goto (tgt := 4) hx hb dX10_halvings_16 (by decide) ?_
        exact ih f8 (r9 / 2) (m9 + 1) _ (by omega) ⟨hS, hf8, by rw [← hsum, hf9]; omega, Nat.le_trans (Nat.div_le_self _ _) hrc⟩ _ (lv_sub hl [0, 1, 2] rfl)
  exact L4 (c9 + 1) 31 c9 0 _ (by omega) ⟨hS, hc9, Nat.zero_add _, Nat.le_refl _⟩ _ (lv_sub hl [0, 1, 2] rfl)

theorem c_halvings2 (E : hk_E) (l : Launch) (H0 : Heap) {cl : Int32} (hcl : 0 < cl) : hk_M E l yX10_halvings wsX10_halvings rmX10_halvings (fun _ => False) [.int cl] H0 (fun z H1 => z = some (.int (nI (sp_hlv cl))) ∧ H0 = H1) := by
  have hix9 : ix cl < 2 ^ 31 := by
    obtain ⟨z, hz, rfl⟩ := nI_of (x := cl) (fun g => absurd (Int32.lt_trans hcl g) (by decide))
    show (nI z).toNatClampNeg < 2 ^ 31
    rw [nI_clamp hz]; exact hz
  have h := c_X10_halvings E l H0 (c9 := ix cl) hix9
  rw [nI_ix (Int32.le_of_lt hcl)] at h
  exact h
theorem hd_X10_halvings : yX10_halvings.cls ≠ "java/lang/invoke/MethodHandle" ∧ yX10_halvings.cls ≠ "java/lang/invoke/VarHandle" ∧ (parseMethodDescriptor yX10_halvings.desc).map (fun d => d.parameters.length) = some 1 := ⟨by decide, by decide, by decide +kernel⟩
abbrev rmX10_modulusOfCurve : Room := { frames := 3, cells := 0, slots := 0, locals := 65 }
theorem iX10_modulusOfCurve_X10 : ∀ w ∈ wsX100, w ∈ wsX10_modulusOfCurve := by decide +kernel
theorem iX10_modulusOfCurve_X7 : ∀ w ∈ wsX70, w ∈ wsX10_modulusOfCurve := by decide +kernel
set_option maxHeartbeats 4000000 in
set_option maxRecDepth 100000 in
theorem c_X10_modulusOfCurve (E : hk_E) (l : Launch) (H0 : Heap) {Z : Nat → Prop} {ho ts : Nat} {li : Nat → Nat} {rr : Nat → Nat → Nat} {G : hG} {R : hR} {cn : Nat → Nat} {sc : Nat → Int32} {μ : Nat → Nat → Int32} (hW : HW E Z (ho, li, rr, ts) G R (cn, sc, μ) H0) {L : List Nat} (hc : hcur R μ L) (hLp : 0 < L.length) {j : Nat} (hj : j < cn 1) {cl : Int32} (hcl : 0 < cl)  : hk_M E l yX10_modulusOfCurve wsX10_modulusOfCurve rmX10_modulusOfCurve (fun _ => False) [.ref ho, .ref (gad G 2 j), .int cl] H0 (fun z H1 => z = some (.int (sp_mn μ L - μ 5 j - sc 32 + 75 * nI (sp_hlv cl))) ∧ H0 = H1) := by
  refine hk_M.ofW (cc := cX10_modulusOfCurve) (maxL := 3) (ret := (some .int)) (by decide +kernel) rfl (Nat.le_of_ble_eq_true rfl) ?_
  intro p e s m args below meth c ls Q hQ X hr hlk hnm K hs9 hS hl
  obtain ⟨hx, hb, hml, hown, hts⟩ := id X
  have hAE : ∀ q, (fun _ => False) q → hk_A E q := fun _ h => h.elim
  have hl : lv_has ls 3 [(0, .ref ho), (1, .ref (gad G 2 j)), (2, .int cl)] := hl
  refine lv_aload_n hx hb dX10_modulusOfCurve_0 rfl (lv_at hl 0 rfl) ?_
  refine hk_callV 0 (As := []) (rest := []) X K hAE hS hl.1 (HW.o hW) rfl (c_X10_meanOfCurve E l H0 hW hc hLp) (fun _ h => h.elim) gX10_modulusOfCurve_X10_meanOfCurve rfl ⟨rfl, hd_X10_meanOfCurve⟩ rfl ⟨⟨(Nat.le_of_ble_eq_true rfl), (Nat.le_of_ble_eq_true rfl)⟩, (Nat.le_of_ble_eq_true rfl), (Nat.le_of_ble_eq_true rfl)⟩ rfl (Nat.le_of_ble_eq_true rfl) dX10_modulusOfCurve_1 (fun v9 H1 locsH1 hp hS hzH1 hkH1 => ?_)
  obtain ⟨hv, hh⟩ := hp
  subst hv; subst hh
  refine lv_aload_n hx hb dX10_modulusOfCurve_4 rfl (lv_at hl 1 rfl) ?_
  refine hk_get (ref := "LightcurveHouse$Star") (v := .int (μ 5 j)) X K (HW.e2 hW hj) rfl iX10_modulusOfCurve_X7 4 (by decide) (by decide +kernel) (fun _ h => h) rfl dX10_modulusOfCurve_5 ?_
  refine lv_isub hx hb dX10_modulusOfCurve_8 ?_
  refine lv_aload_n hx hb dX10_modulusOfCurve_9 rfl (lv_at hl 0 rfl) ?_
  refine hk_get (ref := "LightcurveHouse") (v := .int (sc 32)) X K (HW.o hW) rfl iX10_modulusOfCurve_X10 7 (by decide) (by decide +kernel) (fun _ h => h) rfl dX10_modulusOfCurve_10 ?_
  refine lv_isub hx hb dX10_modulusOfCurve_13 ?_
  refine lv_bipush (v := 75) hx hb dX10_modulusOfCurve_14 (by decide) ?_
  refine lv_iload_n hx hb dX10_modulusOfCurve_16 rfl (lv_at hl 2 rfl) ?_
  refine hk_callS 1 (As := [.int cl]) (rest := [.int 75, .int (((sp_mn μ L) - (μ 5 j)) - (sc 32))]) X K hAE hS hl.1 (c_halvings2 E l H0 hcl) (fun _ h => h.elim) gX10_modulusOfCurve_X10_halvings rfl hd_X10_halvings rfl ⟨⟨(Nat.le_of_ble_eq_true rfl), (Nat.le_of_ble_eq_true rfl)⟩, (Nat.le_of_ble_eq_true rfl), (Nat.le_of_ble_eq_true rfl)⟩ rfl (Nat.le_of_ble_eq_true rfl) dX10_modulusOfCurve_17 (fun v9 H2 locsH2 hp hS hzH2 hkH2 => ?_)
  obtain ⟨hv, hh⟩ := hp
  subst hv; subst hh
  refine lv_imul hx hb dX10_modulusOfCurve_20 ?_
  refine lv_iadd hx hb dX10_modulusOfCurve_21 ?_
  exact hk_iret X hr hlk hQ hS (Nat.le_of_ble_eq_true rfl) (Nat.le_of_ble_eq_true rfl) dX10_modulusOfCurve_22 (⟨rfl, rfl⟩)

theorem ent_e {cn : Nat → Nat} {sc : Nat → Int32} {μ : Nat → Nat → Int32} (hI : Inv (cn, sc, μ)) {j : Nat} (hj : j < cn 1) : ix (μ 3 j) < cn 1 ∧ μ 3 (ix (μ 3 j)) = μ 3 j ∧ isS (cn 1) (μ 3 j) := by
  have h12 : cn 1 ≤ 12 := hI.1.1
  obtain ⟨e, e1, e2, e3⟩ := (entI_of hI).2 j hj
  have ee : ix (μ 3 j) = e := by rw [e2]; exact nI_clamp (by omega)
  refine ⟨by omega, by rw [ee, e3, e2], ?_⟩
  rw [e2]
  exact ⟨nI_pos' (by omega), nI_lt (by omega) (by omega)⟩
theorem hd_X10_modulusOfCurve : yX10_modulusOfCurve.cls ≠ "java/lang/invoke/MethodHandle" ∧ yX10_modulusOfCurve.cls ≠ "java/lang/invoke/VarHandle" ∧ (parseMethodDescriptor yX10_modulusOfCurve.desc).map (fun d => d.parameters.length) = some 2 := ⟨by decide, by decide, by decide +kernel⟩
abbrev rmX10_modulus : Room := { frames := 11, cells := 8, slots := 400, locals := 201 }
theorem iX10_modulus_X7 : ∀ w ∈ wsX70, w ∈ wsX10_modulus := by decide +kernel
set_option maxHeartbeats 4000000 in
set_option maxRecDepth 100000 in
theorem c_X10_modulus (E : hk_E) (l : Launch) (hl9 : l.stackTraces = false) (H0 : Heap) {Z : Nat → Prop} {ho ts : Nat} {li : Nat → Nat} {rr : Nat → Nat → Nat} {G : hG} {R : hR} {cn : Nat → Nat} {sc : Nat → Int32} {μ : Nat → Nat → Int32} (hW : HW E Z (ho, li, rr, ts) G R (cn, sc, μ) H0) (hI : InvF (cn, sc, μ)) (hZn : ∀ q, H0.size ≤ q → Z q) {p0 : Int32}  : hk_X E l yX10_modulus wsX10_modulus rmX10_modulus (Z) [.ref ho, .int p0] H0 (hpost E Z (ho, li, rr, ts) (cd_modulus p0 (cn, sc, μ)) (an_modulus p0 (cn, sc, μ)) (st_modulus p0 (cn, sc, μ))) (hpx E Z (ho, li, rr, ts) (cd_modulus p0 (cn, sc, μ)) (cn, sc, μ) [XI, XS]) := by
  refine hk_X.ofW (cc := cX10_modulus) (maxL := 3) (ret := (some .int)) (by decide +kernel) rfl (Nat.le_of_ble_eq_true rfl) ?_
  intro p e s m args below meth c ls Q hQ X hr hlk hx9 K hs9 hS hl
  obtain ⟨hx, hb, hml, hown, hts⟩ := id X
  have hAE : ∀ q, (Z) q → hk_A E q := hW.2.2.2.2.2.2.2.2.2.2.2.2
  have hl : lv_has ls 3 [(0, .ref ho), (1, .int p0)] := hl
  have hI9 := hI.1
  have hZA : ∀ q, Z q → hk_A E q := hW.2.2.2.2.2.2.2.2.2.2.2.2
  have hc1 : cn 1 ≤ 12 := hI9.1.1
  have hc8 : cn 8 ≤ 8 := hI9.1.2.1
  have hc12 : cn 12 ≤ 80 := hI9.1.2.2.1
  have hc22 : cn 22 ≤ 8 := hI9.1.2.2.2.1
  have hc29 : cn 29 ≤ 30 := hI9.1.2.2.2.2
  refine lv_aload_n hx hb dX10_modulus_0 rfl (lv_at hl 0 rfl) ?_
  refine lv_aload_n hx hb dX10_modulus_1 rfl (lv_at hl 0 rfl) ?_
  refine lv_iload_n hx hb dX10_modulus_2 rfl (lv_at hl 1 rfl) ?_
  refine hk_callVx 1 (As := [.int p0]) (rest := [.ref ho]) X K hAE hS hl.1 (HW.o hW) rfl (c_X10_starAt E l hl9 H0 hW hc1 (i9 := p0)) (fun q h => hZn q h) gX10_modulus_X10_starAt rfl ⟨rfl, hd_X10_starAt⟩ rfl ⟨⟨(Nat.le_of_ble_eq_true rfl), (Nat.le_of_ble_eq_true rfl)⟩, (Nat.le_of_ble_eq_true rfl), (Nat.le_of_ble_eq_true rfl)⟩ rfl (Nat.le_of_ble_eq_true rfl) dX10_modulus_3 (fun x9 ce9 q9 H1 locsH1 hp hS hzH1 hkH1 hce hcv hcl => hk_out hx9 hlk hQ hS hce hcv hcl (Nat.le_of_ble_eq_true rfl) (Nat.le_of_ble_eq_true rfl) (hpx_1 hW (fun q h1 h2 => hkH1 q h1 h2) (Or.inl ⟨by unfold cd_modulus; (try dsimp only); rw [if_neg hp.2], hp.1⟩))) (fun v9 H1 locsH1 hp hS hzH1 hkH1 => ?_)
  obtain ⟨hv, hh⟩ := hp
  obtain ⟨hv, c_3⟩ := hv
  have he9 := ent_e hI9 (isS_xl c_3 (show cn 1 < 2 ^ 31 by omega))
  subst hv; subst hh
  refine hk_get (ref := "LightcurveHouse$Star") (v := .int (μ 3 (ix p0))) X K (HW.e2 hW (isS_xl c_3 (show cn 1 < 2 ^ 31 by omega))) rfl iX10_modulus_X7 2 (by decide) (by decide +kernel) (fun _ h => h) rfl dX10_modulus_6 ?_
  refine hk_callVx 1 (As := [.int (μ 3 (ix p0))]) (rest := []) X K hAE hS hl.1 (HW.o hW) rfl (c_X10_starAt E l hl9 H0 hW hc1 (i9 := μ 3 (ix p0))) (fun q h => hZn q h) gX10_modulus_X10_starAt rfl ⟨rfl, hd_X10_starAt⟩ rfl ⟨⟨(Nat.le_of_ble_eq_true rfl), (Nat.le_of_ble_eq_true rfl)⟩, (Nat.le_of_ble_eq_true rfl), (Nat.le_of_ble_eq_true rfl)⟩ rfl (Nat.le_of_ble_eq_true rfl) dX10_modulus_9 (fun x9 ce9 q9 H2 locsH2 hp hS hzH2 hkH2 hce hcv hcl => hk_out hx9 hlk hQ hS hce hcv hcl (Nat.le_of_ble_eq_true rfl) (Nat.le_of_ble_eq_true rfl) (absurd he9.2.2 hp.2)) (fun v9 H2 locsH2 hp hS hzH2 hkH2 => ?_)
  obtain ⟨hv, hh⟩ := hp
  obtain ⟨hv, c_9⟩ := hv
  subst hv; subst hh
  refine lv_astore_n (lv' := [(2, .ref (gad G 2 (ix (μ 3 (ix p0))))), (0, .ref ho), (1, .int p0)]) hx hb dX10_modulus_12 rfl hl (by decide) rfl (fun ls hl => ?_)
  refine lv_aload_n hx hb dX10_modulus_13 rfl (lv_at hl 1 rfl) ?_
  refine lv_aload_n hx hb dX10_modulus_14 rfl (lv_at hl 0 rfl) ?_
  refine lv_aload_n hx hb dX10_modulus_15 rfl (lv_at hl 1 rfl) ?_
  refine lv_aload_n hx hb dX10_modulus_16 rfl (lv_at hl 0 rfl) ?_
  refine hk_get (ref := "LightcurveHouse$Star") (v := .int (μ 3 (ix (μ 3 (ix p0))))) X K (HW.e2 hW he9.1) rfl iX10_modulus_X7 2 (by decide) (by decide +kernel) (fun _ h => h) rfl dX10_modulus_17 ?_
  rw [he9.2.1]
  refine hk_callVx 1 (As := [.int (μ 3 (ix p0))]) (rest := [.ref (gad G 2 (ix (μ 3 (ix p0)))), .ref ho]) X K hAE hS hl.1 (HW.o hW) rfl (c_X10_gatherClaimedCurve E l hl9 H0 hW hI9 (e9 := μ 3 (ix p0))) (fun q h => h.elim ((HW.rZ hW (r := 0) (by decide)) q) (fun h => hZn q h)) gX10_modulus_X10_gatherClaimedCurve rfl ⟨rfl, hd_X10_gatherClaimedCurve⟩ rfl ⟨⟨(Nat.le_of_ble_eq_true rfl), (Nat.le_of_ble_eq_true rfl)⟩, (Nat.le_of_ble_eq_true rfl), (Nat.le_of_ble_eq_true rfl)⟩ rfl (Nat.le_of_ble_eq_true rfl) dX10_modulus_20 (fun x9 ce9 q9 H3 locsH3 hp hS hzH3 hkH3 hce hcv hcl => hk_out hx9 hlk hQ hS hce hcv hcl (Nat.le_of_ble_eq_true rfl) (Nat.le_of_ble_eq_true rfl) (⟨Or.inr (Or.inl ⟨by unfold cd_modulus; (try dsimp only); rw [if_pos c_3, if_pos hp.1.2], hp.1.1⟩), G, hp.2⟩)) (fun v9 H3 locsH3 hp hS hzH3 hkH3 => ?_)
  obtain ⟨⟨hv, c_hf⟩, ⟨R, hW, hc⟩, hzz⟩ := hp
  subst hv
  have hf9 := (hf_iff hI9 (μ 3 (ix p0))).mp c_hf
  have hcl9 := (clmS_rng hI9 (μ 3 (ix p0))).resolve_left hf9.1
  have hsm9 := sel_sml hI9 (μ 3 (ix p0))
  refine hk_callV 2 (As := [.ref (gad G 2 (ix (μ 3 (ix p0)))), .int (clmS (cn, sc, μ) (μ 3 (ix p0)))]) (rest := []) X K hAE hS hl.1 (HW.o hW) rfl (c_X10_modulusOfCurve E l H3 hW hc hf9.2 he9.1 (hper_pos hcl9)) (fun _ h => h.elim) gX10_modulus_X10_modulusOfCurve rfl ⟨rfl, hd_X10_modulusOfCurve⟩ rfl ⟨⟨(Nat.le_of_ble_eq_true rfl), (Nat.le_of_ble_eq_true rfl)⟩, (Nat.le_of_ble_eq_true rfl), (Nat.le_of_ble_eq_true rfl)⟩ rfl (Nat.le_of_ble_eq_true rfl) dX10_modulus_23 (fun v9 H4 locsH4 hp hS hzH4 hkH4 => ?_)
  obtain ⟨hv, hh⟩ := hp
  subst hv; subst hh
  exact hk_iretx X hr hlk hQ hS (Nat.le_of_ble_eq_true rfl) (Nat.le_of_ble_eq_true rfl) dX10_modulus_26 (⟨by unfold cd_modulus; (try dsimp only); rw [if_pos c_3, if_neg c_hf], rfl, _, _, hW⟩)

