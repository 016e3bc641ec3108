set_option maxHeartbeats 4000000 in
set_option maxRecDepth 100000 in
theorem k_kind {p : Program} {l : Launch} {e : Env} {s : State} {m : MethodId} {below : List Frame} {meth : Method} {c : Code} {b L : Nat} {xs : Nat → Int32} {E : hk_E} {Zh Zm : Nat → Prop} {ho ts mo o9 b4 : Nat} {li am : Nat → Nat} {rr : Nat → Nat → Nat} (G0 : lw_G p l s m meth c b L xs E Zh Zm o9 b4) {H : Heap} {locs : List Loc} {cells slots : Nat} (hJ0 : lw_J E Zh Zm ho ts mo o9 b4 li am rr s H locs) {i : Nat} (hi : i + 8 ≤ L) (hce : cells + 12 ≤ 601024) (hsl : slots + 700 ≤ 7293034) {ls : Array Slot} (hl : lv_has ls 7 [(4, .int (nI i)), (3, .ref o9), (2, .ref mo), (1, .ref ho), (0, .ref b)])
  (J2534 : ∀ (H1 : Heap) (locs1 : List Loc), lw_J E Zh Zm ho ts mo o9 b4 li am rr s H1 locs1 → ∀ (ls : Array Slot), lv_has ls 7 [(4, .int (nI i)), (3, .ref o9), (2, .ref mo), (1, .ref ho), (0, .ref b)] → W p l e room_1 s m #[Value.ref b] below meth c H1 locs1 (cells + 12) (slots + 700) (lw_Z below #[Value.ref b] s) (F0 m 2534 ls [])) : W p l e room_1 s m #[Value.ref b] below meth c H locs cells slots (lw_Z below #[Value.ref b] s) (F0 m 2010 ls []) := by
  obtain ⟨hl9, hLL, C0, X, K, hE, hZn0, hoZ, hoA, hZm⟩ := G0
  obtain ⟨G, R, ⟨cn, sc, μ⟩, ⟨cn1, sc1, μ1⟩, f0, hI, hW, hM, hag, hL, hS, hb4⟩ := hJ0
  obtain ⟨hx, hb, hr, hml, hown, -, hXs, hbl, hlocks, -⟩ := id C0
  have hAE : ∀ q, hk_A E q → hk_A E q := fun _ h => h
  have hZA : ∀ q, Zh q → hk_A E q := hW.2.2.2.2.2.2.2.2.2.2.2.2
  have hAz : ∀ q, (Zh q ∨ q = o9) → hk_A E q := fun q h => h.elim (fun h => hZA q h) (fun h => by rw [h]; exact hoA)
  have hmA : ∀ q, Zm q → hk_A E q := fun q h => (hZm q h).2.2.2
  have hZn : ∀ q, H.size ≤ q → Zh q := fun q h => hZn0 q (Nat.le_trans hb4 h)
  have hbA : ¬ hk_A E b := fun g => absurd hbl (Nat.not_lt.mpr (by rw [← hE]; exact g))
  have hJ : Inv (cn1, sc1, μ1) := inv_agr hI.1 hag
  refine lv_aload_n hx hb dL_law_2010 rfl (lv_at hl 3 rfl) ?_
  refine lv_aload_n hx hb dL_law_2011 rfl (lv_at hl 4 rfl) ?_
  refine lv_iload hx hb dL_law_2012 (lv_at hl 0 rfl) ?_
  refine lv_iconst (v := 1) hx hb dL_law_2014 (by decide) ?_
  refine lv_iadd hx hb dL_law_2015 ?_
  refine lv_topi (fun z_1 ez_1 => ?_)
  have ez_1 : z_1 = nI (i + 1) := ez_1.trans (nI_add i 1)
  subst ez_1
  refine va_sld hx hb hXs hbl hbA hS (vp_in_nI (show i + 1 < L by omega) (by omega)) dL_law_2016 ?_
  rw [show xs (nI (i + 1)).toNatClampNeg = xs (i + 1) from congrArg xs (nI_clamp (by omega))]
  refine lv_aload_n hx hb dL_law_2017 rfl (lv_at hl 1 rfl) ?_
  refine hk_callSxW 3 (As := [.ref ho, .int (xs (i + 1)), .ref o9]) (rest := []) X K hAE hS hl.1 (c_L_kind E l hl9 H hW hI hZn hL hoZ hoA (p0 := xs (i + 1))) hAz gL_law_L_kind rfl hd_L_kind rfl ⟨⟨(Nat.le_of_ble_eq_true rfl), (Nat.le_of_ble_eq_true rfl)⟩, hce, hsl⟩ rfl (Nat.le_of_ble_eq_true rfl) dL_law_2018 (fun _ _ _ _ _ hp _ _ _ _ _ _ => False.elim hp) (fun v9 H1 locs1 hp hS hz1 hk1 => ?_)
  obtain ⟨hz, G1, R1, f1, hW1, hL1, hf1⟩ := hp
  subst hz
  have hM1 := MW.kept hM (fun q hq => hk1 q (Nat.lt_of_lt_of_le (hZm q hq).1 hb4) (fun g => g.elim (hZm q hq).2.1 (hZm q hq).2.2.1))
  refine lv_topi (fun k ek => ?_)
  refine lv_istore (lv' := [(5, .int k), (4, .int (nI i)), (3, .ref o9), (2, .ref mo), (1, .ref ho), (0, .ref b)]) hx hb dL_law_2021 hl (by decide) rfl (fun ls hl => ?_)
  rw [← ek] at hW1 hf1
  have hcT : cd_kind (xs (i + 1)) (cn1, sc1, μ1) = k := (cd_kind_agr hag).symm.trans ek.symm
  obtain ⟨w, ew⟩ : ∃ w : Int32, w = an_kind (xs (i + 1)) (cn, sc, μ) := ⟨_, rfl⟩
  rw [← ew] at hf1
  have haT : an_kind (xs (i + 1)) (cn1, sc1, μ1) = w := (an_kind_agr hag).symm.trans ew.symm
  refine lv_aload_n hx hb dL_law_2023 rfl (lv_at hl 3 rfl) ?_
  refine lv_aload_n hx hb dL_law_2024 rfl (lv_at hl 5 rfl) ?_
  refine lv_iload hx hb dL_law_2025 (lv_at hl 1 rfl) ?_
  refine lv_iconst (v := 1) hx hb dL_law_2027 (by decide) ?_
  refine lv_iadd hx hb dL_law_2028 ?_
  refine lv_topi (fun z_2 ez_2 => ?_)
  have ez_2 : z_2 = nI (i + 1) := ez_2.trans (nI_add i 1)
  subst ez_2
  refine va_sld hx hb hXs hbl hbA hS (vp_in_nI (show i + 1 < L by omega) (by omega)) dL_law_2029 ?_
  rw [show xs (nI (i + 1)).toNatClampNeg = xs (i + 1) from congrArg xs (nI_clamp (by omega))]
  refine hk_callV 1 (As := [.int (xs (i + 1))]) (rest := []) X K hAE hS hl.1 hM1.1 rfl (c_X11_kind E l H1 hM1 hmA hJ (p0 := xs (i + 1))) hmA gL_law_X11_kind rfl ⟨rfl, hd_X11_kind⟩ rfl ⟨⟨(Nat.le_of_ble_eq_true rfl), (Nat.le_of_ble_eq_true rfl)⟩, (by show cells + 12 + 0 ≤ 601024; omega), (by show slots + 700 + 0 ≤ 7293034; omega)⟩ rfl (Nat.le_of_ble_eq_true rfl) dL_law_2030 (fun v9 H2 locs2 hp hS hz2 hk2 => ?_)
  obtain ⟨cn2, sc2, μ2, hM2, h33, hz, ha⟩ := hp
  subst hz
  rw [hcT] at h33 ha
  have hW2 := HW.kept hW1 (fun q h1 h2 => hk2 q h1 (fun g => h2.elim (hZm q g).2.1 (fun h => h (hZm q g).2.2.2)))
  have hL2 : hk_L E o9 1 f1 H2 := (hk2 _ (ar_lt hL1) (fun g => (hZm _ g).2.2.1 rfl)).trans hL1
  have hb9 : b4 ≤ H2.size := Nat.le_trans (Nat.le_trans hb4 hz1) hz2
  rw [hcT, haT]
  refine lv_topi (fun v ev => ?_)
  refine lv_istore (lv' := [(6, .int v), (5, .int k), (4, .int (nI i)), (3, .ref o9), (2, .ref mo), (1, .ref ho), (0, .ref b)]) hx hb dL_law_2033 hl (by decide) rfl (fun ls hl => ?_)
  refine lv_aload_n hx hb dL_law_2035 rfl (lv_at hl 4 rfl) ?_
  refine hk_callV 0 (As := []) (rest := []) X K hAE hS hl.1 hM2.1 rfl (c_X11_thrown E l H2 hM2) (fun _ h => False.elim h) gL_law_X11_thrown rfl ⟨rfl, hd_X11_thrown⟩ rfl ⟨⟨(Nat.le_of_ble_eq_true rfl), (Nat.le_of_ble_eq_true rfl)⟩, (by show cells + 12 + 0 + 0 ≤ 601024; omega), (by show slots + 700 + 0 + 0 ≤ 7293034; omega)⟩ rfl (Nat.le_of_ble_eq_true rfl) dL_law_2036 (fun v9 H3 locs3 hp hS hz3 hk3 => ?_)
  obtain ⟨hz, hh⟩ := hp
  subst hz; subst hh
  refine lv_iload hx hb dL_law_2039 (lv_at hl 1 rfl) ?_
  refine lv_icmp_eq (tgt := 2046) hx hb dL_law_2041 (by decide) (fun c_2041 => ?_) (fun c_2041 => ?_)
  · refine lv_iload hx hb dL_law_2046 (lv_at hl 1 rfl) ?_
    refine lv_if_ne (tgt := 2063) hx hb dL_law_2048 (by decide) (fun c_2048 => ?_) (fun c_2048 => ?_)
    · rw [if_neg c_2048] at hW2 ha
      refine lv_goto (tgt := 2534) hx hb dL_law_2063 (by decide) ?_
      exact J2534 H2 _ ⟨G1, R1, _, (cn2, sc2, μ2), f1, hI, hW2, hM2, hag.trans ha, hL2, hS, hb9⟩ _ (lv_sub hl [2, 3, 4, 5, 6] rfl)
    · have ckz := c_2048
      refine lv_aload_n hx hb dL_law_2051 rfl (lv_at hl 3 rfl) ?_
      refine lv_iconst (v := 0) hx hb dL_law_2052 (by decide) ?_
      refine hk_lld X K hL2 (show vp_in (0 : Int32) 1 from vp_in_nI (n := 0) (by decide) (by decide)) dL_law_2053 ?_
      rw [show f1 (0 : Int32).toNatClampNeg = w.toInt64 from (congrArg f1 hk_c0).trans (hf1 c_2048)]
      have ev : v = w := ev.trans (if_pos c_2048)
      rw [if_pos c_2048] at hW2 ha
      refine lv_iload hx hb dL_law_2054 (lv_at hl 0 rfl) ?_
      refine lv_i2l hx hb dL_law_2056 rfl ?_
      refine lv_lcmp hx hb dL_law_2057 ?_
      rw [show lcv (w.toInt64) v.toInt64 = 0 from by rw [ev]; exact lcv_self]
      refine lv_if_eq (tgt := 2063) hx hb dL_law_2058 (by decide) (fun c_2058 => ?_) (fun c_2058 => ?_)
      · refine lv_goto (tgt := 2534) hx hb dL_law_2063 (by decide) ?_
        exact J2534 H2 _ ⟨G1, R1, _, (cn2, sc2, μ2), f1, hI, hW2, hM2, (st_kind_agr hag).trans ha, hL2, hS, hb9⟩ _ (lv_sub hl [2, 3, 4, 5, 6] rfl)
      · exact absurd (by decide) c_2058
  · exact absurd c_2041 (fun h => h h33)
set_option maxHeartbeats 4000000 in
set_option maxRecDepth 100000 in
theorem k_cycle {p : Program} {l : Launch} {e : Env} {s : State} {m : MethodId} {below : List Frame} {meth : Method} {c : Code} {b L : Nat} {xs : Nat → Int32} {E : hk_E} {Zh Zm : Nat → Prop} {ho ts mo o9 b4 : Nat} {li am : Nat → Nat} {rr : Nat → Nat → Nat} (G0 : lw_G p l s m meth c b L xs E Zh Zm o9 b4) {H : Heap} {locs : List Loc} {cells slots : Nat} (hJ0 : lw_J E Zh Zm ho ts mo o9 b4 li am rr s H locs) {i : Nat} (hi : i + 8 ≤ L) (hce : cells + 12 ≤ 601024) (hsl : slots + 700 ≤ 7293034) {ls : Array Slot} (hl : lv_has ls 7 [(4, .int (nI i)), (3, .ref o9), (2, .ref mo), (1, .ref ho), (0, .ref b)])
  (J2534 : ∀ (H1 : Heap) (locs1 : List Loc), lw_J E Zh Zm ho ts mo o9 b4 li am rr s H1 locs1 → ∀ (ls : Array Slot), lv_has ls 7 [(4, .int (nI i)), (3, .ref o9), (2, .ref mo), (1, .ref ho), (0, .ref b)] → W p l e room_1 s m #[Value.ref b] below meth c H1 locs1 (cells + 12) (slots + 700) (lw_Z below #[Value.ref b] s) (F0 m 2534 ls [])) : W p l e room_1 s m #[Value.ref b] below meth c H locs cells slots (lw_Z below #[Value.ref b] s) (F0 m 2066 ls []) := by
  obtain ⟨hl9, hLL, C0, X, K, hE, hZn0, hoZ, hoA, hZm⟩ := G0
  obtain ⟨G, R, ⟨cn, sc, μ⟩, ⟨cn1, sc1, μ1⟩, f0, hI, hW, hM, hag, hL, hS, hb4⟩ := hJ0
  obtain ⟨hx, hb, hr, hml, hown, -, hXs, hbl, hlocks, -⟩ := id C0
  have hAE : ∀ q, hk_A E q → hk_A E q := fun _ h => h
  have hZA : ∀ q, Zh q → hk_A E q := hW.2.2.2.2.2.2.2.2.2.2.2.2
  have hAz : ∀ q, (Zh q ∨ q = o9) → hk_A E q := fun q h => h.elim (fun h => hZA q h) (fun h => by rw [h]; exact hoA)
  have hmA : ∀ q, Zm q → hk_A E q := fun q h => (hZm q h).2.2.2
  have hZn : ∀ q, H.size ≤ q → Zh q := fun q h => hZn0 q (Nat.le_trans hb4 h)
  have hbA : ¬ hk_A E b := fun g => absurd hbl (Nat.not_lt.mpr (by rw [← hE]; exact g))
  have hJ : Inv (cn1, sc1, μ1) := inv_agr hI.1 hag
  refine lv_aload_n hx hb dL_law_2066 rfl (lv_at hl 3 rfl) ?_
  refine lv_aload_n hx hb dL_law_2067 rfl (lv_at hl 4 rfl) ?_
  refine lv_iload hx hb dL_law_2068 (lv_at hl 0 rfl) ?_
  refine lv_iconst (v := 1) hx hb dL_law_2070 (by decide) ?_
  refine lv_iadd hx hb dL_law_2071 ?_
  refine lv_topi (fun z_1 ez_1 => ?_)
  have ez_1 : z_1 = nI (i + 1) := ez_1.trans (nI_add i 1)
  subst ez_1
  refine va_sld hx hb hXs hbl hbA hS (vp_in_nI (show i + 1 < L by omega) (by omega)) dL_law_2072 ?_
  rw [show xs (nI (i + 1)).toNatClampNeg = xs (i + 1) from congrArg xs (nI_clamp (by omega))]
  refine lv_aload_n hx hb dL_law_2073 rfl (lv_at hl 4 rfl) ?_
  refine lv_iload hx hb dL_law_2074 (lv_at hl 0 rfl) ?_
  refine lv_iconst (v := 2) hx hb dL_law_2076 (by decide) ?_
  refine lv_iadd hx hb dL_law_2077 ?_
  refine lv_topi (fun z_2 ez_2 => ?_)
  have ez_2 : z_2 = nI (i + 2) := ez_2.trans (nI_add i 2)
  subst ez_2
  refine va_sld hx hb hXs hbl hbA hS (vp_in_nI (show i + 2 < L by omega) (by omega)) dL_law_2078 ?_
  rw [show xs (nI (i + 2)).toNatClampNeg = xs (i + 2) from congrArg xs (nI_clamp (by omega))]
  refine lv_aload_n hx hb dL_law_2079 rfl (lv_at hl 4 rfl) ?_
  refine lv_iload hx hb dL_law_2080 (lv_at hl 0 rfl) ?_
  refine lv_iconst (v := 3) hx hb dL_law_2082 (by decide) ?_
  refine lv_iadd hx hb dL_law_2083 ?_
  refine lv_topi (fun z_3 ez_3 => ?_)
  have ez_3 : z_3 = nI (i + 3) := ez_3.trans (nI_add i 3)
  subst ez_3
  refine va_sld hx hb hXs hbl hbA hS (vp_in_nI (show i + 3 < L by omega) (by omega)) dL_law_2084 ?_
  rw [show xs (nI (i + 3)).toNatClampNeg = xs (i + 3) from congrArg xs (nI_clamp (by omega))]
  refine lv_aload_n hx hb dL_law_2085 rfl (lv_at hl 4 rfl) ?_
  refine lv_iload hx hb dL_law_2086 (lv_at hl 0 rfl) ?_
  refine lv_iconst (v := 4) hx hb dL_law_2088 (by decide) ?_
  refine lv_iadd hx hb dL_law_2089 ?_
  refine lv_topi (fun z_4 ez_4 => ?_)
  have ez_4 : z_4 = nI (i + 4) := ez_4.trans (nI_add i 4)
  subst ez_4
  refine va_sld hx hb hXs hbl hbA hS (vp_in_nI (show i + 4 < L by omega) (by omega)) dL_law_2090 ?_
  rw [show xs (nI (i + 4)).toNatClampNeg = xs (i + 4) from congrArg xs (nI_clamp (by omega))]
  refine lv_if_eq (tgt := 2098) hx hb dL_law_2091 (by decide) (fun c_2091 => ?_) (fun c_2091 => ?_)
  · skip
    refine lv_iconst (v := 0) hx hb dL_law_2098 (by decide) ?_
    refine lv_aload_n hx hb dL_law_2099 rfl (lv_at hl 1 rfl) ?_
    refine hk_callSxW 6 (As := [.ref ho, .int (xs (i + 1)), .int (xs (i + 2)), .int (xs (i + 3)), .int 0, .ref o9]) (rest := []) X K hAE hS hl.1 (c_L_cycle E l hl9 H hW hI hZn hL hoZ hoA (p0 := xs (i + 1)) (p1 := xs (i + 2)) (p2 := xs (i + 3)) (p3 := 0)) hAz gL_law_L_cycle rfl hd_L_cycle rfl ⟨⟨(Nat.le_of_ble_eq_true rfl), (Nat.le_of_ble_eq_true rfl)⟩, hce, hsl⟩ rfl (Nat.le_of_ble_eq_true rfl) dL_law_2100 (fun _ _ _ _ _ hp _ _ _ _ _ _ => False.elim hp) (fun v9 H1 locs1 hp hS hz1 hk1 => ?_)
    obtain ⟨hz, G1, R1, f1, hW1, hL1, hf1⟩ := hp
    subst hz
    have hM1 := MW.kept hM (fun q hq => hk1 q (Nat.lt_of_lt_of_le (hZm q hq).1 hb4) (fun g => g.elim (hZm q hq).2.1 (hZm q hq).2.2.1))
    refine lv_topi (fun k ek => ?_)
    refine lv_istore (lv' := [(5, .int k), (4, .int (nI i)), (3, .ref o9), (2, .ref mo), (1, .ref ho), (0, .ref b)]) hx hb dL_law_2103 hl (by decide) rfl (fun ls hl => ?_)
    rw [← ek] at hW1 hf1
    have hcT : cd_cycle (xs (i + 1)) (xs (i + 2)) (xs (i + 3)) 0 (cn1, sc1, μ1) = k := (cd_cycle_agr hag).symm.trans ek.symm
    obtain ⟨w, ew⟩ : ∃ w : Int32, w = an_cycle (xs (i + 1)) (xs (i + 2)) (xs (i + 3)) 0 (cn, sc, μ) := ⟨_, rfl⟩
    rw [← ew] at hf1
    have haT : an_cycle (xs (i + 1)) (xs (i + 2)) (xs (i + 3)) 0 (cn1, sc1, μ1) = w := (an_cycle_agr hag).symm.trans ew.symm
    refine lv_aload_n hx hb dL_law_2105 rfl (lv_at hl 3 rfl) ?_
    refine lv_aload_n hx hb dL_law_2106 rfl (lv_at hl 5 rfl) ?_
    refine lv_iload hx hb dL_law_2107 (lv_at hl 1 rfl) ?_
    refine lv_iconst (v := 1) hx hb dL_law_2109 (by decide) ?_
    refine lv_iadd hx hb dL_law_2110 ?_
    refine lv_topi (fun z_5 ez_5 => ?_)
    have ez_5 : z_5 = nI (i + 1) := ez_5.trans (nI_add i 1)
    subst ez_5
    refine va_sld hx hb hXs hbl hbA hS (vp_in_nI (show i + 1 < L by omega) (by omega)) dL_law_2111 ?_
    rw [show xs (nI (i + 1)).toNatClampNeg = xs (i + 1) from congrArg xs (nI_clamp (by omega))]
    refine lv_aload_n hx hb dL_law_2112 rfl (lv_at hl 5 rfl) ?_
    refine lv_iload hx hb dL_law_2113 (lv_at hl 1 rfl) ?_
    refine lv_iconst (v := 2) hx hb dL_law_2115 (by decide) ?_
    refine lv_iadd hx hb dL_law_2116 ?_
    refine lv_topi (fun z_6 ez_6 => ?_)
    have ez_6 : z_6 = nI (i + 2) := ez_6.trans (nI_add i 2)
    subst ez_6
    refine va_sld hx hb hXs hbl hbA hS (vp_in_nI (show i + 2 < L by omega) (by omega)) dL_law_2117 ?_
    rw [show xs (nI (i + 2)).toNatClampNeg = xs (i + 2) from congrArg xs (nI_clamp (by omega))]
    refine lv_aload_n hx hb dL_law_2118 rfl (lv_at hl 5 rfl) ?_
    refine lv_iload hx hb dL_law_2119 (lv_at hl 1 rfl) ?_
    refine lv_iconst (v := 3) hx hb dL_law_2121 (by decide) ?_
    refine lv_iadd hx hb dL_law_2122 ?_
    refine lv_topi (fun z_7 ez_7 => ?_)
    have ez_7 : z_7 = nI (i + 3) := ez_7.trans (nI_add i 3)
    subst ez_7
    refine va_sld hx hb hXs hbl hbA hS (vp_in_nI (show i + 3 < L by omega) (by omega)) dL_law_2123 ?_
    rw [show xs (nI (i + 3)).toNatClampNeg = xs (i + 3) from congrArg xs (nI_clamp (by omega))]
    refine lv_aload_n hx hb dL_law_2124 rfl (lv_at hl 5 rfl) ?_
    refine lv_iload hx hb dL_law_2125 (lv_at hl 1 rfl) ?_
    refine lv_iconst (v := 4) hx hb dL_law_2127 (by decide) ?_
    refine lv_iadd hx hb dL_law_2128 ?_
    refine lv_topi (fun z_8 ez_8 => ?_)
    have ez_8 : z_8 = nI (i + 4) := ez_8.trans (nI_add i 4)
    subst ez_8
    refine va_sld hx hb hXs hbl hbA hS (vp_in_nI (show i + 4 < L by omega) (by omega)) dL_law_2129 ?_
    rw [show xs (nI (i + 4)).toNatClampNeg = xs (i + 4) from congrArg xs (nI_clamp (by omega))]
    refine lv_if_eq (tgt := 2137) hx hb dL_law_2130 (by decide) (fun c_2130 => ?_) (fun c_2130 => ?_)
    · refine lv_iconst (v := 0) hx hb dL_law_2137 (by decide) ?_
      refine hk_callV 4 (As := [.int (xs (i + 1)), .int (xs (i + 2)), .int (xs (i + 3)), .int 0]) (rest := []) X K hAE hS hl.1 hM1.1 rfl (c_X11_cycle E l H1 hM1 hmA hJ (p0 := xs (i + 1)) (p1 := xs (i + 2)) (p2 := xs (i + 3)) (p3 := 0)) hmA gL_law_X11_cycle rfl ⟨rfl, hd_X11_cycle⟩ rfl ⟨⟨(Nat.le_of_ble_eq_true rfl), (Nat.le_of_ble_eq_true rfl)⟩, (by show cells + 12 + 0 ≤ 601024; omega), (by show slots + 700 + 0 ≤ 7293034; omega)⟩ rfl (Nat.le_of_ble_eq_true rfl) dL_law_2138 (fun v9 H2 locs2 hp hS hz2 hk2 => ?_)
      obtain ⟨cn2, sc2, μ2, hM2, h33, hz, ha⟩ := hp
      subst hz
      rw [hcT] at h33 ha
      have hW2 := HW.kept hW1 (fun q h1 h2 => hk2 q h1 (fun g => h2.elim (hZm q g).2.1 (fun h => h (hZm q g).2.2.2)))
      have hL2 : hk_L E o9 1 f1 H2 := (hk2 _ (ar_lt hL1) (fun g => (hZm _ g).2.2.1 rfl)).trans hL1
      have hb9 : b4 ≤ H2.size := Nat.le_trans (Nat.le_trans hb4 hz1) hz2
      rw [hcT, haT]
      refine lv_topi (fun v ev => ?_)
      refine lv_istore (lv' := [(6, .int v), (5, .int k), (4, .int (nI i)), (3, .ref o9), (2, .ref mo), (1, .ref ho), (0, .ref b)]) hx hb dL_law_2141 hl (by decide) rfl (fun ls hl => ?_)
      refine lv_aload_n hx hb dL_law_2143 rfl (lv_at hl 4 rfl) ?_
      refine hk_callV 0 (As := []) (rest := []) X K hAE hS hl.1 hM2.1 rfl (c_X11_thrown E l H2 hM2) (fun _ h => False.elim h) gL_law_X11_thrown rfl ⟨rfl, hd_X11_thrown⟩ rfl ⟨⟨(Nat.le_of_ble_eq_true rfl), (Nat.le_of_ble_eq_true rfl)⟩, (by show cells + 12 + 0 + 0 ≤ 601024; omega), (by show slots + 700 + 0 + 0 ≤ 7293034; omega)⟩ rfl (Nat.le_of_ble_eq_true rfl) dL_law_2144 (fun v9 H3 locs3 hp hS hz3 hk3 => ?_)
      obtain ⟨hz, hh⟩ := hp
      subst hz; subst hh
      refine lv_iload hx hb dL_law_2147 (lv_at hl 1 rfl) ?_
      refine lv_icmp_eq (tgt := 2154) hx hb dL_law_2149 (by decide) (fun c_2149 => ?_) (fun c_2149 => ?_)
      · refine lv_iload hx hb dL_law_2154 (lv_at hl 1 rfl) ?_
        refine lv_if_ne (tgt := 2171) hx hb dL_law_2156 (by decide) (fun c_2156 => ?_) (fun c_2156 => ?_)
        · rw [if_neg c_2156] at hW2 ha
          refine lv_goto (tgt := 2534) hx hb dL_law_2171 (by decide) ?_
          exact J2534 H2 _ ⟨G1, R1, _, (cn2, sc2, μ2), f1, hI, hW2, hM2, hag.trans ha, hL2, hS, hb9⟩ _ (lv_sub hl [2, 3, 4, 5, 6] rfl)
        · have ckz := c_2156
          refine lv_aload_n hx hb dL_law_2159 rfl (lv_at hl 3 rfl) ?_
          refine lv_iconst (v := 0) hx hb dL_law_2160 (by decide) ?_
          refine hk_lld X K hL2 (show vp_in (0 : Int32) 1 from vp_in_nI (n := 0) (by decide) (by decide)) dL_law_2161 ?_
          rw [show f1 (0 : Int32).toNatClampNeg = w.toInt64 from (congrArg f1 hk_c0).trans (hf1 c_2156)]
          have ev : v = w := ev.trans (if_pos c_2156)
          rw [if_pos c_2156] at hW2 ha
          refine lv_iload hx hb dL_law_2162 (lv_at hl 0 rfl) ?_
          refine lv_i2l hx hb dL_law_2164 rfl ?_
          refine lv_lcmp hx hb dL_law_2165 ?_
          rw [show lcv (w.toInt64) v.toInt64 = 0 from by rw [ev]; exact lcv_self]
          refine lv_if_eq (tgt := 2171) hx hb dL_law_2166 (by decide) (fun c_2166 => ?_) (fun c_2166 => ?_)
          · refine lv_goto (tgt := 2534) hx hb dL_law_2171 (by decide) ?_
            exact J2534 H2 _ ⟨G1, R1, _, (cn2, sc2, μ2), f1, hI, hW2, hM2, (st_cycle_agr hag).trans ha, hL2, hS, hb9⟩ _ (lv_sub hl [2, 3, 4, 5, 6] rfl)
          · exact absurd (by decide) c_2166
      · exact absurd c_2149 (fun h => h h33)
    · exact absurd c_2091 c_2130
  · skip
    refine lv_iconst (v := 1) hx hb dL_law_2094 (by decide) ?_
    refine lv_goto (tgt := 2099) hx hb dL_law_2095 (by decide) ?_
    refine lv_aload_n hx hb dL_law_2099 rfl (lv_at hl 1 rfl) ?_
    refine hk_callSxW 6 (As := [.ref ho, .int (xs (i + 1)), .int (xs (i + 2)), .int (xs (i + 3)), .int 1, .ref o9]) (rest := []) X K hAE hS hl.1 (c_L_cycle E l hl9 H hW hI hZn hL hoZ hoA (p0 := xs (i + 1)) (p1 := xs (i + 2)) (p2 := xs (i + 3)) (p3 := 1)) hAz gL_law_L_cycle rfl hd_L_cycle rfl ⟨⟨(Nat.le_of_ble_eq_true rfl), (Nat.le_of_ble_eq_true rfl)⟩, hce, hsl⟩ rfl (Nat.le_of_ble_eq_true rfl) dL_law_2100 (fun _ _ _ _ _ hp _ _ _ _ _ _ => False.elim hp) (fun v9 H1 locs1 hp hS hz1 hk1 => ?_)
    obtain ⟨hz, G1, R1, f1, hW1, hL1, hf1⟩ := hp
    subst hz
    have hM1 := MW.kept hM (fun q hq => hk1 q (Nat.lt_of_lt_of_le (hZm q hq).1 hb4) (fun g => g.elim (hZm q hq).2.1 (hZm q hq).2.2.1))
    refine lv_topi (fun k ek => ?_)
    refine lv_istore (lv' := [(5, .int k), (4, .int (nI i)), (3, .ref o9), (2, .ref mo), (1, .ref ho), (0, .ref b)]) hx hb dL_law_2103 hl (by decide) rfl (fun ls hl => ?_)
    rw [← ek] at hW1 hf1
    have hcT : cd_cycle (xs (i + 1)) (xs (i + 2)) (xs (i + 3)) 1 (cn1, sc1, μ1) = k := (cd_cycle_agr hag).symm.trans ek.symm
    obtain ⟨w, ew⟩ : ∃ w : Int32, w = an_cycle (xs (i + 1)) (xs (i + 2)) (xs (i + 3)) 1 (cn, sc, μ) := ⟨_, rfl⟩
    rw [← ew] at hf1
    have haT : an_cycle (xs (i + 1)) (xs (i + 2)) (xs (i + 3)) 1 (cn1, sc1, μ1) = w := (an_cycle_agr hag).symm.trans ew.symm
    refine lv_aload_n hx hb dL_law_2105 rfl (lv_at hl 3 rfl) ?_
    refine lv_aload_n hx hb dL_law_2106 rfl (lv_at hl 5 rfl) ?_
    refine lv_iload hx hb dL_law_2107 (lv_at hl 1 rfl) ?_
    refine lv_iconst (v := 1) hx hb dL_law_2109 (by decide) ?_
    refine lv_iadd hx hb dL_law_2110 ?_
    refine lv_topi (fun z_9 ez_9 => ?_)
    have ez_9 : z_9 = nI (i + 1) := ez_9.trans (nI_add i 1)
    subst ez_9
    refine va_sld hx hb hXs hbl hbA hS (vp_in_nI (show i + 1 < L by omega) (by omega)) dL_law_2111 ?_
    rw [show xs (nI (i + 1)).toNatClampNeg = xs (i + 1) from congrArg xs (nI_clamp (by omega))]
    refine lv_aload_n hx hb dL_law_2112 rfl (lv_at hl 5 rfl) ?_
    refine lv_iload hx hb dL_law_2113 (lv_at hl 1 rfl) ?_
    refine lv_iconst (v := 2) hx hb dL_law_2115 (by decide) ?_
    refine lv_iadd hx hb dL_law_2116 ?_
    refine lv_topi (fun z_10 ez_10 => ?_)
    have ez_10 : z_10 = nI (i + 2) := ez_10.trans (nI_add i 2)
    subst ez_10
    refine va_sld hx hb hXs hbl hbA hS (vp_in_nI (show i + 2 < L by omega) (by omega)) dL_law_2117 ?_
    rw [show xs (nI (i + 2)).toNatClampNeg = xs (i + 2) from congrArg xs (nI_clamp (by omega))]
    refine lv_aload_n hx hb dL_law_2118 rfl (lv_at hl 5 rfl) ?_
    refine lv_iload hx hb dL_law_2119 (lv_at hl 1 rfl) ?_
    refine lv_iconst (v := 3) hx hb dL_law_2121 (by decide) ?_
    refine lv_iadd hx hb dL_law_2122 ?_
    refine lv_topi (fun z_11 ez_11 => ?_)
    have ez_11 : z_11 = nI (i + 3) := ez_11.trans (nI_add i 3)
    subst ez_11
    refine va_sld hx hb hXs hbl hbA hS (vp_in_nI (show i + 3 < L by omega) (by omega)) dL_law_2123 ?_
    rw [show xs (nI (i + 3)).toNatClampNeg = xs (i + 3) from congrArg xs (nI_clamp (by omega))]
    refine lv_aload_n hx hb dL_law_2124 rfl (lv_at hl 5 rfl) ?_
    refine lv_iload hx hb dL_law_2125 (lv_at hl 1 rfl) ?_
    refine lv_iconst (v := 4) hx hb dL_law_2127 (by decide) ?_
    refine lv_iadd hx hb dL_law_2128 ?_
    refine lv_topi (fun z_12 ez_12 => ?_)
    have ez_12 : z_12 = nI (i + 4) := ez_12.trans (nI_add i 4)
    subst ez_12
    refine va_sld hx hb hXs hbl hbA hS (vp_in_nI (show i + 4 < L by omega) (by omega)) dL_law_2129 ?_
    rw [show xs (nI (i + 4)).toNatClampNeg = xs (i + 4) from congrArg xs (nI_clamp (by omega))]
    refine lv_if_eq (tgt := 2137) hx hb dL_law_2130 (by decide) (fun c_2130 => ?_) (fun c_2130 => ?_)
    · exact absurd c_2130 c_2091
    · refine lv_iconst (v := 1) hx hb dL_law_2133 (by decide) ?_
      refine lv_goto (tgt := 2138) hx hb dL_law_2134 (by decide) ?_
      refine hk_callV 4 (As := [.int (xs (i + 1)), .int (xs (i + 2)), .int (xs (i + 3)), .int 1]) (rest := []) X K hAE hS hl.1 hM1.1 rfl (c_X11_cycle E l H1 hM1 hmA hJ (p0 := xs (i + 1)) (p1 := xs (i + 2)) (p2 := xs (i + 3)) (p3 := 1)) hmA gL_law_X11_cycle rfl ⟨rfl, hd_X11_cycle⟩ rfl ⟨⟨(Nat.le_of_ble_eq_true rfl), (Nat.le_of_ble_eq_true rfl)⟩, (by show cells + 12 + 0 ≤ 601024; omega), (by show slots + 700 + 0 ≤ 7293034; omega)⟩ rfl (Nat.le_of_ble_eq_true rfl) dL_law_2138 (fun v9 H2 locs2 hp hS hz2 hk2 => ?_)
      obtain ⟨cn2, sc2, μ2, hM2, h33, hz, ha⟩ := hp
      subst hz
      rw [hcT] at h33 ha
      have hW2 := HW.kept hW1 (fun q h1 h2 => hk2 q h1 (fun g => h2.elim (hZm q g).2.1 (fun h => h (hZm q g).2.2.2)))
      have hL2 : hk_L E o9 1 f1 H2 := (hk2 _ (ar_lt hL1) (fun g => (hZm _ g).2.2.1 rfl)).trans hL1
      have hb9 : b4 ≤ H2.size := Nat.le_trans (Nat.le_trans hb4 hz1) hz2
      rw [hcT, haT]
      refine lv_topi (fun v ev => ?_)
      refine lv_istore (lv' := [(6, .int v), (5, .int k), (4, .int (nI i)), (3, .ref o9), (2, .ref mo), (1, .ref ho), (0, .ref b)]) hx hb dL_law_2141 hl (by decide) rfl (fun ls hl => ?_)
      refine lv_aload_n hx hb dL_law_2143 rfl (lv_at hl 4 rfl) ?_
      refine hk_callV 0 (As := []) (rest := []) X K hAE hS hl.1 hM2.1 rfl (c_X11_thrown E l H2 hM2) (fun _ h => False.elim h) gL_law_X11_thrown rfl ⟨rfl, hd_X11_thrown⟩ rfl ⟨⟨(Nat.le_of_ble_eq_true rfl), (Nat.le_of_ble_eq_true rfl)⟩, (by show cells + 12 + 0 + 0 ≤ 601024; omega), (by show slots + 700 + 0 + 0 ≤ 7293034; omega)⟩ rfl (Nat.le_of_ble_eq_true rfl) dL_law_2144 (fun v9 H3 locs3 hp hS hz3 hk3 => ?_)
      obtain ⟨hz, hh⟩ := hp
      subst hz; subst hh
      refine lv_iload hx hb dL_law_2147 (lv_at hl 1 rfl) ?_
      refine lv_icmp_eq (tgt := 2154) hx hb dL_law_2149 (by decide) (fun c_2149 => ?_) (fun c_2149 => ?_)
      · refine lv_iload hx hb dL_law_2154 (lv_at hl 1 rfl) ?_
        refine lv_if_ne (tgt := 2171) hx hb dL_law_2156 (by decide) (fun c_2156 => ?_) (fun c_2156 => ?_)
        · rw [if_neg c_2156] at hW2 ha
          refine lv_goto (tgt := 2534) hx hb dL_law_2171 (by decide) ?_
          exact J2534 H2 _ ⟨G1, R1, _, (cn2, sc2, μ2), f1, hI, hW2, hM2, hag.trans ha, hL2, hS, hb9⟩ _ (lv_sub hl [2, 3, 4, 5, 6] rfl)
        · have ckz := c_2156
          refine lv_aload_n hx hb dL_law_2159 rfl (lv_at hl 3 rfl) ?_
          refine lv_iconst (v := 0) hx hb dL_law_2160 (by decide) ?_
          refine hk_lld X K hL2 (show vp_in (0 : Int32) 1 from vp_in_nI (n := 0) (by decide) (by decide)) dL_law_2161 ?_
          rw [show f1 (0 : Int32).toNatClampNeg = w.toInt64 from (congrArg f1 hk_c0).trans (hf1 c_2156)]
          have ev : v = w := ev.trans (if_pos c_2156)
          rw [if_pos c_2156] at hW2 ha
          refine lv_iload hx hb dL_law_2162 (lv_at hl 0 rfl) ?_
          refine lv_i2l hx hb dL_law_2164 rfl ?_
          refine lv_lcmp hx hb dL_law_2165 ?_
          rw [show lcv (w.toInt64) v.toInt64 = 0 from by rw [ev]; exact lcv_self]
          refine lv_if_eq (tgt := 2171) hx hb dL_law_2166 (by decide) (fun c_2166 => ?_) (fun c_2166 => ?_)
          · refine lv_goto (tgt := 2534) hx hb dL_law_2171 (by decide) ?_
            exact J2534 H2 _ ⟨G1, R1, _, (cn2, sc2, μ2), f1, hI, hW2, hM2, (st_cycle_agr hag).trans ha, hL2, hS, hb9⟩ _ (lv_sub hl [2, 3, 4, 5, 6] rfl)
          · exact absurd (by decide) c_2166
      · exact absurd c_2149 (fun h => h h33)
set_option maxHeartbeats 4000000 in
set_option maxRecDepth 100000 in
theorem k_lost {p : Program} {l : Launch} {e : Env} {s : State} {m : MethodId} {below : List Frame} {meth : Method} {c : Code} {b L : Nat} {xs : Nat → Int32} {E : hk_E} {Zh Zm : Nat → Prop} {ho ts mo o9 b4 : Nat} {li am : Nat → Nat} {rr : Nat → Nat → Nat} (G0 : lw_G p l s m meth c b L xs E Zh Zm o9 b4) {H : Heap} {locs : List Loc} {cells slots : Nat} (hJ0 : lw_J E Zh Zm ho ts mo o9 b4 li am rr s H locs) {i : Nat} (hi : i + 8 ≤ L) (hce : cells + 12 ≤ 601024) (hsl : slots + 700 ≤ 7293034) {ls : Array Slot} (hl : lv_has ls 7 [(4, .int (nI i)), (3, .ref o9), (2, .ref mo), (1, .ref ho), (0, .ref b)])
  (J2534 : ∀ (H1 : Heap) (locs1 : List Loc), lw_J E Zh Zm ho ts mo o9 b4 li am rr s H1 locs1 → ∀ (ls : Array Slot), lv_has ls 7 [(4, .int (nI i)), (3, .ref o9), (2, .ref mo), (1, .ref ho), (0, .ref b)] → W p l e room_1 s m #[Value.ref b] below meth c H1 locs1 (cells + 12) (slots + 700) (lw_Z below #[Value.ref b] s) (F0 m 2534 ls [])) : W p l e room_1 s m #[Value.ref b] below meth c H locs cells slots (lw_Z below #[Value.ref b] s) (F0 m 2174 ls []) := by
  obtain ⟨hl9, hLL, C0, X, K, hE, hZn0, hoZ, hoA, hZm⟩ := G0
  obtain ⟨G, R, ⟨cn, sc, μ⟩, ⟨cn1, sc1, μ1⟩, f0, hI, hW, hM, hag, hL, hS, hb4⟩ := hJ0
  obtain ⟨hx, hb, hr, hml, hown, -, hXs, hbl, hlocks, -⟩ := id C0
  have hAE : ∀ q, hk_A E q → hk_A E q := fun _ h => h
  have hZA : ∀ q, Zh q → hk_A E q := hW.2.2.2.2.2.2.2.2.2.2.2.2
  have hAz : ∀ q, (Zh q ∨ q = o9) → hk_A E q := fun q h => h.elim (fun h => hZA q h) (fun h => by rw [h]; exact hoA)
  have hmA : ∀ q, Zm q → hk_A E q := fun q h => (hZm q h).2.2.2
  have hZn : ∀ q, H.size ≤ q → Zh q := fun q h => hZn0 q (Nat.le_trans hb4 h)
  have hbA : ¬ hk_A E b := fun g => absurd hbl (Nat.not_lt.mpr (by rw [← hE]; exact g))
  have hJ : Inv (cn1, sc1, μ1) := inv_agr hI.1 hag
  refine lv_aload_n hx hb dL_law_2174 rfl (lv_at hl 3 rfl) ?_
  refine lv_aload_n hx hb dL_law_2175 rfl (lv_at hl 4 rfl) ?_
  refine lv_iload hx hb dL_law_2176 (lv_at hl 0 rfl) ?_
  refine lv_iconst (v := 1) hx hb dL_law_2178 (by decide) ?_
  refine lv_iadd hx hb dL_law_2179 ?_
  refine lv_topi (fun z_1 ez_1 => ?_)
  have ez_1 : z_1 = nI (i + 1) := ez_1.trans (nI_add i 1)
  subst ez_1
  refine va_sld hx hb hXs hbl hbA hS (vp_in_nI (show i + 1 < L by omega) (by omega)) dL_law_2180 ?_
  rw [show xs (nI (i + 1)).toNatClampNeg = xs (i + 1) from congrArg xs (nI_clamp (by omega))]
  refine lv_aload_n hx hb dL_law_2181 rfl (lv_at hl 4 rfl) ?_
  refine lv_iload hx hb dL_law_2182 (lv_at hl 0 rfl) ?_
  refine lv_iconst (v := 2) hx hb dL_law_2184 (by decide) ?_
  refine lv_iadd hx hb dL_law_2185 ?_
  refine lv_topi (fun z_2 ez_2 => ?_)
  have ez_2 : z_2 = nI (i + 2) := ez_2.trans (nI_add i 2)
  subst ez_2
  refine va_sld hx hb hXs hbl hbA hS (vp_in_nI (show i + 2 < L by omega) (by omega)) dL_law_2186 ?_
  rw [show xs (nI (i + 2)).toNatClampNeg = xs (i + 2) from congrArg xs (nI_clamp (by omega))]
  refine lv_aload_n hx hb dL_law_2187 rfl (lv_at hl 1 rfl) ?_
  refine hk_callSxW 4 (As := [.ref ho, .int (xs (i + 1)), .int (xs (i + 2)), .ref o9]) (rest := []) X K hAE hS hl.1 (c_L_lost E l hl9 H hW hI hZn hL hoZ hoA (p0 := xs (i + 1)) (p1 := xs (i + 2))) hAz gL_law_L_lost rfl hd_L_lost rfl ⟨⟨(Nat.le_of_ble_eq_true rfl), (Nat.le_of_ble_eq_true rfl)⟩, hce, hsl⟩ rfl (Nat.le_of_ble_eq_true rfl) dL_law_2188 (fun _ _ _ _ _ hp _ _ _ _ _ _ => False.elim hp) (fun v9 H1 locs1 hp hS hz1 hk1 => ?_)
  obtain ⟨hz, G1, R1, f1, hW1, hL1, hf1⟩ := hp
  subst hz
  have hM1 := MW.kept hM (fun q hq => hk1 q (Nat.lt_of_lt_of_le (hZm q hq).1 hb4) (fun g => g.elim (hZm q hq).2.1 (hZm q hq).2.2.1))
  refine lv_topi (fun k ek => ?_)
  refine lv_istore (lv' := [(5, .int k), (4, .int (nI i)), (3, .ref o9), (2, .ref mo), (1, .ref ho), (0, .ref b)]) hx hb dL_law_2191 hl (by decide) rfl (fun ls hl => ?_)
  rw [← ek] at hW1 hf1
  have hcT : cd_lost (xs (i + 1)) (xs (i + 2)) (cn1, sc1, μ1) = k := (cd_lost_agr hag).symm.trans ek.symm
  obtain ⟨w, ew⟩ : ∃ w : Int32, w = an_lost (xs (i + 1)) (xs (i + 2)) (cn, sc, μ) := ⟨_, rfl⟩
  rw [← ew] at hf1
  have haT : an_lost (xs (i + 1)) (xs (i + 2)) (cn1, sc1, μ1) = w := (an_lost_agr hag).symm.trans ew.symm
  refine lv_aload_n hx hb dL_law_2193 rfl (lv_at hl 3 rfl) ?_
  refine lv_aload_n hx hb dL_law_2194 rfl (lv_at hl 5 rfl) ?_
  refine lv_iload hx hb dL_law_2195 (lv_at hl 1 rfl) ?_
  refine lv_iconst (v := 1) hx hb dL_law_2197 (by decide) ?_
  refine lv_iadd hx hb dL_law_2198 ?_
  refine lv_topi (fun z_3 ez_3 => ?_)
  have ez_3 : z_3 = nI (i + 1) := ez_3.trans (nI_add i 1)
  subst ez_3
  refine va_sld hx hb hXs hbl hbA hS (vp_in_nI (show i + 1 < L by omega) (by omega)) dL_law_2199 ?_
  rw [show xs (nI (i + 1)).toNatClampNeg = xs (i + 1) from congrArg xs (nI_clamp (by omega))]
  refine lv_aload_n hx hb dL_law_2200 rfl (lv_at hl 5 rfl) ?_
  refine lv_iload hx hb dL_law_2201 (lv_at hl 1 rfl) ?_
  refine lv_iconst (v := 2) hx hb dL_law_2203 (by decide) ?_
  refine lv_iadd hx hb dL_law_2204 ?_
  refine lv_topi (fun z_4 ez_4 => ?_)
  have ez_4 : z_4 = nI (i + 2) := ez_4.trans (nI_add i 2)
  subst ez_4
  refine va_sld hx hb hXs hbl hbA hS (vp_in_nI (show i + 2 < L by omega) (by omega)) dL_law_2205 ?_
  rw [show xs (nI (i + 2)).toNatClampNeg = xs (i + 2) from congrArg xs (nI_clamp (by omega))]
  refine hk_callV 2 (As := [.int (xs (i + 1)), .int (xs (i + 2))]) (rest := []) X K hAE hS hl.1 hM1.1 rfl (c_X11_lost E l H1 hM1 hmA hJ (p0 := xs (i + 1)) (p1 := xs (i + 2))) hmA gL_law_X11_lost rfl ⟨rfl, hd_X11_lost⟩ rfl ⟨⟨(Nat.le_of_ble_eq_true rfl), (Nat.le_of_ble_eq_true rfl)⟩, (by show cells + 12 + 0 ≤ 601024; omega), (by show slots + 700 + 0 ≤ 7293034; omega)⟩ rfl (Nat.le_of_ble_eq_true rfl) dL_law_2206 (fun v9 H2 locs2 hp hS hz2 hk2 => ?_)
  obtain ⟨cn2, sc2, μ2, hM2, h33, hz, ha⟩ := hp
  subst hz
  rw [hcT] at h33 ha
  have hW2 := HW.kept hW1 (fun q h1 h2 => hk2 q h1 (fun g => h2.elim (hZm q g).2.1 (fun h => h (hZm q g).2.2.2)))
  have hL2 : hk_L E o9 1 f1 H2 := (hk2 _ (ar_lt hL1) (fun g => (hZm _ g).2.2.1 rfl)).trans hL1
  have hb9 : b4 ≤ H2.size := Nat.le_trans (Nat.le_trans hb4 hz1) hz2
  rw [hcT, haT]
  refine lv_topi (fun v ev => ?_)
  refine lv_istore (lv' := [(6, .int v), (5, .int k), (4, .int (nI i)), (3, .ref o9), (2, .ref mo), (1, .ref ho), (0, .ref b)]) hx hb dL_law_2209 hl (by decide) rfl (fun ls hl => ?_)
  refine lv_aload_n hx hb dL_law_2211 rfl (lv_at hl 4 rfl) ?_
  refine hk_callV 0 (As := []) (rest := []) X K hAE hS hl.1 hM2.1 rfl (c_X11_thrown E l H2 hM2) (fun _ h => False.elim h) gL_law_X11_thrown rfl ⟨rfl, hd_X11_thrown⟩ rfl ⟨⟨(Nat.le_of_ble_eq_true rfl), (Nat.le_of_ble_eq_true rfl)⟩, (by show cells + 12 + 0 + 0 ≤ 601024; omega), (by show slots + 700 + 0 + 0 ≤ 7293034; omega)⟩ rfl (Nat.le_of_ble_eq_true rfl) dL_law_2212 (fun v9 H3 locs3 hp hS hz3 hk3 => ?_)
  obtain ⟨hz, hh⟩ := hp
  subst hz; subst hh
  refine lv_iload hx hb dL_law_2215 (lv_at hl 1 rfl) ?_
  refine lv_icmp_eq (tgt := 2222) hx hb dL_law_2217 (by decide) (fun c_2217 => ?_) (fun c_2217 => ?_)
  · refine lv_iload hx hb dL_law_2222 (lv_at hl 1 rfl) ?_
    refine lv_if_ne (tgt := 2239) hx hb dL_law_2224 (by decide) (fun c_2224 => ?_) (fun c_2224 => ?_)
    · rw [if_neg c_2224] at hW2 ha
      refine lv_goto (tgt := 2534) hx hb dL_law_2239 (by decide) ?_
      exact J2534 H2 _ ⟨G1, R1, _, (cn2, sc2, μ2), f1, hI, hW2, hM2, hag.trans ha, hL2, hS, hb9⟩ _ (lv_sub hl [2, 3, 4, 5, 6] rfl)
    · have ckz := c_2224
      refine lv_aload_n hx hb dL_law_2227 rfl (lv_at hl 3 rfl) ?_
      refine lv_iconst (v := 0) hx hb dL_law_2228 (by decide) ?_
      refine hk_lld X K hL2 (show vp_in (0 : Int32) 1 from vp_in_nI (n := 0) (by decide) (by decide)) dL_law_2229 ?_
      rw [show f1 (0 : Int32).toNatClampNeg = w.toInt64 from (congrArg f1 hk_c0).trans (hf1 c_2224)]
      have ev : v = w := ev.trans (if_pos c_2224)
      rw [if_pos c_2224] at hW2 ha
      refine lv_iload hx hb dL_law_2230 (lv_at hl 0 rfl) ?_
      refine lv_i2l hx hb dL_law_2232 rfl ?_
      refine lv_lcmp hx hb dL_law_2233 ?_
      rw [show lcv (w.toInt64) v.toInt64 = 0 from by rw [ev]; exact lcv_self]
      refine lv_if_eq (tgt := 2239) hx hb dL_law_2234 (by decide) (fun c_2234 => ?_) (fun c_2234 => ?_)
      · refine lv_goto (tgt := 2534) hx hb dL_law_2239 (by decide) ?_
        exact J2534 H2 _ ⟨G1, R1, _, (cn2, sc2, μ2), f1, hI, hW2, hM2, (st_lost_agr hag).trans ha, hL2, hS, hb9⟩ _ (lv_sub hl [2, 3, 4, 5, 6] rfl)
      · exact absurd (by decide) c_2234
  · exact absurd c_2217 (fun h => h h33)
set_option maxHeartbeats 4000000 in
set_option maxRecDepth 100000 in
theorem k_dust {p : Program} {l : Launch} {e : Env} {s : State} {m : MethodId} {below : List Frame} {meth : Method} {c : Code} {b L : Nat} {xs : Nat → Int32} {E : hk_E} {Zh Zm : Nat → Prop} {ho ts mo o9 b4 : Nat} {li am : Nat → Nat} {rr : Nat → Nat → Nat} (G0 : lw_G p l s m meth c b L xs E Zh Zm o9 b4) {H : Heap} {locs : List Loc} {cells slots : Nat} (hJ0 : lw_J E Zh Zm ho ts mo o9 b4 li am rr s H locs) {i : Nat} (hi : i + 8 ≤ L) (hce : cells + 12 ≤ 601024) (hsl : slots + 700 ≤ 7293034) {ls : Array Slot} (hl : lv_has ls 7 [(4, .int (nI i)), (3, .ref o9), (2, .ref mo), (1, .ref ho), (0, .ref b)])
  (J2534 : ∀ (H1 : Heap) (locs1 : List Loc), lw_J E Zh Zm ho ts mo o9 b4 li am rr s H1 locs1 → ∀ (ls : Array Slot), lv_has ls 7 [(4, .int (nI i)), (3, .ref o9), (2, .ref mo), (1, .ref ho), (0, .ref b)] → W p l e room_1 s m #[Value.ref b] below meth c H1 locs1 (cells + 12) (slots + 700) (lw_Z below #[Value.ref b] s) (F0 m 2534 ls [])) : W p l e room_1 s m #[Value.ref b] below meth c H locs cells slots (lw_Z below #[Value.ref b] s) (F0 m 2242 ls []) := by
  obtain ⟨hl9, hLL, C0, X, K, hE, hZn0, hoZ, hoA, hZm⟩ := G0
  obtain ⟨G, R, ⟨cn, sc, μ⟩, ⟨cn1, sc1, μ1⟩, f0, hI, hW, hM, hag, hL, hS, hb4⟩ := hJ0
  obtain ⟨hx, hb, hr, hml, hown, -, hXs, hbl, hlocks, -⟩ := id C0
  have hAE : ∀ q, hk_A E q → hk_A E q := fun _ h => h
  have hZA : ∀ q, Zh q → hk_A E q := hW.2.2.2.2.2.2.2.2.2.2.2.2
  have hAz : ∀ q, (Zh q ∨ q = o9) → hk_A E q := fun q h => h.elim (fun h => hZA q h) (fun h => by rw [h]; exact hoA)
  have hmA : ∀ q, Zm q → hk_A E q := fun q h => (hZm q h).2.2.2
  have hZn : ∀ q, H.size ≤ q → Zh q := fun q h => hZn0 q (Nat.le_trans hb4 h)
  have hbA : ¬ hk_A E b := fun g => absurd hbl (Nat.not_lt.mpr (by rw [← hE]; exact g))
  have hJ : Inv (cn1, sc1, μ1) := inv_agr hI.1 hag
  refine lv_aload_n hx hb dL_law_2242 rfl (lv_at hl 3 rfl) ?_
  refine lv_aload_n hx hb dL_law_2243 rfl (lv_at hl 4 rfl) ?_
  refine lv_iload hx hb dL_law_2244 (lv_at hl 0 rfl) ?_
  refine lv_iconst (v := 1) hx hb dL_law_2246 (by decide) ?_
  refine lv_iadd hx hb dL_law_2247 ?_
  refine lv_topi (fun z_1 ez_1 => ?_)
  have ez_1 : z_1 = nI (i + 1) := ez_1.trans (nI_add i 1)
  subst ez_1
  refine va_sld hx hb hXs hbl hbA hS (vp_in_nI (show i + 1 < L by omega) (by omega)) dL_law_2248 ?_
  rw [show xs (nI (i + 1)).toNatClampNeg = xs (i + 1) from congrArg xs (nI_clamp (by omega))]
  refine lv_aload_n hx hb dL_law_2249 rfl (lv_at hl 4 rfl) ?_
  refine lv_iload hx hb dL_law_2250 (lv_at hl 0 rfl) ?_
  refine lv_iconst (v := 2) hx hb dL_law_2252 (by decide) ?_
  refine lv_iadd hx hb dL_law_2253 ?_
  refine lv_topi (fun z_2 ez_2 => ?_)
  have ez_2 : z_2 = nI (i + 2) := ez_2.trans (nI_add i 2)
  subst ez_2
  refine va_sld hx hb hXs hbl hbA hS (vp_in_nI (show i + 2 < L by omega) (by omega)) dL_law_2254 ?_
  rw [show xs (nI (i + 2)).toNatClampNeg = xs (i + 2) from congrArg xs (nI_clamp (by omega))]
  refine lv_aload_n hx hb dL_law_2255 rfl (lv_at hl 1 rfl) ?_
  refine hk_callSxW 4 (As := [.ref ho, .int (xs (i + 1)), .int (xs (i + 2)), .ref o9]) (rest := []) X K hAE hS hl.1 (c_L_dust E l hl9 H hW hI hZn hL hoZ hoA (p0 := xs (i + 1)) (p1 := xs (i + 2))) hAz gL_law_L_dust rfl hd_L_dust rfl ⟨⟨(Nat.le_of_ble_eq_true rfl), (Nat.le_of_ble_eq_true rfl)⟩, hce, hsl⟩ rfl (Nat.le_of_ble_eq_true rfl) dL_law_2256 (fun _ _ _ _ _ hp _ _ _ _ _ _ => False.elim hp) (fun v9 H1 locs1 hp hS hz1 hk1 => ?_)
  obtain ⟨hz, G1, R1, f1, hW1, hL1, hf1⟩ := hp
  subst hz
  have hM1 := MW.kept hM (fun q hq => hk1 q (Nat.lt_of_lt_of_le (hZm q hq).1 hb4) (fun g => g.elim (hZm q hq).2.1 (hZm q hq).2.2.1))
  refine lv_topi (fun k ek => ?_)
  refine lv_istore (lv' := [(5, .int k), (4, .int (nI i)), (3, .ref o9), (2, .ref mo), (1, .ref ho), (0, .ref b)]) hx hb dL_law_2259 hl (by decide) rfl (fun ls hl => ?_)
  rw [← ek] at hW1 hf1
  have hcT : cd_dust (xs (i + 1)) (xs (i + 2)) (cn1, sc1, μ1) = k := (cd_dust_agr hag).symm.trans ek.symm
  obtain ⟨w, ew⟩ : ∃ w : Int32, w = an_dust (xs (i + 1)) (xs (i + 2)) (cn, sc, μ) := ⟨_, rfl⟩
  rw [← ew] at hf1
  have haT : an_dust (xs (i + 1)) (xs (i + 2)) (cn1, sc1, μ1) = w := (an_dust_agr hag).symm.trans ew.symm
  refine lv_aload_n hx hb dL_law_2261 rfl (lv_at hl 3 rfl) ?_
  refine lv_aload_n hx hb dL_law_2262 rfl (lv_at hl 5 rfl) ?_
  refine lv_iload hx hb dL_law_2263 (lv_at hl 1 rfl) ?_
  refine lv_iconst (v := 1) hx hb dL_law_2265 (by decide) ?_
  refine lv_iadd hx hb dL_law_2266 ?_
  refine lv_topi (fun z_3 ez_3 => ?_)
  have ez_3 : z_3 = nI (i + 1) := ez_3.trans (nI_add i 1)
  subst ez_3
  refine va_sld hx hb hXs hbl hbA hS (vp_in_nI (show i + 1 < L by omega) (by omega)) dL_law_2267 ?_
  rw [show xs (nI (i + 1)).toNatClampNeg = xs (i + 1) from congrArg xs (nI_clamp (by omega))]
  refine lv_aload_n hx hb dL_law_2268 rfl (lv_at hl 5 rfl) ?_
  refine lv_iload hx hb dL_law_2269 (lv_at hl 1 rfl) ?_
  refine lv_iconst (v := 2) hx hb dL_law_2271 (by decide) ?_
  refine lv_iadd hx hb dL_law_2272 ?_
  refine lv_topi (fun z_4 ez_4 => ?_)
  have ez_4 : z_4 = nI (i + 2) := ez_4.trans (nI_add i 2)
  subst ez_4
  refine va_sld hx hb hXs hbl hbA hS (vp_in_nI (show i + 2 < L by omega) (by omega)) dL_law_2273 ?_
  rw [show xs (nI (i + 2)).toNatClampNeg = xs (i + 2) from congrArg xs (nI_clamp (by omega))]
  refine hk_callV 2 (As := [.int (xs (i + 1)), .int (xs (i + 2))]) (rest := []) X K hAE hS hl.1 hM1.1 rfl (c_X11_dust E l H1 hM1 hmA hJ.1.1 (p0 := xs (i + 1)) (p1 := xs (i + 2))) hmA gL_law_X11_dust rfl ⟨rfl, hd_X11_dust⟩ rfl ⟨⟨(Nat.le_of_ble_eq_true rfl), (Nat.le_of_ble_eq_true rfl)⟩, (by show cells + 12 + 0 ≤ 601024; omega), (by show slots + 700 + 0 ≤ 7293034; omega)⟩ rfl (Nat.le_of_ble_eq_true rfl) dL_law_2274 (fun v9 H2 locs2 hp hS hz2 hk2 => ?_)
  obtain ⟨cn2, sc2, μ2, hM2, h33, hz, ha⟩ := hp
  subst hz
  rw [hcT] at h33 ha
  have hW2 := HW.kept hW1 (fun q h1 h2 => hk2 q h1 (fun g => h2.elim (hZm q g).2.1 (fun h => h (hZm q g).2.2.2)))
  have hL2 : hk_L E o9 1 f1 H2 := (hk2 _ (ar_lt hL1) (fun g => (hZm _ g).2.2.1 rfl)).trans hL1
  have hb9 : b4 ≤ H2.size := Nat.le_trans (Nat.le_trans hb4 hz1) hz2
  rw [hcT, haT]
  refine lv_topi (fun v ev => ?_)
  refine lv_istore (lv' := [(6, .int v), (5, .int k), (4, .int (nI i)), (3, .ref o9), (2, .ref mo), (1, .ref ho), (0, .ref b)]) hx hb dL_law_2277 hl (by decide) rfl (fun ls hl => ?_)
  refine lv_aload_n hx hb dL_law_2279 rfl (lv_at hl 4 rfl) ?_
  refine hk_callV 0 (As := []) (rest := []) X K hAE hS hl.1 hM2.1 rfl (c_X11_thrown E l H2 hM2) (fun _ h => False.elim h) gL_law_X11_thrown rfl ⟨rfl, hd_X11_thrown⟩ rfl ⟨⟨(Nat.le_of_ble_eq_true rfl), (Nat.le_of_ble_eq_true rfl)⟩, (by show cells + 12 + 0 + 0 ≤ 601024; omega), (by show slots + 700 + 0 + 0 ≤ 7293034; omega)⟩ rfl (Nat.le_of_ble_eq_true rfl) dL_law_2280 (fun v9 H3 locs3 hp hS hz3 hk3 => ?_)
  obtain ⟨hz, hh⟩ := hp
  subst hz; subst hh
  refine lv_iload hx hb dL_law_2283 (lv_at hl 1 rfl) ?_
  refine lv_icmp_eq (tgt := 2290) hx hb dL_law_2285 (by decide) (fun c_2285 => ?_) (fun c_2285 => ?_)
  · refine lv_iload hx hb dL_law_2290 (lv_at hl 1 rfl) ?_
    refine lv_if_ne (tgt := 2307) hx hb dL_law_2292 (by decide) (fun c_2292 => ?_) (fun c_2292 => ?_)
    · rw [if_neg c_2292] at hW2 ha
      refine lv_goto (tgt := 2534) hx hb dL_law_2307 (by decide) ?_
      exact J2534 H2 _ ⟨G1, R1, _, (cn2, sc2, μ2), f1, hI, hW2, hM2, hag.trans ha, hL2, hS, hb9⟩ _ (lv_sub hl [2, 3, 4, 5, 6] rfl)
    · have ckz := c_2292
      refine lv_aload_n hx hb dL_law_2295 rfl (lv_at hl 3 rfl) ?_
      refine lv_iconst (v := 0) hx hb dL_law_2296 (by decide) ?_
      refine hk_lld X K hL2 (show vp_in (0 : Int32) 1 from vp_in_nI (n := 0) (by decide) (by decide)) dL_law_2297 ?_
      rw [show f1 (0 : Int32).toNatClampNeg = w.toInt64 from (congrArg f1 hk_c0).trans (hf1 c_2292)]
      have ev : v = w := ev.trans (if_pos c_2292)
      rw [if_pos c_2292] at hW2 ha
      refine lv_iload hx hb dL_law_2298 (lv_at hl 0 rfl) ?_
      refine lv_i2l hx hb dL_law_2300 rfl ?_
      refine lv_lcmp hx hb dL_law_2301 ?_
      rw [show lcv (w.toInt64) v.toInt64 = 0 from by rw [ev]; exact lcv_self]
      refine lv_if_eq (tgt := 2307) hx hb dL_law_2302 (by decide) (fun c_2302 => ?_) (fun c_2302 => ?_)
      · refine lv_goto (tgt := 2534) hx hb dL_law_2307 (by decide) ?_
        exact J2534 H2 _ ⟨G1, R1, _, (cn2, sc2, μ2), f1, invF_dust hI (ek.symm.trans ckz), hW2, hM2, (st_dust_agr hag).trans ha, hL2, hS, hb9⟩ _ (lv_sub hl [2, 3, 4, 5, 6] rfl)
      · exact absurd (by decide) c_2302
  · exact absurd c_2285 (fun h => h h33)
set_option maxHeartbeats 4000000 in
set_option maxRecDepth 100000 in
theorem k_zero {p : Program} {l : Launch} {e : Env} {s : State} {m : MethodId} {below : List Frame} {meth : Method} {c : Code} {b L : Nat} {xs : Nat → Int32} {E : hk_E} {Zh Zm : Nat → Prop} {ho ts mo o9 b4 : Nat} {li am : Nat → Nat} {rr : Nat → Nat → Nat} (G0 : lw_G p l s m meth c b L xs E Zh Zm o9 b4) {H : Heap} {locs : List Loc} {cells slots : Nat} (hJ0 : lw_J E Zh Zm ho ts mo o9 b4 li am rr s H locs) {i : Nat} (hi : i + 8 ≤ L) (hce : cells + 12 ≤ 601024) (hsl : slots + 700 ≤ 7293034) {ls : Array Slot} (hl : lv_has ls 7 [(4, .int (nI i)), (3, .ref o9), (2, .ref mo), (1, .ref ho), (0, .ref b)])
  (J2534 : ∀ (H1 : Heap) (locs1 : List Loc), lw_J E Zh Zm ho ts mo o9 b4 li am rr s H1 locs1 → ∀ (ls : Array Slot), lv_has ls 7 [(4, .int (nI i)), (3, .ref o9), (2, .ref mo), (1, .ref ho), (0, .ref b)] → W p l e room_1 s m #[Value.ref b] below meth c H1 locs1 (cells + 12) (slots + 700) (lw_Z below #[Value.ref b] s) (F0 m 2534 ls [])) : W p l e room_1 s m #[Value.ref b] below meth c H locs cells slots (lw_Z below #[Value.ref b] s) (F0 m 2310 ls []) := by
  obtain ⟨hl9, hLL, C0, X, K, hE, hZn0, hoZ, hoA, hZm⟩ := G0
  obtain ⟨G, R, ⟨cn, sc, μ⟩, ⟨cn1, sc1, μ1⟩, f0, hI, hW, hM, hag, hL, hS, hb4⟩ := hJ0
  obtain ⟨hx, hb, hr, hml, hown, -, hXs, hbl, hlocks, -⟩ := id C0
  have hAE : ∀ q, hk_A E q → hk_A E q := fun _ h => h
  have hZA : ∀ q, Zh q → hk_A E q := hW.2.2.2.2.2.2.2.2.2.2.2.2
  have hAz : ∀ q, (Zh q ∨ q = o9) → hk_A E q := fun q h => h.elim (fun h => hZA q h) (fun h => by rw [h]; exact hoA)
  have hmA : ∀ q, Zm q → hk_A E q := fun q h => (hZm q h).2.2.2
  have hZn : ∀ q, H.size ≤ q → Zh q := fun q h => hZn0 q (Nat.le_trans hb4 h)
  have hbA : ¬ hk_A E b := fun g => absurd hbl (Nat.not_lt.mpr (by rw [← hE]; exact g))
  have hJ : Inv (cn1, sc1, μ1) := inv_agr hI.1 hag
  refine lv_aload_n hx hb dL_law_2310 rfl (lv_at hl 3 rfl) ?_
  refine lv_aload_n hx hb dL_law_2311 rfl (lv_at hl 4 rfl) ?_
  refine lv_iload hx hb dL_law_2312 (lv_at hl 0 rfl) ?_
  refine lv_iconst (v := 1) hx hb dL_law_2314 (by decide) ?_
  refine lv_iadd hx hb dL_law_2315 ?_
  refine lv_topi (fun z_1 ez_1 => ?_)
  have ez_1 : z_1 = nI (i + 1) := ez_1.trans (nI_add i 1)
  subst ez_1
  refine va_sld hx hb hXs hbl hbA hS (vp_in_nI (show i + 1 < L by omega) (by omega)) dL_law_2316 ?_
  rw [show xs (nI (i + 1)).toNatClampNeg = xs (i + 1) from congrArg xs (nI_clamp (by omega))]
  refine lv_aload_n hx hb dL_law_2317 rfl (lv_at hl 1 rfl) ?_
  refine hk_callSxW 3 (As := [.ref ho, .int (xs (i + 1)), .ref o9]) (rest := []) X K hAE hS hl.1 (c_L_zero E l hl9 H hW hI hZn hL hoZ hoA (p0 := xs (i + 1))) hAz gL_law_L_zero rfl hd_L_zero rfl ⟨⟨(Nat.le_of_ble_eq_true rfl), (Nat.le_of_ble_eq_true rfl)⟩, hce, hsl⟩ rfl (Nat.le_of_ble_eq_true rfl) dL_law_2318 (fun _ _ _ _ _ hp _ _ _ _ _ _ => False.elim hp) (fun v9 H1 locs1 hp hS hz1 hk1 => ?_)
  obtain ⟨hz, G1, R1, f1, hW1, hL1, hf1⟩ := hp
  subst hz
  have hM1 := MW.kept hM (fun q hq => hk1 q (Nat.lt_of_lt_of_le (hZm q hq).1 hb4) (fun g => g.elim (hZm q hq).2.1 (hZm q hq).2.2.1))
  refine lv_topi (fun k ek => ?_)
  refine lv_istore (lv' := [(5, .int k), (4, .int (nI i)), (3, .ref o9), (2, .ref mo), (1, .ref ho), (0, .ref b)]) hx hb dL_law_2321 hl (by decide) rfl (fun ls hl => ?_)
  rw [← ek] at hW1 hf1
  have hcT : cd_zero (xs (i + 1)) (cn1, sc1, μ1) = k := (cd_zero_agr hag).symm.trans ek.symm
  obtain ⟨w, ew⟩ : ∃ w : Int32, w = an_zero (xs (i + 1)) (cn, sc, μ) := ⟨_, rfl⟩
  rw [← ew] at hf1
  have haT : an_zero (xs (i + 1)) (cn1, sc1, μ1) = w := (an_zero_agr hag).symm.trans ew.symm
  refine lv_aload_n hx hb dL_law_2323 rfl (lv_at hl 3 rfl) ?_
  refine lv_aload_n hx hb dL_law_2324 rfl (lv_at hl 5 rfl) ?_
  refine lv_iload hx hb dL_law_2325 (lv_at hl 1 rfl) ?_
  refine lv_iconst (v := 1) hx hb dL_law_2327 (by decide) ?_
  refine lv_iadd hx hb dL_law_2328 ?_
  refine lv_topi (fun z_2 ez_2 => ?_)
  have ez_2 : z_2 = nI (i + 1) := ez_2.trans (nI_add i 1)
  subst ez_2
  refine va_sld hx hb hXs hbl hbA hS (vp_in_nI (show i + 1 < L by omega) (by omega)) dL_law_2329 ?_
  rw [show xs (nI (i + 1)).toNatClampNeg = xs (i + 1) from congrArg xs (nI_clamp (by omega))]
  refine hk_callV 1 (As := [.int (xs (i + 1))]) (rest := []) X K hAE hS hl.1 hM1.1 rfl (c_X11_zero E l H1 hM1 hmA  (p0 := xs (i + 1))) hmA gL_law_X11_zero rfl ⟨rfl, hd_X11_zero⟩ rfl ⟨⟨(Nat.le_of_ble_eq_true rfl), (Nat.le_of_ble_eq_true rfl)⟩, (by show cells + 12 + 0 ≤ 601024; omega), (by show slots + 700 + 0 ≤ 7293034; omega)⟩ rfl (Nat.le_of_ble_eq_true rfl) dL_law_2330 (fun v9 H2 locs2 hp hS hz2 hk2 => ?_)
  obtain ⟨cn2, sc2, μ2, hM2, h33, hz, ha⟩ := hp
  subst hz
  rw [hcT] at h33 ha
  have hW2 := HW.kept hW1 (fun q h1 h2 => hk2 q h1 (fun g => h2.elim (hZm q g).2.1 (fun h => h (hZm q g).2.2.2)))
  have hL2 : hk_L E o9 1 f1 H2 := (hk2 _ (ar_lt hL1) (fun g => (hZm _ g).2.2.1 rfl)).trans hL1
  have hb9 : b4 ≤ H2.size := Nat.le_trans (Nat.le_trans hb4 hz1) hz2
  rw [hcT, haT]
  refine lv_topi (fun v ev => ?_)
  refine lv_istore (lv' := [(6, .int v), (5, .int k), (4, .int (nI i)), (3, .ref o9), (2, .ref mo), (1, .ref ho), (0, .ref b)]) hx hb dL_law_2333 hl (by decide) rfl (fun ls hl => ?_)
  refine lv_aload_n hx hb dL_law_2335 rfl (lv_at hl 4 rfl) ?_
  refine hk_callV 0 (As := []) (rest := []) X K hAE hS hl.1 hM2.1 rfl (c_X11_thrown E l H2 hM2) (fun _ h => False.elim h) gL_law_X11_thrown rfl ⟨rfl, hd_X11_thrown⟩ rfl ⟨⟨(Nat.le_of_ble_eq_true rfl), (Nat.le_of_ble_eq_true rfl)⟩, (by show cells + 12 + 0 + 0 ≤ 601024; omega), (by show slots + 700 + 0 + 0 ≤ 7293034; omega)⟩ rfl (Nat.le_of_ble_eq_true rfl) dL_law_2336 (fun v9 H3 locs3 hp hS hz3 hk3 => ?_)
  obtain ⟨hz, hh⟩ := hp
  subst hz; subst hh
  refine lv_iload hx hb dL_law_2339 (lv_at hl 1 rfl) ?_
  refine lv_icmp_eq (tgt := 2346) hx hb dL_law_2341 (by decide) (fun c_2341 => ?_) (fun c_2341 => ?_)
  · refine lv_iload hx hb dL_law_2346 (lv_at hl 1 rfl) ?_
    refine lv_if_ne (tgt := 2363) hx hb dL_law_2348 (by decide) (fun c_2348 => ?_) (fun c_2348 => ?_)
    · rw [if_neg c_2348] at hW2 ha
      refine lv_goto (tgt := 2534) hx hb dL_law_2363 (by decide) ?_
      exact J2534 H2 _ ⟨G1, R1, _, (cn2, sc2, μ2), f1, hI, hW2, hM2, hag.trans ha, hL2, hS, hb9⟩ _ (lv_sub hl [2, 3, 4, 5, 6] rfl)
    · have ckz := c_2348
      refine lv_aload_n hx hb dL_law_2351 rfl (lv_at hl 3 rfl) ?_
      refine lv_iconst (v := 0) hx hb dL_law_2352 (by decide) ?_
      refine hk_lld X K hL2 (show vp_in (0 : Int32) 1 from vp_in_nI (n := 0) (by decide) (by decide)) dL_law_2353 ?_
      rw [show f1 (0 : Int32).toNatClampNeg = w.toInt64 from (congrArg f1 hk_c0).trans (hf1 c_2348)]
      have ev : v = w := ev.trans (if_pos c_2348)
      rw [if_pos c_2348] at hW2 ha
      refine lv_iload hx hb dL_law_2354 (lv_at hl 0 rfl) ?_
      refine lv_i2l hx hb dL_law_2356 rfl ?_
      refine lv_lcmp hx hb dL_law_2357 ?_
      rw [show lcv (w.toInt64) v.toInt64 = 0 from by rw [ev]; exact lcv_self]
      refine lv_if_eq (tgt := 2363) hx hb dL_law_2358 (by decide) (fun c_2358 => ?_) (fun c_2358 => ?_)
      · refine lv_goto (tgt := 2534) hx hb dL_law_2363 (by decide) ?_
        exact J2534 H2 _ ⟨G1, R1, _, (cn2, sc2, μ2), f1, invF_zero hI, hW2, hM2, (st_zero_agr hag).trans ha, hL2, hS, hb9⟩ _ (lv_sub hl [2, 3, 4, 5, 6] rfl)
      · exact absurd (by decide) c_2358
  · exact absurd c_2341 (fun h => h h33)
set_option maxHeartbeats 4000000 in
set_option maxRecDepth 100000 in
theorem k_mean {p : Program} {l : Launch} {e : Env} {s : State} {m : MethodId} {below : List Frame} {meth : Method} {c : Code} {b L : Nat} {xs : Nat → Int32} {E : hk_E} {Zh Zm : Nat → Prop} {ho ts mo o9 b4 : Nat} {li am : Nat → Nat} {rr : Nat → Nat → Nat} (G0 : lw_G p l s m meth c b L xs E Zh Zm o9 b4) {H : Heap} {locs : List Loc} {cells slots : Nat} (hJ0 : lw_J E Zh Zm ho ts mo o9 b4 li am rr s H locs) {i : Nat} (hi : i + 8 ≤ L) (hce : cells + 12 ≤ 601024) (hsl : slots + 700 ≤ 7293034) {ls : Array Slot} (hl : lv_has ls 7 [(4, .int (nI i)), (3, .ref o9), (2, .ref mo), (1, .ref ho), (0, .ref b)])
  (J2534 : ∀ (H1 : Heap) (locs1 : List Loc), lw_J E Zh Zm ho ts mo o9 b4 li am rr s H1 locs1 → ∀ (ls : Array Slot), lv_has ls 7 [(4, .int (nI i)), (3, .ref o9), (2, .ref mo), (1, .ref ho), (0, .ref b)] → W p l e room_1 s m #[Value.ref b] below meth c H1 locs1 (cells + 12) (slots + 700) (lw_Z below #[Value.ref b] s) (F0 m 2534 ls [])) : W p l e room_1 s m #[Value.ref b] below meth c H locs cells slots (lw_Z below #[Value.ref b] s) (F0 m 2366 ls []) := by
  obtain ⟨hl9, hLL, C0, X, K, hE, hZn0, hoZ, hoA, hZm⟩ := G0
  obtain ⟨G, R, ⟨cn, sc, μ⟩, ⟨cn1, sc1, μ1⟩, f0, hI, hW, hM, hag, hL, hS, hb4⟩ := hJ0
  obtain ⟨hx, hb, hr, hml, hown, -, hXs, hbl, hlocks, -⟩ := id C0
  have hAE : ∀ q, hk_A E q → hk_A E q := fun _ h => h
  have hZA : ∀ q, Zh q → hk_A E q := hW.2.2.2.2.2.2.2.2.2.2.2.2
  have hAz : ∀ q, (Zh q ∨ q = o9) → hk_A E q := fun q h => h.elim (fun h => hZA q h) (fun h => by rw [h]; exact hoA)
  have hmA : ∀ q, Zm q → hk_A E q := fun q h => (hZm q h).2.2.2
  have hZn : ∀ q, H.size ≤ q → Zh q := fun q h => hZn0 q (Nat.le_trans hb4 h)
  have hbA : ¬ hk_A E b := fun g => absurd hbl (Nat.not_lt.mpr (by rw [← hE]; exact g))
  have hJ : Inv (cn1, sc1, μ1) := inv_agr hI.1 hag
  refine lv_aload_n hx hb dL_law_2366 rfl (lv_at hl 3 rfl) ?_
  refine lv_aload_n hx hb dL_law_2367 rfl (lv_at hl 4 rfl) ?_
  refine lv_iload hx hb dL_law_2368 (lv_at hl 0 rfl) ?_
  refine lv_iconst (v := 1) hx hb dL_law_2370 (by decide) ?_
  refine lv_iadd hx hb dL_law_2371 ?_
  refine lv_topi (fun z_1 ez_1 => ?_)
  have ez_1 : z_1 = nI (i + 1) := ez_1.trans (nI_add i 1)
  subst ez_1
  refine va_sld hx hb hXs hbl hbA hS (vp_in_nI (show i + 1 < L by omega) (by omega)) dL_law_2372 ?_
  rw [show xs (nI (i + 1)).toNatClampNeg = xs (i + 1) from congrArg xs (nI_clamp (by omega))]
  refine lv_aload_n hx hb dL_law_2373 rfl (lv_at hl 1 rfl) ?_
  refine hk_callSxW 3 (As := [.ref ho, .int (xs (i + 1)), .ref o9]) (rest := []) X K hAE hS hl.1 (c_L_mean E l hl9 H hW hI hZn hL hoZ hoA (p0 := xs (i + 1))) hAz gL_law_L_mean rfl hd_L_mean rfl ⟨⟨(Nat.le_of_ble_eq_true rfl), (Nat.le_of_ble_eq_true rfl)⟩, hce, hsl⟩ rfl (Nat.le_of_ble_eq_true rfl) dL_law_2374 (fun _ _ _ _ _ hp _ _ _ _ _ _ => False.elim hp) (fun v9 H1 locs1 hp hS hz1 hk1 => ?_)
  obtain ⟨hz, G1, R1, f1, hW1, hL1, hf1⟩ := hp
  subst hz
  have hM1 := MW.kept hM (fun q hq => hk1 q (Nat.lt_of_lt_of_le (hZm q hq).1 hb4) (fun g => g.elim (hZm q hq).2.1 (hZm q hq).2.2.1))
  refine lv_topi (fun k ek => ?_)
  refine lv_istore (lv' := [(5, .int k), (4, .int (nI i)), (3, .ref o9), (2, .ref mo), (1, .ref ho), (0, .ref b)]) hx hb dL_law_2377 hl (by decide) rfl (fun ls hl => ?_)
  rw [← ek] at hW1 hf1
  have hcT : cd_mean (xs (i + 1)) (cn1, sc1, μ1) = k := (cd_mean_agr hag).symm.trans ek.symm
  obtain ⟨w, ew⟩ : ∃ w : Int32, w = an_mean (xs (i + 1)) (cn, sc, μ) := ⟨_, rfl⟩
  rw [← ew] at hf1
  have haT : an_mean (xs (i + 1)) (cn1, sc1, μ1) = w := (an_mean_agr hag).symm.trans ew.symm
  refine lv_aload_n hx hb dL_law_2379 rfl (lv_at hl 3 rfl) ?_
  refine lv_aload_n hx hb dL_law_2380 rfl (lv_at hl 5 rfl) ?_
  refine lv_iload hx hb dL_law_2381 (lv_at hl 1 rfl) ?_
  refine lv_iconst (v := 1) hx hb dL_law_2383 (by decide) ?_
  refine lv_iadd hx hb dL_law_2384 ?_
  refine lv_topi (fun z_2 ez_2 => ?_)
  have ez_2 : z_2 = nI (i + 1) := ez_2.trans (nI_add i 1)
  subst ez_2
  refine va_sld hx hb hXs hbl hbA hS (vp_in_nI (show i + 1 < L by omega) (by omega)) dL_law_2385 ?_
  rw [show xs (nI (i + 1)).toNatClampNeg = xs (i + 1) from congrArg xs (nI_clamp (by omega))]
  refine hk_callV 1 (As := [.int (xs (i + 1))]) (rest := []) X K hAE hS hl.1 hM1.1 rfl (c_X11_mean E l H1 hM1 hmA hJ (p0 := xs (i + 1))) hmA gL_law_X11_mean rfl ⟨rfl, hd_X11_mean⟩ rfl ⟨⟨(Nat.le_of_ble_eq_true rfl), (Nat.le_of_ble_eq_true rfl)⟩, (by show cells + 12 + 0 ≤ 601024; omega), (by show slots + 700 + 0 ≤ 7293034; omega)⟩ rfl (Nat.le_of_ble_eq_true rfl) dL_law_2386 (fun v9 H2 locs2 hp hS hz2 hk2 => ?_)
  obtain ⟨cn2, sc2, μ2, hM2, h33, hz, ha⟩ := hp
  subst hz
  rw [hcT] at h33 ha
  have hW2 := HW.kept hW1 (fun q h1 h2 => hk2 q h1 (fun g => h2.elim (hZm q g).2.1 (fun h => h (hZm q g).2.2.2)))
  have hL2 : hk_L E o9 1 f1 H2 := (hk2 _ (ar_lt hL1) (fun g => (hZm _ g).2.2.1 rfl)).trans hL1
  have hb9 : b4 ≤ H2.size := Nat.le_trans (Nat.le_trans hb4 hz1) hz2
  rw [hcT, haT]
  refine lv_topi (fun v ev => ?_)
  refine lv_istore (lv' := [(6, .int v), (5, .int k), (4, .int (nI i)), (3, .ref o9), (2, .ref mo), (1, .ref ho), (0, .ref b)]) hx hb dL_law_2389 hl (by decide) rfl (fun ls hl => ?_)
  refine lv_aload_n hx hb dL_law_2391 rfl (lv_at hl 4 rfl) ?_
  refine hk_callV 0 (As := []) (rest := []) X K hAE hS hl.1 hM2.1 rfl (c_X11_thrown E l H2 hM2) (fun _ h => False.elim h) gL_law_X11_thrown rfl ⟨rfl, hd_X11_thrown⟩ rfl ⟨⟨(Nat.le_of_ble_eq_true rfl), (Nat.le_of_ble_eq_true rfl)⟩, (by show cells + 12 + 0 + 0 ≤ 601024; omega), (by show slots + 700 + 0 + 0 ≤ 7293034; omega)⟩ rfl (Nat.le_of_ble_eq_true rfl) dL_law_2392 (fun v9 H3 locs3 hp hS hz3 hk3 => ?_)
  obtain ⟨hz, hh⟩ := hp
  subst hz; subst hh
  refine lv_iload hx hb dL_law_2395 (lv_at hl 1 rfl) ?_
  refine lv_icmp_eq (tgt := 2402) hx hb dL_law_2397 (by decide) (fun c_2397 => ?_) (fun c_2397 => ?_)
  · refine lv_iload hx hb dL_law_2402 (lv_at hl 1 rfl) ?_
    refine lv_if_ne (tgt := 2419) hx hb dL_law_2404 (by decide) (fun c_2404 => ?_) (fun c_2404 => ?_)
    · rw [if_neg c_2404] at hW2 ha
      refine lv_goto (tgt := 2534) hx hb dL_law_2419 (by decide) ?_
      exact J2534 H2 _ ⟨G1, R1, _, (cn2, sc2, μ2), f1, hI, hW2, hM2, hag.trans ha, hL2, hS, hb9⟩ _ (lv_sub hl [2, 3, 4, 5, 6] rfl)
    · have ckz := c_2404
      refine lv_aload_n hx hb dL_law_2407 rfl (lv_at hl 3 rfl) ?_
      refine lv_iconst (v := 0) hx hb dL_law_2408 (by decide) ?_
      refine hk_lld X K hL2 (show vp_in (0 : Int32) 1 from vp_in_nI (n := 0) (by decide) (by decide)) dL_law_2409 ?_
      rw [show f1 (0 : Int32).toNatClampNeg = w.toInt64 from (congrArg f1 hk_c0).trans (hf1 c_2404)]
      have ev : v = w := ev.trans (if_pos c_2404)
      rw [if_pos c_2404] at hW2 ha
      refine lv_iload hx hb dL_law_2410 (lv_at hl 0 rfl) ?_
      refine lv_i2l hx hb dL_law_2412 rfl ?_
      refine lv_lcmp hx hb dL_law_2413 ?_
      rw [show lcv (w.toInt64) v.toInt64 = 0 from by rw [ev]; exact lcv_self]
      refine lv_if_eq (tgt := 2419) hx hb dL_law_2414 (by decide) (fun c_2414 => ?_) (fun c_2414 => ?_)
      · refine lv_goto (tgt := 2534) hx hb dL_law_2419 (by decide) ?_
        exact J2534 H2 _ ⟨G1, R1, _, (cn2, sc2, μ2), f1, hI, hW2, hM2, (st_mean_agr hag).trans ha, hL2, hS, hb9⟩ _ (lv_sub hl [2, 3, 4, 5, 6] rfl)
      · exact absurd (by decide) c_2414
  · exact absurd c_2397 (fun h => h h33)
set_option maxHeartbeats 4000000 in
set_option maxRecDepth 100000 in
theorem k_modulus {p : Program} {l : Launch} {e : Env} {s : State} {m : MethodId} {below : List Frame} {meth : Method} {c : Code} {b L : Nat} {xs : Nat → Int32} {E : hk_E} {Zh Zm : Nat → Prop} {ho ts mo o9 b4 : Nat} {li am : Nat → Nat} {rr : Nat → Nat → Nat} (G0 : lw_G p l s m meth c b L xs E Zh Zm o9 b4) {H : Heap} {locs : List Loc} {cells slots : Nat} (hJ0 : lw_J E Zh Zm ho ts mo o9 b4 li am rr s H locs) {i : Nat} (hi : i + 8 ≤ L) (hce : cells + 12 ≤ 601024) (hsl : slots + 700 ≤ 7293034) {ls : Array Slot} (hl : lv_has ls 7 [(4, .int (nI i)), (3, .ref o9), (2, .ref mo), (1, .ref ho), (0, .ref b)])
  (J2534 : ∀ (H1 : Heap) (locs1 : List Loc), lw_J E Zh Zm ho ts mo o9 b4 li am rr s H1 locs1 → ∀ (ls : Array Slot), lv_has ls 7 [(4, .int (nI i)), (3, .ref o9), (2, .ref mo), (1, .ref ho), (0, .ref b)] → W p l e room_1 s m #[Value.ref b] below meth c H1 locs1 (cells + 12) (slots + 700) (lw_Z below #[Value.ref b] s) (F0 m 2534 ls [])) : W p l e room_1 s m #[Value.ref b] below meth c H locs cells slots (lw_Z below #[Value.ref b] s) (F0 m 2422 ls []) := by
  obtain ⟨hl9, hLL, C0, X, K, hE, hZn0, hoZ, hoA, hZm⟩ := G0
  obtain ⟨G, R, ⟨cn, sc, μ⟩, ⟨cn1, sc1, μ1⟩, f0, hI, hW, hM, hag, hL, hS, hb4⟩ := hJ0
  obtain ⟨hx, hb, hr, hml, hown, -, hXs, hbl, hlocks, -⟩ := id C0
  have hAE : ∀ q, hk_A E q → hk_A E q := fun _ h => h
  have hZA : ∀ q, Zh q → hk_A E q := hW.2.2.2.2.2.2.2.2.2.2.2.2
  have hAz : ∀ q, (Zh q ∨ q = o9) → hk_A E q := fun q h => h.elim (fun h => hZA q h) (fun h => by rw [h]; exact hoA)
  have hmA : ∀ q, Zm q → hk_A E q := fun q h => (hZm q h).2.2.2
  have hZn : ∀ q, H.size ≤ q → Zh q := fun q h => hZn0 q (Nat.le_trans hb4 h)
  have hbA : ¬ hk_A E b := fun g => absurd hbl (Nat.not_lt.mpr (by rw [← hE]; exact g))
  have hJ : Inv (cn1, sc1, μ1) := inv_agr hI.1 hag
  refine lv_aload_n hx hb dL_law_2422 rfl (lv_at hl 3 rfl) ?_
  refine lv_aload_n hx hb dL_law_2423 rfl (lv_at hl 4 rfl) ?_
  refine lv_iload hx hb dL_law_2424 (lv_at hl 0 rfl) ?_
  refine lv_iconst (v := 1) hx hb dL_law_2426 (by decide) ?_
  refine lv_iadd hx hb dL_law_2427 ?_
  refine lv_topi (fun z_1 ez_1 => ?_)
  have ez_1 : z_1 = nI (i + 1) := ez_1.trans (nI_add i 1)
  subst ez_1
  refine va_sld hx hb hXs hbl hbA hS (vp_in_nI (show i + 1 < L by omega) (by omega)) dL_law_2428 ?_
  rw [show xs (nI (i + 1)).toNatClampNeg = xs (i + 1) from congrArg xs (nI_clamp (by omega))]
  refine lv_aload_n hx hb dL_law_2429 rfl (lv_at hl 1 rfl) ?_
  refine hk_callSxW 3 (As := [.ref ho, .int (xs (i + 1)), .ref o9]) (rest := []) X K hAE hS hl.1 (c_L_modulus E l hl9 H hW hI hZn hL hoZ hoA (p0 := xs (i + 1))) hAz gL_law_L_modulus rfl hd_L_modulus rfl ⟨⟨(Nat.le_of_ble_eq_true rfl), (Nat.le_of_ble_eq_true rfl)⟩, hce, hsl⟩ rfl (Nat.le_of_ble_eq_true rfl) dL_law_2430 (fun _ _ _ _ _ hp _ _ _ _ _ _ => False.elim hp) (fun v9 H1 locs1 hp hS hz1 hk1 => ?_)
  obtain ⟨hz, G1, R1, f1, hW1, hL1, hf1⟩ := hp
  subst hz
  have hM1 := MW.kept hM (fun q hq => hk1 q (Nat.lt_of_lt_of_le (hZm q hq).1 hb4) (fun g => g.elim (hZm q hq).2.1 (hZm q hq).2.2.1))
  refine lv_topi (fun k ek => ?_)
  refine lv_istore (lv' := [(5, .int k), (4, .int (nI i)), (3, .ref o9), (2, .ref mo), (1, .ref ho), (0, .ref b)]) hx hb dL_law_2433 hl (by decide) rfl (fun ls hl => ?_)
  rw [← ek] at hW1 hf1
  have hcT : cd_modulus (xs (i + 1)) (cn1, sc1, μ1) = k := (cd_modulus_agr hag).symm.trans ek.symm
  obtain ⟨w, ew⟩ : ∃ w : Int32, w = an_modulus (xs (i + 1)) (cn, sc, μ) := ⟨_, rfl⟩
  rw [← ew] at hf1
  have haT : an_modulus (xs (i + 1)) (cn1, sc1, μ1) = w := (an_modulus_agr hag).symm.trans ew.symm
  refine lv_aload_n hx hb dL_law_2435 rfl (lv_at hl 3 rfl) ?_
  refine lv_aload_n hx hb dL_law_2436 rfl (lv_at hl 5 rfl) ?_
  refine lv_iload hx hb dL_law_2437 (lv_at hl 1 rfl) ?_
  refine lv_iconst (v := 1) hx hb dL_law_2439 (by decide) ?_
  refine lv_iadd hx hb dL_law_2440 ?_
  refine lv_topi (fun z_2 ez_2 => ?_)
  have ez_2 : z_2 = nI (i + 1) := ez_2.trans (nI_add i 1)
  subst ez_2
  refine va_sld hx hb hXs hbl hbA hS (vp_in_nI (show i + 1 < L by omega) (by omega)) dL_law_2441 ?_
  rw [show xs (nI (i + 1)).toNatClampNeg = xs (i + 1) from congrArg xs (nI_clamp (by omega))]
  refine hk_callV 1 (As := [.int (xs (i + 1))]) (rest := []) X K hAE hS hl.1 hM1.1 rfl (c_X11_modulus E l H1 hM1 hmA hJ (p0 := xs (i + 1))) hmA gL_law_X11_modulus rfl ⟨rfl, hd_X11_modulus⟩ rfl ⟨⟨(Nat.le_of_ble_eq_true rfl), (Nat.le_of_ble_eq_true rfl)⟩, (by show cells + 12 + 0 ≤ 601024; omega), (by show slots + 700 + 0 ≤ 7293034; omega)⟩ rfl (Nat.le_of_ble_eq_true rfl) dL_law_2442 (fun v9 H2 locs2 hp hS hz2 hk2 => ?_)
  obtain ⟨cn2, sc2, μ2, hM2, h33, hz, ha⟩ := hp
  subst hz
  rw [hcT] at h33 ha
  have hW2 := HW.kept hW1 (fun q h1 h2 => hk2 q h1 (fun g => h2.elim (hZm q g).2.1 (fun h => h (hZm q g).2.2.2)))
  have hL2 : hk_L E o9 1 f1 H2 := (hk2 _ (ar_lt hL1) (fun g => (hZm _ g).2.2.1 rfl)).trans hL1
  have hb9 : b4 ≤ H2.size := Nat.le_trans (Nat.le_trans hb4 hz1) hz2
  rw [hcT, haT]
  refine lv_topi (fun v ev => ?_)
  refine lv_istore (lv' := [(6, .int v), (5, .int k), (4, .int (nI i)), (3, .ref o9), (2, .ref mo), (1, .ref ho), (0, .ref b)]) hx hb dL_law_2445 hl (by decide) rfl (fun ls hl => ?_)
  refine lv_aload_n hx hb dL_law_2447 rfl (lv_at hl 4 rfl) ?_
  refine hk_callV 0 (As := []) (rest := []) X K hAE hS hl.1 hM2.1 rfl (c_X11_thrown E l H2 hM2) (fun _ h => False.elim h) gL_law_X11_thrown rfl ⟨rfl, hd_X11_thrown⟩ rfl ⟨⟨(Nat.le_of_ble_eq_true rfl), (Nat.le_of_ble_eq_true rfl)⟩, (by show cells + 12 + 0 + 0 ≤ 601024; omega), (by show slots + 700 + 0 + 0 ≤ 7293034; omega)⟩ rfl (Nat.le_of_ble_eq_true rfl) dL_law_2448 (fun v9 H3 locs3 hp hS hz3 hk3 => ?_)
  obtain ⟨hz, hh⟩ := hp
  subst hz; subst hh
  refine lv_iload hx hb dL_law_2451 (lv_at hl 1 rfl) ?_
  refine lv_icmp_eq (tgt := 2458) hx hb dL_law_2453 (by decide) (fun c_2453 => ?_) (fun c_2453 => ?_)
  · refine lv_iload hx hb dL_law_2458 (lv_at hl 1 rfl) ?_
    refine lv_if_ne (tgt := 2475) hx hb dL_law_2460 (by decide) (fun c_2460 => ?_) (fun c_2460 => ?_)
    · rw [if_neg c_2460] at hW2 ha
      refine lv_goto (tgt := 2534) hx hb dL_law_2475 (by decide) ?_
      exact J2534 H2 _ ⟨G1, R1, _, (cn2, sc2, μ2), f1, hI, hW2, hM2, hag.trans ha, hL2, hS, hb9⟩ _ (lv_sub hl [2, 3, 4, 5, 6] rfl)
    · have ckz := c_2460
      refine lv_aload_n hx hb dL_law_2463 rfl (lv_at hl 3 rfl) ?_
      refine lv_iconst (v := 0) hx hb dL_law_2464 (by decide) ?_
      refine hk_lld X K hL2 (show vp_in (0 : Int32) 1 from vp_in_nI (n := 0) (by decide) (by decide)) dL_law_2465 ?_
      rw [show f1 (0 : Int32).toNatClampNeg = w.toInt64 from (congrArg f1 hk_c0).trans (hf1 c_2460)]
      have ev : v = w := ev.trans (if_pos c_2460)
      rw [if_pos c_2460] at hW2 ha
      refine lv_iload hx hb dL_law_2466 (lv_at hl 0 rfl) ?_
      refine lv_i2l hx hb dL_law_2468 rfl ?_
      refine lv_lcmp hx hb dL_law_2469 ?_
      rw [show lcv (w.toInt64) v.toInt64 = 0 from by rw [ev]; exact lcv_self]
      refine lv_if_eq (tgt := 2475) hx hb dL_law_2470 (by decide) (fun c_2470 => ?_) (fun c_2470 => ?_)
      · refine lv_goto (tgt := 2534) hx hb dL_law_2475 (by decide) ?_
        exact J2534 H2 _ ⟨G1, R1, _, (cn2, sc2, μ2), f1, hI, hW2, hM2, (st_modulus_agr hag).trans ha, hL2, hS, hb9⟩ _ (lv_sub hl [2, 3, 4, 5, 6] rfl)
      · exact absurd (by decide) c_2470
  · exact absurd c_2453 (fun h => h h33)
set_option maxHeartbeats 4000000 in
set_option maxRecDepth 100000 in
theorem k_nearest {p : Program} {l : Launch} {e : Env} {s : State} {m : MethodId} {below : List Frame} {meth : Method} {c : Code} {b L : Nat} {xs : Nat → Int32} {E : hk_E} {Zh Zm : Nat → Prop} {ho ts mo o9 b4 : Nat} {li am : Nat → Nat} {rr : Nat → Nat → Nat} (G0 : lw_G p l s m meth c b L xs E Zh Zm o9 b4) {H : Heap} {locs : List Loc} {cells slots : Nat} (hJ0 : lw_J E Zh Zm ho ts mo o9 b4 li am rr s H locs) {i : Nat} (hi : i + 8 ≤ L) (hce : cells + 12 ≤ 601024) (hsl : slots + 700 ≤ 7293034) {ls : Array Slot} (hl : lv_has ls 7 [(4, .int (nI i)), (3, .ref o9), (2, .ref mo), (1, .ref ho), (0, .ref b)])
  (J2534 : ∀ (H1 : Heap) (locs1 : List Loc), lw_J E Zh Zm ho ts mo o9 b4 li am rr s H1 locs1 → ∀ (ls : Array Slot), lv_has ls 7 [(4, .int (nI i)), (3, .ref o9), (2, .ref mo), (1, .ref ho), (0, .ref b)] → W p l e room_1 s m #[Value.ref b] below meth c H1 locs1 (cells + 12) (slots + 700) (lw_Z below #[Value.ref b] s) (F0 m 2534 ls [])) : W p l e room_1 s m #[Value.ref b] below meth c H locs cells slots (lw_Z below #[Value.ref b] s) (F0 m 2478 ls []) := by
  obtain ⟨hl9, hLL, C0, X, K, hE, hZn0, hoZ, hoA, hZm⟩ := G0
  obtain ⟨G, R, ⟨cn, sc, μ⟩, ⟨cn1, sc1, μ1⟩, f0, hI, hW, hM, hag, hL, hS, hb4⟩ := hJ0
  obtain ⟨hx, hb, hr, hml, hown, -, hXs, hbl, hlocks, -⟩ := id C0
  have hAE : ∀ q, hk_A E q → hk_A E q := fun _ h => h
  have hZA : ∀ q, Zh q → hk_A E q := hW.2.2.2.2.2.2.2.2.2.2.2.2
  have hAz : ∀ q, (Zh q ∨ q = o9) → hk_A E q := fun q h => h.elim (fun h => hZA q h) (fun h => by rw [h]; exact hoA)
  have hmA : ∀ q, Zm q → hk_A E q := fun q h => (hZm q h).2.2.2
  have hZn : ∀ q, H.size ≤ q → Zh q := fun q h => hZn0 q (Nat.le_trans hb4 h)
  have hbA : ¬ hk_A E b := fun g => absurd hbl (Nat.not_lt.mpr (by rw [← hE]; exact g))
  have hJ : Inv (cn1, sc1, μ1) := inv_agr hI.1 hag
  refine lv_aload_n hx hb dL_law_2478 rfl (lv_at hl 3 rfl) ?_
  refine lv_aload_n hx hb dL_law_2479 rfl (lv_at hl 4 rfl) ?_
  refine lv_iload hx hb dL_law_2480 (lv_at hl 0 rfl) ?_
  refine lv_iconst (v := 1) hx hb dL_law_2482 (by decide) ?_
  refine lv_iadd hx hb dL_law_2483 ?_
  refine lv_topi (fun z_1 ez_1 => ?_)
  have ez_1 : z_1 = nI (i + 1) := ez_1.trans (nI_add i 1)
  subst ez_1
  refine va_sld hx hb hXs hbl hbA hS (vp_in_nI (show i + 1 < L by omega) (by omega)) dL_law_2484 ?_
  rw [show xs (nI (i + 1)).toNatClampNeg = xs (i + 1) from congrArg xs (nI_clamp (by omega))]
  refine lv_aload_n hx hb dL_law_2485 rfl (lv_at hl 1 rfl) ?_
  refine hk_callSxW 3 (As := [.ref ho, .int (xs (i + 1)), .ref o9]) (rest := []) X K hAE hS hl.1 (c_L_nearest E l hl9 H hW hI hZn hL hoZ hoA (p0 := xs (i + 1))) hAz gL_law_L_nearest rfl hd_L_nearest rfl ⟨⟨(Nat.le_of_ble_eq_true rfl), (Nat.le_of_ble_eq_true rfl)⟩, hce, hsl⟩ rfl (Nat.le_of_ble_eq_true rfl) dL_law_2486 (fun _ _ _ _ _ hp _ _ _ _ _ _ => False.elim hp) (fun v9 H1 locs1 hp hS hz1 hk1 => ?_)
  obtain ⟨hz, G1, R1, f1, hW1, hL1, hf1⟩ := hp
  subst hz
  have hM1 := MW.kept hM (fun q hq => hk1 q (Nat.lt_of_lt_of_le (hZm q hq).1 hb4) (fun g => g.elim (hZm q hq).2.1 (hZm q hq).2.2.1))
  refine lv_topi (fun k ek => ?_)
  refine lv_istore (lv' := [(5, .int k), (4, .int (nI i)), (3, .ref o9), (2, .ref mo), (1, .ref ho), (0, .ref b)]) hx hb dL_law_2489 hl (by decide) rfl (fun ls hl => ?_)
  rw [← ek] at hW1 hf1
  have hcT : cd_nearest (xs (i + 1)) (cn1, sc1, μ1) = k := (cd_nearest_agr hag).symm.trans ek.symm
  obtain ⟨w, ew⟩ : ∃ w : Int32, w = an_nearest (xs (i + 1)) (cn, sc, μ) := ⟨_, rfl⟩
  rw [← ew] at hf1
  have haT : an_nearest (xs (i + 1)) (cn1, sc1, μ1) = w := (an_nearest_agr hag).symm.trans ew.symm
  refine lv_aload_n hx hb dL_law_2491 rfl (lv_at hl 3 rfl) ?_
  refine lv_aload_n hx hb dL_law_2492 rfl (lv_at hl 5 rfl) ?_
  refine lv_iload hx hb dL_law_2493 (lv_at hl 1 rfl) ?_
  refine lv_iconst (v := 1) hx hb dL_law_2495 (by decide) ?_
  refine lv_iadd hx hb dL_law_2496 ?_
  refine lv_topi (fun z_2 ez_2 => ?_)
  have ez_2 : z_2 = nI (i + 1) := ez_2.trans (nI_add i 1)
  subst ez_2
  refine va_sld hx hb hXs hbl hbA hS (vp_in_nI (show i + 1 < L by omega) (by omega)) dL_law_2497 ?_
  rw [show xs (nI (i + 1)).toNatClampNeg = xs (i + 1) from congrArg xs (nI_clamp (by omega))]
  refine hk_callV 1 (As := [.int (xs (i + 1))]) (rest := []) X K hAE hS hl.1 hM1.1 rfl (c_X11_nearest E l H1 hM1 hmA hJ (p0 := xs (i + 1))) hmA gL_law_X11_nearest rfl ⟨rfl, hd_X11_nearest⟩ rfl ⟨⟨(Nat.le_of_ble_eq_true rfl), (Nat.le_of_ble_eq_true rfl)⟩, (by show cells + 12 + 0 ≤ 601024; omega), (by show slots + 700 + 0 ≤ 7293034; omega)⟩ rfl (Nat.le_of_ble_eq_true rfl) dL_law_2498 (fun v9 H2 locs2 hp hS hz2 hk2 => ?_)
  obtain ⟨cn2, sc2, μ2, hM2, h33, hz, ha⟩ := hp
  subst hz
  rw [hcT] at h33 ha
  have hW2 := HW.kept hW1 (fun q h1 h2 => hk2 q h1 (fun g => h2.elim (hZm q g).2.1 (fun h => h (hZm q g).2.2.2)))
  have hL2 : hk_L E o9 1 f1 H2 := (hk2 _ (ar_lt hL1) (fun g => (hZm _ g).2.2.1 rfl)).trans hL1
  have hb9 : b4 ≤ H2.size := Nat.le_trans (Nat.le_trans hb4 hz1) hz2
  rw [hcT, haT]
  refine lv_topi (fun v ev => ?_)
  refine lv_istore (lv' := [(6, .int v), (5, .int k), (4, .int (nI i)), (3, .ref o9), (2, .ref mo), (1, .ref ho), (0, .ref b)]) hx hb dL_law_2501 hl (by decide) rfl (fun ls hl => ?_)
  refine lv_aload_n hx hb dL_law_2503 rfl (lv_at hl 4 rfl) ?_
  refine hk_callV 0 (As := []) (rest := []) X K hAE hS hl.1 hM2.1 rfl (c_X11_thrown E l H2 hM2) (fun _ h => False.elim h) gL_law_X11_thrown rfl ⟨rfl, hd_X11_thrown⟩ rfl ⟨⟨(Nat.le_of_ble_eq_true rfl), (Nat.le_of_ble_eq_true rfl)⟩, (by show cells + 12 + 0 + 0 ≤ 601024; omega), (by show slots + 700 + 0 + 0 ≤ 7293034; omega)⟩ rfl (Nat.le_of_ble_eq_true rfl) dL_law_2504 (fun v9 H3 locs3 hp hS hz3 hk3 => ?_)
  obtain ⟨hz, hh⟩ := hp
  subst hz; subst hh
  refine lv_iload hx hb dL_law_2507 (lv_at hl 1 rfl) ?_
  refine lv_icmp_eq (tgt := 2514) hx hb dL_law_2509 (by decide) (fun c_2509 => ?_) (fun c_2509 => ?_)
  · refine lv_iload hx hb dL_law_2514 (lv_at hl 1 rfl) ?_
    refine lv_if_ne (tgt := 2531) hx hb dL_law_2516 (by decide) (fun c_2516 => ?_) (fun c_2516 => ?_)
    · rw [if_neg c_2516] at hW2 ha
      refine lv_goto (tgt := 2534) hx hb dL_law_2531 (by decide) ?_
      exact J2534 H2 _ ⟨G1, R1, _, (cn2, sc2, μ2), f1, hI, hW2, hM2, hag.trans ha, hL2, hS, hb9⟩ _ (lv_sub hl [2, 3, 4, 5, 6] rfl)
    · have ckz := c_2516
      refine lv_aload_n hx hb dL_law_2519 rfl (lv_at hl 3 rfl) ?_
      refine lv_iconst (v := 0) hx hb dL_law_2520 (by decide) ?_
      refine hk_lld X K hL2 (show vp_in (0 : Int32) 1 from vp_in_nI (n := 0) (by decide) (by decide)) dL_law_2521 ?_
      rw [show f1 (0 : Int32).toNatClampNeg = w.toInt64 from (congrArg f1 hk_c0).trans (hf1 c_2516)]
      have ev : v = w := ev.trans (if_pos c_2516)
      rw [if_pos c_2516] at hW2 ha
      refine lv_iload hx hb dL_law_2522 (lv_at hl 0 rfl) ?_
      refine lv_i2l hx hb dL_law_2524 rfl ?_
      refine lv_lcmp hx hb dL_law_2525 ?_
      rw [show lcv (w.toInt64) v.toInt64 = 0 from by rw [ev]; exact lcv_self]
      refine lv_if_eq (tgt := 2531) hx hb dL_law_2526 (by decide) (fun c_2526 => ?_) (fun c_2526 => ?_)
      · refine lv_goto (tgt := 2534) hx hb dL_law_2531 (by decide) ?_
        exact J2534 H2 _ ⟨G1, R1, _, (cn2, sc2, μ2), f1, hI, hW2, hM2, (st_nearest_agr hag).trans ha, hL2, hS, hb9⟩ _ (lv_sub hl [2, 3, 4, 5, 6] rfl)
      · exact absurd (by decide) c_2526
  · exact absurd c_2509 (fun h => h h33)
