set_option maxHeartbeats 4000000 in
set_option maxRecDepth 100000 in
theorem k_together {p : Program} {l : Launch} {e : Env} {s : State} {m : MethodId} {below : List Frame} {meth : Method} {c : Code} {b L : Nat} {xs : Nat → Int32} {E : hk_E} {Zh Zm : Nat → Prop} {ho ts mo o9 b4 : Nat} {li am : Nat → Nat} {rr : Nat → Nat → Nat} (G0 : lw_G p l s m meth c b L xs E Zh Zm o9 b4) {H : Heap} {locs : List Loc} {cells slots : Nat} (hJ0 : lw_J E Zh Zm ho ts mo o9 b4 li am rr s H locs) {i : Nat} (hi : i + 8 ≤ L) (hce : cells + 12 ≤ 601024) (hsl : slots + 700 ≤ 7293034) {ls : Array Slot} (hl : lv_has ls 7 [(4, .int (nI i)), (3, .ref o9), (2, .ref mo), (1, .ref ho), (0, .ref b)])
  (J2534 : ∀ (H1 : Heap) (locs1 : List Loc), lw_J E Zh Zm ho ts mo o9 b4 li am rr s H1 locs1 → ∀ (ls : Array Slot), lv_has ls 7 [(4, .int (nI i)), (3, .ref o9), (2, .ref mo), (1, .ref ho), (0, .ref b)] → W p l e room_1 s m #[Value.ref b] below meth c H1 locs1 (cells + 12) (slots + 700) (lw_Z below #[Value.ref b] s) (F0 m 2534 ls [])) : W p l e room_1 s m #[Value.ref b] below meth c H locs cells slots (lw_Z below #[Value.ref b] s) (F0 m 1335 ls []) := by
  obtain ⟨hl9, hLL, C0, X, K, hE, hZn0, hoZ, hoA, hZm⟩ := G0
  obtain ⟨G, R, ⟨cn, sc, μ⟩, ⟨cn1, sc1, μ1⟩, f0, hI, hW, hM, hag, hL, hS, hb4⟩ := hJ0
  obtain ⟨hx, hb, hr, hml, hown, -, hXs, hbl, hlocks, -⟩ := id C0
  have hAE : ∀ q, hk_A E q → hk_A E q := fun _ h => h
  have hZA : ∀ q, Zh q → hk_A E q := hW.2.2.2.2.2.2.2.2.2.2.2.2
  have hAz : ∀ q, (Zh q ∨ q = o9) → hk_A E q := fun q h => h.elim (fun h => hZA q h) (fun h => by rw [h]; exact hoA)
  have hmA : ∀ q, Zm q → hk_A E q := fun q h => (hZm q h).2.2.2
  have hZn : ∀ q, H.size ≤ q → Zh q := fun q h => hZn0 q (Nat.le_trans hb4 h)
  have hbA : ¬ hk_A E b := fun g => absurd hbl (Nat.not_lt.mpr (by rw [← hE]; exact g))
  have hJ : Inv (cn1, sc1, μ1) := inv_agr hI.1 hag
  refine lv_aload_n hx hb dL_law_1335 rfl (lv_at hl 3 rfl) ?_
  refine lv_aload_n hx hb dL_law_1336 rfl (lv_at hl 4 rfl) ?_
  refine lv_iload hx hb dL_law_1337 (lv_at hl 0 rfl) ?_
  refine lv_iconst (v := 1) hx hb dL_law_1339 (by decide) ?_
  refine lv_iadd hx hb dL_law_1340 ?_
  refine lv_topi (fun z_1 ez_1 => ?_)
  have ez_1 : z_1 = nI (i + 1) := ez_1.trans (nI_add i 1)
  subst ez_1
  refine va_sld hx hb hXs hbl hbA hS (vp_in_nI (show i + 1 < L by omega) (by omega)) dL_law_1341 ?_
  rw [show xs (nI (i + 1)).toNatClampNeg = xs (i + 1) from congrArg xs (nI_clamp (by omega))]
  refine lv_aload_n hx hb dL_law_1342 rfl (lv_at hl 4 rfl) ?_
  refine lv_iload hx hb dL_law_1343 (lv_at hl 0 rfl) ?_
  refine lv_iconst (v := 2) hx hb dL_law_1345 (by decide) ?_
  refine lv_iadd hx hb dL_law_1346 ?_
  refine lv_topi (fun z_2 ez_2 => ?_)
  have ez_2 : z_2 = nI (i + 2) := ez_2.trans (nI_add i 2)
  subst ez_2
  refine va_sld hx hb hXs hbl hbA hS (vp_in_nI (show i + 2 < L by omega) (by omega)) dL_law_1347 ?_
  rw [show xs (nI (i + 2)).toNatClampNeg = xs (i + 2) from congrArg xs (nI_clamp (by omega))]
  refine lv_aload_n hx hb dL_law_1348 rfl (lv_at hl 4 rfl) ?_
  refine lv_iload hx hb dL_law_1349 (lv_at hl 0 rfl) ?_
  refine lv_iconst (v := 3) hx hb dL_law_1351 (by decide) ?_
  refine lv_iadd hx hb dL_law_1352 ?_
  refine lv_topi (fun z_3 ez_3 => ?_)
  have ez_3 : z_3 = nI (i + 3) := ez_3.trans (nI_add i 3)
  subst ez_3
  refine va_sld hx hb hXs hbl hbA hS (vp_in_nI (show i + 3 < L by omega) (by omega)) dL_law_1353 ?_
  rw [show xs (nI (i + 3)).toNatClampNeg = xs (i + 3) from congrArg xs (nI_clamp (by omega))]
  refine lv_aload_n hx hb dL_law_1354 rfl (lv_at hl 1 rfl) ?_
  refine hk_callSxW 5 (As := [.ref ho, .int (xs (i + 1)), .int (xs (i + 2)), .int (xs (i + 3)), .ref o9]) (rest := []) X K hAE hS hl.1 (c_L_together E l hl9 H hW hI hZn hL hoZ hoA (p0 := xs (i + 1)) (p1 := xs (i + 2)) (p2 := xs (i + 3))) hAz gL_law_L_together rfl hd_L_together rfl ⟨⟨(Nat.le_of_ble_eq_true rfl), (Nat.le_of_ble_eq_true rfl)⟩, hce, hsl⟩ rfl (Nat.le_of_ble_eq_true rfl) dL_law_1355 (fun _ _ _ _ _ hp _ _ _ _ _ _ => False.elim hp) (fun v9 H1 locs1 hp hS hz1 hk1 => ?_)
  obtain ⟨hz, G1, R1, f1, hW1, hL1, hf1⟩ := hp
  subst hz
  have hM1 := MW.kept hM (fun q hq => hk1 q (Nat.lt_of_lt_of_le (hZm q hq).1 hb4) (fun g => g.elim (hZm q hq).2.1 (hZm q hq).2.2.1))
  refine lv_topi (fun k ek => ?_)
  refine lv_istore (lv' := [(5, .int k), (4, .int (nI i)), (3, .ref o9), (2, .ref mo), (1, .ref ho), (0, .ref b)]) hx hb dL_law_1358 hl (by decide) rfl (fun ls hl => ?_)
  rw [← ek] at hW1 hf1
  have hcT : cd_together (xs (i + 1)) (xs (i + 2)) (xs (i + 3)) (cn1, sc1, μ1) = k := (cd_together_agr hag).symm.trans ek.symm
  obtain ⟨w, ew⟩ : ∃ w : Int32, w = an_together (xs (i + 1)) (xs (i + 2)) (xs (i + 3)) (cn, sc, μ) := ⟨_, rfl⟩
  rw [← ew] at hf1
  have haT : an_together (xs (i + 1)) (xs (i + 2)) (xs (i + 3)) (cn1, sc1, μ1) = w := (an_together_agr hag).symm.trans ew.symm
  refine lv_aload_n hx hb dL_law_1360 rfl (lv_at hl 3 rfl) ?_
  refine lv_aload_n hx hb dL_law_1361 rfl (lv_at hl 5 rfl) ?_
  refine lv_iload hx hb dL_law_1362 (lv_at hl 1 rfl) ?_
  refine lv_iconst (v := 1) hx hb dL_law_1364 (by decide) ?_
  refine lv_iadd hx hb dL_law_1365 ?_
  refine lv_topi (fun z_4 ez_4 => ?_)
  have ez_4 : z_4 = nI (i + 1) := ez_4.trans (nI_add i 1)
  subst ez_4
  refine va_sld hx hb hXs hbl hbA hS (vp_in_nI (show i + 1 < L by omega) (by omega)) dL_law_1366 ?_
  rw [show xs (nI (i + 1)).toNatClampNeg = xs (i + 1) from congrArg xs (nI_clamp (by omega))]
  refine lv_aload_n hx hb dL_law_1367 rfl (lv_at hl 5 rfl) ?_
  refine lv_iload hx hb dL_law_1368 (lv_at hl 1 rfl) ?_
  refine lv_iconst (v := 2) hx hb dL_law_1370 (by decide) ?_
  refine lv_iadd hx hb dL_law_1371 ?_
  refine lv_topi (fun z_5 ez_5 => ?_)
  have ez_5 : z_5 = nI (i + 2) := ez_5.trans (nI_add i 2)
  subst ez_5
  refine va_sld hx hb hXs hbl hbA hS (vp_in_nI (show i + 2 < L by omega) (by omega)) dL_law_1372 ?_
  rw [show xs (nI (i + 2)).toNatClampNeg = xs (i + 2) from congrArg xs (nI_clamp (by omega))]
  refine lv_aload_n hx hb dL_law_1373 rfl (lv_at hl 5 rfl) ?_
  refine lv_iload hx hb dL_law_1374 (lv_at hl 1 rfl) ?_
  refine lv_iconst (v := 3) hx hb dL_law_1376 (by decide) ?_
  refine lv_iadd hx hb dL_law_1377 ?_
  refine lv_topi (fun z_6 ez_6 => ?_)
  have ez_6 : z_6 = nI (i + 3) := ez_6.trans (nI_add i 3)
  subst ez_6
  refine va_sld hx hb hXs hbl hbA hS (vp_in_nI (show i + 3 < L by omega) (by omega)) dL_law_1378 ?_
  rw [show xs (nI (i + 3)).toNatClampNeg = xs (i + 3) from congrArg xs (nI_clamp (by omega))]
  refine hk_callV 3 (As := [.int (xs (i + 1)), .int (xs (i + 2)), .int (xs (i + 3))]) (rest := []) X K hAE hS hl.1 hM1.1 rfl (c_X11_together E l H1 hM1 hmA hJ (p0 := xs (i + 1)) (p1 := xs (i + 2)) (p2 := xs (i + 3))) hmA gL_law_X11_together rfl ⟨rfl, hd_X11_together⟩ rfl ⟨⟨(Nat.le_of_ble_eq_true rfl), (Nat.le_of_ble_eq_true rfl)⟩, (by show cells + 12 + 0 ≤ 601024; omega), (by show slots + 700 + 0 ≤ 7293034; omega)⟩ rfl (Nat.le_of_ble_eq_true rfl) dL_law_1379 (fun v9 H2 locs2 hp hS hz2 hk2 => ?_)
  obtain ⟨cn2, sc2, μ2, hM2, h33, hz, ha⟩ := hp
  subst hz
  rw [hcT] at h33 ha
  have hW2 := HW.kept hW1 (fun q h1 h2 => hk2 q h1 (fun g => h2.elim (hZm q g).2.1 (fun h => h (hZm q g).2.2.2)))
  have hL2 : hk_L E o9 1 f1 H2 := (hk2 _ (ar_lt hL1) (fun g => (hZm _ g).2.2.1 rfl)).trans hL1
  have hb9 : b4 ≤ H2.size := Nat.le_trans (Nat.le_trans hb4 hz1) hz2
  rw [hcT, haT]
  refine lv_topi (fun v ev => ?_)
  refine lv_istore (lv' := [(6, .int v), (5, .int k), (4, .int (nI i)), (3, .ref o9), (2, .ref mo), (1, .ref ho), (0, .ref b)]) hx hb dL_law_1382 hl (by decide) rfl (fun ls hl => ?_)
  refine lv_aload_n hx hb dL_law_1384 rfl (lv_at hl 4 rfl) ?_
  refine hk_callV 0 (As := []) (rest := []) X K hAE hS hl.1 hM2.1 rfl (c_X11_thrown E l H2 hM2) (fun _ h => False.elim h) gL_law_X11_thrown rfl ⟨rfl, hd_X11_thrown⟩ rfl ⟨⟨(Nat.le_of_ble_eq_true rfl), (Nat.le_of_ble_eq_true rfl)⟩, (by show cells + 12 + 0 + 0 ≤ 601024; omega), (by show slots + 700 + 0 + 0 ≤ 7293034; omega)⟩ rfl (Nat.le_of_ble_eq_true rfl) dL_law_1385 (fun v9 H3 locs3 hp hS hz3 hk3 => ?_)
  obtain ⟨hz, hh⟩ := hp
  subst hz; subst hh
  refine lv_iload hx hb dL_law_1388 (lv_at hl 1 rfl) ?_
  refine lv_icmp_eq (tgt := 1395) hx hb dL_law_1390 (by decide) (fun c_1390 => ?_) (fun c_1390 => ?_)
  · refine lv_iload hx hb dL_law_1395 (lv_at hl 1 rfl) ?_
    refine lv_if_ne (tgt := 1412) hx hb dL_law_1397 (by decide) (fun c_1397 => ?_) (fun c_1397 => ?_)
    · rw [if_neg c_1397] at hW2 ha
      refine lv_goto (tgt := 2534) hx hb dL_law_1412 (by decide) ?_
      exact J2534 H2 _ ⟨G1, R1, _, (cn2, sc2, μ2), f1, hI, hW2, hM2, hag.trans ha, hL2, hS, hb9⟩ _ (lv_sub hl [2, 3, 4, 5, 6] rfl)
    · have ckz := c_1397
      refine lv_aload_n hx hb dL_law_1400 rfl (lv_at hl 3 rfl) ?_
      refine lv_iconst (v := 0) hx hb dL_law_1401 (by decide) ?_
      refine hk_lld X K hL2 (show vp_in (0 : Int32) 1 from vp_in_nI (n := 0) (by decide) (by decide)) dL_law_1402 ?_
      rw [show f1 (0 : Int32).toNatClampNeg = w.toInt64 from (congrArg f1 hk_c0).trans (hf1 c_1397)]
      have ev : v = w := ev.trans (if_pos c_1397)
      rw [if_pos c_1397] at hW2 ha
      refine lv_iload hx hb dL_law_1403 (lv_at hl 0 rfl) ?_
      refine lv_i2l hx hb dL_law_1405 rfl ?_
      refine lv_lcmp hx hb dL_law_1406 ?_
      rw [show lcv (w.toInt64) v.toInt64 = 0 from by rw [ev]; exact lcv_self]
      refine lv_if_eq (tgt := 1412) hx hb dL_law_1407 (by decide) (fun c_1407 => ?_) (fun c_1407 => ?_)
      · refine lv_goto (tgt := 2534) hx hb dL_law_1412 (by decide) ?_
        exact J2534 H2 _ ⟨G1, R1, _, (cn2, sc2, μ2), f1, hI, hW2, hM2, (st_together_agr hag).trans ha, hL2, hS, hb9⟩ _ (lv_sub hl [2, 3, 4, 5, 6] rfl)
      · exact absurd (by decide) c_1407
  · exact absurd c_1390 (fun h => h h33)
set_option maxHeartbeats 4000000 in
set_option maxRecDepth 100000 in
theorem k_period {p : Program} {l : Launch} {e : Env} {s : State} {m : MethodId} {below : List Frame} {meth : Method} {c : Code} {b L : Nat} {xs : Nat → Int32} {E : hk_E} {Zh Zm : Nat → Prop} {ho ts mo o9 b4 : Nat} {li am : Nat → Nat} {rr : Nat → Nat → Nat} (G0 : lw_G p l s m meth c b L xs E Zh Zm o9 b4) {H : Heap} {locs : List Loc} {cells slots : Nat} (hJ0 : lw_J E Zh Zm ho ts mo o9 b4 li am rr s H locs) {i : Nat} (hi : i + 8 ≤ L) (hce : cells + 12 ≤ 601024) (hsl : slots + 700 ≤ 7293034) {ls : Array Slot} (hl : lv_has ls 7 [(4, .int (nI i)), (3, .ref o9), (2, .ref mo), (1, .ref ho), (0, .ref b)])
  (J2534 : ∀ (H1 : Heap) (locs1 : List Loc), lw_J E Zh Zm ho ts mo o9 b4 li am rr s H1 locs1 → ∀ (ls : Array Slot), lv_has ls 7 [(4, .int (nI i)), (3, .ref o9), (2, .ref mo), (1, .ref ho), (0, .ref b)] → W p l e room_1 s m #[Value.ref b] below meth c H1 locs1 (cells + 12) (slots + 700) (lw_Z below #[Value.ref b] s) (F0 m 2534 ls [])) : W p l e room_1 s m #[Value.ref b] below meth c H locs cells slots (lw_Z below #[Value.ref b] s) (F0 m 1415 ls []) := by
  obtain ⟨hl9, hLL, C0, X, K, hE, hZn0, hoZ, hoA, hZm⟩ := G0
  obtain ⟨G, R, ⟨cn, sc, μ⟩, ⟨cn1, sc1, μ1⟩, f0, hI, hW, hM, hag, hL, hS, hb4⟩ := hJ0
  obtain ⟨hx, hb, hr, hml, hown, -, hXs, hbl, hlocks, -⟩ := id C0
  have hAE : ∀ q, hk_A E q → hk_A E q := fun _ h => h
  have hZA : ∀ q, Zh q → hk_A E q := hW.2.2.2.2.2.2.2.2.2.2.2.2
  have hAz : ∀ q, (Zh q ∨ q = o9) → hk_A E q := fun q h => h.elim (fun h => hZA q h) (fun h => by rw [h]; exact hoA)
  have hmA : ∀ q, Zm q → hk_A E q := fun q h => (hZm q h).2.2.2
  have hZn : ∀ q, H.size ≤ q → Zh q := fun q h => hZn0 q (Nat.le_trans hb4 h)
  have hbA : ¬ hk_A E b := fun g => absurd hbl (Nat.not_lt.mpr (by rw [← hE]; exact g))
  have hJ : Inv (cn1, sc1, μ1) := inv_agr hI.1 hag
  refine lv_aload_n hx hb dL_law_1415 rfl (lv_at hl 3 rfl) ?_
  refine lv_aload_n hx hb dL_law_1416 rfl (lv_at hl 4 rfl) ?_
  refine lv_iload hx hb dL_law_1417 (lv_at hl 0 rfl) ?_
  refine lv_iconst (v := 1) hx hb dL_law_1419 (by decide) ?_
  refine lv_iadd hx hb dL_law_1420 ?_
  refine lv_topi (fun z_1 ez_1 => ?_)
  have ez_1 : z_1 = nI (i + 1) := ez_1.trans (nI_add i 1)
  subst ez_1
  refine va_sld hx hb hXs hbl hbA hS (vp_in_nI (show i + 1 < L by omega) (by omega)) dL_law_1421 ?_
  rw [show xs (nI (i + 1)).toNatClampNeg = xs (i + 1) from congrArg xs (nI_clamp (by omega))]
  refine lv_aload_n hx hb dL_law_1422 rfl (lv_at hl 4 rfl) ?_
  refine lv_iload hx hb dL_law_1423 (lv_at hl 0 rfl) ?_
  refine lv_iconst (v := 2) hx hb dL_law_1425 (by decide) ?_
  refine lv_iadd hx hb dL_law_1426 ?_
  refine lv_topi (fun z_2 ez_2 => ?_)
  have ez_2 : z_2 = nI (i + 2) := ez_2.trans (nI_add i 2)
  subst ez_2
  refine va_sld hx hb hXs hbl hbA hS (vp_in_nI (show i + 2 < L by omega) (by omega)) dL_law_1427 ?_
  rw [show xs (nI (i + 2)).toNatClampNeg = xs (i + 2) from congrArg xs (nI_clamp (by omega))]
  refine lv_aload_n hx hb dL_law_1428 rfl (lv_at hl 4 rfl) ?_
  refine lv_iload hx hb dL_law_1429 (lv_at hl 0 rfl) ?_
  refine lv_iconst (v := 3) hx hb dL_law_1431 (by decide) ?_
  refine lv_iadd hx hb dL_law_1432 ?_
  refine lv_topi (fun z_3 ez_3 => ?_)
  have ez_3 : z_3 = nI (i + 3) := ez_3.trans (nI_add i 3)
  subst ez_3
  refine va_sld hx hb hXs hbl hbA hS (vp_in_nI (show i + 3 < L by omega) (by omega)) dL_law_1433 ?_
  rw [show xs (nI (i + 3)).toNatClampNeg = xs (i + 3) from congrArg xs (nI_clamp (by omega))]
  refine lv_aload_n hx hb dL_law_1434 rfl (lv_at hl 4 rfl) ?_
  refine lv_iload hx hb dL_law_1435 (lv_at hl 0 rfl) ?_
  refine lv_iconst (v := 4) hx hb dL_law_1437 (by decide) ?_
  refine lv_iadd hx hb dL_law_1438 ?_
  refine lv_topi (fun z_4 ez_4 => ?_)
  have ez_4 : z_4 = nI (i + 4) := ez_4.trans (nI_add i 4)
  subst ez_4
  refine va_sld hx hb hXs hbl hbA hS (vp_in_nI (show i + 4 < L by omega) (by omega)) dL_law_1439 ?_
  rw [show xs (nI (i + 4)).toNatClampNeg = xs (i + 4) from congrArg xs (nI_clamp (by omega))]
  refine lv_aload_n hx hb dL_law_1440 rfl (lv_at hl 1 rfl) ?_
  refine hk_callSxW 6 (As := [.ref ho, .int (xs (i + 1)), .int (xs (i + 2)), .int (xs (i + 3)), .int (xs (i + 4)), .ref o9]) (rest := []) X K hAE hS hl.1 (c_L_period E l hl9 H hW hI hZn hL hoZ hoA (p0 := xs (i + 1)) (p1 := xs (i + 2)) (p2 := xs (i + 3)) (p3 := xs (i + 4))) hAz gL_law_L_period rfl hd_L_period rfl ⟨⟨(Nat.le_of_ble_eq_true rfl), (Nat.le_of_ble_eq_true rfl)⟩, hce, hsl⟩ rfl (Nat.le_of_ble_eq_true rfl) dL_law_1441 (fun _ _ _ _ _ hp _ _ _ _ _ _ => False.elim hp) (fun v9 H1 locs1 hp hS hz1 hk1 => ?_)
  obtain ⟨hz, G1, R1, f1, hW1, hL1, hf1⟩ := hp
  subst hz
  have hM1 := MW.kept hM (fun q hq => hk1 q (Nat.lt_of_lt_of_le (hZm q hq).1 hb4) (fun g => g.elim (hZm q hq).2.1 (hZm q hq).2.2.1))
  refine lv_topi (fun k ek => ?_)
  refine lv_istore (lv' := [(5, .int k), (4, .int (nI i)), (3, .ref o9), (2, .ref mo), (1, .ref ho), (0, .ref b)]) hx hb dL_law_1444 hl (by decide) rfl (fun ls hl => ?_)
  rw [← ek] at hW1 hf1
  have hcT : cd_period (xs (i + 1)) (xs (i + 2)) (xs (i + 3)) (xs (i + 4)) (cn1, sc1, μ1) = k := (cd_period_agr hag).symm.trans ek.symm
  obtain ⟨w, ew⟩ : ∃ w : Int32, w = an_period (xs (i + 1)) (xs (i + 2)) (xs (i + 3)) (xs (i + 4)) (cn, sc, μ) := ⟨_, rfl⟩
  rw [← ew] at hf1
  have haT : an_period (xs (i + 1)) (xs (i + 2)) (xs (i + 3)) (xs (i + 4)) (cn1, sc1, μ1) = w := (an_period_agr hag).symm.trans ew.symm
  refine lv_aload_n hx hb dL_law_1446 rfl (lv_at hl 3 rfl) ?_
  refine lv_aload_n hx hb dL_law_1447 rfl (lv_at hl 5 rfl) ?_
  refine lv_iload hx hb dL_law_1448 (lv_at hl 1 rfl) ?_
  refine lv_iconst (v := 1) hx hb dL_law_1450 (by decide) ?_
  refine lv_iadd hx hb dL_law_1451 ?_
  refine lv_topi (fun z_5 ez_5 => ?_)
  have ez_5 : z_5 = nI (i + 1) := ez_5.trans (nI_add i 1)
  subst ez_5
  refine va_sld hx hb hXs hbl hbA hS (vp_in_nI (show i + 1 < L by omega) (by omega)) dL_law_1452 ?_
  rw [show xs (nI (i + 1)).toNatClampNeg = xs (i + 1) from congrArg xs (nI_clamp (by omega))]
  refine lv_aload_n hx hb dL_law_1453 rfl (lv_at hl 5 rfl) ?_
  refine lv_iload hx hb dL_law_1454 (lv_at hl 1 rfl) ?_
  refine lv_iconst (v := 2) hx hb dL_law_1456 (by decide) ?_
  refine lv_iadd hx hb dL_law_1457 ?_
  refine lv_topi (fun z_6 ez_6 => ?_)
  have ez_6 : z_6 = nI (i + 2) := ez_6.trans (nI_add i 2)
  subst ez_6
  refine va_sld hx hb hXs hbl hbA hS (vp_in_nI (show i + 2 < L by omega) (by omega)) dL_law_1458 ?_
  rw [show xs (nI (i + 2)).toNatClampNeg = xs (i + 2) from congrArg xs (nI_clamp (by omega))]
  refine lv_aload_n hx hb dL_law_1459 rfl (lv_at hl 5 rfl) ?_
  refine lv_iload hx hb dL_law_1460 (lv_at hl 1 rfl) ?_
  refine lv_iconst (v := 3) hx hb dL_law_1462 (by decide) ?_
  refine lv_iadd hx hb dL_law_1463 ?_
  refine lv_topi (fun z_7 ez_7 => ?_)
  have ez_7 : z_7 = nI (i + 3) := ez_7.trans (nI_add i 3)
  subst ez_7
  refine va_sld hx hb hXs hbl hbA hS (vp_in_nI (show i + 3 < L by omega) (by omega)) dL_law_1464 ?_
  rw [show xs (nI (i + 3)).toNatClampNeg = xs (i + 3) from congrArg xs (nI_clamp (by omega))]
  refine lv_aload_n hx hb dL_law_1465 rfl (lv_at hl 5 rfl) ?_
  refine lv_iload hx hb dL_law_1466 (lv_at hl 1 rfl) ?_
  refine lv_iconst (v := 4) hx hb dL_law_1468 (by decide) ?_
  refine lv_iadd hx hb dL_law_1469 ?_
  refine lv_topi (fun z_8 ez_8 => ?_)
  have ez_8 : z_8 = nI (i + 4) := ez_8.trans (nI_add i 4)
  subst ez_8
  refine va_sld hx hb hXs hbl hbA hS (vp_in_nI (show i + 4 < L by omega) (by omega)) dL_law_1470 ?_
  rw [show xs (nI (i + 4)).toNatClampNeg = xs (i + 4) from congrArg xs (nI_clamp (by omega))]
  refine hk_callV 4 (As := [.int (xs (i + 1)), .int (xs (i + 2)), .int (xs (i + 3)), .int (xs (i + 4))]) (rest := []) X K hAE hS hl.1 hM1.1 rfl (c_X11_period E l H1 hM1 hmA hJ (p0 := xs (i + 1)) (p1 := xs (i + 2)) (p2 := xs (i + 3)) (p3 := xs (i + 4))) hmA gL_law_X11_period rfl ⟨rfl, hd_X11_period⟩ rfl ⟨⟨(Nat.le_of_ble_eq_true rfl), (Nat.le_of_ble_eq_true rfl)⟩, (by show cells + 12 + 0 ≤ 601024; omega), (by show slots + 700 + 0 ≤ 7293034; omega)⟩ rfl (Nat.le_of_ble_eq_true rfl) dL_law_1471 (fun v9 H2 locs2 hp hS hz2 hk2 => ?_)
  obtain ⟨cn2, sc2, μ2, hM2, h33, hz, ha⟩ := hp
  subst hz
  rw [hcT] at h33 ha
  have hW2 := HW.kept hW1 (fun q h1 h2 => hk2 q h1 (fun g => h2.elim (hZm q g).2.1 (fun h => h (hZm q g).2.2.2)))
  have hL2 : hk_L E o9 1 f1 H2 := (hk2 _ (ar_lt hL1) (fun g => (hZm _ g).2.2.1 rfl)).trans hL1
  have hb9 : b4 ≤ H2.size := Nat.le_trans (Nat.le_trans hb4 hz1) hz2
  rw [hcT, haT]
  refine lv_topi (fun v ev => ?_)
  refine lv_istore (lv' := [(6, .int v), (5, .int k), (4, .int (nI i)), (3, .ref o9), (2, .ref mo), (1, .ref ho), (0, .ref b)]) hx hb dL_law_1474 hl (by decide) rfl (fun ls hl => ?_)
  refine lv_aload_n hx hb dL_law_1476 rfl (lv_at hl 4 rfl) ?_
  refine hk_callV 0 (As := []) (rest := []) X K hAE hS hl.1 hM2.1 rfl (c_X11_thrown E l H2 hM2) (fun _ h => False.elim h) gL_law_X11_thrown rfl ⟨rfl, hd_X11_thrown⟩ rfl ⟨⟨(Nat.le_of_ble_eq_true rfl), (Nat.le_of_ble_eq_true rfl)⟩, (by show cells + 12 + 0 + 0 ≤ 601024; omega), (by show slots + 700 + 0 + 0 ≤ 7293034; omega)⟩ rfl (Nat.le_of_ble_eq_true rfl) dL_law_1477 (fun v9 H3 locs3 hp hS hz3 hk3 => ?_)
  obtain ⟨hz, hh⟩ := hp
  subst hz; subst hh
  refine lv_iload hx hb dL_law_1480 (lv_at hl 1 rfl) ?_
  refine lv_icmp_eq (tgt := 1487) hx hb dL_law_1482 (by decide) (fun c_1482 => ?_) (fun c_1482 => ?_)
  · refine lv_iload hx hb dL_law_1487 (lv_at hl 1 rfl) ?_
    refine lv_if_ne (tgt := 1504) hx hb dL_law_1489 (by decide) (fun c_1489 => ?_) (fun c_1489 => ?_)
    · rw [if_neg c_1489] at hW2 ha
      refine lv_goto (tgt := 2534) hx hb dL_law_1504 (by decide) ?_
      exact J2534 H2 _ ⟨G1, R1, _, (cn2, sc2, μ2), f1, hI, hW2, hM2, hag.trans ha, hL2, hS, hb9⟩ _ (lv_sub hl [2, 3, 4, 5, 6] rfl)
    · have ckz := c_1489
      refine lv_aload_n hx hb dL_law_1492 rfl (lv_at hl 3 rfl) ?_
      refine lv_iconst (v := 0) hx hb dL_law_1493 (by decide) ?_
      refine hk_lld X K hL2 (show vp_in (0 : Int32) 1 from vp_in_nI (n := 0) (by decide) (by decide)) dL_law_1494 ?_
      rw [show f1 (0 : Int32).toNatClampNeg = w.toInt64 from (congrArg f1 hk_c0).trans (hf1 c_1489)]
      have ev : v = w := ev.trans (if_pos c_1489)
      rw [if_pos c_1489] at hW2 ha
      refine lv_iload hx hb dL_law_1495 (lv_at hl 0 rfl) ?_
      refine lv_i2l hx hb dL_law_1497 rfl ?_
      refine lv_lcmp hx hb dL_law_1498 ?_
      rw [show lcv (w.toInt64) v.toInt64 = 0 from by rw [ev]; exact lcv_self]
      refine lv_if_eq (tgt := 1504) hx hb dL_law_1499 (by decide) (fun c_1499 => ?_) (fun c_1499 => ?_)
      · refine lv_goto (tgt := 2534) hx hb dL_law_1504 (by decide) ?_
        exact J2534 H2 _ ⟨G1, R1, _, (cn2, sc2, μ2), f1, hI, hW2, hM2, (st_period_agr hag).trans ha, hL2, hS, hb9⟩ _ (lv_sub hl [2, 3, 4, 5, 6] rfl)
      · exact absurd (by decide) c_1499
  · exact absurd c_1482 (fun h => h h33)
set_option maxHeartbeats 4000000 in
set_option maxRecDepth 100000 in
theorem k_aliases {p : Program} {l : Launch} {e : Env} {s : State} {m : MethodId} {below : List Frame} {meth : Method} {c : Code} {b L : Nat} {xs : Nat → Int32} {E : hk_E} {Zh Zm : Nat → Prop} {ho ts mo o9 b4 : Nat} {li am : Nat → Nat} {rr : Nat → Nat → Nat} (G0 : lw_G p l s m meth c b L xs E Zh Zm o9 b4) {H : Heap} {locs : List Loc} {cells slots : Nat} (hJ0 : lw_J E Zh Zm ho ts mo o9 b4 li am rr s H locs) {i : Nat} (hi : i + 8 ≤ L) (hce : cells + 12 ≤ 601024) (hsl : slots + 700 ≤ 7293034) {ls : Array Slot} (hl : lv_has ls 7 [(4, .int (nI i)), (3, .ref o9), (2, .ref mo), (1, .ref ho), (0, .ref b)])
  (J2534 : ∀ (H1 : Heap) (locs1 : List Loc), lw_J E Zh Zm ho ts mo o9 b4 li am rr s H1 locs1 → ∀ (ls : Array Slot), lv_has ls 7 [(4, .int (nI i)), (3, .ref o9), (2, .ref mo), (1, .ref ho), (0, .ref b)] → W p l e room_1 s m #[Value.ref b] below meth c H1 locs1 (cells + 12) (slots + 700) (lw_Z below #[Value.ref b] s) (F0 m 2534 ls [])) : W p l e room_1 s m #[Value.ref b] below meth c H locs cells slots (lw_Z below #[Value.ref b] s) (F0 m 1507 ls []) := by
  obtain ⟨hl9, hLL, C0, X, K, hE, hZn0, hoZ, hoA, hZm⟩ := G0
  obtain ⟨G, R, ⟨cn, sc, μ⟩, ⟨cn1, sc1, μ1⟩, f0, hI, hW, hM, hag, hL, hS, hb4⟩ := hJ0
  obtain ⟨hx, hb, hr, hml, hown, -, hXs, hbl, hlocks, -⟩ := id C0
  have hAE : ∀ q, hk_A E q → hk_A E q := fun _ h => h
  have hZA : ∀ q, Zh q → hk_A E q := hW.2.2.2.2.2.2.2.2.2.2.2.2
  have hAz : ∀ q, (Zh q ∨ q = o9) → hk_A E q := fun q h => h.elim (fun h => hZA q h) (fun h => by rw [h]; exact hoA)
  have hmA : ∀ q, Zm q → hk_A E q := fun q h => (hZm q h).2.2.2
  have hZn : ∀ q, H.size ≤ q → Zh q := fun q h => hZn0 q (Nat.le_trans hb4 h)
  have hbA : ¬ hk_A E b := fun g => absurd hbl (Nat.not_lt.mpr (by rw [← hE]; exact g))
  have hJ : Inv (cn1, sc1, μ1) := inv_agr hI.1 hag
  refine lv_aload_n hx hb dL_law_1507 rfl (lv_at hl 3 rfl) ?_
  refine lv_aload_n hx hb dL_law_1508 rfl (lv_at hl 4 rfl) ?_
  refine lv_iload hx hb dL_law_1509 (lv_at hl 0 rfl) ?_
  refine lv_iconst (v := 1) hx hb dL_law_1511 (by decide) ?_
  refine lv_iadd hx hb dL_law_1512 ?_
  refine lv_topi (fun z_1 ez_1 => ?_)
  have ez_1 : z_1 = nI (i + 1) := ez_1.trans (nI_add i 1)
  subst ez_1
  refine va_sld hx hb hXs hbl hbA hS (vp_in_nI (show i + 1 < L by omega) (by omega)) dL_law_1513 ?_
  rw [show xs (nI (i + 1)).toNatClampNeg = xs (i + 1) from congrArg xs (nI_clamp (by omega))]
  refine lv_aload_n hx hb dL_law_1514 rfl (lv_at hl 4 rfl) ?_
  refine lv_iload hx hb dL_law_1515 (lv_at hl 0 rfl) ?_
  refine lv_iconst (v := 2) hx hb dL_law_1517 (by decide) ?_
  refine lv_iadd hx hb dL_law_1518 ?_
  refine lv_topi (fun z_2 ez_2 => ?_)
  have ez_2 : z_2 = nI (i + 2) := ez_2.trans (nI_add i 2)
  subst ez_2
  refine va_sld hx hb hXs hbl hbA hS (vp_in_nI (show i + 2 < L by omega) (by omega)) dL_law_1519 ?_
  rw [show xs (nI (i + 2)).toNatClampNeg = xs (i + 2) from congrArg xs (nI_clamp (by omega))]
  refine lv_aload_n hx hb dL_law_1520 rfl (lv_at hl 4 rfl) ?_
  refine lv_iload hx hb dL_law_1521 (lv_at hl 0 rfl) ?_
  refine lv_iconst (v := 3) hx hb dL_law_1523 (by decide) ?_
  refine lv_iadd hx hb dL_law_1524 ?_
  refine lv_topi (fun z_3 ez_3 => ?_)
  have ez_3 : z_3 = nI (i + 3) := ez_3.trans (nI_add i 3)
  subst ez_3
  refine va_sld hx hb hXs hbl hbA hS (vp_in_nI (show i + 3 < L by omega) (by omega)) dL_law_1525 ?_
  rw [show xs (nI (i + 3)).toNatClampNeg = xs (i + 3) from congrArg xs (nI_clamp (by omega))]
  refine lv_aload_n hx hb dL_law_1526 rfl (lv_at hl 4 rfl) ?_
  refine lv_iload hx hb dL_law_1527 (lv_at hl 0 rfl) ?_
  refine lv_iconst (v := 4) hx hb dL_law_1529 (by decide) ?_
  refine lv_iadd hx hb dL_law_1530 ?_
  refine lv_topi (fun z_4 ez_4 => ?_)
  have ez_4 : z_4 = nI (i + 4) := ez_4.trans (nI_add i 4)
  subst ez_4
  refine va_sld hx hb hXs hbl hbA hS (vp_in_nI (show i + 4 < L by omega) (by omega)) dL_law_1531 ?_
  rw [show xs (nI (i + 4)).toNatClampNeg = xs (i + 4) from congrArg xs (nI_clamp (by omega))]
  refine lv_aload_n hx hb dL_law_1532 rfl (lv_at hl 4 rfl) ?_
  refine lv_iload hx hb dL_law_1533 (lv_at hl 0 rfl) ?_
  refine lv_iconst (v := 5) hx hb dL_law_1535 (by decide) ?_
  refine lv_iadd hx hb dL_law_1536 ?_
  refine lv_topi (fun z_5 ez_5 => ?_)
  have ez_5 : z_5 = nI (i + 5) := ez_5.trans (nI_add i 5)
  subst ez_5
  refine va_sld hx hb hXs hbl hbA hS (vp_in_nI (show i + 5 < L by omega) (by omega)) dL_law_1537 ?_
  rw [show xs (nI (i + 5)).toNatClampNeg = xs (i + 5) from congrArg xs (nI_clamp (by omega))]
  refine lv_aload_n hx hb dL_law_1538 rfl (lv_at hl 1 rfl) ?_
  refine hk_callSxW 7 (As := [.ref ho, .int (xs (i + 1)), .int (xs (i + 2)), .int (xs (i + 3)), .int (xs (i + 4)), .int (xs (i + 5)), .ref o9]) (rest := []) X K hAE hS hl.1 (c_L_aliases E l hl9 H hW hI hZn hL hoZ hoA (p0 := xs (i + 1)) (p1 := xs (i + 2)) (p2 := xs (i + 3)) (p3 := xs (i + 4)) (p4 := xs (i + 5))) hAz gL_law_L_aliases rfl hd_L_aliases rfl ⟨⟨(Nat.le_of_ble_eq_true rfl), (Nat.le_of_ble_eq_true rfl)⟩, hce, hsl⟩ rfl (Nat.le_of_ble_eq_true rfl) dL_law_1539 (fun _ _ _ _ _ hp _ _ _ _ _ _ => False.elim hp) (fun v9 H1 locs1 hp hS hz1 hk1 => ?_)
  obtain ⟨hz, G1, R1, f1, hW1, hL1, hf1⟩ := hp
  subst hz
  have hM1 := MW.kept hM (fun q hq => hk1 q (Nat.lt_of_lt_of_le (hZm q hq).1 hb4) (fun g => g.elim (hZm q hq).2.1 (hZm q hq).2.2.1))
  refine lv_topi (fun k ek => ?_)
  refine lv_istore (lv' := [(5, .int k), (4, .int (nI i)), (3, .ref o9), (2, .ref mo), (1, .ref ho), (0, .ref b)]) hx hb dL_law_1542 hl (by decide) rfl (fun ls hl => ?_)
  rw [← ek] at hW1 hf1
  have hcT : cd_aliases (xs (i + 1)) (xs (i + 2)) (xs (i + 3)) (xs (i + 4)) (xs (i + 5)) (cn1, sc1, μ1) = k := (cd_aliases_agr hag).symm.trans ek.symm
  obtain ⟨w, ew⟩ : ∃ w : Int32, w = an_aliases (xs (i + 1)) (xs (i + 2)) (xs (i + 3)) (xs (i + 4)) (xs (i + 5)) (cn, sc, μ) := ⟨_, rfl⟩
  rw [← ew] at hf1
  have haT : an_aliases (xs (i + 1)) (xs (i + 2)) (xs (i + 3)) (xs (i + 4)) (xs (i + 5)) (cn1, sc1, μ1) = w := (an_aliases_agr hag).symm.trans ew.symm
  refine lv_aload_n hx hb dL_law_1544 rfl (lv_at hl 3 rfl) ?_
  refine lv_aload_n hx hb dL_law_1545 rfl (lv_at hl 5 rfl) ?_
  refine lv_iload hx hb dL_law_1546 (lv_at hl 1 rfl) ?_
  refine lv_iconst (v := 1) hx hb dL_law_1548 (by decide) ?_
  refine lv_iadd hx hb dL_law_1549 ?_
  refine lv_topi (fun z_6 ez_6 => ?_)
  have ez_6 : z_6 = nI (i + 1) := ez_6.trans (nI_add i 1)
  subst ez_6
  refine va_sld hx hb hXs hbl hbA hS (vp_in_nI (show i + 1 < L by omega) (by omega)) dL_law_1550 ?_
  rw [show xs (nI (i + 1)).toNatClampNeg = xs (i + 1) from congrArg xs (nI_clamp (by omega))]
  refine lv_aload_n hx hb dL_law_1551 rfl (lv_at hl 5 rfl) ?_
  refine lv_iload hx hb dL_law_1552 (lv_at hl 1 rfl) ?_
  refine lv_iconst (v := 2) hx hb dL_law_1554 (by decide) ?_
  refine lv_iadd hx hb dL_law_1555 ?_
  refine lv_topi (fun z_7 ez_7 => ?_)
  have ez_7 : z_7 = nI (i + 2) := ez_7.trans (nI_add i 2)
  subst ez_7
  refine va_sld hx hb hXs hbl hbA hS (vp_in_nI (show i + 2 < L by omega) (by omega)) dL_law_1556 ?_
  rw [show xs (nI (i + 2)).toNatClampNeg = xs (i + 2) from congrArg xs (nI_clamp (by omega))]
  refine lv_aload_n hx hb dL_law_1557 rfl (lv_at hl 5 rfl) ?_
  refine lv_iload hx hb dL_law_1558 (lv_at hl 1 rfl) ?_
  refine lv_iconst (v := 3) hx hb dL_law_1560 (by decide) ?_
  refine lv_iadd hx hb dL_law_1561 ?_
  refine lv_topi (fun z_8 ez_8 => ?_)
  have ez_8 : z_8 = nI (i + 3) := ez_8.trans (nI_add i 3)
  subst ez_8
  refine va_sld hx hb hXs hbl hbA hS (vp_in_nI (show i + 3 < L by omega) (by omega)) dL_law_1562 ?_
  rw [show xs (nI (i + 3)).toNatClampNeg = xs (i + 3) from congrArg xs (nI_clamp (by omega))]
  refine lv_aload_n hx hb dL_law_1563 rfl (lv_at hl 5 rfl) ?_
  refine lv_iload hx hb dL_law_1564 (lv_at hl 1 rfl) ?_
  refine lv_iconst (v := 4) hx hb dL_law_1566 (by decide) ?_
  refine lv_iadd hx hb dL_law_1567 ?_
  refine lv_topi (fun z_9 ez_9 => ?_)
  have ez_9 : z_9 = nI (i + 4) := ez_9.trans (nI_add i 4)
  subst ez_9
  refine va_sld hx hb hXs hbl hbA hS (vp_in_nI (show i + 4 < L by omega) (by omega)) dL_law_1568 ?_
  rw [show xs (nI (i + 4)).toNatClampNeg = xs (i + 4) from congrArg xs (nI_clamp (by omega))]
  refine lv_aload_n hx hb dL_law_1569 rfl (lv_at hl 5 rfl) ?_
  refine lv_iload hx hb dL_law_1570 (lv_at hl 1 rfl) ?_
  refine lv_iconst (v := 5) hx hb dL_law_1572 (by decide) ?_
  refine lv_iadd hx hb dL_law_1573 ?_
  refine lv_topi (fun z_10 ez_10 => ?_)
  have ez_10 : z_10 = nI (i + 5) := ez_10.trans (nI_add i 5)
  subst ez_10
  refine va_sld hx hb hXs hbl hbA hS (vp_in_nI (show i + 5 < L by omega) (by omega)) dL_law_1574 ?_
  rw [show xs (nI (i + 5)).toNatClampNeg = xs (i + 5) from congrArg xs (nI_clamp (by omega))]
  refine hk_callV 5 (As := [.int (xs (i + 1)), .int (xs (i + 2)), .int (xs (i + 3)), .int (xs (i + 4)), .int (xs (i + 5))]) (rest := []) X K hAE hS hl.1 hM1.1 rfl (c_X11_aliases E l H1 hM1 hmA hJ (p0 := xs (i + 1)) (p1 := xs (i + 2)) (p2 := xs (i + 3)) (p3 := xs (i + 4)) (p4 := xs (i + 5))) hmA gL_law_X11_aliases rfl ⟨rfl, hd_X11_aliases⟩ rfl ⟨⟨(Nat.le_of_ble_eq_true rfl), (Nat.le_of_ble_eq_true rfl)⟩, (by show cells + 12 + 0 ≤ 601024; omega), (by show slots + 700 + 0 ≤ 7293034; omega)⟩ rfl (Nat.le_of_ble_eq_true rfl) dL_law_1575 (fun v9 H2 locs2 hp hS hz2 hk2 => ?_)
  obtain ⟨cn2, sc2, μ2, hM2, h33, hz, ha⟩ := hp
  subst hz
  rw [hcT] at h33 ha
  have hW2 := HW.kept hW1 (fun q h1 h2 => hk2 q h1 (fun g => h2.elim (hZm q g).2.1 (fun h => h (hZm q g).2.2.2)))
  have hL2 : hk_L E o9 1 f1 H2 := (hk2 _ (ar_lt hL1) (fun g => (hZm _ g).2.2.1 rfl)).trans hL1
  have hb9 : b4 ≤ H2.size := Nat.le_trans (Nat.le_trans hb4 hz1) hz2
  rw [hcT, haT]
  refine lv_topi (fun v ev => ?_)
  refine lv_istore (lv' := [(6, .int v), (5, .int k), (4, .int (nI i)), (3, .ref o9), (2, .ref mo), (1, .ref ho), (0, .ref b)]) hx hb dL_law_1578 hl (by decide) rfl (fun ls hl => ?_)
  refine lv_aload_n hx hb dL_law_1580 rfl (lv_at hl 4 rfl) ?_
  refine hk_callV 0 (As := []) (rest := []) X K hAE hS hl.1 hM2.1 rfl (c_X11_thrown E l H2 hM2) (fun _ h => False.elim h) gL_law_X11_thrown rfl ⟨rfl, hd_X11_thrown⟩ rfl ⟨⟨(Nat.le_of_ble_eq_true rfl), (Nat.le_of_ble_eq_true rfl)⟩, (by show cells + 12 + 0 + 0 ≤ 601024; omega), (by show slots + 700 + 0 + 0 ≤ 7293034; omega)⟩ rfl (Nat.le_of_ble_eq_true rfl) dL_law_1581 (fun v9 H3 locs3 hp hS hz3 hk3 => ?_)
  obtain ⟨hz, hh⟩ := hp
  subst hz; subst hh
  refine lv_iload hx hb dL_law_1584 (lv_at hl 1 rfl) ?_
  refine lv_icmp_eq (tgt := 1591) hx hb dL_law_1586 (by decide) (fun c_1586 => ?_) (fun c_1586 => ?_)
  · refine lv_iload hx hb dL_law_1591 (lv_at hl 1 rfl) ?_
    refine lv_if_ne (tgt := 1608) hx hb dL_law_1593 (by decide) (fun c_1593 => ?_) (fun c_1593 => ?_)
    · rw [if_neg c_1593] at hW2 ha
      refine lv_goto (tgt := 2534) hx hb dL_law_1608 (by decide) ?_
      exact J2534 H2 _ ⟨G1, R1, _, (cn2, sc2, μ2), f1, hI, hW2, hM2, hag.trans ha, hL2, hS, hb9⟩ _ (lv_sub hl [2, 3, 4, 5, 6] rfl)
    · have ckz := c_1593
      refine lv_aload_n hx hb dL_law_1596 rfl (lv_at hl 3 rfl) ?_
      refine lv_iconst (v := 0) hx hb dL_law_1597 (by decide) ?_
      refine hk_lld X K hL2 (show vp_in (0 : Int32) 1 from vp_in_nI (n := 0) (by decide) (by decide)) dL_law_1598 ?_
      rw [show f1 (0 : Int32).toNatClampNeg = w.toInt64 from (congrArg f1 hk_c0).trans (hf1 c_1593)]
      have ev : v = w := ev.trans (if_pos c_1593)
      rw [if_pos c_1593] at hW2 ha
      refine lv_iload hx hb dL_law_1599 (lv_at hl 0 rfl) ?_
      refine lv_i2l hx hb dL_law_1601 rfl ?_
      refine lv_lcmp hx hb dL_law_1602 ?_
      rw [show lcv (w.toInt64) v.toInt64 = 0 from by rw [ev]; exact lcv_self]
      refine lv_if_eq (tgt := 1608) hx hb dL_law_1603 (by decide) (fun c_1603 => ?_) (fun c_1603 => ?_)
      · refine lv_goto (tgt := 2534) hx hb dL_law_1608 (by decide) ?_
        exact J2534 H2 _ ⟨G1, R1, _, (cn2, sc2, μ2), f1, hI, hW2, hM2, (st_aliases_agr hag).trans ha, hL2, hS, hb9⟩ _ (lv_sub hl [2, 3, 4, 5, 6] rfl)
      · exact absurd (by decide) c_1603
  · exact absurd c_1586 (fun h => h h33)
set_option maxHeartbeats 4000000 in
set_option maxRecDepth 100000 in
theorem k_claim {p : Program} {l : Launch} {e : Env} {s : State} {m : MethodId} {below : List Frame} {meth : Method} {c : Code} {b L : Nat} {xs : Nat → Int32} {E : hk_E} {Zh Zm : Nat → Prop} {ho ts mo o9 b4 : Nat} {li am : Nat → Nat} {rr : Nat → Nat → Nat} (G0 : lw_G p l s m meth c b L xs E Zh Zm o9 b4) {H : Heap} {locs : List Loc} {cells slots : Nat} (hJ0 : lw_J E Zh Zm ho ts mo o9 b4 li am rr s H locs) {i : Nat} (hi : i + 8 ≤ L) (hce : cells + 12 ≤ 601024) (hsl : slots + 700 ≤ 7293034) {ls : Array Slot} (hl : lv_has ls 7 [(4, .int (nI i)), (3, .ref o9), (2, .ref mo), (1, .ref ho), (0, .ref b)])
  (J2534 : ∀ (H1 : Heap) (locs1 : List Loc), lw_J E Zh Zm ho ts mo o9 b4 li am rr s H1 locs1 → ∀ (ls : Array Slot), lv_has ls 7 [(4, .int (nI i)), (3, .ref o9), (2, .ref mo), (1, .ref ho), (0, .ref b)] → W p l e room_1 s m #[Value.ref b] below meth c H1 locs1 (cells + 12) (slots + 700) (lw_Z below #[Value.ref b] s) (F0 m 2534 ls [])) : W p l e room_1 s m #[Value.ref b] below meth c H locs cells slots (lw_Z below #[Value.ref b] s) (F0 m 1611 ls []) := by
  obtain ⟨hl9, hLL, C0, X, K, hE, hZn0, hoZ, hoA, hZm⟩ := G0
  obtain ⟨G, R, ⟨cn, sc, μ⟩, ⟨cn1, sc1, μ1⟩, f0, hI, hW, hM, hag, hL, hS, hb4⟩ := hJ0
  obtain ⟨hx, hb, hr, hml, hown, -, hXs, hbl, hlocks, -⟩ := id C0
  have hAE : ∀ q, hk_A E q → hk_A E q := fun _ h => h
  have hZA : ∀ q, Zh q → hk_A E q := hW.2.2.2.2.2.2.2.2.2.2.2.2
  have hAz : ∀ q, (Zh q ∨ q = o9) → hk_A E q := fun q h => h.elim (fun h => hZA q h) (fun h => by rw [h]; exact hoA)
  have hmA : ∀ q, Zm q → hk_A E q := fun q h => (hZm q h).2.2.2
  have hZn : ∀ q, H.size ≤ q → Zh q := fun q h => hZn0 q (Nat.le_trans hb4 h)
  have hbA : ¬ hk_A E b := fun g => absurd hbl (Nat.not_lt.mpr (by rw [← hE]; exact g))
  have hJ : Inv (cn1, sc1, μ1) := inv_agr hI.1 hag
  refine lv_aload_n hx hb dL_law_1611 rfl (lv_at hl 3 rfl) ?_
  refine lv_aload_n hx hb dL_law_1612 rfl (lv_at hl 4 rfl) ?_
  refine lv_iload hx hb dL_law_1613 (lv_at hl 0 rfl) ?_
  refine lv_iconst (v := 1) hx hb dL_law_1615 (by decide) ?_
  refine lv_iadd hx hb dL_law_1616 ?_
  refine lv_topi (fun z_1 ez_1 => ?_)
  have ez_1 : z_1 = nI (i + 1) := ez_1.trans (nI_add i 1)
  subst ez_1
  refine va_sld hx hb hXs hbl hbA hS (vp_in_nI (show i + 1 < L by omega) (by omega)) dL_law_1617 ?_
  rw [show xs (nI (i + 1)).toNatClampNeg = xs (i + 1) from congrArg xs (nI_clamp (by omega))]
  refine lv_aload_n hx hb dL_law_1618 rfl (lv_at hl 4 rfl) ?_
  refine lv_iload hx hb dL_law_1619 (lv_at hl 0 rfl) ?_
  refine lv_iconst (v := 2) hx hb dL_law_1621 (by decide) ?_
  refine lv_iadd hx hb dL_law_1622 ?_
  refine lv_topi (fun z_2 ez_2 => ?_)
  have ez_2 : z_2 = nI (i + 2) := ez_2.trans (nI_add i 2)
  subst ez_2
  refine va_sld hx hb hXs hbl hbA hS (vp_in_nI (show i + 2 < L by omega) (by omega)) dL_law_1623 ?_
  rw [show xs (nI (i + 2)).toNatClampNeg = xs (i + 2) from congrArg xs (nI_clamp (by omega))]
  refine lv_aload_n hx hb dL_law_1624 rfl (lv_at hl 1 rfl) ?_
  refine hk_callSxW 4 (As := [.ref ho, .int (xs (i + 1)), .int (xs (i + 2)), .ref o9]) (rest := []) X K hAE hS hl.1 (c_L_claim E l hl9 H hW hI hZn hL hoZ hoA (p0 := xs (i + 1)) (p1 := xs (i + 2))) hAz gL_law_L_claim rfl hd_L_claim rfl ⟨⟨(Nat.le_of_ble_eq_true rfl), (Nat.le_of_ble_eq_true rfl)⟩, hce, hsl⟩ rfl (Nat.le_of_ble_eq_true rfl) dL_law_1625 (fun _ _ _ _ _ hp _ _ _ _ _ _ => False.elim hp) (fun v9 H1 locs1 hp hS hz1 hk1 => ?_)
  obtain ⟨hz, G1, R1, f1, hW1, hL1, hf1⟩ := hp
  subst hz
  have hM1 := MW.kept hM (fun q hq => hk1 q (Nat.lt_of_lt_of_le (hZm q hq).1 hb4) (fun g => g.elim (hZm q hq).2.1 (hZm q hq).2.2.1))
  refine lv_topi (fun k ek => ?_)
  refine lv_istore (lv' := [(5, .int k), (4, .int (nI i)), (3, .ref o9), (2, .ref mo), (1, .ref ho), (0, .ref b)]) hx hb dL_law_1628 hl (by decide) rfl (fun ls hl => ?_)
  rw [← ek] at hW1 hf1
  have hcT : cd_claim (xs (i + 1)) (xs (i + 2)) (cn1, sc1, μ1) = k := (cd_claim_agr hag).symm.trans ek.symm
  obtain ⟨w, ew⟩ : ∃ w : Int32, w = an_claim (xs (i + 1)) (xs (i + 2)) (cn, sc, μ) := ⟨_, rfl⟩
  rw [← ew] at hf1
  have haT : an_claim (xs (i + 1)) (xs (i + 2)) (cn1, sc1, μ1) = w := (an_claim_agr hag).symm.trans ew.symm
  refine lv_aload_n hx hb dL_law_1630 rfl (lv_at hl 3 rfl) ?_
  refine lv_aload_n hx hb dL_law_1631 rfl (lv_at hl 5 rfl) ?_
  refine lv_iload hx hb dL_law_1632 (lv_at hl 1 rfl) ?_
  refine lv_iconst (v := 1) hx hb dL_law_1634 (by decide) ?_
  refine lv_iadd hx hb dL_law_1635 ?_
  refine lv_topi (fun z_3 ez_3 => ?_)
  have ez_3 : z_3 = nI (i + 1) := ez_3.trans (nI_add i 1)
  subst ez_3
  refine va_sld hx hb hXs hbl hbA hS (vp_in_nI (show i + 1 < L by omega) (by omega)) dL_law_1636 ?_
  rw [show xs (nI (i + 1)).toNatClampNeg = xs (i + 1) from congrArg xs (nI_clamp (by omega))]
  refine lv_aload_n hx hb dL_law_1637 rfl (lv_at hl 5 rfl) ?_
  refine lv_iload hx hb dL_law_1638 (lv_at hl 1 rfl) ?_
  refine lv_iconst (v := 2) hx hb dL_law_1640 (by decide) ?_
  refine lv_iadd hx hb dL_law_1641 ?_
  refine lv_topi (fun z_4 ez_4 => ?_)
  have ez_4 : z_4 = nI (i + 2) := ez_4.trans (nI_add i 2)
  subst ez_4
  refine va_sld hx hb hXs hbl hbA hS (vp_in_nI (show i + 2 < L by omega) (by omega)) dL_law_1642 ?_
  rw [show xs (nI (i + 2)).toNatClampNeg = xs (i + 2) from congrArg xs (nI_clamp (by omega))]
  refine hk_callV 2 (As := [.int (xs (i + 1)), .int (xs (i + 2))]) (rest := []) X K hAE hS hl.1 hM1.1 rfl (c_X11_claim E l H1 hM1 hmA hJ.1.1 (p0 := xs (i + 1)) (p1 := xs (i + 2))) hmA gL_law_X11_claim rfl ⟨rfl, hd_X11_claim⟩ rfl ⟨⟨(Nat.le_of_ble_eq_true rfl), (Nat.le_of_ble_eq_true rfl)⟩, (by show cells + 12 + 0 ≤ 601024; omega), (by show slots + 700 + 0 ≤ 7293034; omega)⟩ rfl (Nat.le_of_ble_eq_true rfl) dL_law_1643 (fun v9 H2 locs2 hp hS hz2 hk2 => ?_)
  obtain ⟨cn2, sc2, μ2, hM2, h33, hz, ha⟩ := hp
  subst hz
  rw [hcT] at h33 ha
  have hW2 := HW.kept hW1 (fun q h1 h2 => hk2 q h1 (fun g => h2.elim (hZm q g).2.1 (fun h => h (hZm q g).2.2.2)))
  have hL2 : hk_L E o9 1 f1 H2 := (hk2 _ (ar_lt hL1) (fun g => (hZm _ g).2.2.1 rfl)).trans hL1
  have hb9 : b4 ≤ H2.size := Nat.le_trans (Nat.le_trans hb4 hz1) hz2
  rw [hcT, haT]
  refine lv_topi (fun v ev => ?_)
  refine lv_istore (lv' := [(6, .int v), (5, .int k), (4, .int (nI i)), (3, .ref o9), (2, .ref mo), (1, .ref ho), (0, .ref b)]) hx hb dL_law_1646 hl (by decide) rfl (fun ls hl => ?_)
  refine lv_aload_n hx hb dL_law_1648 rfl (lv_at hl 4 rfl) ?_
  refine hk_callV 0 (As := []) (rest := []) X K hAE hS hl.1 hM2.1 rfl (c_X11_thrown E l H2 hM2) (fun _ h => False.elim h) gL_law_X11_thrown rfl ⟨rfl, hd_X11_thrown⟩ rfl ⟨⟨(Nat.le_of_ble_eq_true rfl), (Nat.le_of_ble_eq_true rfl)⟩, (by show cells + 12 + 0 + 0 ≤ 601024; omega), (by show slots + 700 + 0 + 0 ≤ 7293034; omega)⟩ rfl (Nat.le_of_ble_eq_true rfl) dL_law_1649 (fun v9 H3 locs3 hp hS hz3 hk3 => ?_)
  obtain ⟨hz, hh⟩ := hp
  subst hz; subst hh
  refine lv_iload hx hb dL_law_1652 (lv_at hl 1 rfl) ?_
  refine lv_icmp_eq (tgt := 1659) hx hb dL_law_1654 (by decide) (fun c_1654 => ?_) (fun c_1654 => ?_)
  · refine lv_iload hx hb dL_law_1659 (lv_at hl 1 rfl) ?_
    refine lv_if_ne (tgt := 1676) hx hb dL_law_1661 (by decide) (fun c_1661 => ?_) (fun c_1661 => ?_)
    · rw [if_neg c_1661] at hW2 ha
      refine lv_goto (tgt := 2534) hx hb dL_law_1676 (by decide) ?_
      exact J2534 H2 _ ⟨G1, R1, _, (cn2, sc2, μ2), f1, hI, hW2, hM2, hag.trans ha, hL2, hS, hb9⟩ _ (lv_sub hl [2, 3, 4, 5, 6] rfl)
    · have ckz := c_1661
      refine lv_aload_n hx hb dL_law_1664 rfl (lv_at hl 3 rfl) ?_
      refine lv_iconst (v := 0) hx hb dL_law_1665 (by decide) ?_
      refine hk_lld X K hL2 (show vp_in (0 : Int32) 1 from vp_in_nI (n := 0) (by decide) (by decide)) dL_law_1666 ?_
      rw [show f1 (0 : Int32).toNatClampNeg = w.toInt64 from (congrArg f1 hk_c0).trans (hf1 c_1661)]
      have ev : v = w := ev.trans (if_pos c_1661)
      rw [if_pos c_1661] at hW2 ha
      refine lv_iload hx hb dL_law_1667 (lv_at hl 0 rfl) ?_
      refine lv_i2l hx hb dL_law_1669 rfl ?_
      refine lv_lcmp hx hb dL_law_1670 ?_
      rw [show lcv (w.toInt64) v.toInt64 = 0 from by rw [ev]; exact lcv_self]
      refine lv_if_eq (tgt := 1676) hx hb dL_law_1671 (by decide) (fun c_1671 => ?_) (fun c_1671 => ?_)
      · refine lv_goto (tgt := 2534) hx hb dL_law_1676 (by decide) ?_
        exact J2534 H2 _ ⟨G1, R1, _, (cn2, sc2, μ2), f1, invF_claim hI (ek.symm.trans ckz), hW2, hM2, (st_claim_agr hag).trans ha, hL2, hS, hb9⟩ _ (lv_sub hl [2, 3, 4, 5, 6] rfl)
      · exact absurd (by decide) c_1671
  · exact absurd c_1654 (fun h => h h33)
set_option maxHeartbeats 4000000 in
set_option maxRecDepth 100000 in
theorem k_feature {p : Program} {l : Launch} {e : Env} {s : State} {m : MethodId} {below : List Frame} {meth : Method} {c : Code} {b L : Nat} {xs : Nat → Int32} {E : hk_E} {Zh Zm : Nat → Prop} {ho ts mo o9 b4 : Nat} {li am : Nat → Nat} {rr : Nat → Nat → Nat} (G0 : lw_G p l s m meth c b L xs E Zh Zm o9 b4) {H : Heap} {locs : List Loc} {cells slots : Nat} (hJ0 : lw_J E Zh Zm ho ts mo o9 b4 li am rr s H locs) {i : Nat} (hi : i + 8 ≤ L) (hce : cells + 12 ≤ 601024) (hsl : slots + 700 ≤ 7293034) {ls : Array Slot} (hl : lv_has ls 7 [(4, .int (nI i)), (3, .ref o9), (2, .ref mo), (1, .ref ho), (0, .ref b)])
  (J2534 : ∀ (H1 : Heap) (locs1 : List Loc), lw_J E Zh Zm ho ts mo o9 b4 li am rr s H1 locs1 → ∀ (ls : Array Slot), lv_has ls 7 [(4, .int (nI i)), (3, .ref o9), (2, .ref mo), (1, .ref ho), (0, .ref b)] → W p l e room_1 s m #[Value.ref b] below meth c H1 locs1 (cells + 12) (slots + 700) (lw_Z below #[Value.ref b] s) (F0 m 2534 ls [])) : W p l e room_1 s m #[Value.ref b] below meth c H locs cells slots (lw_Z below #[Value.ref b] s) (F0 m 1679 ls []) := by
  obtain ⟨hl9, hLL, C0, X, K, hE, hZn0, hoZ, hoA, hZm⟩ := G0
  obtain ⟨G, R, ⟨cn, sc, μ⟩, ⟨cn1, sc1, μ1⟩, f0, hI, hW, hM, hag, hL, hS, hb4⟩ := hJ0
  obtain ⟨hx, hb, hr, hml, hown, -, hXs, hbl, hlocks, -⟩ := id C0
  have hAE : ∀ q, hk_A E q → hk_A E q := fun _ h => h
  have hZA : ∀ q, Zh q → hk_A E q := hW.2.2.2.2.2.2.2.2.2.2.2.2
  have hAz : ∀ q, (Zh q ∨ q = o9) → hk_A E q := fun q h => h.elim (fun h => hZA q h) (fun h => by rw [h]; exact hoA)
  have hmA : ∀ q, Zm q → hk_A E q := fun q h => (hZm q h).2.2.2
  have hZn : ∀ q, H.size ≤ q → Zh q := fun q h => hZn0 q (Nat.le_trans hb4 h)
  have hbA : ¬ hk_A E b := fun g => absurd hbl (Nat.not_lt.mpr (by rw [← hE]; exact g))
  have hJ : Inv (cn1, sc1, μ1) := inv_agr hI.1 hag
  refine lv_aload_n hx hb dL_law_1679 rfl (lv_at hl 3 rfl) ?_
  refine lv_aload_n hx hb dL_law_1680 rfl (lv_at hl 4 rfl) ?_
  refine lv_iload hx hb dL_law_1681 (lv_at hl 0 rfl) ?_
  refine lv_iconst (v := 1) hx hb dL_law_1683 (by decide) ?_
  refine lv_iadd hx hb dL_law_1684 ?_
  refine lv_topi (fun z_1 ez_1 => ?_)
  have ez_1 : z_1 = nI (i + 1) := ez_1.trans (nI_add i 1)
  subst ez_1
  refine va_sld hx hb hXs hbl hbA hS (vp_in_nI (show i + 1 < L by omega) (by omega)) dL_law_1685 ?_
  rw [show xs (nI (i + 1)).toNatClampNeg = xs (i + 1) from congrArg xs (nI_clamp (by omega))]
  refine lv_aload_n hx hb dL_law_1686 rfl (lv_at hl 4 rfl) ?_
  refine lv_iload hx hb dL_law_1687 (lv_at hl 0 rfl) ?_
  refine lv_iconst (v := 2) hx hb dL_law_1689 (by decide) ?_
  refine lv_iadd hx hb dL_law_1690 ?_
  refine lv_topi (fun z_2 ez_2 => ?_)
  have ez_2 : z_2 = nI (i + 2) := ez_2.trans (nI_add i 2)
  subst ez_2
  refine va_sld hx hb hXs hbl hbA hS (vp_in_nI (show i + 2 < L by omega) (by omega)) dL_law_1691 ?_
  rw [show xs (nI (i + 2)).toNatClampNeg = xs (i + 2) from congrArg xs (nI_clamp (by omega))]
  refine lv_aload_n hx hb dL_law_1692 rfl (lv_at hl 1 rfl) ?_
  refine hk_callSxW 4 (As := [.ref ho, .int (xs (i + 1)), .int (xs (i + 2)), .ref o9]) (rest := []) X K hAE hS hl.1 (c_L_feature E l hl9 H hW hI hZn hL hoZ hoA (p0 := xs (i + 1)) (p1 := xs (i + 2))) hAz gL_law_L_feature rfl hd_L_feature rfl ⟨⟨(Nat.le_of_ble_eq_true rfl), (Nat.le_of_ble_eq_true rfl)⟩, hce, hsl⟩ rfl (Nat.le_of_ble_eq_true rfl) dL_law_1693 (fun _ _ _ _ _ hp _ _ _ _ _ _ => False.elim hp) (fun v9 H1 locs1 hp hS hz1 hk1 => ?_)
  obtain ⟨hz, G1, R1, f1, hW1, hL1, hf1⟩ := hp
  subst hz
  have hM1 := MW.kept hM (fun q hq => hk1 q (Nat.lt_of_lt_of_le (hZm q hq).1 hb4) (fun g => g.elim (hZm q hq).2.1 (hZm q hq).2.2.1))
  refine lv_topi (fun k ek => ?_)
  refine lv_istore (lv' := [(5, .int k), (4, .int (nI i)), (3, .ref o9), (2, .ref mo), (1, .ref ho), (0, .ref b)]) hx hb dL_law_1696 hl (by decide) rfl (fun ls hl => ?_)
  rw [← ek] at hW1 hf1
  have hcT : cd_feature (xs (i + 1)) (xs (i + 2)) (cn1, sc1, μ1) = k := (cd_feature_agr hag).symm.trans ek.symm
  obtain ⟨w, ew⟩ : ∃ w : Int32, w = an_feature (xs (i + 1)) (xs (i + 2)) (cn, sc, μ) := ⟨_, rfl⟩
  rw [← ew] at hf1
  have haT : an_feature (xs (i + 1)) (xs (i + 2)) (cn1, sc1, μ1) = w := (an_feature_agr hag).symm.trans ew.symm
  refine lv_aload_n hx hb dL_law_1698 rfl (lv_at hl 3 rfl) ?_
  refine lv_aload_n hx hb dL_law_1699 rfl (lv_at hl 5 rfl) ?_
  refine lv_iload hx hb dL_law_1700 (lv_at hl 1 rfl) ?_
  refine lv_iconst (v := 1) hx hb dL_law_1702 (by decide) ?_
  refine lv_iadd hx hb dL_law_1703 ?_
  refine lv_topi (fun z_3 ez_3 => ?_)
  have ez_3 : z_3 = nI (i + 1) := ez_3.trans (nI_add i 1)
  subst ez_3
  refine va_sld hx hb hXs hbl hbA hS (vp_in_nI (show i + 1 < L by omega) (by omega)) dL_law_1704 ?_
  rw [show xs (nI (i + 1)).toNatClampNeg = xs (i + 1) from congrArg xs (nI_clamp (by omega))]
  refine lv_aload_n hx hb dL_law_1705 rfl (lv_at hl 5 rfl) ?_
  refine lv_iload hx hb dL_law_1706 (lv_at hl 1 rfl) ?_
  refine lv_iconst (v := 2) hx hb dL_law_1708 (by decide) ?_
  refine lv_iadd hx hb dL_law_1709 ?_
  refine lv_topi (fun z_4 ez_4 => ?_)
  have ez_4 : z_4 = nI (i + 2) := ez_4.trans (nI_add i 2)
  subst ez_4
  refine va_sld hx hb hXs hbl hbA hS (vp_in_nI (show i + 2 < L by omega) (by omega)) dL_law_1710 ?_
  rw [show xs (nI (i + 2)).toNatClampNeg = xs (i + 2) from congrArg xs (nI_clamp (by omega))]
  refine hk_callV 2 (As := [.int (xs (i + 1)), .int (xs (i + 2))]) (rest := []) X K hAE hS hl.1 hM1.1 rfl (c_X11_feature E l H1 hM1 hmA hJ (p0 := xs (i + 1)) (p1 := xs (i + 2))) hmA gL_law_X11_feature rfl ⟨rfl, hd_X11_feature⟩ rfl ⟨⟨(Nat.le_of_ble_eq_true rfl), (Nat.le_of_ble_eq_true rfl)⟩, (by show cells + 12 + 0 ≤ 601024; omega), (by show slots + 700 + 0 ≤ 7293034; omega)⟩ rfl (Nat.le_of_ble_eq_true rfl) dL_law_1711 (fun v9 H2 locs2 hp hS hz2 hk2 => ?_)
  obtain ⟨cn2, sc2, μ2, hM2, h33, hz, ha⟩ := hp
  subst hz
  rw [hcT] at h33 ha
  have hW2 := HW.kept hW1 (fun q h1 h2 => hk2 q h1 (fun g => h2.elim (hZm q g).2.1 (fun h => h (hZm q g).2.2.2)))
  have hL2 : hk_L E o9 1 f1 H2 := (hk2 _ (ar_lt hL1) (fun g => (hZm _ g).2.2.1 rfl)).trans hL1
  have hb9 : b4 ≤ H2.size := Nat.le_trans (Nat.le_trans hb4 hz1) hz2
  rw [hcT, haT]
  refine lv_topi (fun v ev => ?_)
  refine lv_istore (lv' := [(6, .int v), (5, .int k), (4, .int (nI i)), (3, .ref o9), (2, .ref mo), (1, .ref ho), (0, .ref b)]) hx hb dL_law_1714 hl (by decide) rfl (fun ls hl => ?_)
  refine lv_aload_n hx hb dL_law_1716 rfl (lv_at hl 4 rfl) ?_
  refine hk_callV 0 (As := []) (rest := []) X K hAE hS hl.1 hM2.1 rfl (c_X11_thrown E l H2 hM2) (fun _ h => False.elim h) gL_law_X11_thrown rfl ⟨rfl, hd_X11_thrown⟩ rfl ⟨⟨(Nat.le_of_ble_eq_true rfl), (Nat.le_of_ble_eq_true rfl)⟩, (by show cells + 12 + 0 + 0 ≤ 601024; omega), (by show slots + 700 + 0 + 0 ≤ 7293034; omega)⟩ rfl (Nat.le_of_ble_eq_true rfl) dL_law_1717 (fun v9 H3 locs3 hp hS hz3 hk3 => ?_)
  obtain ⟨hz, hh⟩ := hp
  subst hz; subst hh
  refine lv_iload hx hb dL_law_1720 (lv_at hl 1 rfl) ?_
  refine lv_icmp_eq (tgt := 1727) hx hb dL_law_1722 (by decide) (fun c_1722 => ?_) (fun c_1722 => ?_)
  · refine lv_iload hx hb dL_law_1727 (lv_at hl 1 rfl) ?_
    refine lv_if_ne (tgt := 1744) hx hb dL_law_1729 (by decide) (fun c_1729 => ?_) (fun c_1729 => ?_)
    · rw [if_neg c_1729] at hW2 ha
      refine lv_goto (tgt := 2534) hx hb dL_law_1744 (by decide) ?_
      exact J2534 H2 _ ⟨G1, R1, _, (cn2, sc2, μ2), f1, hI, hW2, hM2, hag.trans ha, hL2, hS, hb9⟩ _ (lv_sub hl [2, 3, 4, 5, 6] rfl)
    · have ckz := c_1729
      refine lv_aload_n hx hb dL_law_1732 rfl (lv_at hl 3 rfl) ?_
      refine lv_iconst (v := 0) hx hb dL_law_1733 (by decide) ?_
      refine hk_lld X K hL2 (show vp_in (0 : Int32) 1 from vp_in_nI (n := 0) (by decide) (by decide)) dL_law_1734 ?_
      rw [show f1 (0 : Int32).toNatClampNeg = w.toInt64 from (congrArg f1 hk_c0).trans (hf1 c_1729)]
      have ev : v = w := ev.trans (if_pos c_1729)
      rw [if_pos c_1729] at hW2 ha
      refine lv_iload hx hb dL_law_1735 (lv_at hl 0 rfl) ?_
      refine lv_i2l hx hb dL_law_1737 rfl ?_
      refine lv_lcmp hx hb dL_law_1738 ?_
      rw [show lcv (w.toInt64) v.toInt64 = 0 from by rw [ev]; exact lcv_self]
      refine lv_if_eq (tgt := 1744) hx hb dL_law_1739 (by decide) (fun c_1739 => ?_) (fun c_1739 => ?_)
      · refine lv_goto (tgt := 2534) hx hb dL_law_1744 (by decide) ?_
        exact J2534 H2 _ ⟨G1, R1, _, (cn2, sc2, μ2), f1, hI, hW2, hM2, (st_feature_agr hag).trans ha, hL2, hS, hb9⟩ _ (lv_sub hl [2, 3, 4, 5, 6] rfl)
      · exact absurd (by decide) c_1739
  · exact absurd c_1722 (fun h => h h33)
set_option maxHeartbeats 4000000 in
set_option maxRecDepth 100000 in
theorem k_rule {p : Program} {l : Launch} {e : Env} {s : State} {m : MethodId} {below : List Frame} {meth : Method} {c : Code} {b L : Nat} {xs : Nat → Int32} {E : hk_E} {Zh Zm : Nat → Prop} {ho ts mo o9 b4 : Nat} {li am : Nat → Nat} {rr : Nat → Nat → Nat} (G0 : lw_G p l s m meth c b L xs E Zh Zm o9 b4) {H : Heap} {locs : List Loc} {cells slots : Nat} (hJ0 : lw_J E Zh Zm ho ts mo o9 b4 li am rr s H locs) {i : Nat} (hi : i + 8 ≤ L) (hce : cells + 12 ≤ 601024) (hsl : slots + 700 ≤ 7293034) {ls : Array Slot} (hl : lv_has ls 7 [(4, .int (nI i)), (3, .ref o9), (2, .ref mo), (1, .ref ho), (0, .ref b)])
  (J2534 : ∀ (H1 : Heap) (locs1 : List Loc), lw_J E Zh Zm ho ts mo o9 b4 li am rr s H1 locs1 → ∀ (ls : Array Slot), lv_has ls 7 [(4, .int (nI i)), (3, .ref o9), (2, .ref mo), (1, .ref ho), (0, .ref b)] → W p l e room_1 s m #[Value.ref b] below meth c H1 locs1 (cells + 12) (slots + 700) (lw_Z below #[Value.ref b] s) (F0 m 2534 ls [])) : W p l e room_1 s m #[Value.ref b] below meth c H locs cells slots (lw_Z below #[Value.ref b] s) (F0 m 1747 ls []) := by
  obtain ⟨hl9, hLL, C0, X, K, hE, hZn0, hoZ, hoA, hZm⟩ := G0
  obtain ⟨G, R, ⟨cn, sc, μ⟩, ⟨cn1, sc1, μ1⟩, f0, hI, hW, hM, hag, hL, hS, hb4⟩ := hJ0
  obtain ⟨hx, hb, hr, hml, hown, -, hXs, hbl, hlocks, -⟩ := id C0
  have hAE : ∀ q, hk_A E q → hk_A E q := fun _ h => h
  have hZA : ∀ q, Zh q → hk_A E q := hW.2.2.2.2.2.2.2.2.2.2.2.2
  have hAz : ∀ q, (Zh q ∨ q = o9) → hk_A E q := fun q h => h.elim (fun h => hZA q h) (fun h => by rw [h]; exact hoA)
  have hmA : ∀ q, Zm q → hk_A E q := fun q h => (hZm q h).2.2.2
  have hZn : ∀ q, H.size ≤ q → Zh q := fun q h => hZn0 q (Nat.le_trans hb4 h)
  have hbA : ¬ hk_A E b := fun g => absurd hbl (Nat.not_lt.mpr (by rw [← hE]; exact g))
  have hJ : Inv (cn1, sc1, μ1) := inv_agr hI.1 hag
  refine lv_aload_n hx hb dL_law_1747 rfl (lv_at hl 3 rfl) ?_
  refine lv_aload_n hx hb dL_law_1748 rfl (lv_at hl 4 rfl) ?_
  refine lv_iload hx hb dL_law_1749 (lv_at hl 0 rfl) ?_
  refine lv_iconst (v := 1) hx hb dL_law_1751 (by decide) ?_
  refine lv_iadd hx hb dL_law_1752 ?_
  refine lv_topi (fun z_1 ez_1 => ?_)
  have ez_1 : z_1 = nI (i + 1) := ez_1.trans (nI_add i 1)
  subst ez_1
  refine va_sld hx hb hXs hbl hbA hS (vp_in_nI (show i + 1 < L by omega) (by omega)) dL_law_1753 ?_
  rw [show xs (nI (i + 1)).toNatClampNeg = xs (i + 1) from congrArg xs (nI_clamp (by omega))]
  refine lv_aload_n hx hb dL_law_1754 rfl (lv_at hl 4 rfl) ?_
  refine lv_iload hx hb dL_law_1755 (lv_at hl 0 rfl) ?_
  refine lv_iconst (v := 2) hx hb dL_law_1757 (by decide) ?_
  refine lv_iadd hx hb dL_law_1758 ?_
  refine lv_topi (fun z_2 ez_2 => ?_)
  have ez_2 : z_2 = nI (i + 2) := ez_2.trans (nI_add i 2)
  subst ez_2
  refine va_sld hx hb hXs hbl hbA hS (vp_in_nI (show i + 2 < L by omega) (by omega)) dL_law_1759 ?_
  rw [show xs (nI (i + 2)).toNatClampNeg = xs (i + 2) from congrArg xs (nI_clamp (by omega))]
  refine lv_aload_n hx hb dL_law_1760 rfl (lv_at hl 4 rfl) ?_
  refine lv_iload hx hb dL_law_1761 (lv_at hl 0 rfl) ?_
  refine lv_iconst (v := 3) hx hb dL_law_1763 (by decide) ?_
  refine lv_iadd hx hb dL_law_1764 ?_
  refine lv_topi (fun z_3 ez_3 => ?_)
  have ez_3 : z_3 = nI (i + 3) := ez_3.trans (nI_add i 3)
  subst ez_3
  refine va_sld hx hb hXs hbl hbA hS (vp_in_nI (show i + 3 < L by omega) (by omega)) dL_law_1765 ?_
  rw [show xs (nI (i + 3)).toNatClampNeg = xs (i + 3) from congrArg xs (nI_clamp (by omega))]
  refine lv_aload_n hx hb dL_law_1766 rfl (lv_at hl 4 rfl) ?_
  refine lv_iload hx hb dL_law_1767 (lv_at hl 0 rfl) ?_
  refine lv_iconst (v := 4) hx hb dL_law_1769 (by decide) ?_
  refine lv_iadd hx hb dL_law_1770 ?_
  refine lv_topi (fun z_4 ez_4 => ?_)
  have ez_4 : z_4 = nI (i + 4) := ez_4.trans (nI_add i 4)
  subst ez_4
  refine va_sld hx hb hXs hbl hbA hS (vp_in_nI (show i + 4 < L by omega) (by omega)) dL_law_1771 ?_
  rw [show xs (nI (i + 4)).toNatClampNeg = xs (i + 4) from congrArg xs (nI_clamp (by omega))]
  refine lv_aload_n hx hb dL_law_1772 rfl (lv_at hl 4 rfl) ?_
  refine lv_iload hx hb dL_law_1773 (lv_at hl 0 rfl) ?_
  refine lv_iconst (v := 5) hx hb dL_law_1775 (by decide) ?_
  refine lv_iadd hx hb dL_law_1776 ?_
  refine lv_topi (fun z_5 ez_5 => ?_)
  have ez_5 : z_5 = nI (i + 5) := ez_5.trans (nI_add i 5)
  subst ez_5
  refine va_sld hx hb hXs hbl hbA hS (vp_in_nI (show i + 5 < L by omega) (by omega)) dL_law_1777 ?_
  rw [show xs (nI (i + 5)).toNatClampNeg = xs (i + 5) from congrArg xs (nI_clamp (by omega))]
  refine lv_aload_n hx hb dL_law_1778 rfl (lv_at hl 1 rfl) ?_
  refine hk_callSxW 7 (As := [.ref ho, .int (xs (i + 1)), .int (xs (i + 2)), .int (xs (i + 3)), .int (xs (i + 4)), .int (xs (i + 5)), .ref o9]) (rest := []) X K hAE hS hl.1 (c_L_rule E l hl9 H hW hI hZn hL hoZ hoA (p0 := xs (i + 1)) (p1 := xs (i + 2)) (p2 := xs (i + 3)) (p3 := xs (i + 4)) (p4 := xs (i + 5))) hAz gL_law_L_rule rfl hd_L_rule rfl ⟨⟨(Nat.le_of_ble_eq_true rfl), (Nat.le_of_ble_eq_true rfl)⟩, hce, hsl⟩ rfl (Nat.le_of_ble_eq_true rfl) dL_law_1779 (fun _ _ _ _ _ hp _ _ _ _ _ _ => False.elim hp) (fun v9 H1 locs1 hp hS hz1 hk1 => ?_)
  obtain ⟨hz, G1, R1, f1, hW1, hL1, hf1⟩ := hp
  subst hz
  have hM1 := MW.kept hM (fun q hq => hk1 q (Nat.lt_of_lt_of_le (hZm q hq).1 hb4) (fun g => g.elim (hZm q hq).2.1 (hZm q hq).2.2.1))
  refine lv_topi (fun k ek => ?_)
  refine lv_istore (lv' := [(5, .int k), (4, .int (nI i)), (3, .ref o9), (2, .ref mo), (1, .ref ho), (0, .ref b)]) hx hb dL_law_1782 hl (by decide) rfl (fun ls hl => ?_)
  rw [← ek] at hW1 hf1
  have hcT : cd_rule (xs (i + 1)) (xs (i + 2)) (xs (i + 3)) (xs (i + 4)) (xs (i + 5)) (cn1, sc1, μ1) = k := (cd_rule_agr hag).symm.trans ek.symm
  obtain ⟨w, ew⟩ : ∃ w : Int32, w = an_rule (xs (i + 1)) (xs (i + 2)) (xs (i + 3)) (xs (i + 4)) (xs (i + 5)) (cn, sc, μ) := ⟨_, rfl⟩
  rw [← ew] at hf1
  have haT : an_rule (xs (i + 1)) (xs (i + 2)) (xs (i + 3)) (xs (i + 4)) (xs (i + 5)) (cn1, sc1, μ1) = w := (an_rule_agr hag).symm.trans ew.symm
  refine lv_aload_n hx hb dL_law_1784 rfl (lv_at hl 3 rfl) ?_
  refine lv_aload_n hx hb dL_law_1785 rfl (lv_at hl 5 rfl) ?_
  refine lv_iload hx hb dL_law_1786 (lv_at hl 1 rfl) ?_
  refine lv_iconst (v := 1) hx hb dL_law_1788 (by decide) ?_
  refine lv_iadd hx hb dL_law_1789 ?_
  refine lv_topi (fun z_6 ez_6 => ?_)
  have ez_6 : z_6 = nI (i + 1) := ez_6.trans (nI_add i 1)
  subst ez_6
  refine va_sld hx hb hXs hbl hbA hS (vp_in_nI (show i + 1 < L by omega) (by omega)) dL_law_1790 ?_
  rw [show xs (nI (i + 1)).toNatClampNeg = xs (i + 1) from congrArg xs (nI_clamp (by omega))]
  refine lv_aload_n hx hb dL_law_1791 rfl (lv_at hl 5 rfl) ?_
  refine lv_iload hx hb dL_law_1792 (lv_at hl 1 rfl) ?_
  refine lv_iconst (v := 2) hx hb dL_law_1794 (by decide) ?_
  refine lv_iadd hx hb dL_law_1795 ?_
  refine lv_topi (fun z_7 ez_7 => ?_)
  have ez_7 : z_7 = nI (i + 2) := ez_7.trans (nI_add i 2)
  subst ez_7
  refine va_sld hx hb hXs hbl hbA hS (vp_in_nI (show i + 2 < L by omega) (by omega)) dL_law_1796 ?_
  rw [show xs (nI (i + 2)).toNatClampNeg = xs (i + 2) from congrArg xs (nI_clamp (by omega))]
  refine lv_aload_n hx hb dL_law_1797 rfl (lv_at hl 5 rfl) ?_
  refine lv_iload hx hb dL_law_1798 (lv_at hl 1 rfl) ?_
  refine lv_iconst (v := 3) hx hb dL_law_1800 (by decide) ?_
  refine lv_iadd hx hb dL_law_1801 ?_
  refine lv_topi (fun z_8 ez_8 => ?_)
  have ez_8 : z_8 = nI (i + 3) := ez_8.trans (nI_add i 3)
  subst ez_8
  refine va_sld hx hb hXs hbl hbA hS (vp_in_nI (show i + 3 < L by omega) (by omega)) dL_law_1802 ?_
  rw [show xs (nI (i + 3)).toNatClampNeg = xs (i + 3) from congrArg xs (nI_clamp (by omega))]
  refine lv_aload_n hx hb dL_law_1803 rfl (lv_at hl 5 rfl) ?_
  refine lv_iload hx hb dL_law_1804 (lv_at hl 1 rfl) ?_
  refine lv_iconst (v := 4) hx hb dL_law_1806 (by decide) ?_
  refine lv_iadd hx hb dL_law_1807 ?_
  refine lv_topi (fun z_9 ez_9 => ?_)
  have ez_9 : z_9 = nI (i + 4) := ez_9.trans (nI_add i 4)
  subst ez_9
  refine va_sld hx hb hXs hbl hbA hS (vp_in_nI (show i + 4 < L by omega) (by omega)) dL_law_1808 ?_
  rw [show xs (nI (i + 4)).toNatClampNeg = xs (i + 4) from congrArg xs (nI_clamp (by omega))]
  refine lv_aload_n hx hb dL_law_1809 rfl (lv_at hl 5 rfl) ?_
  refine lv_iload hx hb dL_law_1810 (lv_at hl 1 rfl) ?_
  refine lv_iconst (v := 5) hx hb dL_law_1812 (by decide) ?_
  refine lv_iadd hx hb dL_law_1813 ?_
  refine lv_topi (fun z_10 ez_10 => ?_)
  have ez_10 : z_10 = nI (i + 5) := ez_10.trans (nI_add i 5)
  subst ez_10
  refine va_sld hx hb hXs hbl hbA hS (vp_in_nI (show i + 5 < L by omega) (by omega)) dL_law_1814 ?_
  rw [show xs (nI (i + 5)).toNatClampNeg = xs (i + 5) from congrArg xs (nI_clamp (by omega))]
  refine hk_callV 5 (As := [.int (xs (i + 1)), .int (xs (i + 2)), .int (xs (i + 3)), .int (xs (i + 4)), .int (xs (i + 5))]) (rest := []) X K hAE hS hl.1 hM1.1 rfl (c_X11_rule E l H1 hM1 hmA hJ.1.2.2.2.1 (p0 := xs (i + 1)) (p1 := xs (i + 2)) (p2 := xs (i + 3)) (p3 := xs (i + 4)) (p4 := xs (i + 5))) hmA gL_law_X11_rule rfl ⟨rfl, hd_X11_rule⟩ rfl ⟨⟨(Nat.le_of_ble_eq_true rfl), (Nat.le_of_ble_eq_true rfl)⟩, (by show cells + 12 + 0 ≤ 601024; omega), (by show slots + 700 + 0 ≤ 7293034; omega)⟩ rfl (Nat.le_of_ble_eq_true rfl) dL_law_1815 (fun v9 H2 locs2 hp hS hz2 hk2 => ?_)
  obtain ⟨cn2, sc2, μ2, hM2, h33, hz, ha⟩ := hp
  subst hz
  rw [hcT] at h33 ha
  have hW2 := HW.kept hW1 (fun q h1 h2 => hk2 q h1 (fun g => h2.elim (hZm q g).2.1 (fun h => h (hZm q g).2.2.2)))
  have hL2 : hk_L E o9 1 f1 H2 := (hk2 _ (ar_lt hL1) (fun g => (hZm _ g).2.2.1 rfl)).trans hL1
  have hb9 : b4 ≤ H2.size := Nat.le_trans (Nat.le_trans hb4 hz1) hz2
  rw [hcT, haT]
  refine lv_topi (fun v ev => ?_)
  refine lv_istore (lv' := [(6, .int v), (5, .int k), (4, .int (nI i)), (3, .ref o9), (2, .ref mo), (1, .ref ho), (0, .ref b)]) hx hb dL_law_1818 hl (by decide) rfl (fun ls hl => ?_)
  refine lv_aload_n hx hb dL_law_1820 rfl (lv_at hl 4 rfl) ?_
  refine hk_callV 0 (As := []) (rest := []) X K hAE hS hl.1 hM2.1 rfl (c_X11_thrown E l H2 hM2) (fun _ h => False.elim h) gL_law_X11_thrown rfl ⟨rfl, hd_X11_thrown⟩ rfl ⟨⟨(Nat.le_of_ble_eq_true rfl), (Nat.le_of_ble_eq_true rfl)⟩, (by show cells + 12 + 0 + 0 ≤ 601024; omega), (by show slots + 700 + 0 + 0 ≤ 7293034; omega)⟩ rfl (Nat.le_of_ble_eq_true rfl) dL_law_1821 (fun v9 H3 locs3 hp hS hz3 hk3 => ?_)
  obtain ⟨hz, hh⟩ := hp
  subst hz; subst hh
  refine lv_iload hx hb dL_law_1824 (lv_at hl 1 rfl) ?_
  refine lv_icmp_eq (tgt := 1831) hx hb dL_law_1826 (by decide) (fun c_1826 => ?_) (fun c_1826 => ?_)
  · refine lv_iload hx hb dL_law_1831 (lv_at hl 1 rfl) ?_
    refine lv_if_ne (tgt := 1848) hx hb dL_law_1833 (by decide) (fun c_1833 => ?_) (fun c_1833 => ?_)
    · rw [if_neg c_1833] at hW2 ha
      refine lv_goto (tgt := 2534) hx hb dL_law_1848 (by decide) ?_
      exact J2534 H2 _ ⟨G1, R1, _, (cn2, sc2, μ2), f1, hI, hW2, hM2, hag.trans ha, hL2, hS, hb9⟩ _ (lv_sub hl [2, 3, 4, 5, 6] rfl)
    · have ckz := c_1833
      refine lv_aload_n hx hb dL_law_1836 rfl (lv_at hl 3 rfl) ?_
      refine lv_iconst (v := 0) hx hb dL_law_1837 (by decide) ?_
      refine hk_lld X K hL2 (show vp_in (0 : Int32) 1 from vp_in_nI (n := 0) (by decide) (by decide)) dL_law_1838 ?_
      rw [show f1 (0 : Int32).toNatClampNeg = w.toInt64 from (congrArg f1 hk_c0).trans (hf1 c_1833)]
      have ev : v = w := ev.trans (if_pos c_1833)
      rw [if_pos c_1833] at hW2 ha
      refine lv_iload hx hb dL_law_1839 (lv_at hl 0 rfl) ?_
      refine lv_i2l hx hb dL_law_1841 rfl ?_
      refine lv_lcmp hx hb dL_law_1842 ?_
      rw [show lcv (w.toInt64) v.toInt64 = 0 from by rw [ev]; exact lcv_self]
      refine lv_if_eq (tgt := 1848) hx hb dL_law_1843 (by decide) (fun c_1843 => ?_) (fun c_1843 => ?_)
      · refine lv_goto (tgt := 2534) hx hb dL_law_1848 (by decide) ?_
        exact J2534 H2 _ ⟨G1, R1, _, (cn2, sc2, μ2), f1, invF_rule hI (ek.symm.trans ckz), hW2, hM2, (st_rule_agr hag).trans ha, hL2, hS, hb9⟩ _ (lv_sub hl [2, 3, 4, 5, 6] rfl)
      · exact absurd (by decide) c_1843
  · exact absurd c_1826 (fun h => h h33)
set_option maxHeartbeats 4000000 in
set_option maxRecDepth 100000 in
theorem k_withdraw {p : Program} {l : Launch} {e : Env} {s : State} {m : MethodId} {below : List Frame} {meth : Method} {c : Code} {b L : Nat} {xs : Nat → Int32} {E : hk_E} {Zh Zm : Nat → Prop} {ho ts mo o9 b4 : Nat} {li am : Nat → Nat} {rr : Nat → Nat → Nat} (G0 : lw_G p l s m meth c b L xs E Zh Zm o9 b4) {H : Heap} {locs : List Loc} {cells slots : Nat} (hJ0 : lw_J E Zh Zm ho ts mo o9 b4 li am rr s H locs) {i : Nat} (hi : i + 8 ≤ L) (hce : cells + 12 ≤ 601024) (hsl : slots + 700 ≤ 7293034) {ls : Array Slot} (hl : lv_has ls 7 [(4, .int (nI i)), (3, .ref o9), (2, .ref mo), (1, .ref ho), (0, .ref b)])
  (J2534 : ∀ (H1 : Heap) (locs1 : List Loc), lw_J E Zh Zm ho ts mo o9 b4 li am rr s H1 locs1 → ∀ (ls : Array Slot), lv_has ls 7 [(4, .int (nI i)), (3, .ref o9), (2, .ref mo), (1, .ref ho), (0, .ref b)] → W p l e room_1 s m #[Value.ref b] below meth c H1 locs1 (cells + 12) (slots + 700) (lw_Z below #[Value.ref b] s) (F0 m 2534 ls [])) : W p l e room_1 s m #[Value.ref b] below meth c H locs cells slots (lw_Z below #[Value.ref b] s) (F0 m 1851 ls []) := by
  obtain ⟨hl9, hLL, C0, X, K, hE, hZn0, hoZ, hoA, hZm⟩ := G0
  obtain ⟨G, R, ⟨cn, sc, μ⟩, ⟨cn1, sc1, μ1⟩, f0, hI, hW, hM, hag, hL, hS, hb4⟩ := hJ0
  obtain ⟨hx, hb, hr, hml, hown, -, hXs, hbl, hlocks, -⟩ := id C0
  have hAE : ∀ q, hk_A E q → hk_A E q := fun _ h => h
  have hZA : ∀ q, Zh q → hk_A E q := hW.2.2.2.2.2.2.2.2.2.2.2.2
  have hAz : ∀ q, (Zh q ∨ q = o9) → hk_A E q := fun q h => h.elim (fun h => hZA q h) (fun h => by rw [h]; exact hoA)
  have hmA : ∀ q, Zm q → hk_A E q := fun q h => (hZm q h).2.2.2
  have hZn : ∀ q, H.size ≤ q → Zh q := fun q h => hZn0 q (Nat.le_trans hb4 h)
  have hbA : ¬ hk_A E b := fun g => absurd hbl (Nat.not_lt.mpr (by rw [← hE]; exact g))
  have hJ : Inv (cn1, sc1, μ1) := inv_agr hI.1 hag
  refine lv_aload_n hx hb dL_law_1851 rfl (lv_at hl 3 rfl) ?_
  refine lv_aload_n hx hb dL_law_1852 rfl (lv_at hl 4 rfl) ?_
  refine lv_iload hx hb dL_law_1853 (lv_at hl 0 rfl) ?_
  refine lv_iconst (v := 1) hx hb dL_law_1855 (by decide) ?_
  refine lv_iadd hx hb dL_law_1856 ?_
  refine lv_topi (fun z_1 ez_1 => ?_)
  have ez_1 : z_1 = nI (i + 1) := ez_1.trans (nI_add i 1)
  subst ez_1
  refine va_sld hx hb hXs hbl hbA hS (vp_in_nI (show i + 1 < L by omega) (by omega)) dL_law_1857 ?_
  rw [show xs (nI (i + 1)).toNatClampNeg = xs (i + 1) from congrArg xs (nI_clamp (by omega))]
  refine lv_aload_n hx hb dL_law_1858 rfl (lv_at hl 4 rfl) ?_
  refine lv_iload hx hb dL_law_1859 (lv_at hl 0 rfl) ?_
  refine lv_iconst (v := 2) hx hb dL_law_1861 (by decide) ?_
  refine lv_iadd hx hb dL_law_1862 ?_
  refine lv_topi (fun z_2 ez_2 => ?_)
  have ez_2 : z_2 = nI (i + 2) := ez_2.trans (nI_add i 2)
  subst ez_2
  refine va_sld hx hb hXs hbl hbA hS (vp_in_nI (show i + 2 < L by omega) (by omega)) dL_law_1863 ?_
  rw [show xs (nI (i + 2)).toNatClampNeg = xs (i + 2) from congrArg xs (nI_clamp (by omega))]
  refine lv_if_eq (tgt := 1871) hx hb dL_law_1864 (by decide) (fun c_1864 => ?_) (fun c_1864 => ?_)
  · skip
    refine lv_iconst (v := 0) hx hb dL_law_1871 (by decide) ?_
    refine lv_aload_n hx hb dL_law_1872 rfl (lv_at hl 1 rfl) ?_
    refine hk_callSxW 4 (As := [.ref ho, .int (xs (i + 1)), .int 0, .ref o9]) (rest := []) X K hAE hS hl.1 (c_L_withdraw E l hl9 H hW hI hZn hL hoZ hoA (by decide) (p0 := xs (i + 1)) (p1 := 0)) hAz gL_law_L_withdraw rfl hd_L_withdraw rfl ⟨⟨(Nat.le_of_ble_eq_true rfl), (Nat.le_of_ble_eq_true rfl)⟩, hce, hsl⟩ rfl (Nat.le_of_ble_eq_true rfl) dL_law_1873 (fun _ _ _ _ _ hp _ _ _ _ _ _ => False.elim hp) (fun v9 H1 locs1 hp hS hz1 hk1 => ?_)
    obtain ⟨hz, G1, R1, f1, hW1, hL1, hf1⟩ := hp
    subst hz
    have hM1 := MW.kept hM (fun q hq => hk1 q (Nat.lt_of_lt_of_le (hZm q hq).1 hb4) (fun g => g.elim (hZm q hq).2.1 (hZm q hq).2.2.1))
    refine lv_topi (fun k ek => ?_)
    refine lv_istore (lv' := [(5, .int k), (4, .int (nI i)), (3, .ref o9), (2, .ref mo), (1, .ref ho), (0, .ref b)]) hx hb dL_law_1876 hl (by decide) rfl (fun ls hl => ?_)
    rw [← ek] at hW1 hf1
    have hcT : cd_withdraw (xs (i + 1)) 0 (cn1, sc1, μ1) = k := (cd_withdraw_agr hag).symm.trans ek.symm
    obtain ⟨w, ew⟩ : ∃ w : Int32, w = an_withdraw (xs (i + 1)) 0 (cn, sc, μ) := ⟨_, rfl⟩
    rw [← ew] at hf1
    have haT : an_withdraw (xs (i + 1)) 0 (cn1, sc1, μ1) = w := (an_withdraw_agr hag).symm.trans ew.symm
    refine lv_aload_n hx hb dL_law_1878 rfl (lv_at hl 3 rfl) ?_
    refine lv_aload_n hx hb dL_law_1879 rfl (lv_at hl 5 rfl) ?_
    refine lv_iload hx hb dL_law_1880 (lv_at hl 1 rfl) ?_
    refine lv_iconst (v := 1) hx hb dL_law_1882 (by decide) ?_
    refine lv_iadd hx hb dL_law_1883 ?_
    refine lv_topi (fun z_3 ez_3 => ?_)
    have ez_3 : z_3 = nI (i + 1) := ez_3.trans (nI_add i 1)
    subst ez_3
    refine va_sld hx hb hXs hbl hbA hS (vp_in_nI (show i + 1 < L by omega) (by omega)) dL_law_1884 ?_
    rw [show xs (nI (i + 1)).toNatClampNeg = xs (i + 1) from congrArg xs (nI_clamp (by omega))]
    refine lv_aload_n hx hb dL_law_1885 rfl (lv_at hl 5 rfl) ?_
    refine lv_iload hx hb dL_law_1886 (lv_at hl 1 rfl) ?_
    refine lv_iconst (v := 2) hx hb dL_law_1888 (by decide) ?_
    refine lv_iadd hx hb dL_law_1889 ?_
    refine lv_topi (fun z_4 ez_4 => ?_)
    have ez_4 : z_4 = nI (i + 2) := ez_4.trans (nI_add i 2)
    subst ez_4
    refine va_sld hx hb hXs hbl hbA hS (vp_in_nI (show i + 2 < L by omega) (by omega)) dL_law_1890 ?_
    rw [show xs (nI (i + 2)).toNatClampNeg = xs (i + 2) from congrArg xs (nI_clamp (by omega))]
    refine lv_if_eq (tgt := 1898) hx hb dL_law_1891 (by decide) (fun c_1891 => ?_) (fun c_1891 => ?_)
    · refine lv_iconst (v := 0) hx hb dL_law_1898 (by decide) ?_
      refine hk_callV 2 (As := [.int (xs (i + 1)), .int 0]) (rest := []) X K hAE hS hl.1 hM1.1 rfl (c_X11_withdraw E l H1 hM1 hmA hJ.1.2.2.2.1 (fun j hj => (hJ.2.2.2.2.2.2.1 j hj).1) (by decide) (p0 := xs (i + 1)) (p1 := 0)) hmA gL_law_X11_withdraw rfl ⟨rfl, hd_X11_withdraw⟩ rfl ⟨⟨(Nat.le_of_ble_eq_true rfl), (Nat.le_of_ble_eq_true rfl)⟩, (by show cells + 12 + 0 ≤ 601024; omega), (by show slots + 700 + 0 ≤ 7293034; omega)⟩ rfl (Nat.le_of_ble_eq_true rfl) dL_law_1899 (fun v9 H2 locs2 hp hS hz2 hk2 => ?_)
      obtain ⟨cn2, sc2, μ2, hM2, h33, hz, ha⟩ := hp
      subst hz
      rw [hcT] at h33 ha
      have hW2 := HW.kept hW1 (fun q h1 h2 => hk2 q h1 (fun g => h2.elim (hZm q g).2.1 (fun h => h (hZm q g).2.2.2)))
      have hL2 : hk_L E o9 1 f1 H2 := (hk2 _ (ar_lt hL1) (fun g => (hZm _ g).2.2.1 rfl)).trans hL1
      have hb9 : b4 ≤ H2.size := Nat.le_trans (Nat.le_trans hb4 hz1) hz2
      rw [hcT, haT]
      refine lv_topi (fun v ev => ?_)
      refine lv_istore (lv' := [(6, .int v), (5, .int k), (4, .int (nI i)), (3, .ref o9), (2, .ref mo), (1, .ref ho), (0, .ref b)]) hx hb dL_law_1902 hl (by decide) rfl (fun ls hl => ?_)
      refine lv_aload_n hx hb dL_law_1904 rfl (lv_at hl 4 rfl) ?_
      refine hk_callV 0 (As := []) (rest := []) X K hAE hS hl.1 hM2.1 rfl (c_X11_thrown E l H2 hM2) (fun _ h => False.elim h) gL_law_X11_thrown rfl ⟨rfl, hd_X11_thrown⟩ rfl ⟨⟨(Nat.le_of_ble_eq_true rfl), (Nat.le_of_ble_eq_true rfl)⟩, (by show cells + 12 + 0 + 0 ≤ 601024; omega), (by show slots + 700 + 0 + 0 ≤ 7293034; omega)⟩ rfl (Nat.le_of_ble_eq_true rfl) dL_law_1905 (fun v9 H3 locs3 hp hS hz3 hk3 => ?_)
      obtain ⟨hz, hh⟩ := hp
      subst hz; subst hh
      refine lv_iload hx hb dL_law_1908 (lv_at hl 1 rfl) ?_
      refine lv_icmp_eq (tgt := 1915) hx hb dL_law_1910 (by decide) (fun c_1910 => ?_) (fun c_1910 => ?_)
      · refine lv_iload hx hb dL_law_1915 (lv_at hl 1 rfl) ?_
        refine lv_if_ne (tgt := 1939) hx hb dL_law_1917 (by decide) (fun c_1917 => ?_) (fun c_1917 => ?_)
        · rw [if_neg c_1917] at hW2 ha
          refine lv_goto (tgt := 2534) hx hb dL_law_1939 (by decide) ?_
          exact J2534 H2 _ ⟨G1, R1, _, (cn2, sc2, μ2), f1, hI, hW2, hM2, hag.trans ha, hL2, hS, hb9⟩ _ (lv_sub hl [2, 3, 4, 5, 6] rfl)
        · have ckz := c_1917
          have hw1 : w = 0 ∨ w = 1 := by rw [ew]; exact bo_withdraw hI (ek.symm.trans c_1917)
          refine lv_aload_n hx hb dL_law_1920 rfl (lv_at hl 3 rfl) ?_
          refine lv_iconst (v := 0) hx hb dL_law_1921 (by decide) ?_
          refine hk_lld X K hL2 (show vp_in (0 : Int32) 1 from vp_in_nI (n := 0) (by decide) (by decide)) dL_law_1922 ?_
          rw [show f1 (0 : Int32).toNatClampNeg = w.toInt64 from (congrArg f1 hk_c0).trans (hf1 c_1917)]
          have ev : v = w := ev.trans (if_pos c_1917)
          rw [if_pos c_1917] at hW2 ha
          refine lv_iload hx hb dL_law_1923 (lv_at hl 0 rfl) ?_
          refine lv_if_eq (tgt := 1932) hx hb dL_law_1925 (by decide) (fun c_1925 => ?_) (fun c_1925 => ?_)
          · skip
            refine lv_lconst (v := 0) hx hb dL_law_1932 (by decide) ?_
            refine lv_lcmp hx hb dL_law_1933 ?_
            rw [show lcv (w.toInt64) 0 = 0 from by rw [show w = 0 from ev.symm.trans c_1925]; exact lcv_self]
            refine lv_if_eq (tgt := 1939) hx hb dL_law_1934 (by decide) (fun c_1934 => ?_) (fun c_1934 => ?_)
            · refine lv_goto (tgt := 2534) hx hb dL_law_1939 (by decide) ?_
              exact J2534 H2 _ ⟨G1, R1, _, (cn2, sc2, μ2), f1, invF_withdraw hI (by decide) (ek.symm.trans ckz), hW2, hM2, (st_withdraw_agr hag).trans ha, hL2, hS, hb9⟩ _ (lv_sub hl [2, 3, 4, 5, 6] rfl)
            · exact absurd (by decide) c_1934
          · skip
            refine lv_lconst (v := 1) hx hb dL_law_1928 (by decide) ?_
            refine lv_goto (tgt := 1933) hx hb dL_law_1929 (by decide) ?_
            refine lv_lcmp hx hb dL_law_1933 ?_
            rw [show lcv (w.toInt64) 1 = 0 from by rw [show w = 1 from hw1.resolve_left (fun g => c_1925 (ev.trans g))]; exact lcv_self]
            refine lv_if_eq (tgt := 1939) hx hb dL_law_1934 (by decide) (fun c_1934 => ?_) (fun c_1934 => ?_)
            · refine lv_goto (tgt := 2534) hx hb dL_law_1939 (by decide) ?_
              exact J2534 H2 _ ⟨G1, R1, _, (cn2, sc2, μ2), f1, invF_withdraw hI (by decide) (ek.symm.trans ckz), hW2, hM2, (st_withdraw_agr hag).trans ha, hL2, hS, hb9⟩ _ (lv_sub hl [2, 3, 4, 5, 6] rfl)
            · exact absurd (by decide) c_1934
      · exact absurd c_1910 (fun h => h h33)
    · exact absurd c_1864 c_1891
  · skip
    refine lv_iconst (v := 1) hx hb dL_law_1867 (by decide) ?_
    refine lv_goto (tgt := 1872) hx hb dL_law_1868 (by decide) ?_
    refine lv_aload_n hx hb dL_law_1872 rfl (lv_at hl 1 rfl) ?_
    refine hk_callSxW 4 (As := [.ref ho, .int (xs (i + 1)), .int 1, .ref o9]) (rest := []) X K hAE hS hl.1 (c_L_withdraw E l hl9 H hW hI hZn hL hoZ hoA (by decide) (p0 := xs (i + 1)) (p1 := 1)) hAz gL_law_L_withdraw rfl hd_L_withdraw rfl ⟨⟨(Nat.le_of_ble_eq_true rfl), (Nat.le_of_ble_eq_true rfl)⟩, hce, hsl⟩ rfl (Nat.le_of_ble_eq_true rfl) dL_law_1873 (fun _ _ _ _ _ hp _ _ _ _ _ _ => False.elim hp) (fun v9 H1 locs1 hp hS hz1 hk1 => ?_)
    obtain ⟨hz, G1, R1, f1, hW1, hL1, hf1⟩ := hp
    subst hz
    have hM1 := MW.kept hM (fun q hq => hk1 q (Nat.lt_of_lt_of_le (hZm q hq).1 hb4) (fun g => g.elim (hZm q hq).2.1 (hZm q hq).2.2.1))
    refine lv_topi (fun k ek => ?_)
    refine lv_istore (lv' := [(5, .int k), (4, .int (nI i)), (3, .ref o9), (2, .ref mo), (1, .ref ho), (0, .ref b)]) hx hb dL_law_1876 hl (by decide) rfl (fun ls hl => ?_)
    rw [← ek] at hW1 hf1
    have hcT : cd_withdraw (xs (i + 1)) 1 (cn1, sc1, μ1) = k := (cd_withdraw_agr hag).symm.trans ek.symm
    obtain ⟨w, ew⟩ : ∃ w : Int32, w = an_withdraw (xs (i + 1)) 1 (cn, sc, μ) := ⟨_, rfl⟩
    rw [← ew] at hf1
    have haT : an_withdraw (xs (i + 1)) 1 (cn1, sc1, μ1) = w := (an_withdraw_agr hag).symm.trans ew.symm
    refine lv_aload_n hx hb dL_law_1878 rfl (lv_at hl 3 rfl) ?_
    refine lv_aload_n hx hb dL_law_1879 rfl (lv_at hl 5 rfl) ?_
    refine lv_iload hx hb dL_law_1880 (lv_at hl 1 rfl) ?_
    refine lv_iconst (v := 1) hx hb dL_law_1882 (by decide) ?_
    refine lv_iadd hx hb dL_law_1883 ?_
    refine lv_topi (fun z_5 ez_5 => ?_)
    have ez_5 : z_5 = nI (i + 1) := ez_5.trans (nI_add i 1)
    subst ez_5
    refine va_sld hx hb hXs hbl hbA hS (vp_in_nI (show i + 1 < L by omega) (by omega)) dL_law_1884 ?_
    rw [show xs (nI (i + 1)).toNatClampNeg = xs (i + 1) from congrArg xs (nI_clamp (by omega))]
    refine lv_aload_n hx hb dL_law_1885 rfl (lv_at hl 5 rfl) ?_
    refine lv_iload hx hb dL_law_1886 (lv_at hl 1 rfl) ?_
    refine lv_iconst (v := 2) hx hb dL_law_1888 (by decide) ?_
    refine lv_iadd hx hb dL_law_1889 ?_
    refine lv_topi (fun z_6 ez_6 => ?_)
    have ez_6 : z_6 = nI (i + 2) := ez_6.trans (nI_add i 2)
    subst ez_6
    refine va_sld hx hb hXs hbl hbA hS (vp_in_nI (show i + 2 < L by omega) (by omega)) dL_law_1890 ?_
    rw [show xs (nI (i + 2)).toNatClampNeg = xs (i + 2) from congrArg xs (nI_clamp (by omega))]
    refine lv_if_eq (tgt := 1898) hx hb dL_law_1891 (by decide) (fun c_1891 => ?_) (fun c_1891 => ?_)
    · exact absurd c_1891 c_1864
    · refine lv_iconst (v := 1) hx hb dL_law_1894 (by decide) ?_
      refine lv_goto (tgt := 1899) hx hb dL_law_1895 (by decide) ?_
      refine hk_callV 2 (As := [.int (xs (i + 1)), .int 1]) (rest := []) X K hAE hS hl.1 hM1.1 rfl (c_X11_withdraw E l H1 hM1 hmA hJ.1.2.2.2.1 (fun j hj => (hJ.2.2.2.2.2.2.1 j hj).1) (by decide) (p0 := xs (i + 1)) (p1 := 1)) hmA gL_law_X11_withdraw rfl ⟨rfl, hd_X11_withdraw⟩ rfl ⟨⟨(Nat.le_of_ble_eq_true rfl), (Nat.le_of_ble_eq_true rfl)⟩, (by show cells + 12 + 0 ≤ 601024; omega), (by show slots + 700 + 0 ≤ 7293034; omega)⟩ rfl (Nat.le_of_ble_eq_true rfl) dL_law_1899 (fun v9 H2 locs2 hp hS hz2 hk2 => ?_)
      obtain ⟨cn2, sc2, μ2, hM2, h33, hz, ha⟩ := hp
      subst hz
      rw [hcT] at h33 ha
      have hW2 := HW.kept hW1 (fun q h1 h2 => hk2 q h1 (fun g => h2.elim (hZm q g).2.1 (fun h => h (hZm q g).2.2.2)))
      have hL2 : hk_L E o9 1 f1 H2 := (hk2 _ (ar_lt hL1) (fun g => (hZm _ g).2.2.1 rfl)).trans hL1
      have hb9 : b4 ≤ H2.size := Nat.le_trans (Nat.le_trans hb4 hz1) hz2
      rw [hcT, haT]
      refine lv_topi (fun v ev => ?_)
      refine lv_istore (lv' := [(6, .int v), (5, .int k), (4, .int (nI i)), (3, .ref o9), (2, .ref mo), (1, .ref ho), (0, .ref b)]) hx hb dL_law_1902 hl (by decide) rfl (fun ls hl => ?_)
      refine lv_aload_n hx hb dL_law_1904 rfl (lv_at hl 4 rfl) ?_
      refine hk_callV 0 (As := []) (rest := []) X K hAE hS hl.1 hM2.1 rfl (c_X11_thrown E l H2 hM2) (fun _ h => False.elim h) gL_law_X11_thrown rfl ⟨rfl, hd_X11_thrown⟩ rfl ⟨⟨(Nat.le_of_ble_eq_true rfl), (Nat.le_of_ble_eq_true rfl)⟩, (by show cells + 12 + 0 + 0 ≤ 601024; omega), (by show slots + 700 + 0 + 0 ≤ 7293034; omega)⟩ rfl (Nat.le_of_ble_eq_true rfl) dL_law_1905 (fun v9 H3 locs3 hp hS hz3 hk3 => ?_)
      obtain ⟨hz, hh⟩ := hp
      subst hz; subst hh
      refine lv_iload hx hb dL_law_1908 (lv_at hl 1 rfl) ?_
      refine lv_icmp_eq (tgt := 1915) hx hb dL_law_1910 (by decide) (fun c_1910 => ?_) (fun c_1910 => ?_)
      · refine lv_iload hx hb dL_law_1915 (lv_at hl 1 rfl) ?_
        refine lv_if_ne (tgt := 1939) hx hb dL_law_1917 (by decide) (fun c_1917 => ?_) (fun c_1917 => ?_)
        · rw [if_neg c_1917] at hW2 ha
          refine lv_goto (tgt := 2534) hx hb dL_law_1939 (by decide) ?_
          exact J2534 H2 _ ⟨G1, R1, _, (cn2, sc2, μ2), f1, hI, hW2, hM2, hag.trans ha, hL2, hS, hb9⟩ _ (lv_sub hl [2, 3, 4, 5, 6] rfl)
        · have ckz := c_1917
          have hw1 : w = 0 ∨ w = 1 := by rw [ew]; exact bo_withdraw hI (ek.symm.trans c_1917)
          refine lv_aload_n hx hb dL_law_1920 rfl (lv_at hl 3 rfl) ?_
          refine lv_iconst (v := 0) hx hb dL_law_1921 (by decide) ?_
          refine hk_lld X K hL2 (show vp_in (0 : Int32) 1 from vp_in_nI (n := 0) (by decide) (by decide)) dL_law_1922 ?_
          rw [show f1 (0 : Int32).toNatClampNeg = w.toInt64 from (congrArg f1 hk_c0).trans (hf1 c_1917)]
          have ev : v = w := ev.trans (if_pos c_1917)
          rw [if_pos c_1917] at hW2 ha
          refine lv_iload hx hb dL_law_1923 (lv_at hl 0 rfl) ?_
          refine lv_if_eq (tgt := 1932) hx hb dL_law_1925 (by decide) (fun c_1925 => ?_) (fun c_1925 => ?_)
          · skip
            refine lv_lconst (v := 0) hx hb dL_law_1932 (by decide) ?_
            refine lv_lcmp hx hb dL_law_1933 ?_
            rw [show lcv (w.toInt64) 0 = 0 from by rw [show w = 0 from ev.symm.trans c_1925]; exact lcv_self]
            refine lv_if_eq (tgt := 1939) hx hb dL_law_1934 (by decide) (fun c_1934 => ?_) (fun c_1934 => ?_)
            · refine lv_goto (tgt := 2534) hx hb dL_law_1939 (by decide) ?_
              exact J2534 H2 _ ⟨G1, R1, _, (cn2, sc2, μ2), f1, invF_withdraw hI (by decide) (ek.symm.trans ckz), hW2, hM2, (st_withdraw_agr hag).trans ha, hL2, hS, hb9⟩ _ (lv_sub hl [2, 3, 4, 5, 6] rfl)
            · exact absurd (by decide) c_1934
          · skip
            refine lv_lconst (v := 1) hx hb dL_law_1928 (by decide) ?_
            refine lv_goto (tgt := 1933) hx hb dL_law_1929 (by decide) ?_
            refine lv_lcmp hx hb dL_law_1933 ?_
            rw [show lcv (w.toInt64) 1 = 0 from by rw [show w = 1 from hw1.resolve_left (fun g => c_1925 (ev.trans g))]; exact lcv_self]
            refine lv_if_eq (tgt := 1939) hx hb dL_law_1934 (by decide) (fun c_1934 => ?_) (fun c_1934 => ?_)
            · refine lv_goto (tgt := 2534) hx hb dL_law_1939 (by decide) ?_
              exact J2534 H2 _ ⟨G1, R1, _, (cn2, sc2, μ2), f1, invF_withdraw hI (by decide) (ek.symm.trans ckz), hW2, hM2, (st_withdraw_agr hag).trans ha, hL2, hS, hb9⟩ _ (lv_sub hl [2, 3, 4, 5, 6] rfl)
            · exact absurd (by decide) c_1934
      · exact absurd c_1910 (fun h => h h33)
set_option maxHeartbeats 4000000 in
set_option maxRecDepth 100000 in
theorem k_votes {p : Program} {l : Launch} {e : Env} {s : State} {m : MethodId} {below : List Frame} {meth : Method} {c : Code} {b L : Nat} {xs : Nat → Int32} {E : hk_E} {Zh Zm : Nat → Prop} {ho ts mo o9 b4 : Nat} {li am : Nat → Nat} {rr : Nat → Nat → Nat} (G0 : lw_G p l s m meth c b L xs E Zh Zm o9 b4) {H : Heap} {locs : List Loc} {cells slots : Nat} (hJ0 : lw_J E Zh Zm ho ts mo o9 b4 li am rr s H locs) {i : Nat} (hi : i + 8 ≤ L) (hce : cells + 12 ≤ 601024) (hsl : slots + 700 ≤ 7293034) {ls : Array Slot} (hl : lv_has ls 7 [(4, .int (nI i)), (3, .ref o9), (2, .ref mo), (1, .ref ho), (0, .ref b)])
  (J2534 : ∀ (H1 : Heap) (locs1 : List Loc), lw_J E Zh Zm ho ts mo o9 b4 li am rr s H1 locs1 → ∀ (ls : Array Slot), lv_has ls 7 [(4, .int (nI i)), (3, .ref o9), (2, .ref mo), (1, .ref ho), (0, .ref b)] → W p l e room_1 s m #[Value.ref b] below meth c H1 locs1 (cells + 12) (slots + 700) (lw_Z below #[Value.ref b] s) (F0 m 2534 ls [])) : W p l e room_1 s m #[Value.ref b] below meth c H locs cells slots (lw_Z below #[Value.ref b] s) (F0 m 1942 ls []) := by
  obtain ⟨hl9, hLL, C0, X, K, hE, hZn0, hoZ, hoA, hZm⟩ := G0
  obtain ⟨G, R, ⟨cn, sc, μ⟩, ⟨cn1, sc1, μ1⟩, f0, hI, hW, hM, hag, hL, hS, hb4⟩ := hJ0
  obtain ⟨hx, hb, hr, hml, hown, -, hXs, hbl, hlocks, -⟩ := id C0
  have hAE : ∀ q, hk_A E q → hk_A E q := fun _ h => h
  have hZA : ∀ q, Zh q → hk_A E q := hW.2.2.2.2.2.2.2.2.2.2.2.2
  have hAz : ∀ q, (Zh q ∨ q = o9) → hk_A E q := fun q h => h.elim (fun h => hZA q h) (fun h => by rw [h]; exact hoA)
  have hmA : ∀ q, Zm q → hk_A E q := fun q h => (hZm q h).2.2.2
  have hZn : ∀ q, H.size ≤ q → Zh q := fun q h => hZn0 q (Nat.le_trans hb4 h)
  have hbA : ¬ hk_A E b := fun g => absurd hbl (Nat.not_lt.mpr (by rw [← hE]; exact g))
  have hJ : Inv (cn1, sc1, μ1) := inv_agr hI.1 hag
  refine lv_aload_n hx hb dL_law_1942 rfl (lv_at hl 3 rfl) ?_
  refine lv_aload_n hx hb dL_law_1943 rfl (lv_at hl 4 rfl) ?_
  refine lv_iload hx hb dL_law_1944 (lv_at hl 0 rfl) ?_
  refine lv_iconst (v := 1) hx hb dL_law_1946 (by decide) ?_
  refine lv_iadd hx hb dL_law_1947 ?_
  refine lv_topi (fun z_1 ez_1 => ?_)
  have ez_1 : z_1 = nI (i + 1) := ez_1.trans (nI_add i 1)
  subst ez_1
  refine va_sld hx hb hXs hbl hbA hS (vp_in_nI (show i + 1 < L by omega) (by omega)) dL_law_1948 ?_
  rw [show xs (nI (i + 1)).toNatClampNeg = xs (i + 1) from congrArg xs (nI_clamp (by omega))]
  refine lv_aload_n hx hb dL_law_1949 rfl (lv_at hl 4 rfl) ?_
  refine lv_iload hx hb dL_law_1950 (lv_at hl 0 rfl) ?_
  refine lv_iconst (v := 2) hx hb dL_law_1952 (by decide) ?_
  refine lv_iadd hx hb dL_law_1953 ?_
  refine lv_topi (fun z_2 ez_2 => ?_)
  have ez_2 : z_2 = nI (i + 2) := ez_2.trans (nI_add i 2)
  subst ez_2
  refine va_sld hx hb hXs hbl hbA hS (vp_in_nI (show i + 2 < L by omega) (by omega)) dL_law_1954 ?_
  rw [show xs (nI (i + 2)).toNatClampNeg = xs (i + 2) from congrArg xs (nI_clamp (by omega))]
  refine lv_aload_n hx hb dL_law_1955 rfl (lv_at hl 1 rfl) ?_
  refine hk_callSxW 4 (As := [.ref ho, .int (xs (i + 1)), .int (xs (i + 2)), .ref o9]) (rest := []) X K hAE hS hl.1 (c_L_votes E l hl9 H hW hI hZn hL hoZ hoA (p0 := xs (i + 1)) (p1 := xs (i + 2))) hAz gL_law_L_votes rfl hd_L_votes rfl ⟨⟨(Nat.le_of_ble_eq_true rfl), (Nat.le_of_ble_eq_true rfl)⟩, hce, hsl⟩ rfl (Nat.le_of_ble_eq_true rfl) dL_law_1956 (fun _ _ _ _ _ hp _ _ _ _ _ _ => False.elim hp) (fun v9 H1 locs1 hp hS hz1 hk1 => ?_)
  obtain ⟨hz, G1, R1, f1, hW1, hL1, hf1⟩ := hp
  subst hz
  have hM1 := MW.kept hM (fun q hq => hk1 q (Nat.lt_of_lt_of_le (hZm q hq).1 hb4) (fun g => g.elim (hZm q hq).2.1 (hZm q hq).2.2.1))
  refine lv_topi (fun k ek => ?_)
  refine lv_istore (lv' := [(5, .int k), (4, .int (nI i)), (3, .ref o9), (2, .ref mo), (1, .ref ho), (0, .ref b)]) hx hb dL_law_1959 hl (by decide) rfl (fun ls hl => ?_)
  rw [← ek] at hW1 hf1
  have hcT : cd_votes (xs (i + 1)) (xs (i + 2)) (cn1, sc1, μ1) = k := (cd_votes_agr hag).symm.trans ek.symm
  obtain ⟨w, ew⟩ : ∃ w : Int32, w = an_votes (xs (i + 1)) (xs (i + 2)) (cn, sc, μ) := ⟨_, rfl⟩
  rw [← ew] at hf1
  have haT : an_votes (xs (i + 1)) (xs (i + 2)) (cn1, sc1, μ1) = w := (an_votes_agr hag).symm.trans ew.symm
  refine lv_aload_n hx hb dL_law_1961 rfl (lv_at hl 3 rfl) ?_
  refine lv_aload_n hx hb dL_law_1962 rfl (lv_at hl 5 rfl) ?_
  refine lv_iload hx hb dL_law_1963 (lv_at hl 1 rfl) ?_
  refine lv_iconst (v := 1) hx hb dL_law_1965 (by decide) ?_
  refine lv_iadd hx hb dL_law_1966 ?_
  refine lv_topi (fun z_3 ez_3 => ?_)
  have ez_3 : z_3 = nI (i + 1) := ez_3.trans (nI_add i 1)
  subst ez_3
  refine va_sld hx hb hXs hbl hbA hS (vp_in_nI (show i + 1 < L by omega) (by omega)) dL_law_1967 ?_
  rw [show xs (nI (i + 1)).toNatClampNeg = xs (i + 1) from congrArg xs (nI_clamp (by omega))]
  refine lv_aload_n hx hb dL_law_1968 rfl (lv_at hl 5 rfl) ?_
  refine lv_iload hx hb dL_law_1969 (lv_at hl 1 rfl) ?_
  refine lv_iconst (v := 2) hx hb dL_law_1971 (by decide) ?_
  refine lv_iadd hx hb dL_law_1972 ?_
  refine lv_topi (fun z_4 ez_4 => ?_)
  have ez_4 : z_4 = nI (i + 2) := ez_4.trans (nI_add i 2)
  subst ez_4
  refine va_sld hx hb hXs hbl hbA hS (vp_in_nI (show i + 2 < L by omega) (by omega)) dL_law_1973 ?_
  rw [show xs (nI (i + 2)).toNatClampNeg = xs (i + 2) from congrArg xs (nI_clamp (by omega))]
  refine hk_callV 2 (As := [.int (xs (i + 1)), .int (xs (i + 2))]) (rest := []) X K hAE hS hl.1 hM1.1 rfl (c_X11_votes E l H1 hM1 hmA hJ (p0 := xs (i + 1)) (p1 := xs (i + 2))) hmA gL_law_X11_votes rfl ⟨rfl, hd_X11_votes⟩ rfl ⟨⟨(Nat.le_of_ble_eq_true rfl), (Nat.le_of_ble_eq_true rfl)⟩, (by show cells + 12 + 0 ≤ 601024; omega), (by show slots + 700 + 0 ≤ 7293034; omega)⟩ rfl (Nat.le_of_ble_eq_true rfl) dL_law_1974 (fun v9 H2 locs2 hp hS hz2 hk2 => ?_)
  obtain ⟨cn2, sc2, μ2, hM2, h33, hz, ha⟩ := hp
  subst hz
  rw [hcT] at h33 ha
  have hW2 := HW.kept hW1 (fun q h1 h2 => hk2 q h1 (fun g => h2.elim (hZm q g).2.1 (fun h => h (hZm q g).2.2.2)))
  have hL2 : hk_L E o9 1 f1 H2 := (hk2 _ (ar_lt hL1) (fun g => (hZm _ g).2.2.1 rfl)).trans hL1
  have hb9 : b4 ≤ H2.size := Nat.le_trans (Nat.le_trans hb4 hz1) hz2
  rw [hcT, haT]
  refine lv_topi (fun v ev => ?_)
  refine lv_istore (lv' := [(6, .int v), (5, .int k), (4, .int (nI i)), (3, .ref o9), (2, .ref mo), (1, .ref ho), (0, .ref b)]) hx hb dL_law_1977 hl (by decide) rfl (fun ls hl => ?_)
  refine lv_aload_n hx hb dL_law_1979 rfl (lv_at hl 4 rfl) ?_
  refine hk_callV 0 (As := []) (rest := []) X K hAE hS hl.1 hM2.1 rfl (c_X11_thrown E l H2 hM2) (fun _ h => False.elim h) gL_law_X11_thrown rfl ⟨rfl, hd_X11_thrown⟩ rfl ⟨⟨(Nat.le_of_ble_eq_true rfl), (Nat.le_of_ble_eq_true rfl)⟩, (by show cells + 12 + 0 + 0 ≤ 601024; omega), (by show slots + 700 + 0 + 0 ≤ 7293034; omega)⟩ rfl (Nat.le_of_ble_eq_true rfl) dL_law_1980 (fun v9 H3 locs3 hp hS hz3 hk3 => ?_)
  obtain ⟨hz, hh⟩ := hp
  subst hz; subst hh
  refine lv_iload hx hb dL_law_1983 (lv_at hl 1 rfl) ?_
  refine lv_icmp_eq (tgt := 1990) hx hb dL_law_1985 (by decide) (fun c_1985 => ?_) (fun c_1985 => ?_)
  · refine lv_iload hx hb dL_law_1990 (lv_at hl 1 rfl) ?_
    refine lv_if_ne (tgt := 2007) hx hb dL_law_1992 (by decide) (fun c_1992 => ?_) (fun c_1992 => ?_)
    · rw [if_neg c_1992] at hW2 ha
      refine lv_goto (tgt := 2534) hx hb dL_law_2007 (by decide) ?_
      exact J2534 H2 _ ⟨G1, R1, _, (cn2, sc2, μ2), f1, hI, hW2, hM2, hag.trans ha, hL2, hS, hb9⟩ _ (lv_sub hl [2, 3, 4, 5, 6] rfl)
    · have ckz := c_1992
      refine lv_aload_n hx hb dL_law_1995 rfl (lv_at hl 3 rfl) ?_
      refine lv_iconst (v := 0) hx hb dL_law_1996 (by decide) ?_
      refine hk_lld X K hL2 (show vp_in (0 : Int32) 1 from vp_in_nI (n := 0) (by decide) (by decide)) dL_law_1997 ?_
      rw [show f1 (0 : Int32).toNatClampNeg = w.toInt64 from (congrArg f1 hk_c0).trans (hf1 c_1992)]
      have ev : v = w := ev.trans (if_pos c_1992)
      rw [if_pos c_1992] at hW2 ha
      refine lv_iload hx hb dL_law_1998 (lv_at hl 0 rfl) ?_
      refine lv_i2l hx hb dL_law_2000 rfl ?_
      refine lv_lcmp hx hb dL_law_2001 ?_
      rw [show lcv (w.toInt64) v.toInt64 = 0 from by rw [ev]; exact lcv_self]
      refine lv_if_eq (tgt := 2007) hx hb dL_law_2002 (by decide) (fun c_2002 => ?_) (fun c_2002 => ?_)
      · refine lv_goto (tgt := 2534) hx hb dL_law_2007 (by decide) ?_
        exact J2534 H2 _ ⟨G1, R1, _, (cn2, sc2, μ2), f1, hI, hW2, hM2, (st_votes_agr hag).trans ha, hL2, hS, hb9⟩ _ (lv_sub hl [2, 3, 4, 5, 6] rfl)
      · exact absurd (by decide) c_2002
  · exact absurd c_1985 (fun h => h h33)
