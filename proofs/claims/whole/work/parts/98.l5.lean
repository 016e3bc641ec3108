theorem law_fl {l : Launch} (h : l.flags = flags0) : l.stackTraces = false := by
  unfold Launch.stackTraces
  rw [h]
  decide +kernel
theorem hd_X10_init : yX10_init.cls ≠ "java/lang/invoke/MethodHandle" ∧ yX10_init.cls ≠ "java/lang/invoke/VarHandle" ∧ (parseMethodDescriptor yX10_init.desc).map (fun d => d.parameters.length) = some 0 := ⟨by decide, by decide, by decide +kernel⟩
theorem hd_X11_init : yX11_init.cls ≠ "java/lang/invoke/MethodHandle" ∧ yX11_init.cls ≠ "java/lang/invoke/VarHandle" ∧ (parseMethodDescriptor yX11_init.desc).map (fun d => d.parameters.length) = some 0 := ⟨by decide, by decide, by decide +kernel⟩
set_option maxHeartbeats 4000000 in
set_option maxRecDepth 100000 in
/-- THE LAW'S LOOP: at its head, with k steps of eight ints read, a house and a model that agree -/
theorem law_loop {p : Program} {l : Launch} {e : Env} {s : State} {m : MethodId} {below : List Frame} {meth : Method} {c : Code} {b L : Nat} {xs : Nat → Int32} {E : hk_E} {Zh Zm : Nat → Prop} {ho ts mo o9 b4 : Nat} {li am : Nat → Nat} {rr : Nat → Nat → Nat} (G0 : lw_G p l s m meth c b L xs E Zh Zm o9 b4) : ∀ (n k : Nat), 513 ≤ k + n → 8 * k ≤ 4096 → ∀ (H : Heap) (locs : List Loc), lw_J E Zh Zm ho ts mo o9 b4 li am rr s H locs → ∀ (ls : Array Slot), lv_has ls 7 [(4, .int (nI (8 * k))), (3, .ref o9), (2, .ref mo), (1, .ref ho), (0, .ref b)] → W p l e room_1 s m #[Value.ref b] below meth c H locs (120 + 12 * k) (5600 + 700 * k) (lw_Z below #[Value.ref b] s) (F0 m 23 ls []) := by
  obtain ⟨hl9, hLL, C0, X, K, hE, hZn0, hoZ, hoA, hZm⟩ := id G0
  obtain ⟨hx, hb, hr, hml, hown, -, hXs, hbl, hlocks, -⟩ := id C0
  have hbA : ¬ hk_A E b := fun g => absurd hbl (Nat.not_lt.mpr (by rw [← hE]; exact g))
  intro n
  induction n with
  | zero =>
    intro k h1 h2
    exact absurd h2 (by omega)
  | succ n ih =>
    intro k h1 h2 H locs hJ ls hl
    obtain ⟨G, R, S, T, f, hI, hW, hM, hag, hL, hS, hb4⟩ := id hJ
    refine lv_iload hx hb dL_law_23 (lv_at hl 0 rfl) ?_
    refine lv_aload_n hx hb dL_law_25 rfl (lv_at hl 4 rfl) ?_
    refine va_slen hx hb hXs hbl hbA hS dL_law_26 ?_
    refine lv_bipush (v := 8) hx hb dL_law_27 (by decide) ?_
    refine lv_isub hx hb dL_law_29 ?_
    refine lv_icmp_gt (tgt := 2540) hx hb dL_law_30 (by decide) (fun c_30 => ?_) (fun c_30 => ?_)
    · refine lv_iconst (v := 1) hx hb dL_law_2540 (by decide) ?_
      refine va_forget (fun q hq => by rw [← hE]; exact hS.2.2 q hq) ?_
      refine W.widen (k := 601024) (n := 7293034) (by omega) (by omega) ?_
      exact lw_ret hx hb hr hlocks dL_law_2541
    · have hi : 8 * k + 8 ≤ L := law_head hLL h2 c_30
      refine lv_aload_n hx hb dL_law_33 rfl (lv_at hl 4 rfl) ?_
      refine lv_iload hx hb dL_law_34 (lv_at hl 0 rfl) ?_
      refine va_sld hx hb hXs hbl hbA hS (vp_in_nI (show 8 * k < L by omega) (by omega)) dL_law_36 ?_
      refine lv_bipush (v := 31) hx hb dL_law_37 (by decide) ?_
      refine lv_iand hx hb dL_law_39 ?_
      obtain ⟨r, hr32, er⟩ := law_op (x := xs (nI (8 * k)).toNatClampNeg)
      rw [er]
      have J2534 : ∀ (H1 : Heap) (locs1 : List Loc), lw_J E Zh Zm ho ts mo o9 b4 li am rr s H1 locs1 → ∀ (ls : Array Slot), lv_has ls 7 [(4, .int (nI (8 * k))), (3, .ref o9), (2, .ref mo), (1, .ref ho), (0, .ref b)] → W p l e room_1 s m #[Value.ref b] below meth c H1 locs1 (120 + 12 * k + 12) (5600 + 700 * k + 700) (lw_Z below #[Value.ref b] s) (F0 m 2534 ls []) := by
        intro H1 locs1 hJ1 ls hl
        obtain ⟨x2, ex2⟩ : ∃ y : Int32, y = nI (8 * k) + 8 := ⟨_, rfl⟩
        refine lv_iinc (v := x2) (lv' := [(4, .int x2), (3, .ref o9), (2, .ref mo), (1, .ref ho), (0, .ref b)]) hx hb dL_law_2534 hl (k := 0) rfl (by rw [ex2]; rfl) (by decide) rfl (fun ls hl => ?_)
        refine lv_goto (tgt := 23) hx hb dL_law_2537 (by decide) ?_
        have ex3 : x2 = nI (8 * (k + 1)) := ex2.trans (nI_add (8 * k) 8)
        rw [ex3] at hl
        refine W.widen (k := 120 + 12 * (k + 1)) (n := 5600 + 700 * (k + 1)) (by omega) (by omega) ?_
        exact ih (k + 1) (by omega) (by omega) H1 locs1 hJ1 ls hl
      rcases (show r = 0 ∨ r = 1 ∨ r = 2 ∨ r = 3 ∨ r = 4 ∨ r = 5 ∨ r = 6 ∨ r = 7 ∨ r = 8 ∨ r = 9 ∨ r = 10 ∨ r = 11 ∨ r = 12 ∨ r = 13 ∨ r = 14 ∨ r = 15 ∨ r = 16 ∨ r = 17 ∨ r = 18 ∨ r = 19 ∨ r = 20 ∨ r = 21 ∨ r = 22 ∨ r = 23 ∨ r = 24 ∨ r = 25 ∨ r = 26 ∨ r = 27 ∨ r = 28 ∨ r = 29 ∨ r = 30 ∨ r = 31 by omega) with g | g | g | g | g | g | g | g | g | g | g | g | g | g | g | g | g | g | g | g | g | g | g | g | g | g | g | g | g | g | g | g
      · subst g
        refine lv_tableIn (off := 144) (tgt := 184) hx hb dL_law_40 (by decide) (by decide) rfl rfl ?_
        exact k_comparison G0 hJ hi (by omega) (by omega) hl J2534
      · subst g
        refine lv_tableIn (off := 212) (tgt := 252) hx hb dL_law_40 (by decide) (by decide) rfl rfl ?_
        exact k_star G0 hJ hi (by omega) (by omega) hl J2534
      · subst g
        refine lv_tableIn (off := 268) (tgt := 308) hx hb dL_law_40 (by decide) (by decide) rfl rfl ?_
        exact k_bias G0 hJ hi (by omega) (by omega) hl J2534
      · subst g
        refine lv_tableIn (off := 336) (tgt := 376) hx hb dL_law_40 (by decide) (by decide) rfl rfl ?_
        exact k_clock G0 hJ hi (by omega) (by omega) hl J2534
      · subst g
        refine lv_tableIn (off := 404) (tgt := 444) hx hb dL_law_40 (by decide) (by decide) rfl rfl ?_
        exact k_plate G0 hJ hi (by omega) (by omega) hl J2534
      · subst g
        refine lv_tableIn (off := 484) (tgt := 524) hx hb dL_law_40 (by decide) (by decide) rfl rfl ?_
        exact k_join G0 hJ hi (by omega) (by omega) hl J2534
      · subst g
        refine lv_tableIn (off := 552) (tgt := 592) hx hb dL_law_40 (by decide) (by decide) rfl rfl ?_
        exact k_step G0 hJ hi (by omega) (by omega) hl J2534
      · subst g
        refine lv_tableIn (off := 684) (tgt := 724) hx hb dL_law_40 (by decide) (by decide) rfl rfl ?_
        exact k_density G0 hJ hi (by omega) (by omega) hl J2534
      · subst g
        refine lv_tableIn (off := 764) (tgt := 804) hx hb dL_law_40 (by decide) (by decide) rfl rfl ?_
        exact k_doubt G0 hJ hi (by omega) (by omega) hl J2534
      · subst g
        refine lv_tableIn (off := 855) (tgt := 895) hx hb dL_law_40 (by decide) (by decide) rfl rfl ?_
        exact k_minimum G0 hJ hi (by omega) (by omega) hl J2534
      · subst g
        refine lv_tableIn (off := 923) (tgt := 963) hx hb dL_law_40 (by decide) (by decide) rfl rfl ?_
        exact k_merge G0 hJ hi (by omega) (by omega) hl J2534
      · subst g
        refine lv_tableIn (off := 991) (tgt := 1031) hx hb dL_law_40 (by decide) (by decide) rfl rfl ?_
        exact k_split G0 hJ hi (by omega) (by omega) hl J2534
      · subst g
        refine lv_tableIn (off := 1047) (tgt := 1087) hx hb dL_law_40 (by decide) (by decide) rfl rfl ?_
        exact k_entry G0 hJ hi (by omega) (by omega) hl J2534
      · subst g
        refine lv_tableIn (off := 1103) (tgt := 1143) hx hb dL_law_40 (by decide) (by decide) rfl rfl ?_
        exact k_entries G0 hJ hi (by omega) (by omega) hl J2534
      · subst g
        refine lv_tableIn (off := 1159) (tgt := 1199) hx hb dL_law_40 (by decide) (by decide) rfl rfl ?_
        exact k_look G0 hJ hi (by omega) (by omega) hl J2534
      · subst g
        refine lv_tableIn (off := 1227) (tgt := 1267) hx hb dL_law_40 (by decide) (by decide) rfl rfl ?_
        exact k_string G0 hJ hi (by omega) (by omega) hl J2534
      · subst g
        refine lv_tableIn (off := 1295) (tgt := 1335) hx hb dL_law_40 (by decide) (by decide) rfl rfl ?_
        exact k_together G0 hJ hi (by omega) (by omega) hl J2534
      · subst g
        refine lv_tableIn (off := 1375) (tgt := 1415) hx hb dL_law_40 (by decide) (by decide) rfl rfl ?_
        exact k_period G0 hJ hi (by omega) (by omega) hl J2534
      · subst g
        refine lv_tableIn (off := 1467) (tgt := 1507) hx hb dL_law_40 (by decide) (by decide) rfl rfl ?_
        exact k_aliases G0 hJ hi (by omega) (by omega) hl J2534
      · subst g
        refine lv_tableIn (off := 1571) (tgt := 1611) hx hb dL_law_40 (by decide) (by decide) rfl rfl ?_
        exact k_claim G0 hJ hi (by omega) (by omega) hl J2534
      · subst g
        refine lv_tableIn (off := 1639) (tgt := 1679) hx hb dL_law_40 (by decide) (by decide) rfl rfl ?_
        exact k_feature G0 hJ hi (by omega) (by omega) hl J2534
      · subst g
        refine lv_tableIn (off := 1707) (tgt := 1747) hx hb dL_law_40 (by decide) (by decide) rfl rfl ?_
        exact k_rule G0 hJ hi (by omega) (by omega) hl J2534
      · subst g
        refine lv_tableIn (off := 1811) (tgt := 1851) hx hb dL_law_40 (by decide) (by decide) rfl rfl ?_
        exact k_withdraw G0 hJ hi (by omega) (by omega) hl J2534
      · subst g
        refine lv_tableIn (off := 1902) (tgt := 1942) hx hb dL_law_40 (by decide) (by decide) rfl rfl ?_
        exact k_votes G0 hJ hi (by omega) (by omega) hl J2534
      · subst g
        refine lv_tableIn (off := 1970) (tgt := 2010) hx hb dL_law_40 (by decide) (by decide) rfl rfl ?_
        exact k_kind G0 hJ hi (by omega) (by omega) hl J2534
      · subst g
        refine lv_tableIn (off := 2026) (tgt := 2066) hx hb dL_law_40 (by decide) (by decide) rfl rfl ?_
        exact k_cycle G0 hJ hi (by omega) (by omega) hl J2534
      · subst g
        refine lv_tableIn (off := 2134) (tgt := 2174) hx hb dL_law_40 (by decide) (by decide) rfl rfl ?_
        exact k_lost G0 hJ hi (by omega) (by omega) hl J2534
      · subst g
        refine lv_tableIn (off := 2202) (tgt := 2242) hx hb dL_law_40 (by decide) (by decide) rfl rfl ?_
        exact k_dust G0 hJ hi (by omega) (by omega) hl J2534
      · subst g
        refine lv_tableIn (off := 2270) (tgt := 2310) hx hb dL_law_40 (by decide) (by decide) rfl rfl ?_
        exact k_zero G0 hJ hi (by omega) (by omega) hl J2534
      · subst g
        refine lv_tableIn (off := 2326) (tgt := 2366) hx hb dL_law_40 (by decide) (by decide) rfl rfl ?_
        exact k_mean G0 hJ hi (by omega) (by omega) hl J2534
      · subst g
        refine lv_tableIn (off := 2382) (tgt := 2422) hx hb dL_law_40 (by decide) (by decide) rfl rfl ?_
        exact k_modulus G0 hJ hi (by omega) (by omega) hl J2534
      · subst g
        refine lv_tableIn (off := 2438) (tgt := 2478) hx hb dL_law_40 (by decide) (by decide) rfl rfl ?_
        exact k_nearest G0 hJ hi (by omega) (by omega) hl J2534
set_option maxHeartbeats 4000000 in
set_option maxRecDepth 100000 in
/-- THE LAW, from its entry -/
theorem law_start2 {p : Program} {e : Env} {s : State} {m : MethodId} {below : List Frame} {meth : Method} {c : Code} (l : Launch) (hl9 : l.stackTraces = false) {b L : Nat} {xs : Nat → Int32} (hL : L ≤ 4096) (C0 : lw_At p s m meth c b L xs) : W p l e room_1 s m #[Value.ref b] below meth c s.heap [] 0 0 (lw_Z below #[Value.ref b] s) (entryFrame m ([Value.ref b] : List Value).toArray 7) := by
  obtain ⟨E, hE, K⟩ := law_start C0
  obtain ⟨hx, hb, hr, hml, hown, hts, hX, hbl, hlocks, hgv⟩ := id C0
  have X : CallFix p m c cL_law 7 s #[Value.ref b] wsL_law RL := ⟨hx, hb, hml, hown, fun w h => hts w (wsL_law_in w h)⟩
  have hS : va_S (hk_A E) s.heap s.heap [] := va_S.rf
  have hAE : ∀ q, hk_A E q → hk_A E q := fun _ h => h
  have hl := lv_entry ([.ref b]) (n := 7) (Nat.le_of_ble_eq_true rfl)
  rw [lg_entry_eq]
  generalize (lg_sl ([.ref b]) ++ List.replicate (7 - (lg_sl ([.ref b])).length) Slot.unset).toArray = ls at hl ⊢
  have hl : lv_has ls 7 [(0, .ref b)] := hl
  refine hk_new (ci := 10) (fs := [.null, .null, .null, .null, .null, .null, .null, .int 0, .null, .null, .null, .null, .null]) X K rfl inlX10 tyX10 tyX10_ok (by decide +kernel) (by decide +kernel) (by decide +kernel) hS (fun j hj => by rcases (show j = 0 ∨ j = 1 ∨ j = 2 ∨ j = 3 ∨ j = 4 ∨ j = 5 ∨ j = 6 ∨ j = 7 ∨ j = 8 ∨ j = 9 ∨ j = 10 ∨ j = 11 ∨ j = 12 by omega) with rfl | rfl | rfl | rfl | rfl | rfl | rfl | rfl | rfl | rfl | rfl | rfl | rfl <;> rfl) (Nat.le_of_ble_eq_true rfl) (Nat.le_of_ble_eq_true rfl) dL_law_0 (fun H1 hO1 hz1 hq1 hS => ?_)
  obtain ⟨ho, eho⟩ : ∃ z : Nat, z = s.heap.size := ⟨_, rfl⟩
  rw [← eho] at hO1 hz1 ⊢
  refine lv_dup hx hb dL_law_3 rfl ?_
  refine hk_callI 0 (As := []) (rest := [.ref ho]) X K hAE hS hl.1 (c_X10_init E l H1 (Z := hk_A E) hO1 (by show E.2.2.1 ≤ ho; omega) (fun q h => by show E.2.2.1 ≤ q; omega) (fun _ h => h)) (fun _ h => h) gL_law_X10_init rfl (by decide +kernel) (by decide +kernel) (by decide +kernel) rfl hd_X10_init rfl ⟨⟨(Nat.le_of_ble_eq_true rfl), (Nat.le_of_ble_eq_true rfl)⟩, (Nat.le_of_ble_eq_true rfl), (Nat.le_of_ble_eq_true rfl)⟩ rfl (Nat.le_of_ble_eq_true rfl) dL_law_4 (fun v9 H2 locs2 hp hS hz2 hk2 => ?_)
  obtain ⟨hv, li, rr, ts, G, R, hW⟩ := hp
  subst hv
  refine lv_astore_n (lv' := [(1, .ref ho), (0, .ref b)]) hx hb dL_law_7 rfl hl (by decide) rfl (fun ls hl => ?_)
  refine hk_new (ci := 11) (fs := [.null, .int 0, .null, .null, .null, .null, .null, .null, .int 0, .null, .null, .null, .int 0, .null, .null, .null, .null, .null, .null, .null, .null, .null, .int 0, .null, .null, .null, .null, .null, .null, .int 0, .null, .null, .int 0, .int 0, .int 0, .null, .null, .null, .int 0, .null, .null, .null]) X K rfl inlX11 tyX11 tyX11_ok (by decide +kernel) (by decide +kernel) (by decide +kernel) hS (fun j hj => by rcases (show j = 0 ∨ j = 1 ∨ j = 2 ∨ j = 3 ∨ j = 4 ∨ j = 5 ∨ j = 6 ∨ j = 7 ∨ j = 8 ∨ j = 9 ∨ j = 10 ∨ j = 11 ∨ j = 12 ∨ j = 13 ∨ j = 14 ∨ j = 15 ∨ j = 16 ∨ j = 17 ∨ j = 18 ∨ j = 19 ∨ j = 20 ∨ j = 21 ∨ j = 22 ∨ j = 23 ∨ j = 24 ∨ j = 25 ∨ j = 26 ∨ j = 27 ∨ j = 28 ∨ j = 29 ∨ j = 30 ∨ j = 31 ∨ j = 32 ∨ j = 33 ∨ j = 34 ∨ j = 35 ∨ j = 36 ∨ j = 37 ∨ j = 38 ∨ j = 39 ∨ j = 40 ∨ j = 41 by omega) with rfl | rfl | rfl | rfl | rfl | rfl | rfl | rfl | rfl | rfl | rfl | rfl | rfl | rfl | rfl | rfl | rfl | rfl | rfl | rfl | rfl | rfl | rfl | rfl | rfl | rfl | rfl | rfl | rfl | rfl | rfl | rfl | rfl | rfl | rfl | rfl | rfl | rfl | rfl | rfl | rfl | rfl <;> rfl) (Nat.le_of_ble_eq_true rfl) (Nat.le_of_ble_eq_true rfl) dL_law_8 (fun H3 hO3 hz3 hq3 hS => ?_)
  obtain ⟨mo, emo⟩ : ∃ z : Nat, z = H2.size := ⟨_, rfl⟩
  rw [← emo] at hO3 hz3 ⊢
  refine lv_dup hx hb dL_law_11 rfl ?_
  have hmoA : hk_A E mo := by show E.2.2.1 ≤ mo; omega
  refine hk_callI 0 (As := []) (rest := [.ref mo]) X K hAE hS hl.1 (c_X11_init E l H3 (Z := fun q => mo ≤ q) hO3 (Nat.le_refl _) (fun q h => by show mo ≤ q; omega) hmoA) (fun q h => h.elim (fun h => by rw [h]; exact hmoA) (fun h => by show E.2.2.1 ≤ q; omega)) gL_law_X11_init rfl (by decide +kernel) (by decide +kernel) (by decide +kernel) rfl hd_X11_init rfl ⟨⟨(Nat.le_of_ble_eq_true rfl), (Nat.le_of_ble_eq_true rfl)⟩, (Nat.le_of_ble_eq_true rfl), (Nat.le_of_ble_eq_true rfl)⟩ rfl (Nat.le_of_ble_eq_true rfl) dL_law_12 (fun v9 H4 locs4 hp hS hz4 hk4 => ?_)
  obtain ⟨hv, am, hM⟩ := hp
  subst hv
  refine lv_astore_n (lv' := [(2, .ref mo), (1, .ref ho), (0, .ref b)]) hx hb dL_law_15 rfl hl (by decide) rfl (fun ls hl => ?_)
  refine lv_iconst (v := 1) hx hb dL_law_16 (by decide) ?_
  refine hk_newl (N := 1) X K (X.2.2.2.2 _ (by decide +kernel)) hS (by decide) (by decide) (Nat.le_of_ble_eq_true rfl) (Nat.le_of_ble_eq_true rfl) (Nat.le_of_ble_eq_true rfl) dL_law_17 (fun H5 hL5 hz5 hq5 hS => ?_)
  obtain ⟨o9, eo9⟩ : ∃ z : Nat, z = H4.size := ⟨_, rfl⟩
  rw [← eo9] at hL5 hz5 ⊢
  refine lv_astore_n (lv' := [(3, .ref o9), (2, .ref mo), (1, .ref ho), (0, .ref b)]) hx hb dL_law_19 rfl hl (by decide) rfl (fun ls hl => ?_)
  refine lv_iconst (v := 0) hx hb dL_law_20 (by decide) ?_
  refine lv_istore (lv' := [(4, .int 0), (3, .ref o9), (2, .ref mo), (1, .ref ho), (0, .ref b)]) hx hb dL_law_21 hl (by decide) rfl (fun ls hl => ?_)
  have q25 : ∀ q : Nat, q < H2.size → H5[q]? = H2[q]? := fun q h => (hq5 q (by omega)).trans ((hk4 q (by omega) (fun g => by rcases g with g | g <;> omega)).trans (hq3 q h))
  have hW5 : HW E (fun q => hk_A E q ∧ (q < mo ∨ o9 + 1 ≤ q)) (ho, li, rr, ts) G R S0 H5 := (hW.zone (fun q h1 h2 => ⟨h2, Or.inl (by omega)⟩) (fun q h => h.1)).kept (fun q h _ => q25 q h)
  have hM5 : MW E mo am (fun q => mo ≤ q ∧ q < o9) S0.1 S0.2.1 S0.2.2 H5 := (hM.zone (fun q h1 h2 => ⟨h2, by omega⟩)).kept (fun q h => hq5 q (by omega))
  refine W.widen (k := 120 + 12 * 0) (n := 5600 + 700 * 0) (Nat.le_of_ble_eq_true rfl) (Nat.le_of_ble_eq_true rfl) ?_
  exact law_loop (E := E) (Zh := fun q => hk_A E q ∧ (q < mo ∨ o9 + 1 ≤ q)) (Zm := fun q => mo ≤ q ∧ q < o9) (b4 := o9 + 1)
    ⟨hl9, hL, C0, X, K, hE, fun q h => ⟨by show E.2.2.1 ≤ q; omega, Or.inr h⟩, fun g => by rcases g.2 with g | g <;> omega, by show E.2.2.1 ≤ o9; omega, fun q h => ⟨by omega, fun g => by rcases g.2 with g | g <;> omega, by omega, by show E.2.2.1 ≤ q; omega⟩⟩
    513 0 (by omega) (by omega) H5 _ ⟨G, R, S0, S0, _, invF_S0, hW5, hM5, agr.rf, hL5, hS, by omega⟩ ls hl
