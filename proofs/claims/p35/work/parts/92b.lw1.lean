abbrev rmL_late : Room := { frames := 0, cells := 0, slots := 0, locals := 0 }
set_option maxHeartbeats 4000000 in
set_option maxRecDepth 100000 in
theorem c_L_late (E : hk_E) (l : Launch) (H0 : Heap) (a b : Int32) : hk_M E l yL_late wsL_late rmL_late (fun _ => False) [.int a, .int b] H0 (fun z H1 => z = some (.int (l_late a b)) ∧ H0 = H1) := by
  refine hk_M.ofW (cc := cL_late) (maxL := 3) (ret := (some .int)) (by decide +kernel) rfl (Nat.le_of_ble_eq_true rfl) ?_
  intro p e s m args below meth c ls Q hQ X hr hlk hnm K hs9 hS hl
  obtain ⟨hx, hb, hml, hown, hts⟩ := id X
  have hAE : ∀ q, (fun _ => False) q → hk_A E q := fun _ h => h.elim
  have hl : lv_has ls 3 [(0, .int a), (1, .int b)] := hl
  refine lv_iload_n hx hb dL_late_0 rfl (lv_at hl 0 rfl) ?_
  refine lv_sipush (v := 1440) hx hb dL_late_1 (by decide) ?_
  refine lv_idiv hx hb dL_late_4 (by decide) ?_
  refine lv_iload_n hx hb dL_late_5 rfl (lv_at hl 1 rfl) ?_
  refine lv_iadd hx hb dL_late_6 ?_
  refine lv_sipush (v := 364) hx hb dL_late_7 (by decide) ?_
  refine lv_irem hx hb dL_late_10 (by decide) ?_
  refine lv_topi (fun x ex => ?_)
  refine lv_istore_n (lv' := [(2, .int x), (0, .int a), (1, .int b)]) hx hb dL_late_11 rfl hl (by decide) rfl (fun ls hl => ?_)
  refine lv_bipush (v := 8) hx hb dL_late_12 (by decide) ?_
  refine lv_bipush (v := 8) hx hb dL_late_14 (by decide) ?_
  refine lv_iload_n hx hb dL_late_16 rfl (lv_at hl 0 rfl) ?_
  refine lv_sipush (v := 182) hx hb dL_late_17 (by decide) ?_
  refine lv_icmp_le (tgt := 31) hx hb dL_late_20 (by decide) (fun c_20 => ?_) (fun c_20 => ?_)
  · refine lv_iload_n hx hb dL_late_31 rfl (lv_at hl 0 rfl) ?_
    refine lv_imul hx hb dL_late_32 ?_
    refine lv_bipush (v := 91) hx hb dL_late_33 (by decide) ?_
    refine lv_idiv hx hb dL_late_35 (by decide) ?_
    refine lv_isub hx hb dL_late_36 ?_
    exact hk_iret X hr hlk hQ hS (Nat.le_of_ble_eq_true rfl) (Nat.le_of_ble_eq_true rfl) dL_late_37 (⟨congrArg (fun v => some (Value.int v)) (by subst ex; unfold l_late; rw [if_pos c_20]), rfl⟩)
  · refine lv_sipush (v := 364) hx hb dL_late_23 (by decide) ?_
    refine lv_iload_n hx hb dL_late_26 rfl (lv_at hl 0 rfl) ?_
    refine lv_isub hx hb dL_late_27 ?_
    refine lv_goto (tgt := 32) hx hb dL_late_28 (by decide) ?_
    refine lv_imul hx hb dL_late_32 ?_
    refine lv_bipush (v := 91) hx hb dL_late_33 (by decide) ?_
    refine lv_idiv hx hb dL_late_35 (by decide) ?_
    refine lv_isub hx hb dL_late_36 ?_
    exact hk_iret X hr hlk hQ hS (Nat.le_of_ble_eq_true rfl) (Nat.le_of_ble_eq_true rfl) dL_late_37 (⟨congrArg (fun v => some (Value.int v)) (by subst ex; unfold l_late; rw [if_neg c_20]), rfl⟩)

abbrev rmL_down : Room := { frames := 0, cells := 0, slots := 0, locals := 0 }
set_option maxHeartbeats 4000000 in
set_option maxRecDepth 100000 in
theorem c_L_down (E : hk_E) (l : Launch) (H0 : Heap) {n d : Int32} (hd : 0 < d) : hk_M E l yL_down wsL_down rmL_down (fun _ => False) [.int n, .int d] H0 (fun z H1 => z = some (.int (qd n d)) ∧ H0 = H1) := by
  refine hk_M.ofW (cc := cL_down) (maxL := 3) (ret := (some .int)) (by decide +kernel) rfl (Nat.le_of_ble_eq_true rfl) ?_
  intro p e s m args below meth c ls Q hQ X hr hlk hnm K hs9 hS hl
  obtain ⟨hx, hb, hml, hown, hts⟩ := id X
  have hAE : ∀ q, (fun _ => False) q → hk_A E q := fun _ h => h.elim
  have hl : lv_has ls 3 [(0, .int n), (1, .int d)] := hl
  refine lv_iload_n hx hb dL_down_0 rfl (lv_at hl 0 rfl) ?_
  refine lv_iload_n hx hb dL_down_1 rfl (lv_at hl 1 rfl) ?_
  refine lv_idiv hx hb dL_down_2 (fun h => by rw [h] at hd; exact absurd hd (by decide)) ?_
  refine lv_topi (fun x ex => ?_)
  refine lv_istore_n (lv' := [(2, .int x), (0, .int n), (1, .int d)]) hx hb dL_down_3 rfl hl (by decide) rfl (fun ls hl => ?_)
  refine lv_iload_n hx hb dL_down_4 rfl (lv_at hl 0 rfl) ?_
  refine lv_iload_n hx hb dL_down_5 rfl (lv_at hl 2 rfl) ?_
  refine lv_imul hx hb dL_down_6 ?_
  refine lv_iload_n hx hb dL_down_7 rfl (lv_at hl 1 rfl) ?_
  refine lv_icmp_le (tgt := 17) hx hb dL_down_8 (by decide) (fun c_8 => ?_) (fun c_8 => ?_)
  · refine lv_iload_n hx hb dL_down_17 rfl (lv_at hl 0 rfl) ?_
    exact hk_iret X hr hlk hQ hS (Nat.le_of_ble_eq_true rfl) (Nat.le_of_ble_eq_true rfl) dL_down_18 (⟨congrArg (fun v => some (Value.int v)) (by subst ex; exact down_le hd c_8), rfl⟩)
  · refine lv_iload_n hx hb dL_down_11 rfl (lv_at hl 0 rfl) ?_
    refine lv_iconst (v := 1) hx hb dL_down_12 (by decide) ?_
    refine lv_isub hx hb dL_down_13 ?_
    refine lv_goto (tgt := 18) hx hb dL_down_14 (by decide) ?_
    exact hk_iret X hr hlk hQ hS (Nat.le_of_ble_eq_true rfl) (Nat.le_of_ble_eq_true rfl) dL_down_18 (⟨congrArg (fun v => some (Value.int v)) (by subst ex; exact down_gt hd c_8), rfl⟩)

theorem hd_L_down : yL_down.cls ≠ "java/lang/invoke/MethodHandle" ∧ yL_down.cls ≠ "java/lang/invoke/VarHandle" ∧ (parseMethodDescriptor yL_down.desc).map (fun d => d.parameters.length) = some 2 := ⟨by decide, by decide, by decide +kernel⟩
abbrev rmL_raw : Room := { frames := 1, cells := 0, slots := 0, locals := 22 }
set_option maxHeartbeats 4000000 in
set_option maxRecDepth 100000 in
theorem c_L_raw (E : hk_E) (l : Launch) (H0 : Heap) {la : Nat → Nat} {V : Nat → Nat → Int32} (hL : LW E la V H0) {cn : Nat → Nat} {sc : Nat → Int32} {μ : Nat → Nat → Int32} (hV : LV (cn, sc, μ) V) (hI : InvF (cn, sc, μ)) {k : Nat} (hk : k < cn 12) : hk_M E l yL_raw wsL_raw rmL_raw (fun _ => False) [.ref (la 0), .ref (la 4), .ref (la 5), .ref (la 6), .ref (la 7), .int (nI k)] H0 (fun z H1 => z = some (.int (sp_raw μ k)) ∧ H0 = H1) := by
  refine hk_M.ofW (cc := cL_raw) (maxL := 10) (ret := (some .int)) (by decide +kernel) rfl (Nat.le_of_ble_eq_true rfl) ?_
  intro p e s m args below meth c ls Q hQ X hr hlk hnm K hs9 hS hl
  obtain ⟨hx, hb, hml, hown, hts⟩ := id X
  have hAE : ∀ q, (fun _ => False) q → hk_A E q := fun _ h => h.elim
  have hl : lv_has ls 10 [(0, .ref (la 0)), (1, .ref (la 4)), (2, .ref (la 5)), (3, .ref (la 6)), (4, .ref (la 7)), (5, .int (nI k))] := hl
  have hn1 : cn 1 ≤ 4 := hV.n1
  have hn8 : cn 8 ≤ 3 := hV.n8
  have hn12 : cn 12 ≤ 24 := hV.n12
  have hn22 : cn 22 ≤ 4 := hV.n22
  have hn29 : cn 29 ≤ 8 := hV.n29
  obtain ⟨sx, stx, ofx, dx, hsx, hstx, hofx, hdx, h13, h14, h15, h21, h5, hsd, hss⟩ := hV.lk hk
  have hstx : stx < cn 1 := hstx
  have hsd : sx = 1 → ofx < cn 8 := hsd
  rcases (show sx = 0 ∨ sx = 1 by omega) with g9 | g9
  · subst g9
    obtain ⟨fx, ax, bx, gx, hfx, hax, hbx, hgx, habx, h17, h18, h19, h20, h7⟩ := hss rfl
    refine lv_aload_n hx hb dL_raw_0 rfl (lv_at hl 2 rfl) ?_
    refine lv_iload hx hb dL_raw_1 (lv_at hl 5 rfl) ?_
    refine hk_ild X K hL.c5 (vp_in_nI (by omega) (by omega)) dL_raw_3 ?_
    rw [show (V 5) (nI k).toNatClampNeg = nI (0 + 2 * stx + 8 * ofx + 64 * dx) from (congrArg (V 5) (nI_clamp (show k < 2 ^ 31 by omega))).trans h5]
    refine lv_bipush (v := 8) hx hb dL_raw_4 (by decide) ?_
    refine lv_idiv hx hb dL_raw_6 (by decide) ?_
    refine lv_topi (fun z_1 ez_1 => ?_)
    have ez_1 : z_1 = nI ((0 + 2 * stx + 8 * ofx + 64 * dx) / 8) := ez_1.trans (pk_div (a := (0 + 2 * stx + 8 * ofx + 64 * dx)) (d := 8) (by omega) (by omega) (by omega))
    subst ez_1
    refine lv_bipush (v := 8) hx hb dL_raw_7 (by decide) ?_
    refine lv_irem hx hb dL_raw_9 (by decide) ?_
    refine lv_topi (fun z_2 ez_2 => ?_)
    have ez_2 : z_2 = nI ofx := ez_2.trans ((pk_rem (a := ((0 + 2 * stx + 8 * ofx + 64 * dx) / 8)) (d := 8) (by omega) (by omega) (by omega)).trans (congrArg nI (show ((0 + 2 * stx + 8 * ofx + 64 * dx) / 8) % 8 = ofx by omega)))
    subst ez_2
    refine lv_istore (lv' := [(6, .int (nI ofx)), (0, .ref (la 0)), (1, .ref (la 4)), (2, .ref (la 5)), (3, .ref (la 6)), (4, .ref (la 7)), (5, .int (nI k))]) hx hb dL_raw_10 hl (by decide) rfl (fun ls hl => ?_)
    refine lv_aload_n hx hb dL_raw_12 rfl (lv_at hl 3 rfl) ?_
    refine lv_iload hx hb dL_raw_13 (lv_at hl 6 rfl) ?_
    refine hk_ild X K hL.c5 (vp_in_nI (by omega) (by omega)) dL_raw_15 ?_
    rw [show (V 5) (nI k).toNatClampNeg = nI (0 + 2 * stx + 8 * ofx + 64 * dx) from (congrArg (V 5) (nI_clamp (show k < 2 ^ 31 by omega))).trans h5]
    refine lv_iconst (v := 2) hx hb dL_raw_16 (by decide) ?_
    refine lv_irem hx hb dL_raw_17 (by decide) ?_
    refine lv_topi (fun z_3 ez_3 => ?_)
    have ez_3 : z_3 = nI 0 := ez_3.trans ((pk_rem (a := (0 + 2 * stx + 8 * ofx + 64 * dx)) (d := 2) (by omega) (by omega) (by omega)).trans (congrArg nI (show (0 + 2 * stx + 8 * ofx + 64 * dx) % 2 = 0 by omega)))
    subst ez_3
    refine lv_iconst (v := 1) hx hb dL_raw_18 (by decide) ?_
    refine lv_icmp_ne (tgt := 48) hx hb dL_raw_19 (by decide) (fun c_19 => ?_) (fun c_19 => ?_)
    · refine lv_aload_n hx hb dL_raw_48 rfl (lv_at hl 1 rfl) ?_
      refine lv_aload hx hb dL_raw_49 (lv_at hl 5 rfl) ?_
      refine lv_iload hx hb dL_raw_51 (lv_at hl 6 rfl) ?_
      refine hk_ild X K hL.c7 (vp_in_nI (by omega) (by omega)) dL_raw_53 ?_
      rw [show (V 7) (nI k).toNatClampNeg = nI (fx + 10 * ax + 100 * bx + 1000 * gx) from (congrArg (V 7) (nI_clamp (show k < 2 ^ 31 by omega))).trans h7]
      refine lv_bipush (v := 10) hx hb dL_raw_54 (by decide) ?_
      refine lv_irem hx hb dL_raw_56 (by decide) ?_
      refine lv_topi (fun z_4 ez_4 => ?_)
      have ez_4 : z_4 = nI fx := ez_4.trans ((pk_rem (a := (fx + 10 * ax + 100 * bx + 1000 * gx)) (d := 10) (by omega) (by omega) (by omega)).trans (congrArg nI (show (fx + 10 * ax + 100 * bx + 1000 * gx) % 10 = fx by omega)))
      subst ez_4
      refine hk_ild X K hL.c0 (vp_in_nI (by omega) (by omega)) dL_raw_57 ?_
      rw [show (V 0) (nI fx).toNatClampNeg = V 0 fx from by rw [nI_clamp (show fx < 2 ^ 31 by omega)]]
      refine lv_istore (lv' := [(7, .int (V 0 fx)), (6, .int (nI ofx)), (0, .ref (la 0)), (1, .ref (la 4)), (2, .ref (la 5)), (3, .ref (la 6)), (4, .ref (la 7)), (5, .int (nI k))]) hx hb dL_raw_58 hl (by decide) rfl (fun ls hl => ?_)
      refine lv_aload_n hx hb dL_raw_60 rfl (lv_at hl 2 rfl) ?_
      refine lv_aload hx hb dL_raw_61 (lv_at hl 6 rfl) ?_
      refine lv_iload hx hb dL_raw_63 (lv_at hl 7 rfl) ?_
      refine hk_ild X K hL.c7 (vp_in_nI (by omega) (by omega)) dL_raw_65 ?_
      rw [show (V 7) (nI k).toNatClampNeg = nI (fx + 10 * ax + 100 * bx + 1000 * gx) from (congrArg (V 7) (nI_clamp (show k < 2 ^ 31 by omega))).trans h7]
      refine lv_sipush (v := 1000) hx hb dL_raw_66 (by decide) ?_
      refine lv_idiv hx hb dL_raw_69 (by decide) ?_
      refine lv_topi (fun z_5 ez_5 => ?_)
      have ez_5 : z_5 = nI gx := ez_5.trans ((pk_div (a := (fx + 10 * ax + 100 * bx + 1000 * gx)) (d := 1000) (by omega) (by omega) (by omega)).trans (congrArg nI (show (fx + 10 * ax + 100 * bx + 1000 * gx) / 1000 = gx by omega)))
      subst ez_5
      refine hk_ild X K hL.c0 (vp_in_nI (by omega) (by omega)) dL_raw_70 ?_
      rw [show (V 0) (nI gx).toNatClampNeg = V 0 gx from by rw [nI_clamp (show gx < 2 ^ 31 by omega)]]
      refine lv_iload hx hb dL_raw_71 (lv_at hl 0 rfl) ?_
      refine lv_isub hx hb dL_raw_73 ?_
      refine lv_istore (lv' := [(8, .int ((V 0 gx) - (V 0 fx))), (7, .int (V 0 fx)), (6, .int (nI ofx)), (0, .ref (la 0)), (1, .ref (la 4)), (2, .ref (la 5)), (3, .ref (la 6)), (4, .ref (la 7)), (5, .int (nI k))]) hx hb dL_raw_74 hl (by decide) rfl (fun ls hl => ?_)
      refine lv_aload hx hb dL_raw_76 (lv_at hl 7 rfl) ?_
      refine lv_iload hx hb dL_raw_78 (lv_at hl 8 rfl) ?_
      refine hk_ild X K hL.c7 (vp_in_nI (by omega) (by omega)) dL_raw_80 ?_
      rw [show (V 7) (nI k).toNatClampNeg = nI (fx + 10 * ax + 100 * bx + 1000 * gx) from (congrArg (V 7) (nI_clamp (show k < 2 ^ 31 by omega))).trans h7]
      refine lv_bipush (v := 10) hx hb dL_raw_81 (by decide) ?_
      refine lv_idiv hx hb dL_raw_83 (by decide) ?_
      refine lv_topi (fun z_6 ez_6 => ?_)
      have ez_6 : z_6 = nI ((fx + 10 * ax + 100 * bx + 1000 * gx) / 10) := ez_6.trans (pk_div (a := (fx + 10 * ax + 100 * bx + 1000 * gx)) (d := 10) (by omega) (by omega) (by omega))
      subst ez_6
      refine lv_bipush (v := 10) hx hb dL_raw_84 (by decide) ?_
      refine lv_irem hx hb dL_raw_86 (by decide) ?_
      refine lv_topi (fun z_7 ez_7 => ?_)
      have ez_7 : z_7 = nI ax := ez_7.trans ((pk_rem (a := ((fx + 10 * ax + 100 * bx + 1000 * gx) / 10)) (d := 10) (by omega) (by omega) (by omega)).trans (congrArg nI (show ((fx + 10 * ax + 100 * bx + 1000 * gx) / 10) % 10 = ax by omega)))
      subst ez_7
      refine lv_istore (lv' := [(9, .int (nI ax)), (8, .int ((V 0 gx) - (V 0 fx))), (7, .int (V 0 fx)), (6, .int (nI ofx)), (0, .ref (la 0)), (1, .ref (la 4)), (2, .ref (la 5)), (3, .ref (la 6)), (4, .ref (la 7)), (5, .int (nI k))]) hx hb dL_raw_87 hl (by decide) rfl (fun ls hl => ?_)
      refine lv_iload hx hb dL_raw_89 (lv_at hl 2 rfl) ?_
      refine lv_iload hx hb dL_raw_91 (lv_at hl 1 rfl) ?_
      refine lv_iload hx hb dL_raw_93 (lv_at hl 0 rfl) ?_
      refine lv_imul hx hb dL_raw_95 ?_
      refine lv_iload hx hb dL_raw_96 (lv_at hl 0 rfl) ?_
      refine lv_aload hx hb dL_raw_98 (lv_at hl 8 rfl) ?_
      refine lv_iload hx hb dL_raw_100 (lv_at hl 9 rfl) ?_
      refine hk_ild X K hL.c7 (vp_in_nI (by omega) (by omega)) dL_raw_102 ?_
      rw [show (V 7) (nI k).toNatClampNeg = nI (fx + 10 * ax + 100 * bx + 1000 * gx) from (congrArg (V 7) (nI_clamp (show k < 2 ^ 31 by omega))).trans h7]
      refine lv_bipush (v := 100) hx hb dL_raw_103 (by decide) ?_
      refine lv_idiv hx hb dL_raw_105 (by decide) ?_
      refine lv_topi (fun z_8 ez_8 => ?_)
      have ez_8 : z_8 = nI ((fx + 10 * ax + 100 * bx + 1000 * gx) / 100) := ez_8.trans (pk_div (a := (fx + 10 * ax + 100 * bx + 1000 * gx)) (d := 100) (by omega) (by omega) (by omega))
      subst ez_8
      refine lv_bipush (v := 10) hx hb dL_raw_106 (by decide) ?_
      refine lv_irem hx hb dL_raw_108 (by decide) ?_
      refine lv_topi (fun z_9 ez_9 => ?_)
      have ez_9 : z_9 = nI bx := ez_9.trans ((pk_rem (a := ((fx + 10 * ax + 100 * bx + 1000 * gx) / 100)) (d := 10) (by omega) (by omega) (by omega)).trans (congrArg nI (show ((fx + 10 * ax + 100 * bx + 1000 * gx) / 100) % 10 = bx by omega)))
      subst ez_9
      refine lv_iadd hx hb dL_raw_109 ?_
      refine lv_topi (fun z_10 ez_10 => ?_)
      have ez_10 : z_10 = nI (ax + bx) := ez_10.trans (nI_add ax bx)
      subst ez_10
      refine hk_callS 2 (As := [.int (((V 0 gx) - (V 0 fx)) * (nI ax)), .int (nI (ax + bx))]) (rest := [.int (V 0 fx)]) X K hAE hS hl.1 (c_L_down E l H0 (n := ((V 0 gx) - (V 0 fx)) * (nI ax)) (d := nI (ax + bx)) (nI_gt0 (by omega) (by omega))) (fun _ h => h.elim) gL_raw_L_down rfl hd_L_down rfl ⟨⟨(Nat.le_of_ble_eq_true rfl), (Nat.le_of_ble_eq_true rfl)⟩, (Nat.le_of_ble_eq_true rfl), (Nat.le_of_ble_eq_true rfl)⟩ rfl (Nat.le_of_ble_eq_true rfl) dL_raw_110 (fun v9 H11 locsH11 hp hS hzH11 hkH11 => ?_)
      obtain ⟨hv, hh⟩ := hp
      subst hv; subst hh
      refine lv_iadd hx hb dL_raw_113 ?_
      exact hk_iret X hr hlk hQ hS (Nat.le_of_ble_eq_true rfl) (Nat.le_of_ble_eq_true rfl) dL_raw_114 (⟨congrArg (fun v => some (Value.int v)) (raw_s (fun j hj => hV.c hj) hfx hgx h13 h17 h18 h19 h20), rfl⟩)
    · exact absurd c_19 (by decide)
  · subst g9
    have hofp : ofx < cn 8 := hsd rfl
    refine lv_aload_n hx hb dL_raw_0 rfl (lv_at hl 2 rfl) ?_
    refine lv_iload hx hb dL_raw_1 (lv_at hl 5 rfl) ?_
    refine hk_ild X K hL.c5 (vp_in_nI (by omega) (by omega)) dL_raw_3 ?_
    rw [show (V 5) (nI k).toNatClampNeg = nI (1 + 2 * stx + 8 * ofx + 64 * dx) from (congrArg (V 5) (nI_clamp (show k < 2 ^ 31 by omega))).trans h5]
    refine lv_bipush (v := 8) hx hb dL_raw_4 (by decide) ?_
    refine lv_idiv hx hb dL_raw_6 (by decide) ?_
    refine lv_topi (fun z_12 ez_12 => ?_)
    have ez_12 : z_12 = nI ((1 + 2 * stx + 8 * ofx + 64 * dx) / 8) := ez_12.trans (pk_div (a := (1 + 2 * stx + 8 * ofx + 64 * dx)) (d := 8) (by omega) (by omega) (by omega))
    subst ez_12
    refine lv_bipush (v := 8) hx hb dL_raw_7 (by decide) ?_
    refine lv_irem hx hb dL_raw_9 (by decide) ?_
    refine lv_topi (fun z_13 ez_13 => ?_)
    have ez_13 : z_13 = nI ofx := ez_13.trans ((pk_rem (a := ((1 + 2 * stx + 8 * ofx + 64 * dx) / 8)) (d := 8) (by omega) (by omega) (by omega)).trans (congrArg nI (show ((1 + 2 * stx + 8 * ofx + 64 * dx) / 8) % 8 = ofx by omega)))
    subst ez_13
    refine lv_istore (lv' := [(6, .int (nI ofx)), (0, .ref (la 0)), (1, .ref (la 4)), (2, .ref (la 5)), (3, .ref (la 6)), (4, .ref (la 7)), (5, .int (nI k))]) hx hb dL_raw_10 hl (by decide) rfl (fun ls hl => ?_)
    refine lv_aload_n hx hb dL_raw_12 rfl (lv_at hl 3 rfl) ?_
    refine lv_iload hx hb dL_raw_13 (lv_at hl 6 rfl) ?_
    refine hk_ild X K hL.c5 (vp_in_nI (by omega) (by omega)) dL_raw_15 ?_
    rw [show (V 5) (nI k).toNatClampNeg = nI (1 + 2 * stx + 8 * ofx + 64 * dx) from (congrArg (V 5) (nI_clamp (show k < 2 ^ 31 by omega))).trans h5]
    refine lv_iconst (v := 2) hx hb dL_raw_16 (by decide) ?_
    refine lv_irem hx hb dL_raw_17 (by decide) ?_
    refine lv_topi (fun z_14 ez_14 => ?_)
    have ez_14 : z_14 = nI 1 := ez_14.trans ((pk_rem (a := (1 + 2 * stx + 8 * ofx + 64 * dx)) (d := 2) (by omega) (by omega) (by omega)).trans (congrArg nI (show (1 + 2 * stx + 8 * ofx + 64 * dx) % 2 = 1 by omega)))
    subst ez_14
    refine lv_iconst (v := 1) hx hb dL_raw_18 (by decide) ?_
    refine lv_icmp_ne (tgt := 48) hx hb dL_raw_19 (by decide) (fun c_19 => ?_) (fun c_19 => ?_)
    · exact (c_19 rfl).elim
    · refine lv_aload_n hx hb dL_raw_22 rfl (lv_at hl 2 rfl) ?_
      refine lv_iconst (v := 3) hx hb dL_raw_23 (by decide) ?_
      refine lv_iload hx hb dL_raw_24 (lv_at hl 0 rfl) ?_
      refine lv_imul hx hb dL_raw_26 ?_
      refine lv_topi (fun z_15 ez_15 => ?_)
      have ez_15 : z_15 = nI (3 * ofx) := ez_15.trans (nI_mul 3 ofx)
      subst ez_15
      refine lv_iconst (v := 1) hx hb dL_raw_27 (by decide) ?_
      refine lv_iadd hx hb dL_raw_28 ?_
      refine lv_topi (fun z_16 ez_16 => ?_)
      have ez_16 : z_16 = nI ((3 * ofx) + 1) := ez_16.trans (nI_add (3 * ofx) 1)
      subst ez_16
      refine hk_ild X K hL.c4 (vp_in_nI (by omega) (by omega)) dL_raw_29 ?_
      rw [show (V 4) (nI ((3 * ofx) + 1)).toNatClampNeg = V 4 ((3 * ofx) + 1) from by rw [nI_clamp (show ((3 * ofx) + 1) < 2 ^ 31 by omega)]]
      refine lv_aload_n hx hb dL_raw_30 rfl (lv_at hl 4 rfl) ?_
      refine lv_iload hx hb dL_raw_31 (lv_at hl 6 rfl) ?_
      refine hk_ild X K hL.c6 (vp_in_nI (by omega) (by omega)) dL_raw_33 ?_
      rw [show (V 6) (nI k).toNatClampNeg = V 6 k from by rw [nI_clamp (show k < 2 ^ 31 by omega)]]
      refine lv_aload_n hx hb dL_raw_34 rfl (lv_at hl 2 rfl) ?_
      refine lv_iconst (v := 3) hx hb dL_raw_35 (by decide) ?_
      refine lv_iload hx hb dL_raw_36 (lv_at hl 0 rfl) ?_
      refine lv_imul hx hb dL_raw_38 ?_
      refine lv_topi (fun z_17 ez_17 => ?_)
      have ez_17 : z_17 = nI (3 * ofx) := ez_17.trans (nI_mul 3 ofx)
      subst ez_17
      refine lv_iconst (v := 2) hx hb dL_raw_39 (by decide) ?_
      refine lv_iadd hx hb dL_raw_40 ?_
      refine lv_topi (fun z_18 ez_18 => ?_)
      have ez_18 : z_18 = nI ((3 * ofx) + 2) := ez_18.trans (nI_add (3 * ofx) 2)
      subst ez_18
      refine hk_ild X K hL.c4 (vp_in_nI (by omega) (by omega)) dL_raw_41 ?_
      rw [show (V 4) (nI ((3 * ofx) + 2)).toNatClampNeg = V 4 ((3 * ofx) + 2) from by rw [nI_clamp (show ((3 * ofx) + 2) < 2 ^ 31 by omega)]]
      refine lv_imul hx hb dL_raw_42 ?_
      refine lv_bipush (v := 10) hx hb dL_raw_43 (by decide) ?_
      refine lv_idiv hx hb dL_raw_45 (by decide) ?_
      refine lv_isub hx hb dL_raw_46 ?_
      exact hk_iret X hr hlk hQ hS (Nat.le_of_ble_eq_true rfl) (Nat.le_of_ble_eq_true rfl) dL_raw_47 (⟨congrArg (fun v => some (Value.int v)) (raw_d hV hk hofp h13 h15), rfl⟩)

theorem hd_L_raw : yL_raw.cls ≠ "java/lang/invoke/MethodHandle" ∧ yL_raw.cls ≠ "java/lang/invoke/VarHandle" ∧ (parseMethodDescriptor yL_raw.desc).map (fun d => d.parameters.length) = some 6 := ⟨by decide, by decide, by decide +kernel⟩
abbrev rmL_light : Room := { frames := 2, cells := 0, slots := 0, locals := 51 }
set_option maxHeartbeats 4000000 in
set_option maxRecDepth 100000 in
theorem c_L_light (E : hk_E) (l : Launch) (H0 : Heap) {la : Nat → Nat} {V : Nat → Nat → Int32} (hL : LW E la V H0) {cn : Nat → Nat} {sc : Nat → Int32} {μ : Nat → Nat → Int32} (hV : LV (cn, sc, μ) V) (hI : InvF (cn, sc, μ)) {k : Nat} (hk : k < cn 12) : hk_M E l yL_light wsL_light rmL_light (fun _ => False) [.ref (la 0), .ref (la 1), .ref (la 4), .ref (la 5), .ref (la 6), .ref (la 7), .int (nI k)] H0 (fun z H1 => z = some (.int (sp_light μ k)) ∧ H0 = H1) := by
  refine hk_M.ofW (cc := cL_light) (maxL := 7) (ret := (some .int)) (by decide +kernel) rfl (Nat.le_of_ble_eq_true rfl) ?_
  intro p e s m args below meth c ls Q hQ X hr hlk hnm K hs9 hS hl
  obtain ⟨hx, hb, hml, hown, hts⟩ := id X
  have hAE : ∀ q, (fun _ => False) q → hk_A E q := fun _ h => h.elim
  have hl : lv_has ls 7 [(0, .ref (la 0)), (1, .ref (la 1)), (2, .ref (la 4)), (3, .ref (la 5)), (4, .ref (la 6)), (5, .ref (la 7)), (6, .int (nI k))] := hl
  have hn1 : cn 1 ≤ 4 := hV.n1
  have hn8 : cn 8 ≤ 3 := hV.n8
  have hn12 : cn 12 ≤ 24 := hV.n12
  have hn22 : cn 22 ≤ 4 := hV.n22
  have hn29 : cn 29 ≤ 8 := hV.n29
  obtain ⟨sx, stx, ofx, dx, hsx, hstx, hofx, hdx, h13, h14, h15, h21, h5, hsd, hss⟩ := hV.lk hk
  have hstx : stx < cn 1 := hstx
  have hsd : sx = 1 → ofx < cn 8 := hsd
  rcases (show sx = 0 ∨ sx = 1 by omega) with g9 | g9
  · subst g9
    obtain ⟨fx, ax, bx, gx, hfx, hax, hbx, hgx, habx, h17, h18, h19, h20, h7⟩ := hss rfl
    refine lv_aload_n hx hb dL_light_0 rfl (lv_at hl 0 rfl) ?_
    refine lv_aload_n hx hb dL_light_1 rfl (lv_at hl 2 rfl) ?_
    refine lv_aload_n hx hb dL_light_2 rfl (lv_at hl 3 rfl) ?_
    refine lv_aload hx hb dL_light_3 (lv_at hl 4 rfl) ?_
    refine lv_aload hx hb dL_light_5 (lv_at hl 5 rfl) ?_
    refine lv_iload hx hb dL_light_7 (lv_at hl 6 rfl) ?_
    refine hk_callS 6 (As := [.ref (la 0), .ref (la 4), .ref (la 5), .ref (la 6), .ref (la 7), .int (nI k)]) (rest := []) X K hAE hS hl.1 (c_L_raw E l H0 hL hV hI hk) (fun _ h => h.elim) gL_light_L_raw rfl hd_L_raw rfl ⟨⟨(Nat.le_of_ble_eq_true rfl), (Nat.le_of_ble_eq_true rfl)⟩, (Nat.le_of_ble_eq_true rfl), (Nat.le_of_ble_eq_true rfl)⟩ rfl (Nat.le_of_ble_eq_true rfl) dL_light_9 (fun v9 H1 locsH1 hp hS hzH1 hkH1 => ?_)
    obtain ⟨hv, hh⟩ := hp
    subst hv; subst hh
    refine lv_aload_n hx hb dL_light_12 rfl (lv_at hl 3 rfl) ?_
    refine lv_iload hx hb dL_light_13 (lv_at hl 6 rfl) ?_
    refine hk_ild X K hL.c5 (vp_in_nI (by omega) (by omega)) dL_light_15 ?_
    rw [show (V 5) (nI k).toNatClampNeg = nI (0 + 2 * stx + 8 * ofx + 64 * dx) from (congrArg (V 5) (nI_clamp (show k < 2 ^ 31 by omega))).trans h5]
    refine lv_iconst (v := 2) hx hb dL_light_16 (by decide) ?_
    refine lv_irem hx hb dL_light_17 (by decide) ?_
    refine lv_topi (fun z_2 ez_2 => ?_)
    have ez_2 : z_2 = nI 0 := ez_2.trans ((pk_rem (a := (0 + 2 * stx + 8 * ofx + 64 * dx)) (d := 2) (by omega) (by omega) (by omega)).trans (congrArg nI (show (0 + 2 * stx + 8 * ofx + 64 * dx) % 2 = 0 by omega)))
    subst ez_2
    refine lv_iconst (v := 1) hx hb dL_light_18 (by decide) ?_
    refine lv_icmp_ne (tgt := 26) hx hb dL_light_19 (by decide) (fun c_19 => ?_) (fun c_19 => ?_)
    · refine lv_aload_n hx hb dL_light_26 rfl (lv_at hl 1 rfl) ?_
      refine lv_aload_n hx hb dL_light_27 rfl (lv_at hl 3 rfl) ?_
      refine lv_iload hx hb dL_light_28 (lv_at hl 6 rfl) ?_
      refine hk_ild X K hL.c5 (vp_in_nI (by omega) (by omega)) dL_light_30 ?_
      rw [show (V 5) (nI k).toNatClampNeg = nI (0 + 2 * stx + 8 * ofx + 64 * dx) from (congrArg (V 5) (nI_clamp (show k < 2 ^ 31 by omega))).trans h5]
      refine lv_bipush (v := 8) hx hb dL_light_31 (by decide) ?_
      refine lv_idiv hx hb dL_light_33 (by decide) ?_
      refine lv_topi (fun z_3 ez_3 => ?_)
      have ez_3 : z_3 = nI ((0 + 2 * stx + 8 * ofx + 64 * dx) / 8) := ez_3.trans (pk_div (a := (0 + 2 * stx + 8 * ofx + 64 * dx)) (d := 8) (by omega) (by omega) (by omega))
      subst ez_3
      refine lv_bipush (v := 8) hx hb dL_light_34 (by decide) ?_
      refine lv_irem hx hb dL_light_36 (by decide) ?_
      refine lv_topi (fun z_4 ez_4 => ?_)
      have ez_4 : z_4 = nI ofx := ez_4.trans ((pk_rem (a := ((0 + 2 * stx + 8 * ofx + 64 * dx) / 8)) (d := 8) (by omega) (by omega) (by omega)).trans (congrArg nI (show ((0 + 2 * stx + 8 * ofx + 64 * dx) / 8) % 8 = ofx by omega)))
      subst ez_4
      refine hk_ild X K hL.c1 (vp_in_nI (by omega) (by omega)) dL_light_37 ?_
      rw [show (V 1) (nI ofx).toNatClampNeg = V 1 ofx from by rw [nI_clamp (show ofx < 2 ^ 31 by omega)]]
      refine lv_isub hx hb dL_light_38 ?_
      exact hk_iret X hr hlk hQ hS (Nat.le_of_ble_eq_true rfl) (Nat.le_of_ble_eq_true rfl) dL_light_39 (⟨congrArg (fun v => some (Value.int v)) (light_s h13 h15 hofx (hV.b hofx)), rfl⟩)
    · exact absurd c_19 (by decide)
  · subst g9
    have hofp : ofx < cn 8 := hsd rfl
    refine lv_aload_n hx hb dL_light_0 rfl (lv_at hl 0 rfl) ?_
    refine lv_aload_n hx hb dL_light_1 rfl (lv_at hl 2 rfl) ?_
    refine lv_aload_n hx hb dL_light_2 rfl (lv_at hl 3 rfl) ?_
    refine lv_aload hx hb dL_light_3 (lv_at hl 4 rfl) ?_
    refine lv_aload hx hb dL_light_5 (lv_at hl 5 rfl) ?_
    refine lv_iload hx hb dL_light_7 (lv_at hl 6 rfl) ?_
    refine hk_callS 6 (As := [.ref (la 0), .ref (la 4), .ref (la 5), .ref (la 6), .ref (la 7), .int (nI k)]) (rest := []) X K hAE hS hl.1 (c_L_raw E l H0 hL hV hI hk) (fun _ h => h.elim) gL_light_L_raw rfl hd_L_raw rfl ⟨⟨(Nat.le_of_ble_eq_true rfl), (Nat.le_of_ble_eq_true rfl)⟩, (Nat.le_of_ble_eq_true rfl), (Nat.le_of_ble_eq_true rfl)⟩ rfl (Nat.le_of_ble_eq_true rfl) dL_light_9 (fun v9 H5 locsH5 hp hS hzH5 hkH5 => ?_)
    obtain ⟨hv, hh⟩ := hp
    subst hv; subst hh
    refine lv_aload_n hx hb dL_light_12 rfl (lv_at hl 3 rfl) ?_
    refine lv_iload hx hb dL_light_13 (lv_at hl 6 rfl) ?_
    refine hk_ild X K hL.c5 (vp_in_nI (by omega) (by omega)) dL_light_15 ?_
    rw [show (V 5) (nI k).toNatClampNeg = nI (1 + 2 * stx + 8 * ofx + 64 * dx) from (congrArg (V 5) (nI_clamp (show k < 2 ^ 31 by omega))).trans h5]
    refine lv_iconst (v := 2) hx hb dL_light_16 (by decide) ?_
    refine lv_irem hx hb dL_light_17 (by decide) ?_
    refine lv_topi (fun z_6 ez_6 => ?_)
    have ez_6 : z_6 = nI 1 := ez_6.trans ((pk_rem (a := (1 + 2 * stx + 8 * ofx + 64 * dx)) (d := 2) (by omega) (by omega) (by omega)).trans (congrArg nI (show (1 + 2 * stx + 8 * ofx + 64 * dx) % 2 = 1 by omega)))
    subst ez_6
    refine lv_iconst (v := 1) hx hb dL_light_18 (by decide) ?_
    refine lv_icmp_ne (tgt := 26) hx hb dL_light_19 (by decide) (fun c_19 => ?_) (fun c_19 => ?_)
    · exact (c_19 rfl).elim
    · refine lv_iconst (v := 0) hx hb dL_light_22 (by decide) ?_
      refine lv_goto (tgt := 38) hx hb dL_light_23 (by decide) ?_
      refine lv_isub hx hb dL_light_38 ?_
      exact hk_iret X hr hlk hQ hS (Nat.le_of_ble_eq_true rfl) (Nat.le_of_ble_eq_true rfl) dL_light_39 (⟨congrArg (fun v => some (Value.int v)) (light_d h13), rfl⟩)

theorem hd_L_late : yL_late.cls ≠ "java/lang/invoke/MethodHandle" ∧ yL_late.cls ≠ "java/lang/invoke/VarHandle" ∧ (parseMethodDescriptor yL_late.desc).map (fun d => d.parameters.length) = some 2 := ⟨by decide, by decide, by decide +kernel⟩
abbrev rmL_time : Room := { frames := 1, cells := 0, slots := 0, locals := 22 }
set_option maxHeartbeats 4000000 in
set_option maxRecDepth 100000 in
theorem c_L_time (E : hk_E) (l : Launch) (H0 : Heap) {la : Nat → Nat} {V : Nat → Nat → Int32} (hL : LW E la V H0) {cn : Nat → Nat} {sc : Nat → Int32} {μ : Nat → Nat → Int32} (hV : LV (cn, sc, μ) V) (hI : InvF (cn, sc, μ)) {k : Nat} (hk : k < cn 12) : hk_M E l yL_time wsL_time rmL_time (fun _ => False) [.ref (la 2), .ref (la 3), .ref (la 4), .ref (la 5), .ref (la 6), .int (nI k)] H0 (fun z H1 => z = some (.int (sp_time μ k)) ∧ H0 = H1) := by
  refine hk_M.ofW (cc := cL_time) (maxL := 8) (ret := (some .int)) (by decide +kernel) rfl (Nat.le_of_ble_eq_true rfl) ?_
  intro p e s m args below meth c ls Q hQ X hr hlk hnm K hs9 hS hl
  obtain ⟨hx, hb, hml, hown, hts⟩ := id X
  have hAE : ∀ q, (fun _ => False) q → hk_A E q := fun _ h => h.elim
  have hl : lv_has ls 8 [(0, .ref (la 2)), (1, .ref (la 3)), (2, .ref (la 4)), (3, .ref (la 5)), (4, .ref (la 6)), (5, .int (nI k))] := hl
  have hn1 : cn 1 ≤ 4 := hV.n1
  have hn8 : cn 8 ≤ 3 := hV.n8
  have hn12 : cn 12 ≤ 24 := hV.n12
  have hn22 : cn 22 ≤ 4 := hV.n22
  have hn29 : cn 29 ≤ 8 := hV.n29
  obtain ⟨sx, stx, ofx, dx, hsx, hstx, hofx, hdx, h13, h14, h15, h21, h5, hsd, hss⟩ := hV.lk hk
  have hstx : stx < cn 1 := hstx
  have hsd : sx = 1 → ofx < cn 8 := hsd
  rcases (show sx = 0 ∨ sx = 1 by omega) with g9 | g9
  · subst g9
    obtain ⟨fx, ax, bx, gx, hfx, hax, hbx, hgx, habx, h17, h18, h19, h20, h7⟩ := hss rfl
    refine lv_aload_n hx hb dL_time_0 rfl (lv_at hl 3 rfl) ?_
    refine lv_iload hx hb dL_time_1 (lv_at hl 5 rfl) ?_
    refine hk_ild X K hL.c5 (vp_in_nI (by omega) (by omega)) dL_time_3 ?_
    rw [show (V 5) (nI k).toNatClampNeg = nI (0 + 2 * stx + 8 * ofx + 64 * dx) from (congrArg (V 5) (nI_clamp (show k < 2 ^ 31 by omega))).trans h5]
    refine lv_bipush (v := 8) hx hb dL_time_4 (by decide) ?_
    refine lv_idiv hx hb dL_time_6 (by decide) ?_
    refine lv_topi (fun z_1 ez_1 => ?_)
    have ez_1 : z_1 = nI ((0 + 2 * stx + 8 * ofx + 64 * dx) / 8) := ez_1.trans (pk_div (a := (0 + 2 * stx + 8 * ofx + 64 * dx)) (d := 8) (by omega) (by omega) (by omega))
    subst ez_1
    refine lv_bipush (v := 8) hx hb dL_time_7 (by decide) ?_
    refine lv_irem hx hb dL_time_9 (by decide) ?_
    refine lv_topi (fun z_2 ez_2 => ?_)
    have ez_2 : z_2 = nI ofx := ez_2.trans ((pk_rem (a := ((0 + 2 * stx + 8 * ofx + 64 * dx) / 8)) (d := 8) (by omega) (by omega) (by omega)).trans (congrArg nI (show ((0 + 2 * stx + 8 * ofx + 64 * dx) / 8) % 8 = ofx by omega)))
    subst ez_2
    refine lv_istore (lv' := [(6, .int (nI ofx)), (0, .ref (la 2)), (1, .ref (la 3)), (2, .ref (la 4)), (3, .ref (la 5)), (4, .ref (la 6)), (5, .int (nI k))]) hx hb dL_time_10 hl (by decide) rfl (fun ls hl => ?_)
    refine lv_aload_n hx hb dL_time_12 rfl (lv_at hl 4 rfl) ?_
    refine lv_iload hx hb dL_time_13 (lv_at hl 6 rfl) ?_
    refine hk_ild X K hL.c5 (vp_in_nI (by omega) (by omega)) dL_time_15 ?_
    rw [show (V 5) (nI k).toNatClampNeg = nI (0 + 2 * stx + 8 * ofx + 64 * dx) from (congrArg (V 5) (nI_clamp (show k < 2 ^ 31 by omega))).trans h5]
    refine lv_iconst (v := 2) hx hb dL_time_16 (by decide) ?_
    refine lv_irem hx hb dL_time_17 (by decide) ?_
    refine lv_topi (fun z_3 ez_3 => ?_)
    have ez_3 : z_3 = nI 0 := ez_3.trans ((pk_rem (a := (0 + 2 * stx + 8 * ofx + 64 * dx)) (d := 2) (by omega) (by omega) (by omega)).trans (congrArg nI (show (0 + 2 * stx + 8 * ofx + 64 * dx) % 2 = 0 by omega)))
    subst ez_3
    refine lv_iconst (v := 1) hx hb dL_time_18 (by decide) ?_
    refine lv_icmp_ne (tgt := 31) hx hb dL_time_19 (by decide) (fun c_19 => ?_) (fun c_19 => ?_)
    · refine lv_aload hx hb dL_time_31 (lv_at hl 5 rfl) ?_
      refine lv_iload hx hb dL_time_33 (lv_at hl 6 rfl) ?_
      refine hk_ild X K hL.c6 (vp_in_nI (by omega) (by omega)) dL_time_35 ?_
      rw [show (V 6) (nI k).toNatClampNeg = V 6 k from by rw [nI_clamp (show k < 2 ^ 31 by omega)]]
      refine lv_istore (lv' := [(7, .int (V 6 k)), (6, .int (nI ofx)), (0, .ref (la 2)), (1, .ref (la 3)), (2, .ref (la 4)), (3, .ref (la 5)), (4, .ref (la 6)), (5, .int (nI k))]) hx hb dL_time_36 hl (by decide) rfl (fun ls hl => ?_)
      refine lv_iload hx hb dL_time_38 (lv_at hl 0 rfl) ?_
      refine lv_iload hx hb dL_time_40 (lv_at hl 0 rfl) ?_
      refine lv_aload_n hx hb dL_time_42 rfl (lv_at hl 3 rfl) ?_
      refine lv_iconst (v := 4) hx hb dL_time_43 (by decide) ?_
      refine lv_aload_n hx hb dL_time_44 rfl (lv_at hl 5 rfl) ?_
      refine lv_iload hx hb dL_time_45 (lv_at hl 7 rfl) ?_
      refine hk_ild X K hL.c5 (vp_in_nI (by omega) (by omega)) dL_time_47 ?_
      rw [show (V 5) (nI k).toNatClampNeg = nI (0 + 2 * stx + 8 * ofx + 64 * dx) from (congrArg (V 5) (nI_clamp (show k < 2 ^ 31 by omega))).trans h5]
      refine lv_iconst (v := 2) hx hb dL_time_48 (by decide) ?_
      refine lv_idiv hx hb dL_time_49 (by decide) ?_
      refine lv_topi (fun z_4 ez_4 => ?_)
      have ez_4 : z_4 = nI ((0 + 2 * stx + 8 * ofx + 64 * dx) / 2) := ez_4.trans (pk_div (a := (0 + 2 * stx + 8 * ofx + 64 * dx)) (d := 2) (by omega) (by omega) (by omega))
      subst ez_4
      refine lv_iconst (v := 4) hx hb dL_time_50 (by decide) ?_
      refine lv_irem hx hb dL_time_51 (by decide) ?_
      refine lv_topi (fun z_5 ez_5 => ?_)
      have ez_5 : z_5 = nI stx := ez_5.trans ((pk_rem (a := ((0 + 2 * stx + 8 * ofx + 64 * dx) / 2)) (d := 4) (by omega) (by omega) (by omega)).trans (congrArg nI (show ((0 + 2 * stx + 8 * ofx + 64 * dx) / 2) % 4 = stx by omega)))
      subst ez_5
      refine lv_imul hx hb dL_time_52 ?_
      refine lv_topi (fun z_6 ez_6 => ?_)
      have ez_6 : z_6 = nI (4 * stx) := ez_6.trans (nI_mul 4 stx)
      subst ez_6
      refine hk_ild X K hL.c3 (vp_in_nI (by omega) (by omega)) dL_time_53 ?_
      rw [show (V 3) (nI (4 * stx)).toNatClampNeg = V 3 (4 * stx) from by rw [nI_clamp (show (4 * stx) < 2 ^ 31 by omega)]]
      refine hk_callS 2 (As := [.int (V 6 k), .int (V 3 (4 * stx))]) (rest := [.int (V 6 k)]) X K hAE hS hl.1 (c_L_late E l H0 (V 6 k) (V 3 (4 * stx))) (fun _ h => h.elim) gL_time_L_late rfl hd_L_late rfl ⟨⟨(Nat.le_of_ble_eq_true rfl), (Nat.le_of_ble_eq_true rfl)⟩, (Nat.le_of_ble_eq_true rfl), (Nat.le_of_ble_eq_true rfl)⟩ rfl (Nat.le_of_ble_eq_true rfl) dL_time_54 (fun v9 H7 locsH7 hp hS hzH7 hkH7 => ?_)
      obtain ⟨hv, hh⟩ := hp
      subst hv; subst hh
      refine lv_iadd hx hb dL_time_57 ?_
      refine lv_aload_n hx hb dL_time_58 rfl (lv_at hl 5 rfl) ?_
      refine lv_iload hx hb dL_time_59 (lv_at hl 7 rfl) ?_
      refine hk_ild X K hL.c5 (vp_in_nI (by omega) (by omega)) dL_time_61 ?_
      rw [show (V 5) (nI k).toNatClampNeg = nI (0 + 2 * stx + 8 * ofx + 64 * dx) from (congrArg (V 5) (nI_clamp (show k < 2 ^ 31 by omega))).trans h5]
      refine lv_iconst (v := 2) hx hb dL_time_62 (by decide) ?_
      refine lv_irem hx hb dL_time_63 (by decide) ?_
      refine lv_topi (fun z_8 ez_8 => ?_)
      have ez_8 : z_8 = nI 0 := ez_8.trans ((pk_rem (a := (0 + 2 * stx + 8 * ofx + 64 * dx)) (d := 2) (by omega) (by omega) (by omega)).trans (congrArg nI (show (0 + 2 * stx + 8 * ofx + 64 * dx) % 2 = 0 by omega)))
      subst ez_8
      refine lv_iconst (v := 1) hx hb dL_time_64 (by decide) ?_
      refine lv_icmp_ne (tgt := 72) hx hb dL_time_65 (by decide) (fun c_65 => ?_) (fun c_65 => ?_)
      · refine lv_aload_n hx hb dL_time_72 rfl (lv_at hl 2 rfl) ?_
        refine lv_iload hx hb dL_time_73 (lv_at hl 1 rfl) ?_
        refine hk_ild X K hL.c2 (vp_in_nI (by omega) (by omega)) dL_time_75 ?_
        rw [show (V 2) (nI ofx).toNatClampNeg = V 2 ofx from by rw [nI_clamp (show ofx < 2 ^ 31 by omega)]]
        refine lv_isub hx hb dL_time_76 ?_
        exact hk_iret X hr hlk hQ hS (Nat.le_of_ble_eq_true rfl) (Nat.le_of_ble_eq_true rfl) dL_time_77 (⟨congrArg (fun v => some (Value.int v)) (time_s hV hI.1 hk hstx hofx h13 h14 h15), rfl⟩)
      · exact absurd c_65 (by decide)
    · exact absurd c_19 (by decide)
  · subst g9
    have hofp : ofx < cn 8 := hsd rfl
    refine lv_aload_n hx hb dL_time_0 rfl (lv_at hl 3 rfl) ?_
    refine lv_iload hx hb dL_time_1 (lv_at hl 5 rfl) ?_
    refine hk_ild X K hL.c5 (vp_in_nI (by omega) (by omega)) dL_time_3 ?_
    rw [show (V 5) (nI k).toNatClampNeg = nI (1 + 2 * stx + 8 * ofx + 64 * dx) from (congrArg (V 5) (nI_clamp (show k < 2 ^ 31 by omega))).trans h5]
    refine lv_bipush (v := 8) hx hb dL_time_4 (by decide) ?_
    refine lv_idiv hx hb dL_time_6 (by decide) ?_
    refine lv_topi (fun z_9 ez_9 => ?_)
    have ez_9 : z_9 = nI ((1 + 2 * stx + 8 * ofx + 64 * dx) / 8) := ez_9.trans (pk_div (a := (1 + 2 * stx + 8 * ofx + 64 * dx)) (d := 8) (by omega) (by omega) (by omega))
    subst ez_9
    refine lv_bipush (v := 8) hx hb dL_time_7 (by decide) ?_
    refine lv_irem hx hb dL_time_9 (by decide) ?_
    refine lv_topi (fun z_10 ez_10 => ?_)
    have ez_10 : z_10 = nI ofx := ez_10.trans ((pk_rem (a := ((1 + 2 * stx + 8 * ofx + 64 * dx) / 8)) (d := 8) (by omega) (by omega) (by omega)).trans (congrArg nI (show ((1 + 2 * stx + 8 * ofx + 64 * dx) / 8) % 8 = ofx by omega)))
    subst ez_10
    refine lv_istore (lv' := [(6, .int (nI ofx)), (0, .ref (la 2)), (1, .ref (la 3)), (2, .ref (la 4)), (3, .ref (la 5)), (4, .ref (la 6)), (5, .int (nI k))]) hx hb dL_time_10 hl (by decide) rfl (fun ls hl => ?_)
    refine lv_aload_n hx hb dL_time_12 rfl (lv_at hl 4 rfl) ?_
    refine lv_iload hx hb dL_time_13 (lv_at hl 6 rfl) ?_
    refine hk_ild X K hL.c5 (vp_in_nI (by omega) (by omega)) dL_time_15 ?_
    rw [show (V 5) (nI k).toNatClampNeg = nI (1 + 2 * stx + 8 * ofx + 64 * dx) from (congrArg (V 5) (nI_clamp (show k < 2 ^ 31 by omega))).trans h5]
    refine lv_iconst (v := 2) hx hb dL_time_16 (by decide) ?_
    refine lv_irem hx hb dL_time_17 (by decide) ?_
    refine lv_topi (fun z_11 ez_11 => ?_)
    have ez_11 : z_11 = nI 1 := ez_11.trans ((pk_rem (a := (1 + 2 * stx + 8 * ofx + 64 * dx)) (d := 2) (by omega) (by omega) (by omega)).trans (congrArg nI (show (1 + 2 * stx + 8 * ofx + 64 * dx) % 2 = 1 by omega)))
    subst ez_11
    refine lv_iconst (v := 1) hx hb dL_time_18 (by decide) ?_
    refine lv_icmp_ne (tgt := 31) hx hb dL_time_19 (by decide) (fun c_19 => ?_) (fun c_19 => ?_)
    · exact (c_19 rfl).elim
    · refine lv_aload_n hx hb dL_time_22 rfl (lv_at hl 3 rfl) ?_
      refine lv_iconst (v := 3) hx hb dL_time_23 (by decide) ?_
      refine lv_iload hx hb dL_time_24 (lv_at hl 0 rfl) ?_
      refine lv_imul hx hb dL_time_26 ?_
      refine lv_topi (fun z_12 ez_12 => ?_)
      have ez_12 : z_12 = nI (3 * ofx) := ez_12.trans (nI_mul 3 ofx)
      subst ez_12
      refine hk_ild X K hL.c4 (vp_in_nI (by omega) (by omega)) dL_time_27 ?_
      rw [show (V 4) (nI (3 * ofx)).toNatClampNeg = V 4 (3 * ofx) from by rw [nI_clamp (show (3 * ofx) < 2 ^ 31 by omega)]]
      refine lv_goto (tgt := 36) hx hb dL_time_28 (by decide) ?_
      refine lv_istore (lv' := [(7, .int (V 4 (3 * ofx))), (6, .int (nI ofx)), (0, .ref (la 2)), (1, .ref (la 3)), (2, .ref (la 4)), (3, .ref (la 5)), (4, .ref (la 6)), (5, .int (nI k))]) hx hb dL_time_36 hl (by decide) rfl (fun ls hl => ?_)
      refine lv_iload hx hb dL_time_38 (lv_at hl 0 rfl) ?_
      refine lv_iload hx hb dL_time_40 (lv_at hl 0 rfl) ?_
      refine lv_aload_n hx hb dL_time_42 rfl (lv_at hl 3 rfl) ?_
      refine lv_iconst (v := 4) hx hb dL_time_43 (by decide) ?_
      refine lv_aload_n hx hb dL_time_44 rfl (lv_at hl 5 rfl) ?_
      refine lv_iload hx hb dL_time_45 (lv_at hl 7 rfl) ?_
      refine hk_ild X K hL.c5 (vp_in_nI (by omega) (by omega)) dL_time_47 ?_
      rw [show (V 5) (nI k).toNatClampNeg = nI (1 + 2 * stx + 8 * ofx + 64 * dx) from (congrArg (V 5) (nI_clamp (show k < 2 ^ 31 by omega))).trans h5]
      refine lv_iconst (v := 2) hx hb dL_time_48 (by decide) ?_
      refine lv_idiv hx hb dL_time_49 (by decide) ?_
      refine lv_topi (fun z_13 ez_13 => ?_)
      have ez_13 : z_13 = nI ((1 + 2 * stx + 8 * ofx + 64 * dx) / 2) := ez_13.trans (pk_div (a := (1 + 2 * stx + 8 * ofx + 64 * dx)) (d := 2) (by omega) (by omega) (by omega))
      subst ez_13
      refine lv_iconst (v := 4) hx hb dL_time_50 (by decide) ?_
      refine lv_irem hx hb dL_time_51 (by decide) ?_
      refine lv_topi (fun z_14 ez_14 => ?_)
      have ez_14 : z_14 = nI stx := ez_14.trans ((pk_rem (a := ((1 + 2 * stx + 8 * ofx + 64 * dx) / 2)) (d := 4) (by omega) (by omega) (by omega)).trans (congrArg nI (show ((1 + 2 * stx + 8 * ofx + 64 * dx) / 2) % 4 = stx by omega)))
      subst ez_14
      refine lv_imul hx hb dL_time_52 ?_
      refine lv_topi (fun z_15 ez_15 => ?_)
      have ez_15 : z_15 = nI (4 * stx) := ez_15.trans (nI_mul 4 stx)
      subst ez_15
      refine hk_ild X K hL.c3 (vp_in_nI (by omega) (by omega)) dL_time_53 ?_
      rw [show (V 3) (nI (4 * stx)).toNatClampNeg = V 3 (4 * stx) from by rw [nI_clamp (show (4 * stx) < 2 ^ 31 by omega)]]
      refine hk_callS 2 (As := [.int (V 4 (3 * ofx)), .int (V 3 (4 * stx))]) (rest := [.int (V 4 (3 * ofx))]) X K hAE hS hl.1 (c_L_late E l H0 (V 4 (3 * ofx)) (V 3 (4 * stx))) (fun _ h => h.elim) gL_time_L_late rfl hd_L_late rfl ⟨⟨(Nat.le_of_ble_eq_true rfl), (Nat.le_of_ble_eq_true rfl)⟩, (Nat.le_of_ble_eq_true rfl), (Nat.le_of_ble_eq_true rfl)⟩ rfl (Nat.le_of_ble_eq_true rfl) dL_time_54 (fun v9 H16 locsH16 hp hS hzH16 hkH16 => ?_)
      obtain ⟨hv, hh⟩ := hp
      subst hv; subst hh
      refine lv_iadd hx hb dL_time_57 ?_
      refine lv_aload_n hx hb dL_time_58 rfl (lv_at hl 5 rfl) ?_
      refine lv_iload hx hb dL_time_59 (lv_at hl 7 rfl) ?_
      refine hk_ild X K hL.c5 (vp_in_nI (by omega) (by omega)) dL_time_61 ?_
      rw [show (V 5) (nI k).toNatClampNeg = nI (1 + 2 * stx + 8 * ofx + 64 * dx) from (congrArg (V 5) (nI_clamp (show k < 2 ^ 31 by omega))).trans h5]
      refine lv_iconst (v := 2) hx hb dL_time_62 (by decide) ?_
      refine lv_irem hx hb dL_time_63 (by decide) ?_
      refine lv_topi (fun z_17 ez_17 => ?_)
      have ez_17 : z_17 = nI 1 := ez_17.trans ((pk_rem (a := (1 + 2 * stx + 8 * ofx + 64 * dx)) (d := 2) (by omega) (by omega) (by omega)).trans (congrArg nI (show (1 + 2 * stx + 8 * ofx + 64 * dx) % 2 = 1 by omega)))
      subst ez_17
      refine lv_iconst (v := 1) hx hb dL_time_64 (by decide) ?_
      refine lv_icmp_ne (tgt := 72) hx hb dL_time_65 (by decide) (fun c_65 => ?_) (fun c_65 => ?_)
      · exact (c_65 rfl).elim
      · refine lv_iconst (v := 0) hx hb dL_time_68 (by decide) ?_
        refine lv_goto (tgt := 76) hx hb dL_time_69 (by decide) ?_
        refine lv_isub hx hb dL_time_76 ?_
        exact hk_iret X hr hlk hQ hS (Nat.le_of_ble_eq_true rfl) (Nat.le_of_ble_eq_true rfl) dL_time_77 (⟨congrArg (fun v => some (Value.int v)) (time_d hV hI.1 hk hstx hofp h13 h14 h15), rfl⟩)

theorem bit_y {m j : Nat} {bt : Int32} (h : bt = if m.testBit j = true then (1 : Int32) else 0) (c : ¬ bt = 0) : m.testBit j = true := by
  by_cases g : m.testBit j = true
  · exact g
  · rw [if_neg g] at h; exact absurd h c
theorem bit_n {m j : Nat} {bt : Int32} (h : bt = if m.testBit j = true then (1 : Int32) else 0) (c : bt = 0) : ¬ m.testBit j = true := by
  intro g
  rw [if_pos g, c] at h
  exact absurd h (by decide)
theorem bit_y1 {m j : Nat} {bt : Int32} (h : bt = if m.testBit j = true then (1 : Int32) else 0) (c : bt = 1) : m.testBit j = true := bit_y h (by rw [c]; decide)
theorem bit_n1 {m j : Nat} {bt : Int32} (h : bt = if m.testBit j = true then (1 : Int32) else 0) (c : ¬ bt = 1) : ¬ m.testBit j = true := fun g => c (by rw [h, if_pos g])
abbrev rmL_isOf : Room := { frames := 0, cells := 0, slots := 0, locals := 0 }
set_option maxHeartbeats 4000000 in
set_option maxRecDepth 100000 in
theorem c_L_isOf (E : hk_E) (l : Launch) (H0 : Heap) {la : Nat → Nat} {V : Nat → Nat → Int32} (hL : LW E la V H0) {cn : Nat → Nat} {sc : Nat → Int32} {μ : Nat → Nat → Int32} (hV : LV (cn, sc, μ) V) (hI : InvF (cn, sc, μ)) {ms : Nat} {e1 e2 : Int32} (hm : mskR (cn 1) (μ 3) ms e1 e2) {k : Nat} (hk : k < cn 12) : hk_M E l yL_isOf wsL_isOf rmL_isOf (fun _ => False) [.ref (la 5), .int (nI ms), .int (nI k)] H0 (fun z H1 => ((z = some (.int 1) ∧ (selp μ e1 e2 k)) ∨ (z = some (.int 0) ∧ ¬ (selp μ e1 e2 k))) ∧ H0 = H1) := by
  refine hk_M.ofW (cc := cL_isOf) (maxL := 3) (ret := (some .boolean)) (by decide +kernel) rfl (Nat.le_of_ble_eq_true rfl) ?_
  intro p e s m args below meth c ls Q hQ X hr hlk hnm K hs9 hS hl
  obtain ⟨hx, hb, hml, hown, hts⟩ := id X
  have hAE : ∀ q, (fun _ => False) q → hk_A E q := fun _ h => h.elim
  have hl : lv_has ls 3 [(0, .ref (la 5)), (1, .int (nI ms)), (2, .int (nI k))] := hl
  have hn1 : cn 1 ≤ 4 := hV.n1
  have hn8 : cn 8 ≤ 3 := hV.n8
  have hn12 : cn 12 ≤ 24 := hV.n12
  have hn22 : cn 22 ≤ 4 := hV.n22
  have hn29 : cn 29 ≤ 8 := hV.n29
  obtain ⟨sx, stx, ofx, dx, hsx, hstx, hofx, hdx, h13, h14, h15, h21, h5, hsd, hss⟩ := hV.lk hk
  have hstx : stx < cn 1 := hstx
  have hsd : sx = 1 → ofx < cn 8 := hsd
  have hms : ms < 16 := hm.1
  refine lv_aload_n hx hb dL_isOf_0 rfl (lv_at hl 0 rfl) ?_
  refine lv_iload_n hx hb dL_isOf_1 rfl (lv_at hl 2 rfl) ?_
  refine hk_ild X K hL.c5 (vp_in_nI (by omega) (by omega)) dL_isOf_2 ?_
  rw [show (V 5) (nI k).toNatClampNeg = nI (sx + 2 * stx + 8 * ofx + 64 * dx) from (congrArg (V 5) (nI_clamp (show k < 2 ^ 31 by omega))).trans h5]
  refine lv_bipush (v := 64) hx hb dL_isOf_3 (by decide) ?_
  refine lv_icmp_ge (tgt := 27) hx hb dL_isOf_5 (by decide) (fun c_5 => ?_) (fun c_5 => ?_)
  · refine lv_iconst (v := 0) hx hb dL_isOf_27 (by decide) ?_
    exact hk_zret X hr hlk hQ hS (Nat.le_of_ble_eq_true rfl) (Nat.le_of_ble_eq_true rfl) dL_isOf_28 (by decide) (⟨Or.inr ⟨rfl, io_d hsx (show stx < 4 by omega) hofx hdx h21 c_5⟩, rfl⟩)
  · refine lv_iload_n hx hb dL_isOf_8 rfl (lv_at hl 1 rfl) ?_
    refine lv_aload_n hx hb dL_isOf_9 rfl (lv_at hl 0 rfl) ?_
    refine lv_iload_n hx hb dL_isOf_10 rfl (lv_at hl 2 rfl) ?_
    refine hk_ild X K hL.c5 (vp_in_nI (by omega) (by omega)) dL_isOf_11 ?_
    rw [show (V 5) (nI k).toNatClampNeg = nI (sx + 2 * stx + 8 * ofx + 64 * dx) from (congrArg (V 5) (nI_clamp (show k < 2 ^ 31 by omega))).trans h5]
    refine lv_iconst (v := 2) hx hb dL_isOf_12 (by decide) ?_
    refine lv_idiv hx hb dL_isOf_13 (by decide) ?_
    refine lv_topi (fun z_1 ez_1 => ?_)
    have ez_1 : z_1 = nI ((sx + 2 * stx + 8 * ofx + 64 * dx) / 2) := ez_1.trans (pk_div (a := (sx + 2 * stx + 8 * ofx + 64 * dx)) (d := 2) (by omega) (by omega) (by omega))
    subst ez_1
    refine lv_iconst (v := 4) hx hb dL_isOf_14 (by decide) ?_
    refine lv_irem hx hb dL_isOf_15 (by decide) ?_
    refine lv_topi (fun z_2 ez_2 => ?_)
    have ez_2 : z_2 = nI stx := ez_2.trans ((pk_rem (a := ((sx + 2 * stx + 8 * ofx + 64 * dx) / 2)) (d := 4) (by omega) (by omega) (by omega)).trans (congrArg nI (show ((sx + 2 * stx + 8 * ofx + 64 * dx) / 2) % 4 = stx by omega)))
    subst ez_2
    refine lv_ishr hx hb dL_isOf_16 ?_
    refine lv_iconst (v := 1) hx hb dL_isOf_17 (by decide) ?_
    refine lv_iand hx hb dL_isOf_18 ?_
    refine lv_topi (fun bt ebt => ?_)
    rw [l_bit ms hms stx (by omega)] at ebt
    refine lv_iconst (v := 1) hx hb dL_isOf_19 (by decide) ?_
    refine lv_icmp_ne (tgt := 27) hx hb dL_isOf_20 (by decide) (fun c_20 => ?_) (fun c_20 => ?_)
    · refine lv_iconst (v := 0) hx hb dL_isOf_27 (by decide) ?_
      exact hk_zret X hr hlk hQ hS (Nat.le_of_ble_eq_true rfl) (Nat.le_of_ble_eq_true rfl) dL_isOf_28 (by decide) (⟨Or.inr ⟨rfl, fun g8 => bit_n1 ebt c_20 ((io_u hsx hstx hn1 hofx hdx h21 h14 hm c_5).mpr g8)⟩, rfl⟩)
    · refine lv_iconst (v := 1) hx hb dL_isOf_23 (by decide) ?_
      refine lv_goto (tgt := 28) hx hb dL_isOf_24 (by decide) ?_
      exact hk_zret X hr hlk hQ hS (Nat.le_of_ble_eq_true rfl) (Nat.le_of_ble_eq_true rfl) dL_isOf_28 (by decide) (⟨Or.inl ⟨rfl, (io_u hsx hstx hn1 hofx hdx h21 h14 hm c_5).mp (bit_y1 ebt c_20)⟩, rfl⟩)

theorem many_y {μ : Nat → Nat → Int32} {e1 e2 : Int32} {j : Nat} (h : selp μ e1 e2 j) : nI (sp_sel μ e1 e2 j).length + 1 = nI (sp_sel μ e1 e2 (j + 1)).length := by
  rw [sel_yes h rfl, List.length_append, nI_1]; rfl
theorem many_n {μ : Nat → Nat → Int32} {e1 e2 : Int32} {j : Nat} (h : ¬ selp μ e1 e2 j) : nI (sp_sel μ e1 e2 j).length + 0 = nI (sp_sel μ e1 e2 (j + 1)).length := by
  rw [sel_no h, Int32.add_zero]
theorem hd_L_isOf : yL_isOf.cls ≠ "java/lang/invoke/MethodHandle" ∧ yL_isOf.cls ≠ "java/lang/invoke/VarHandle" ∧ (parseMethodDescriptor yL_isOf.desc).map (fun d => d.parameters.length) = some 3 := ⟨by decide, by decide, by decide +kernel⟩
abbrev rmL_many : Room := { frames := 1, cells := 0, slots := 0, locals := 22 }
set_option maxHeartbeats 4000000 in
set_option maxRecDepth 100000 in
theorem c_L_many (E : hk_E) (l : Launch) (H0 : Heap) {la : Nat → Nat} {V : Nat → Nat → Int32} (hL : LW E la V H0) {cn : Nat → Nat} {sc : Nat → Int32} {μ : Nat → Nat → Int32} (hV : LV (cn, sc, μ) V) (hI : InvF (cn, sc, μ)) {ms : Nat} {e1 e2 : Int32} (hm : mskR (cn 1) (μ 3) ms e1 e2) : hk_M E l yL_many wsL_many rmL_many (fun _ => False) [.ref (la 5), .ref (la 10), .int (nI ms)] H0 (fun z H1 => z = some (.int (nI (sp_sel μ e1 e2 (cn 12)).length)) ∧ H0 = H1) := by
  refine hk_M.ofW (cc := cL_many) (maxL := 5) (ret := (some .int)) (by decide +kernel) rfl (Nat.le_of_ble_eq_true rfl) ?_
  intro p e s m args below meth c ls Q hQ X hr hlk hnm K hs9 hS hl
  obtain ⟨hx, hb, hml, hown, hts⟩ := id X
  have hAE : ∀ q, (fun _ => False) q → hk_A E q := fun _ h => h.elim
  have hl : lv_has ls 5 [(0, .ref (la 5)), (1, .ref (la 10)), (2, .int (nI ms))] := hl
  have hn1 : cn 1 ≤ 4 := hV.n1
  have hn8 : cn 8 ≤ 3 := hV.n8
  have hn12 : cn 12 ≤ 24 := hV.n12
  have hn22 : cn 22 ≤ 4 := hV.n22
  have hn29 : cn 29 ≤ 8 := hV.n29
  refine lv_iconst (v := 0) hx hb dL_many_0 (by decide) ?_
  refine lv_istore_n (lv' := [(3, .int 0), (0, .ref (la 5)), (1, .ref (la 10)), (2, .int (nI ms))]) hx hb dL_many_1 rfl hl (by decide) rfl (fun ls hl => ?_)
  refine lv_iconst (v := 0) hx hb dL_many_2 (by decide) ?_
  refine lv_istore (lv' := [(4, .int 0), (3, .int 0), (0, .ref (la 5)), (1, .ref (la 10)), (2, .int (nI ms))]) hx hb dL_many_3 hl (by decide) rfl (fun ls hl => ?_)
  have L5 : ∀ (n9 : Nat) (j : Nat), cn 12 + 1 ≤ j + n9 → j ≤ cn 12 → ∀ (locs5 : List Loc), va_S (fun _ => False) s.heap H0 locs5 → ∀ (ls : Array Slot), lv_has ls 5 [(3, .int (nI (sp_sel μ e1 e2 j).length)), (4, .int (nI j)), (0, .ref (la 5)), (1, .ref (la 10)), (2, .int (nI ms))] → W p l e rmL_many s m args below meth c H0 locs5 0 0 Q (F0 m 5 ls []) := by
    intro n9
    induction n9 with
    | zero =>
      intro j hm9 hj locs5 hS ls hl
      exact absurd hm9 (by omega)
    | succ n9 ih =>
      intro j hm9 hj locs5 hS ls hl
      refine lv_iload hx hb dL_many_5 (lv_at hl 1 rfl) ?_
      refine lv_aload_n hx hb dL_many_7 rfl (lv_at hl 3 rfl) ?_
      refine lv_iconst (v := 2) hx hb dL_many_8 (by decide) ?_
      refine hk_ild X K hL.c10 (show vp_in (nI 2) 6 from vp_in_nI (by decide) (by decide)) dL_many_9 ?_
      rw [show (V 10) (2 : Int32).toNatClampNeg = nI (cn 12) from hV.g2]
      refine lv_icmp_ge (tgt := 37) hx hb dL_many_10 (by decide) (fun c_10 => ?_) (fun c_10 => ?_)
      · have hj9 : j = cn 12 := by
          have := (nI_leI (by omega) (by omega)).mp c_10
          omega
        refine lv_iload_n hx hb dL_many_37 rfl (lv_at hl 0 rfl) ?_
        exact hk_iret X hr hlk hQ hS (Nat.le_of_ble_eq_true rfl) (Nat.le_of_ble_eq_true rfl) dL_many_38 (⟨by rw [hj9], rfl⟩)
      · have hj9 : j < cn 12 := Nat.lt_of_not_le (fun h => c_10 (nI_le h (by omega)))
        refine lv_iload_n hx hb dL_many_13 rfl (lv_at hl 0 rfl) ?_
        refine lv_aload_n hx hb dL_many_14 rfl (lv_at hl 2 rfl) ?_
        refine lv_iload_n hx hb dL_many_15 rfl (lv_at hl 4 rfl) ?_
        refine lv_iload hx hb dL_many_16 (lv_at hl 1 rfl) ?_
        refine hk_callS 3 (As := [.ref (la 5), .int (nI ms), .int (nI j)]) (rest := [.int (nI (sp_sel μ e1 e2 j).length)]) X K hAE hS hl.1 (c_L_isOf E l H0 hL hV hI hm (show j < cn 12 by omega)) (fun _ h => h.elim) gL_many_L_isOf rfl hd_L_isOf rfl ⟨⟨(Nat.le_of_ble_eq_true rfl), (Nat.le_of_ble_eq_true rfl)⟩, (Nat.le_of_ble_eq_true rfl), (Nat.le_of_ble_eq_true rfl)⟩ rfl (Nat.le_of_ble_eq_true rfl) dL_many_18 (fun v9 H1 locsH1 hp hS hzH1 hkH1 => ?_)
        obtain ⟨hv, hh⟩ := hp
        subst hh
        rcases hv with ⟨hv, c_18⟩ | ⟨hv, c_18⟩
        · subst hv
          refine lv_if_eq (tgt := 28) hx hb dL_many_21 (by decide) (fun c_21 => ?_) (fun c_21 => ?_)
          · exact absurd c_21 (by decide)
          · refine lv_iconst (v := 1) hx hb dL_many_24 (by decide) ?_
            refine lv_goto (tgt := 29) hx hb dL_many_25 (by decide) ?_
            refine lv_iadd hx hb dL_many_29 ?_
            refine lv_topi (fun q30 eq30 => ?_)
            refine lv_istore_n (lv' := [(3, .int q30), (4, .int (nI j)), (0, .ref (la 5)), (1, .ref (la 10)), (2, .int (nI ms))]) hx hb dL_many_30 rfl hl (by decide) rfl (fun ls hl => ?_)
            rw [many_y c_18] at eq30
            subst eq30
            obtain ⟨q31, eq31⟩ : ∃ y : Int32, y = (nI j) + 1 := ⟨_, rfl⟩
            refine lv_iinc (v := q31) (lv' := [(4, .int q31), (3, .int (nI (sp_sel μ e1 e2 (j + 1)).length)), (0, .ref (la 5)), (1, .ref (la 10)), (2, .int (nI ms))]) hx hb dL_many_31 hl (k := 1) rfl (by rw [eq31]; rfl) (by decide) rfl (fun ls hl => ?_)
            rw [nI_1] at eq31
            subst eq31
            refine lv_goto (tgt := 5) hx hb dL_many_34 (by decide) ?_
            exact ih (j + 1) (by omega) (by omega) _ hS _ (lv_sub hl [1, 0, 2, 3, 4] rfl)
        · subst hv
          refine lv_if_eq (tgt := 28) hx hb dL_many_21 (by decide) (fun c_21 => ?_) (fun c_21 => ?_)
          · refine lv_iconst (v := 0) hx hb dL_many_28 (by decide) ?_
            refine lv_iadd hx hb dL_many_29 ?_
            refine lv_topi (fun q30 eq30 => ?_)
            refine lv_istore_n (lv' := [(3, .int q30), (4, .int (nI j)), (0, .ref (la 5)), (1, .ref (la 10)), (2, .int (nI ms))]) hx hb dL_many_30 rfl hl (by decide) rfl (fun ls hl => ?_)
            rw [many_n c_18] at eq30
            subst eq30
            obtain ⟨q31, eq31⟩ : ∃ y : Int32, y = (nI j) + 1 := ⟨_, rfl⟩
            refine lv_iinc (v := q31) (lv' := [(4, .int q31), (3, .int (nI (sp_sel μ e1 e2 (j + 1)).length)), (0, .ref (la 5)), (1, .ref (la 10)), (2, .int (nI ms))]) hx hb dL_many_31 hl (k := 1) rfl (by rw [eq31]; rfl) (by decide) rfl (fun ls hl => ?_)
            rw [nI_1] at eq31
            subst eq31
            refine lv_goto (tgt := 5) hx hb dL_many_34 (by decide) ?_
            exact ih (j + 1) (by omega) (by omega) _ hS _ (lv_sub hl [1, 0, 2, 3, 4] rfl)
          · exact absurd (by decide) c_21
  exact L5 (cn 12 + 1) 0 (by omega) (by omega) _ hS _ (lv_sub hl [1, 0, 2, 3, 4] rfl)

theorem ah_n1 {k t : Nat → Int32} {a b : Nat} (h1 : ¬ k a = k b) (h2 : k b ≤ k a) : ¬ bef2 k t a b := fun h => h.elim (fun g => absurd g (Int32.not_lt.mpr h2)) (fun g => h1 g.1)
theorem ah_n2 {k t : Nat → Int32} {a b : Nat} (h0 : k a = k b) (h1 : ¬ t a = t b) (h2 : t b ≤ t a) : ¬ bef2 k t a b := fun h => h.elim (fun g => by rw [h0] at g; exact Int32.lt_irrefl g) (fun g => g.2.elim (fun g => absurd g (Int32.not_lt.mpr h2)) (fun g => h1 g.1))
theorem ah_n3 {k t : Nat → Int32} {a b : Nat} (h0 : k a = k b) (h1 : t a = t b) (h2 : ¬ a < b) : ¬ bef2 k t a b := fun h => h.elim (fun g => by rw [h0] at g; exact Int32.lt_irrefl g) (fun g => g.2.elim (fun g => by rw [h1] at g; exact Int32.lt_irrefl g) (fun g => h2 g.2))
abbrev rmL_isAhead : Room := { frames := 0, cells := 0, slots := 0, locals := 0 }
set_option maxHeartbeats 4000000 in
set_option maxRecDepth 100000 in
theorem c_L_isAhead (E : hk_E) (l : Launch) (H0 : Heap) {la : Nat → Nat} {V : Nat → Nat → Int32} (hL : LW E la V H0) {i1 i2 : Nat} (hi1 : i1 < 24) (hi2 : i2 < 24) {P9 : Int32} (hP : inr P9 30 1000000) : hk_M E l yL_isAhead wsL_isAhead rmL_isAhead (fun _ => False) [.ref (la 12), .int (nI i1), .int (nI i2), .int P9] H0 (fun z H1 => ((z = some (.int 1) ∧ (bef2 (fun z9 => rmd (V 12 z9) P9) (V 12) i1 i2)) ∨ (z = some (.int 0) ∧ ¬ (bef2 (fun z9 => rmd (V 12 z9) P9) (V 12) i1 i2))) ∧ H0 = H1) := by
  refine hk_M.ofW (cc := cL_isAhead) (maxL := 6) (ret := (some .boolean)) (by decide +kernel) rfl (Nat.le_of_ble_eq_true rfl) ?_
  intro p e s m args below meth c ls Q hQ X hr hlk hnm K hs9 hS hl
  obtain ⟨hx, hb, hml, hown, hts⟩ := id X
  have hAE : ∀ q, (fun _ => False) q → hk_A E q := fun _ h => h.elim
  have hl : lv_has ls 6 [(0, .ref (la 12)), (1, .int (nI i1)), (2, .int (nI i2)), (3, .int P9)] := hl
  refine lv_aload_n hx hb dL_isAhead_0 rfl (lv_at hl 0 rfl) ?_
  refine lv_iload_n hx hb dL_isAhead_1 rfl (lv_at hl 1 rfl) ?_
  refine hk_ild X K hL.c12 (vp_in_nI (by omega) (by omega)) dL_isAhead_2 ?_
  rw [show (V 12) (nI i1).toNatClampNeg = V 12 i1 from by rw [nI_clamp (show i1 < 2 ^ 31 by omega)]]
  refine lv_iload_n hx hb dL_isAhead_3 rfl (lv_at hl 3 rfl) ?_
  refine lv_irem hx hb dL_isAhead_4 (fun h => by rw [h] at hP; exact absurd hP.1 (by decide)) ?_
  refine lv_iload_n hx hb dL_isAhead_5 rfl (lv_at hl 3 rfl) ?_
  refine lv_iadd hx hb dL_isAhead_6 ?_
  refine lv_iload_n hx hb dL_isAhead_7 rfl (lv_at hl 3 rfl) ?_
  refine lv_irem hx hb dL_isAhead_8 (fun h => by rw [h] at hP; exact absurd hP.1 (by decide)) ?_
  refine lv_topi (fun x4 ex4 => ?_)
  refine lv_istore (lv' := [(4, .int x4), (0, .ref (la 12)), (1, .int (nI i1)), (2, .int (nI i2)), (3, .int P9)]) hx hb dL_isAhead_9 hl (by decide) rfl (fun ls hl => ?_)
  rw [rmd2 hP] at ex4
  subst ex4
  refine lv_aload_n hx hb dL_isAhead_11 rfl (lv_at hl 1 rfl) ?_
  refine lv_iload_n hx hb dL_isAhead_12 rfl (lv_at hl 3 rfl) ?_
  refine hk_ild X K hL.c12 (vp_in_nI (by omega) (by omega)) dL_isAhead_13 ?_
  rw [show (V 12) (nI i2).toNatClampNeg = V 12 i2 from by rw [nI_clamp (show i2 < 2 ^ 31 by omega)]]
  refine lv_iload_n hx hb dL_isAhead_14 rfl (lv_at hl 4 rfl) ?_
  refine lv_irem hx hb dL_isAhead_15 (fun h => by rw [h] at hP; exact absurd hP.1 (by decide)) ?_
  refine lv_iload_n hx hb dL_isAhead_16 rfl (lv_at hl 4 rfl) ?_
  refine lv_iadd hx hb dL_isAhead_17 ?_
  refine lv_iload_n hx hb dL_isAhead_18 rfl (lv_at hl 4 rfl) ?_
  refine lv_irem hx hb dL_isAhead_19 (fun h => by rw [h] at hP; exact absurd hP.1 (by decide)) ?_
  refine lv_topi (fun x5 ex5 => ?_)
  refine lv_istore (lv' := [(5, .int x5), (4, .int (rmd (V 12 i1) P9)), (0, .ref (la 12)), (1, .int (nI i1)), (2, .int (nI i2)), (3, .int P9)]) hx hb dL_isAhead_20 hl (by decide) rfl (fun ls hl => ?_)
  rw [rmd2 hP] at ex5
  subst ex5
  refine lv_iload hx hb dL_isAhead_22 (lv_at hl 1 rfl) ?_
  refine lv_iload hx hb dL_isAhead_24 (lv_at hl 0 rfl) ?_
  refine lv_icmp_eq (tgt := 44) hx hb dL_isAhead_26 (by decide) (fun c_26 => ?_) (fun c_26 => ?_)
  · refine lv_aload_n hx hb dL_isAhead_44 rfl (lv_at hl 2 rfl) ?_
    refine lv_iload_n hx hb dL_isAhead_45 rfl (lv_at hl 3 rfl) ?_
    refine hk_ild X K hL.c12 (vp_in_nI (by omega) (by omega)) dL_isAhead_46 ?_
    rw [show (V 12) (nI i1).toNatClampNeg = V 12 i1 from by rw [nI_clamp (show i1 < 2 ^ 31 by omega)]]
    refine lv_aload_n hx hb dL_isAhead_47 rfl (lv_at hl 2 rfl) ?_
    refine lv_iload_n hx hb dL_isAhead_48 rfl (lv_at hl 4 rfl) ?_
    refine hk_ild X K hL.c12 (vp_in_nI (by omega) (by omega)) dL_isAhead_49 ?_
    rw [show (V 12) (nI i2).toNatClampNeg = V 12 i2 from by rw [nI_clamp (show i2 < 2 ^ 31 by omega)]]
    refine lv_icmp_eq (tgt := 70) hx hb dL_isAhead_50 (by decide) (fun c_50 => ?_) (fun c_50 => ?_)
    · refine lv_iload_n hx hb dL_isAhead_70 rfl (lv_at hl 3 rfl) ?_
      refine lv_iload_n hx hb dL_isAhead_71 rfl (lv_at hl 4 rfl) ?_
      refine lv_icmp_ge (tgt := 79) hx hb dL_isAhead_72 (by decide) (fun c_72 => ?_) (fun c_72 => ?_)
      · refine lv_iconst (v := 0) hx hb dL_isAhead_79 (by decide) ?_
        exact hk_zret X hr hlk hQ hS (Nat.le_of_ble_eq_true rfl) (Nat.le_of_ble_eq_true rfl) dL_isAhead_80 (by decide) (⟨Or.inr ⟨rfl, ah_n3 c_26 c_50 (fun h => absurd c_72 (nI_ge h (by omega)))⟩, rfl⟩)
      · refine lv_iconst (v := 1) hx hb dL_isAhead_75 (by decide) ?_
        refine lv_goto (tgt := 80) hx hb dL_isAhead_76 (by decide) ?_
        exact hk_zret X hr hlk hQ hS (Nat.le_of_ble_eq_true rfl) (Nat.le_of_ble_eq_true rfl) dL_isAhead_80 (by decide) (⟨Or.inl ⟨rfl, Or.inr ⟨c_26, Or.inr ⟨c_50, Nat.lt_of_not_le (fun h => c_72 (nI_le h (by omega)))⟩⟩⟩, rfl⟩)
    · refine lv_aload_n hx hb dL_isAhead_53 rfl (lv_at hl 2 rfl) ?_
      refine lv_iload_n hx hb dL_isAhead_54 rfl (lv_at hl 3 rfl) ?_
      refine hk_ild X K hL.c12 (vp_in_nI (by omega) (by omega)) dL_isAhead_55 ?_
      rw [show (V 12) (nI i1).toNatClampNeg = V 12 i1 from by rw [nI_clamp (show i1 < 2 ^ 31 by omega)]]
      refine lv_aload_n hx hb dL_isAhead_56 rfl (lv_at hl 2 rfl) ?_
      refine lv_iload_n hx hb dL_isAhead_57 rfl (lv_at hl 4 rfl) ?_
      refine hk_ild X K hL.c12 (vp_in_nI (by omega) (by omega)) dL_isAhead_58 ?_
      rw [show (V 12) (nI i2).toNatClampNeg = V 12 i2 from by rw [nI_clamp (show i2 < 2 ^ 31 by omega)]]
      refine lv_icmp_ge (tgt := 66) hx hb dL_isAhead_59 (by decide) (fun c_59 => ?_) (fun c_59 => ?_)
      · refine lv_iconst (v := 0) hx hb dL_isAhead_66 (by decide) ?_
        refine lv_goto (tgt := 80) hx hb dL_isAhead_67 (by decide) ?_
        exact hk_zret X hr hlk hQ hS (Nat.le_of_ble_eq_true rfl) (Nat.le_of_ble_eq_true rfl) dL_isAhead_80 (by decide) (⟨Or.inr ⟨rfl, ah_n2 c_26 c_50 c_59⟩, rfl⟩)
      · refine lv_iconst (v := 1) hx hb dL_isAhead_62 (by decide) ?_
        refine lv_goto (tgt := 80) hx hb dL_isAhead_63 (by decide) ?_
        exact hk_zret X hr hlk hQ hS (Nat.le_of_ble_eq_true rfl) (Nat.le_of_ble_eq_true rfl) dL_isAhead_80 (by decide) (⟨Or.inl ⟨rfl, Or.inr ⟨c_26, Or.inl (Int32.not_le.mp c_59)⟩⟩, rfl⟩)
  · refine lv_iload hx hb dL_isAhead_29 (lv_at hl 1 rfl) ?_
    refine lv_iload hx hb dL_isAhead_31 (lv_at hl 0 rfl) ?_
    refine lv_icmp_ge (tgt := 40) hx hb dL_isAhead_33 (by decide) (fun c_33 => ?_) (fun c_33 => ?_)
    · refine lv_iconst (v := 0) hx hb dL_isAhead_40 (by decide) ?_
      refine lv_goto (tgt := 80) hx hb dL_isAhead_41 (by decide) ?_
      exact hk_zret X hr hlk hQ hS (Nat.le_of_ble_eq_true rfl) (Nat.le_of_ble_eq_true rfl) dL_isAhead_80 (by decide) (⟨Or.inr ⟨rfl, ah_n1 c_26 c_33⟩, rfl⟩)
    · refine lv_iconst (v := 1) hx hb dL_isAhead_36 (by decide) ?_
      refine lv_goto (tgt := 80) hx hb dL_isAhead_37 (by decide) ?_
      exact hk_zret X hr hlk hQ hS (Nat.le_of_ble_eq_true rfl) (Nat.le_of_ble_eq_true rfl) dL_isAhead_80 (by decide) (⟨Or.inl ⟨rfl, Or.inl (Int32.not_le.mp c_33)⟩, rfl⟩)

def lowb (m : Nat) : Nat := if m.testBit 0 = true then 0 else if m.testBit 1 = true then 1 else if m.testBit 2 = true then 2 else 3
theorem lowb_le (m : Nat) : lowb m ≤ 3 := by
  unfold lowb
  (repeat' split) <;> omega
theorem lowb_at : ∀ m : Nat, m < 16 → ∀ j : Nat, j < 4 → j ≤ lowb m → m.testBit j = true → j = lowb m := by decide +kernel
theorem lowb_nx : ∀ m : Nat, m < 16 → ∀ j : Nat, j < 4 → m ≠ 0 → j ≤ lowb m → ¬ m.testBit j = true → j + 1 ≤ lowb m := by decide +kernel
theorem lowb_bit : ∀ m : Nat, m < 16 → m ≠ 0 → m.testBit (lowb m) = true ∧ ∀ j : Nat, j < 4 → m.testBit j = true → lowb m ≤ j := by decide +kernel
abbrev rmL_lowest : Room := { frames := 0, cells := 0, slots := 0, locals := 0 }
set_option maxHeartbeats 4000000 in
set_option maxRecDepth 100000 in
theorem c_L_lowest (E : hk_E) (l : Launch) (H0 : Heap) {ms : Nat} (hms : ms < 16) (hm0 : ms ≠ 0) : hk_M E l yL_lowest wsL_lowest rmL_lowest (fun _ => False) [.int (nI ms)] H0 (fun z H1 => z = some (.int (nI (lowb ms))) ∧ H0 = H1) := by
  refine hk_M.ofW (cc := cL_lowest) (maxL := 2) (ret := (some .int)) (by decide +kernel) rfl (Nat.le_of_ble_eq_true rfl) ?_
  intro p e s m args below meth c ls Q hQ X hr hlk hnm K hs9 hS hl
  obtain ⟨hx, hb, hml, hown, hts⟩ := id X
  have hAE : ∀ q, (fun _ => False) q → hk_A E q := fun _ h => h.elim
  have hl : lv_has ls 2 [(0, .int (nI ms))] := hl
  refine lv_iconst (v := 0) hx hb dL_lowest_0 (by decide) ?_
  refine lv_istore_n (lv' := [(1, .int 0), (0, .int (nI ms))]) hx hb dL_lowest_1 rfl hl (by decide) rfl (fun ls hl => ?_)
  have L2 : ∀ (n9 : Nat) (j : Nat), 4 ≤ j + n9 → j ≤ lowb ms → ∀ (locs2 : List Loc), va_S (fun _ => False) s.heap H0 locs2 → ∀ (ls : Array Slot), lv_has ls 2 [(0, .int (nI ms)), (1, .int (nI j))] → W p l e rmL_lowest s m args below meth c H0 locs2 0 0 Q (F0 m 2 ls []) := by
    intro n9
    induction n9 with
    | zero =>
      intro j hm9 hj locs2 hS ls hl
      have hj3 : j ≤ 3 := Nat.le_trans hj (lowb_le ms)
      exact absurd hm9 (by omega)
    | succ n9 ih =>
      intro j hm9 hj locs2 hS ls hl
      have hj3 : j ≤ 3 := Nat.le_trans hj (lowb_le ms)
      refine lv_iload_n hx hb dL_lowest_2 rfl (lv_at hl 0 rfl) ?_
      refine lv_iload_n hx hb dL_lowest_3 rfl (lv_at hl 1 rfl) ?_
      refine lv_ishr hx hb dL_lowest_4 ?_
      refine lv_iconst (v := 1) hx hb dL_lowest_5 (by decide) ?_
      refine lv_iand hx hb dL_lowest_6 ?_
      refine lv_topi (fun bt ebt => ?_)
      rw [l_bit ms hms j (by omega)] at ebt
      refine lv_if_ne (tgt := 16) hx hb dL_lowest_7 (by decide) (fun c_7 => ?_) (fun c_7 => ?_)
      · refine lv_iload_n hx hb dL_lowest_16 rfl (lv_at hl 1 rfl) ?_
        exact hk_iret X hr hlk hQ hS (Nat.le_of_ble_eq_true rfl) (Nat.le_of_ble_eq_true rfl) dL_lowest_17 (⟨by rw [lowb_at ms hms j (by omega) hj (bit_y ebt c_7)], rfl⟩)
      · have hj4 : j + 1 ≤ lowb ms := lowb_nx ms hms j (by omega) hm0 hj (bit_n ebt c_7)
        have hj5 := lowb_le ms
        obtain ⟨q10, eq10⟩ : ∃ y : Int32, y = (nI j) + 1 := ⟨_, rfl⟩
        refine lv_iinc (v := q10) (lv' := [(1, .int q10), (0, .int (nI ms))]) hx hb dL_lowest_10 hl (k := 1) rfl (by rw [eq10]; rfl) (by decide) rfl (fun ls hl => ?_)
        rw [nI_1] at eq10
        subst eq10
        refine lv_goto (tgt := 2) hx hb dL_lowest_13 (by decide) ?_
        exact ih (j + 1) (by omega) hj4 _ hS _ (lv_sub hl [1, 0] rfl)
  exact L2 4 0 (by omega) (Nat.zero_le _) _ hS _ (lv_sub hl [1, 0] rfl)

/-- the first claim that is not 0 among the set's stars, the first k looked at -/
def clK (m : Nat) (A : Nat → Int32) : Nat → Int32
  | 0 => 0
  | k + 1 => if clK m A k = 0 then (if m.testBit k = true then A (4 * k + 2) else 0) else clK m A k
theorem clK_stay {m : Nat} {A : Nat → Int32} {k : Nat} (h : ¬ clK m A k = 0) : ∀ n, clK m A (k + n) = clK m A k := by
  intro n
  induction n with
  | zero => rfl
  | succ n ih => rw [← Nat.add_assoc, clK, ih, if_neg h]
theorem clK_none {m : Nat} {A : Nat → Int32} : ∀ n, clK m A n = 0 → ∀ k, k < n → m.testBit k = true → A (4 * k + 2) = 0 := by
  intro n
  induction n with
  | zero => intro _ k hk; exact absurd hk (Nat.not_lt_zero _)
  | succ n ih =>
    intro h k hk hb
    rw [clK] at h
    by_cases g : clK m A n = 0
    · rw [if_pos g] at h
      by_cases e : k = n
      · subst e; rw [if_pos hb] at h; exact h
      · exact ih g k (by omega) hb
    · rw [if_neg g] at h; exact absurd h g
theorem clK_some {m : Nat} {A : Nat → Int32} : ∀ n, ¬ clK m A n = 0 → ∃ k, k < n ∧ m.testBit k = true ∧ clK m A n = A (4 * k + 2) ∧ ∀ j, j < k → m.testBit j = true → A (4 * j + 2) = 0 := by
  intro n
  induction n with
  | zero => intro h; exact absurd rfl h
  | succ n ih =>
    intro h
    by_cases g : clK m A n = 0
    · rw [clK, if_pos g] at h
      by_cases b : m.testBit n = true
      · exact ⟨n, by omega, b, by rw [clK, if_pos g, if_pos b], fun j hj hb => clK_none n g j hj hb⟩
      · rw [if_neg b] at h; exact absurd rfl h
    · obtain ⟨k, h1, h2, h3, h4⟩ := ih g
      exact ⟨k, by omega, h2, by rw [clK, if_neg g, h3], h4⟩
theorem clK_eq {S : mS} {V : Nat → Nat → Int32} (hV : LV S V) (hI : InvF S) {m : Nat} {e : Int32} (hm : mskR (S.1 1) (S.2.2 3) m e (-1)) (he : 0 ≤ e) : clK m (V 3) 4 = sp_clm (S.2.2 3) (S.2.2 4) e (S.1 1) 0 := by
  have h4 : ∀ j, j < S.1 1 → S.2.2 4 j = 0 ∨ 0 < S.2.2 4 j := fun j hj => by
    rcases (hI.1.2.2.1 j hj).2.2 with g | g
    · exact Or.inl g
    · exact Or.inr (per_pos g)
  have hn := hV.n1
  have hne : ∀ j, j < S.1 1 → ¬ S.2.2 3 j = -1 := fun j hj g => by
    obtain ⟨-, ⟨x, hx, h1, -⟩, -⟩ := hI.1.2.2.1 j hj
    rw [h1] at g
    exact absurd (congrArg Int32.toInt g) (by rw [nI_toInt (by omega)]; show ¬ (x : Int) = -1; omega)
  by_cases g : clK m (V 3) 4 = 0
  · rw [g, clm_none]
    intro j hj h
    have hb := (hm.2 j (by omega)).mpr ⟨hj, Or.inl h.1⟩
    have := clK_none 4 g j (by omega) hb
    rw [hV.a2 (by omega)] at this
    rw [this] at h
    exact Int32.lt_irrefl h.2
  · obtain ⟨k, k1, k2, k3, k5⟩ := clK_some 4 g
    have hk := (hm.2 k k1).mp k2
    have hke : S.2.2 3 k = e := hk.2.elim (fun h => h) (fun h => absurd h (hne k hk.1))
    rw [hV.a2 k1] at k3
    have hpos : 0 < S.2.2 4 k := (h4 k hk.1).resolve_left (fun h => g (k3.trans h))
    rw [k3, clm_found hk.1 (fun j hj h => ?_) ⟨hke, hpos⟩]
    have hb := (hm.2 j (by omega)).mpr ⟨by omega, Or.inl h.1⟩
    have := k5 j hj hb
    rw [hV.a2 (by omega)] at this
    rw [this] at h
    exact Int32.lt_irrefl h.2
abbrev rmL_claim : Room := { frames := 0, cells := 0, slots := 0, locals := 0 }
set_option maxHeartbeats 4000000 in
set_option maxRecDepth 100000 in
theorem c_L_claim (E : hk_E) (l : Launch) (H0 : Heap) {la : Nat → Nat} {V : Nat → Nat → Int32} (hL : LW E la V H0) {cn : Nat → Nat} {sc : Nat → Int32} {μ : Nat → Nat → Int32} (hV : LV (cn, sc, μ) V) (hI : InvF (cn, sc, μ)) {ms : Nat} {e1 : Int32} (hm : mskR (cn 1) (μ 3) ms e1 (-1)) (he1 : 0 ≤ e1) : hk_M E l yL_claim wsL_claim rmL_claim (fun _ => False) [.ref (la 3), .int (nI ms)] H0 (fun z H1 => z = some (.int (sp_clm (μ 3) (μ 4) e1 (cn 1) 0)) ∧ H0 = H1) := by
  refine hk_M.ofW (cc := cL_claim) (maxL := 4) (ret := (some .int)) (by decide +kernel) rfl (Nat.le_of_ble_eq_true rfl) ?_
  intro p e s m args below meth c ls Q hQ X hr hlk hnm K hs9 hS hl
  obtain ⟨hx, hb, hml, hown, hts⟩ := id X
  have hAE : ∀ q, (fun _ => False) q → hk_A E q := fun _ h => h.elim
  have hl : lv_has ls 4 [(0, .ref (la 3)), (1, .int (nI ms))] := hl
  have hn1 : cn 1 ≤ 4 := hV.n1
  have hn8 : cn 8 ≤ 3 := hV.n8
  have hn12 : cn 12 ≤ 24 := hV.n12
  have hn22 : cn 22 ≤ 4 := hV.n22
  have hn29 : cn 29 ≤ 8 := hV.n29
  have hms : ms < 16 := hm.1
  refine lv_iconst (v := 0) hx hb dL_claim_0 (by decide) ?_
  refine lv_istore_n (lv' := [(2, .int 0), (0, .ref (la 3)), (1, .int (nI ms))]) hx hb dL_claim_1 rfl hl (by decide) rfl (fun ls hl => ?_)
  refine lv_iconst (v := 0) hx hb dL_claim_2 (by decide) ?_
  refine lv_istore_n (lv' := [(3, .int 0), (2, .int 0), (0, .ref (la 3)), (1, .int (nI ms))]) hx hb dL_claim_3 rfl hl (by decide) rfl (fun ls hl => ?_)
  have L4 : ∀ (n9 : Nat) (j : Nat), 5 ≤ j + n9 → j ≤ 4 → ∀ (locs4 : List Loc), va_S (fun _ => False) s.heap H0 locs4 → ∀ (ls : Array Slot), lv_has ls 4 [(2, .int (clK ms (V 3) j)), (3, .int (nI j)), (0, .ref (la 3)), (1, .int (nI ms))] → W p l e rmL_claim s m args below meth c H0 locs4 0 0 Q (F0 m 4 ls []) := by
    intro n9
    induction n9 with
    | zero =>
      intro j hm9 hj locs4 hS ls hl
      exact absurd hm9 (by omega)
    | succ n9 ih =>
      intro j hm9 hj locs4 hS ls hl
      refine lv_iload_n hx hb dL_claim_4 rfl (lv_at hl 1 rfl) ?_
      refine lv_iconst (v := 4) hx hb dL_claim_5 (by decide) ?_
      refine lv_icmp_ge (tgt := 40) hx hb dL_claim_6 (by decide) (fun c_6 => ?_) (fun c_6 => ?_)
      · have hj9 : j = 4 := by
          have := (nI_leI (a := 4) (b := j) (by omega) (by omega)).mp c_6
          omega
        refine lv_iload_n hx hb dL_claim_40 rfl (lv_at hl 0 rfl) ?_
        exact hk_iret X hr hlk hQ hS (Nat.le_of_ble_eq_true rfl) (Nat.le_of_ble_eq_true rfl) dL_claim_41 (⟨by rw [← clK_eq hV hI hm he1, hj9], rfl⟩)
      · have hj9 : j < 4 := Nat.lt_of_not_le (fun h => c_6 (nI_le h (by omega)))
        refine lv_iload_n hx hb dL_claim_9 rfl (lv_at hl 0 rfl) ?_
        refine lv_if_ne (tgt := 40) hx hb dL_claim_10 (by decide) (fun c_10 => ?_) (fun c_10 => ?_)
        · refine lv_iload_n hx hb dL_claim_40 rfl (lv_at hl 0 rfl) ?_
          exact hk_iret X hr hlk hQ hS (Nat.le_of_ble_eq_true rfl) (Nat.le_of_ble_eq_true rfl) dL_claim_41 (⟨by rw [← clK_eq hV hI hm he1, show 4 = j + (4 - j) by omega, clK_stay c_10], rfl⟩)
        · refine lv_iload_n hx hb dL_claim_13 rfl (lv_at hl 3 rfl) ?_
          refine lv_iload_n hx hb dL_claim_14 rfl (lv_at hl 1 rfl) ?_
          refine lv_ishr hx hb dL_claim_15 ?_
          refine lv_iconst (v := 1) hx hb dL_claim_16 (by decide) ?_
          refine lv_iand hx hb dL_claim_17 ?_
          refine lv_topi (fun bt ebt => ?_)
          rw [l_bit ms hms j (by omega)] at ebt
          refine lv_iconst (v := 1) hx hb dL_claim_18 (by decide) ?_
          refine lv_icmp_ne (tgt := 32) hx hb dL_claim_19 (by decide) (fun c_19 => ?_) (fun c_19 => ?_)
          · refine lv_iconst (v := 0) hx hb dL_claim_32 (by decide) ?_
            refine lv_topi (fun q33 eq33 => ?_)
            refine lv_istore_n (lv' := [(2, .int q33), (3, .int (nI j)), (0, .ref (la 3)), (1, .int (nI ms))]) hx hb dL_claim_33 rfl hl (by decide) rfl (fun ls hl => ?_)
            have eq34 : q33 = clK ms (V 3) (j + 1) := eq33.trans (by rw [clK, if_pos c_10, if_neg (bit_n1 ebt c_19)])
            clear eq33
            subst eq34
            obtain ⟨q34, eq34⟩ : ∃ y : Int32, y = (nI j) + 1 := ⟨_, rfl⟩
            refine lv_iinc (v := q34) (lv' := [(3, .int q34), (2, .int (clK ms (V 3) (j + 1))), (0, .ref (la 3)), (1, .int (nI ms))]) hx hb dL_claim_34 hl (k := 1) rfl (by rw [eq34]; rfl) (by decide) rfl (fun ls hl => ?_)
            rw [nI_1] at eq34
            subst eq34
            refine lv_goto (tgt := 4) hx hb dL_claim_37 (by decide) ?_
            exact ih (j + 1) (by omega) (by omega) _ hS _ (lv_sub hl [1, 0, 2, 3] rfl)
          · refine lv_aload_n hx hb dL_claim_22 rfl (lv_at hl 2 rfl) ?_
            refine lv_iconst (v := 4) hx hb dL_claim_23 (by decide) ?_
            refine lv_iload_n hx hb dL_claim_24 rfl (lv_at hl 1 rfl) ?_
            refine lv_imul hx hb dL_claim_25 ?_
            refine lv_topi (fun z_1 ez_1 => ?_)
            have ez_1 : z_1 = nI (4 * j) := ez_1.trans (nI_mul 4 j)
            subst ez_1
            refine lv_iconst (v := 2) hx hb dL_claim_26 (by decide) ?_
            refine lv_iadd hx hb dL_claim_27 ?_
            refine lv_topi (fun z_2 ez_2 => ?_)
            have ez_2 : z_2 = nI ((4 * j) + 2) := ez_2.trans (nI_add (4 * j) 2)
            subst ez_2
            refine hk_ild X K hL.c3 (vp_in_nI (by omega) (by omega)) dL_claim_28 ?_
            rw [show (V 3) (nI ((4 * j) + 2)).toNatClampNeg = V 3 ((4 * j) + 2) from by rw [nI_clamp (show ((4 * j) + 2) < 2 ^ 31 by omega)]]
            refine lv_goto (tgt := 33) hx hb dL_claim_29 (by decide) ?_
            refine lv_topi (fun q33 eq33 => ?_)
            refine lv_istore_n (lv' := [(2, .int q33), (3, .int (nI j)), (0, .ref (la 3)), (1, .int (nI ms))]) hx hb dL_claim_33 rfl hl (by decide) rfl (fun ls hl => ?_)
            have eq34 : q33 = clK ms (V 3) (j + 1) := eq33.trans (by rw [clK, if_pos c_10, if_pos (bit_y1 ebt c_19)])
            clear eq33
            subst eq34
            obtain ⟨q34, eq34⟩ : ∃ y : Int32, y = (nI j) + 1 := ⟨_, rfl⟩
            refine lv_iinc (v := q34) (lv' := [(3, .int q34), (2, .int (clK ms (V 3) (j + 1))), (0, .ref (la 3)), (1, .int (nI ms))]) hx hb dL_claim_34 hl (k := 1) rfl (by rw [eq34]; rfl) (by decide) rfl (fun ls hl => ?_)
            rw [nI_1] at eq34
            subst eq34
            refine lv_goto (tgt := 4) hx hb dL_claim_37 (by decide) ?_
            exact ih (j + 1) (by omega) (by omega) _ hS _ (lv_sub hl [1, 0, 2, 3] rfl)
  exact L4 5 0 (by omega) (Nat.zero_le _) _ hS _ (lv_sub hl [1, 0, 2, 3] rfl)

theorem sumL_snoc {l : Nat → Int32} {x : Nat} : ∀ A : List Nat, sumL l (A ++ [x]) = sumL l A + l x := by
  intro A
  induction A with
  | nil => show l x + 0 = 0 + l x; rw [Int32.add_zero, Int32.zero_add]
  | cons y A ih => rw [List.cons_append, sumL, ih, sumL, Int32.add_assoc]
theorem sumL_cong {l l' : Nat → Int32} : ∀ A : List Nat, (∀ x ∈ A, l x = l' x) → sumL l A = sumL l' A := by
  intro A
  induction A with
  | nil => intro _; rfl
  | cons y A ih => intro h; rw [sumL, sumL, h y List.mem_cons_self, ih (fun x hx => h x (List.mem_cons_of_mem _ hx))]
theorem mn_y {μ : Nat → Nat → Int32} {l : Nat → Int32} {e1 e2 : Int32} {j : Nat} (h : selp μ e1 e2 j) : sumL l (sp_sel μ e1 e2 j) + l j = sumL l (sp_sel μ e1 e2 (j + 1)) := by
  rw [sel_yes h rfl, sumL_snoc]
theorem mn_n {μ : Nat → Nat → Int32} {l : Nat → Int32} {e1 e2 : Int32} {j : Nat} (h : ¬ selp μ e1 e2 j) : sumL l (sp_sel μ e1 e2 j) + 0 = sumL l (sp_sel μ e1 e2 (j + 1)) := by
  rw [sel_no h, Int32.add_zero]
theorem mn_eq9 {S : mS} {V : Nat → Nat → Int32} (hX : LXY S V) {e1 e2 : Int32} : qd (sumL (V 11) (sp_sel S.2.2 e1 e2 (S.1 12))) (nI (sp_sel S.2.2 e1 e2 (S.1 12)).length) = sp_mn S.2.2 (sp_sel S.2.2 e1 e2 (S.1 12)) := by
  unfold sp_mn
  rw [sp_sm_list, sumL_cong _ (fun x hx => (hX x (sp_sel_lt _ x hx)).1)]
theorem hd_L_many : yL_many.cls ≠ "java/lang/invoke/MethodHandle" ∧ yL_many.cls ≠ "java/lang/invoke/VarHandle" ∧ (parseMethodDescriptor yL_many.desc).map (fun d => d.parameters.length) = some 3 := ⟨by decide, by decide, by decide +kernel⟩
abbrev rmL_mean : Room := { frames := 2, cells := 0, slots := 0, locals := 46 }
set_option maxHeartbeats 4000000 in
set_option maxRecDepth 100000 in
theorem c_L_mean (E : hk_E) (l : Launch) (H0 : Heap) {la : Nat → Nat} {V : Nat → Nat → Int32} (hL : LW E la V H0) {cn : Nat → Nat} {sc : Nat → Int32} {μ : Nat → Nat → Int32} (hV : LV (cn, sc, μ) V) (hI : InvF (cn, sc, μ)) (hX : LXY (cn, sc, μ) V) {ms : Nat} {e1 e2 : Int32} (hm : mskR (cn 1) (μ 3) ms e1 e2) (h0 : 0 < (sp_sel μ e1 e2 (cn 12)).length) : hk_M E l yL_mean wsL_mean rmL_mean (fun _ => False) [.ref (la 5), .ref (la 10), .ref (la 11), .int (nI ms)] H0 (fun z H1 => z = some (.int (sp_mn μ (sp_sel μ e1 e2 (cn 12)))) ∧ H0 = H1) := by
  refine hk_M.ofW (cc := cL_mean) (maxL := 6) (ret := (some .int)) (by decide +kernel) rfl (Nat.le_of_ble_eq_true rfl) ?_
  intro p e s m args below meth c ls Q hQ X hr hlk hnm K hs9 hS hl
  obtain ⟨hx, hb, hml, hown, hts⟩ := id X
  have hAE : ∀ q, (fun _ => False) q → hk_A E q := fun _ h => h.elim
  have hl : lv_has ls 6 [(0, .ref (la 5)), (1, .ref (la 10)), (2, .ref (la 11)), (3, .int (nI ms))] := hl
  have hn1 : cn 1 ≤ 4 := hV.n1
  have hn8 : cn 8 ≤ 3 := hV.n8
  have hn12 : cn 12 ≤ 24 := hV.n12
  have hn22 : cn 22 ≤ 4 := hV.n22
  have hn29 : cn 29 ≤ 8 := hV.n29
  have hsl : (sp_sel μ e1 e2 (cn 12)).length ≤ cn 12 := sp_sel_le _
  refine lv_iconst (v := 0) hx hb dL_mean_0 (by decide) ?_
  refine lv_istore (lv' := [(4, .int 0), (0, .ref (la 5)), (1, .ref (la 10)), (2, .ref (la 11)), (3, .int (nI ms))]) hx hb dL_mean_1 hl (by decide) rfl (fun ls hl => ?_)
  refine lv_iconst (v := 0) hx hb dL_mean_3 (by decide) ?_
  refine lv_istore (lv' := [(5, .int 0), (4, .int 0), (0, .ref (la 5)), (1, .ref (la 10)), (2, .ref (la 11)), (3, .int (nI ms))]) hx hb dL_mean_4 hl (by decide) rfl (fun ls hl => ?_)
  have L6 : ∀ (n9 : Nat) (j : Nat), cn 12 + 1 ≤ j + n9 → j ≤ cn 12 → ∀ (locs6 : List Loc), va_S (fun _ => False) s.heap H0 locs6 → ∀ (ls : Array Slot), lv_has ls 6 [(4, .int (sumL (V 11) (sp_sel μ e1 e2 j))), (5, .int (nI j)), (0, .ref (la 5)), (1, .ref (la 10)), (2, .ref (la 11)), (3, .int (nI ms))] → W p l e rmL_mean s m args below meth c H0 locs6 0 0 Q (F0 m 6 ls []) := by
    intro n9
    induction n9 with
    | zero =>
      intro j hm9 hj locs6 hS ls hl
      exact absurd hm9 (by omega)
    | succ n9 ih =>
      intro j hm9 hj locs6 hS ls hl
      refine lv_iload hx hb dL_mean_6 (lv_at hl 1 rfl) ?_
      refine lv_aload_n hx hb dL_mean_8 rfl (lv_at hl 3 rfl) ?_
      refine lv_iconst (v := 2) hx hb dL_mean_9 (by decide) ?_
      refine hk_ild X K hL.c10 (show vp_in (nI 2) 6 from vp_in_nI (by decide) (by decide)) dL_mean_10 ?_
      rw [show (V 10) (2 : Int32).toNatClampNeg = nI (cn 12) from hV.g2]
      refine lv_icmp_ge (tgt := 43) hx hb dL_mean_11 (by decide) (fun c_11 => ?_) (fun c_11 => ?_)
      · have hj9 : j = cn 12 := by
          have := (nI_leI (by omega) (by omega)).mp c_11
          omega
        refine lv_iload hx hb dL_mean_43 (lv_at hl 0 rfl) ?_
        refine lv_aload_n hx hb dL_mean_45 rfl (lv_at hl 2 rfl) ?_
        refine lv_aload_n hx hb dL_mean_46 rfl (lv_at hl 3 rfl) ?_
        refine lv_iload_n hx hb dL_mean_47 rfl (lv_at hl 5 rfl) ?_
        refine hk_callS 3 (As := [.ref (la 5), .ref (la 10), .int (nI ms)]) (rest := [.int (sumL (V 11) (sp_sel μ e1 e2 j))]) X K hAE hS hl.1 (c_L_many E l H0 hL hV hI hm) (fun _ h => h.elim) gL_mean_L_many rfl hd_L_many rfl ⟨⟨(Nat.le_of_ble_eq_true rfl), (Nat.le_of_ble_eq_true rfl)⟩, (Nat.le_of_ble_eq_true rfl), (Nat.le_of_ble_eq_true rfl)⟩ rfl (Nat.le_of_ble_eq_true rfl) dL_mean_48 (fun v9 H1 locsH1 hp hS hzH1 hkH1 => ?_)
        obtain ⟨hv, hh⟩ := hp
        subst hv; subst hh
        refine hk_callS 2 (As := [.int (sumL (V 11) (sp_sel μ e1 e2 j)), .int (nI (sp_sel μ e1 e2 (cn 12)).length)]) (rest := []) X K hAE hS hl.1 (c_L_down E l H0 (n := sumL (V 11) (sp_sel μ e1 e2 j)) (d := nI (sp_sel μ e1 e2 (cn 12)).length) (nI_gt0 h0 (by omega))) (fun _ h => h.elim) gL_mean_L_down rfl hd_L_down rfl ⟨⟨(Nat.le_of_ble_eq_true rfl), (Nat.le_of_ble_eq_true rfl)⟩, (Nat.le_of_ble_eq_true rfl), (Nat.le_of_ble_eq_true rfl)⟩ rfl (Nat.le_of_ble_eq_true rfl) dL_mean_51 (fun v9 H2 locsH2 hp hS hzH2 hkH2 => ?_)
        obtain ⟨hv, hh⟩ := hp
        subst hv; subst hh
        exact hk_iret X hr hlk hQ hS (Nat.le_of_ble_eq_true rfl) (Nat.le_of_ble_eq_true rfl) dL_mean_54 (⟨congrArg (fun v => some (Value.int v)) (by rw [hj9]; exact mn_eq9 hX), rfl⟩)
      · have hj9 : j < cn 12 := Nat.lt_of_not_le (fun h => c_11 (nI_le h (by omega)))
        refine lv_iload hx hb dL_mean_14 (lv_at hl 0 rfl) ?_
        refine lv_aload_n hx hb dL_mean_16 rfl (lv_at hl 2 rfl) ?_
        refine lv_iload_n hx hb dL_mean_17 rfl (lv_at hl 5 rfl) ?_
        refine lv_iload hx hb dL_mean_18 (lv_at hl 1 rfl) ?_
        refine hk_callS 3 (As := [.ref (la 5), .int (nI ms), .int (nI j)]) (rest := [.int (sumL (V 11) (sp_sel μ e1 e2 j))]) X K hAE hS hl.1 (c_L_isOf E l H0 hL hV hI hm (show j < cn 12 by omega)) (fun _ h => h.elim) gL_mean_L_isOf rfl hd_L_isOf rfl ⟨⟨(Nat.le_of_ble_eq_true rfl), (Nat.le_of_ble_eq_true rfl)⟩, (Nat.le_of_ble_eq_true rfl), (Nat.le_of_ble_eq_true rfl)⟩ rfl (Nat.le_of_ble_eq_true rfl) dL_mean_20 (fun v9 H3 locsH3 hp hS hzH3 hkH3 => ?_)
        obtain ⟨hv, hh⟩ := hp
        subst hh
        rcases hv with ⟨hv, c_20⟩ | ⟨hv, c_20⟩
        · subst hv
          refine lv_if_eq (tgt := 33) hx hb dL_mean_23 (by decide) (fun c_23 => ?_) (fun c_23 => ?_)
          · exact absurd c_23 (by decide)
          · refine lv_aload_n hx hb dL_mean_26 rfl (lv_at hl 4 rfl) ?_
            refine lv_iload hx hb dL_mean_27 (lv_at hl 1 rfl) ?_
            refine hk_ild X K hL.c11 (vp_in_nI (by omega) (by omega)) dL_mean_29 ?_
            rw [show (V 11) (nI j).toNatClampNeg = V 11 j from by rw [nI_clamp (show j < 2 ^ 31 by omega)]]
            refine lv_goto (tgt := 34) hx hb dL_mean_30 (by decide) ?_
            refine lv_iadd hx hb dL_mean_34 ?_
            refine lv_topi (fun q35 eq35 => ?_)
            refine lv_istore (lv' := [(4, .int q35), (5, .int (nI j)), (0, .ref (la 5)), (1, .ref (la 10)), (2, .ref (la 11)), (3, .int (nI ms))]) hx hb dL_mean_35 hl (by decide) rfl (fun ls hl => ?_)
            rw [mn_y c_20] at eq35
            subst eq35
            obtain ⟨q37, eq37⟩ : ∃ y : Int32, y = (nI j) + 1 := ⟨_, rfl⟩
            refine lv_iinc (v := q37) (lv' := [(5, .int q37), (4, .int (sumL (V 11) (sp_sel μ e1 e2 (j + 1)))), (0, .ref (la 5)), (1, .ref (la 10)), (2, .ref (la 11)), (3, .int (nI ms))]) hx hb dL_mean_37 hl (k := 1) rfl (by rw [eq37]; rfl) (by decide) rfl (fun ls hl => ?_)
            rw [nI_1] at eq37
            subst eq37
            refine lv_goto (tgt := 6) hx hb dL_mean_40 (by decide) ?_
            exact ih (j + 1) (by omega) (by omega) _ hS _ (lv_sub hl [1, 0, 2, 3, 4, 5] rfl)
        · subst hv
          refine lv_if_eq (tgt := 33) hx hb dL_mean_23 (by decide) (fun c_23 => ?_) (fun c_23 => ?_)
          · refine lv_iconst (v := 0) hx hb dL_mean_33 (by decide) ?_
            refine lv_iadd hx hb dL_mean_34 ?_
            refine lv_topi (fun q35 eq35 => ?_)
            refine lv_istore (lv' := [(4, .int q35), (5, .int (nI j)), (0, .ref (la 5)), (1, .ref (la 10)), (2, .ref (la 11)), (3, .int (nI ms))]) hx hb dL_mean_35 hl (by decide) rfl (fun ls hl => ?_)
            rw [mn_n c_20] at eq35
            subst eq35
            obtain ⟨q37, eq37⟩ : ∃ y : Int32, y = (nI j) + 1 := ⟨_, rfl⟩
            refine lv_iinc (v := q37) (lv' := [(5, .int q37), (4, .int (sumL (V 11) (sp_sel μ e1 e2 (j + 1)))), (0, .ref (la 5)), (1, .ref (la 10)), (2, .ref (la 11)), (3, .int (nI ms))]) hx hb dL_mean_37 hl (k := 1) rfl (by rw [eq37]; rfl) (by decide) rfl (fun ls hl => ?_)
            rw [nI_1] at eq37
            subst eq37
            refine lv_goto (tgt := 6) hx hb dL_mean_40 (by decide) ?_
            exact ih (j + 1) (by omega) (by omega) _ hS _ (lv_sub hl [1, 0, 2, 3, 4, 5] rfl)
          · exact absurd (by decide) c_23
  exact L6 (cn 12 + 1) 0 (by omega) (by omega) _ hS _ (lv_sub hl [1, 0, 2, 3, 4, 5] rfl)

theorem LV.xy {S : mS} {V V1 : Nat → Nat → Int32} (h : LV S V) (e : ∀ k, k ≠ 11 → k ≠ 12 → V1 k = V k) : LV S V1 := by
  unfold LV
  rw [e 0 (by decide) (by decide), e 1 (by decide) (by decide), e 2 (by decide) (by decide), e 3 (by decide) (by decide), e 4 (by decide) (by decide), e 5 (by decide) (by decide), e 6 (by decide) (by decide), e 7 (by decide) (by decide), e 8 (by decide) (by decide), e 9 (by decide) (by decide), e 10 (by decide) (by decide)]
  exact h
theorem lay_x {μ : Nat → Nat → Int32} {V V1 : Nat → Nat → Int32} {j : Nat} {a b : Int32} (e : ∀ k, k ≠ 11 → k ≠ 12 → V1 k = V k) (h : ∀ k, k < j → V1 11 k = sp_light μ k ∧ V1 12 k = sp_time μ k) (ha : a = sp_light μ j) (hb : b = sp_time μ j) :
    (∀ k, k ≠ 11 → k ≠ 12 → va_up (va_up V1 11 (upd (V1 11) j a)) 12 (upd (V1 12) j b) k = V k) ∧ ∀ k, k < j + 1 → va_up (va_up V1 11 (upd (V1 11) j a)) 12 (upd (V1 12) j b) 11 k = sp_light μ k ∧ va_up (va_up V1 11 (upd (V1 11) j a)) 12 (upd (V1 12) j b) 12 k = sp_time μ k := by
  refine ⟨fun k h1 h2 => ?_, fun k hk => ?_⟩
  · rw [show va_up (va_up V1 11 (upd (V1 11) j a)) 12 (upd (V1 12) j b) k = va_up V1 11 (upd (V1 11) j a) k from if_neg h2, show va_up V1 11 (upd (V1 11) j a) k = V1 k from if_neg h1]
    exact e k h1 h2
  · show upd (V1 11) j a k = _ ∧ upd (V1 12) j b k = _
    by_cases g : k = j
    · subst g; rw [upd_at, upd_at]; exact ⟨ha, hb⟩
    · rw [upd_ne g, upd_ne g]; exact h k (by omega)
theorem hd_L_light : yL_light.cls ≠ "java/lang/invoke/MethodHandle" ∧ yL_light.cls ≠ "java/lang/invoke/VarHandle" ∧ (parseMethodDescriptor yL_light.desc).map (fun d => d.parameters.length) = some 7 := ⟨by decide, by decide, by decide +kernel⟩
theorem hd_L_time : yL_time.cls ≠ "java/lang/invoke/MethodHandle" ∧ yL_time.cls ≠ "java/lang/invoke/VarHandle" ∧ (parseMethodDescriptor yL_time.desc).map (fun d => d.parameters.length) = some 6 := ⟨by decide, by decide, by decide +kernel⟩
abbrev rmL_lays : Room := { frames := 3, cells := 0, slots := 0, locals := 77 }
set_option maxHeartbeats 4000000 in
set_option maxRecDepth 100000 in
theorem c_L_lays (E : hk_E) (l : Launch) (H0 : Heap) {la : Nat → Nat} {V : Nat → Nat → Int32} (hL : LW E la V H0) {cn : Nat → Nat} {sc : Nat → Int32} {μ : Nat → Nat → Int32} (hV : LV (cn, sc, μ) V) (hI : InvF (cn, sc, μ)) (hla : ∀ a, a < 13 → ∀ b, b < 13 → la a = la b → a = b) (hlaA : ∀ k, k < 13 → hk_A E (la k)) : hk_M E l yL_lays wsL_lays rmL_lays (fun q => q = la 11 ∨ q = la 12) [.ref (la 0), .ref (la 1), .ref (la 2), .ref (la 3), .ref (la 4), .ref (la 5), .ref (la 6), .ref (la 7), .ref (la 10), .ref (la 11), .ref (la 12)] H0 (fun z H1 => z = none ∧ H1.size = H0.size ∧ ∃ V1, LW E la V1 H1 ∧ (∀ k, k ≠ 11 → k ≠ 12 → V1 k = V k) ∧ LXY (cn, sc, μ) V1) := by
  refine hk_M.ofW (cc := cL_lays) (maxL := 12) (ret := none) (by decide +kernel) rfl (Nat.le_of_ble_eq_true rfl) ?_
  intro p e s m args below meth c ls Q hQ X hr hlk hnm K hs9 hS hl
  obtain ⟨hx, hb, hml, hown, hts⟩ := id X
  have hAE : ∀ q, (fun q => q = la 11 ∨ q = la 12) q → hk_A E q := fun q h => h.elim (fun h => by rw [h]; exact hlaA 11 (by decide)) (fun h => by rw [h]; exact hlaA 12 (by decide))
  have hl : lv_has ls 12 [(0, .ref (la 0)), (1, .ref (la 1)), (2, .ref (la 2)), (3, .ref (la 3)), (4, .ref (la 4)), (5, .ref (la 5)), (6, .ref (la 6)), (7, .ref (la 7)), (8, .ref (la 10)), (9, .ref (la 11)), (10, .ref (la 12))] := hl
  have hn1 : cn 1 ≤ 4 := hV.n1
  have hn8 : cn 8 ≤ 3 := hV.n8
  have hn12 : cn 12 ≤ 24 := hV.n12
  have hn22 : cn 22 ≤ 4 := hV.n22
  have hn29 : cn 29 ≤ 8 := hV.n29
  refine lv_iconst (v := 0) hx hb dL_lays_0 (by decide) ?_
  refine lv_istore (lv' := [(11, .int 0), (0, .ref (la 0)), (1, .ref (la 1)), (2, .ref (la 2)), (3, .ref (la 3)), (4, .ref (la 4)), (5, .ref (la 5)), (6, .ref (la 6)), (7, .ref (la 7)), (8, .ref (la 10)), (9, .ref (la 11)), (10, .ref (la 12))]) hx hb dL_lays_1 hl (by decide) rfl (fun ls hl => ?_)
  have L3 : ∀ (n9 : Nat) (j : Nat) (H : Heap) (locs : List Loc) (V1 : Nat → Nat → Int32), cn 12 + 1 ≤ j + n9 → (va_S (fun q => q = la 11 ∨ q = la 12) s.heap H locs ∧ LW E la V1 H ∧ (∀ k, k ≠ 11 → k ≠ 12 → V1 k = V k) ∧ (∀ k, k < j → V1 11 k = sp_light μ k ∧ V1 12 k = sp_time μ k) ∧ j ≤ cn 12 ∧ H.size = H0.size) → ∀ (ls : Array Slot), lv_has ls 12 [(0, .ref (la 0)), (1, .ref (la 1)), (2, .ref (la 2)), (3, .ref (la 3)), (4, .ref (la 4)), (5, .ref (la 5)), (6, .ref (la 6)), (7, .ref (la 7)), (8, .ref (la 10)), (9, .ref (la 11)), (10, .ref (la 12)), (11, .int (nI j))] → W p l e rmL_lays s m args below meth c H locs 0 0 Q (F0 m 3 ls []) := by
    intro n9
    induction n9 with
    | zero =>
      intro j H locs V1 hm9 ⟨hS, hL1, heq, hxy0, hj, hzz⟩ ls hl
      have hV1 : LV (cn, sc, μ) V1 := hV.xy heq
      exact absurd hm9 (by omega)
    | succ n9 ih =>
      intro j H locs V1 hm9 ⟨hS, hL1, heq, hxy0, hj, hzz⟩ ls hl
      have hV1 : LV (cn, sc, μ) V1 := hV.xy heq
      refine lv_iload hx hb dL_lays_3 (lv_at hl 11 rfl) ?_
      refine lv_aload hx hb dL_lays_5 (lv_at hl 8 rfl) ?_
      refine lv_iconst (v := 2) hx hb dL_lays_7 (by decide) ?_
      refine hk_ild X K hL1.c10 (show vp_in (nI 2) 6 from vp_in_nI (by decide) (by decide)) dL_lays_8 ?_
      rw [show (V1 10) (2 : Int32).toNatClampNeg = nI (cn 12) from hV1.g2]
      refine lv_icmp_ge (tgt := 56) hx hb dL_lays_9 (by decide) (fun c_9 => ?_) (fun c_9 => ?_)
      · have hj9 : j = cn 12 := by
          have := (nI_leI (by omega) (by omega)).mp c_9
          omega
        exact hk_vret X hr hlk hQ hS (Nat.le_of_ble_eq_true rfl) (Nat.le_of_ble_eq_true rfl) dL_lays_56 (⟨rfl, by omega, V1, hL1, heq, fun k hk => hxy0 k (by rw [hj9]; exact hk)⟩)
      · have hj9 : j < cn 12 := Nat.lt_of_not_le (fun h => c_9 (nI_le h (by omega)))
        refine lv_aload hx hb dL_lays_12 (lv_at hl 9 rfl) ?_
        refine lv_iload hx hb dL_lays_14 (lv_at hl 11 rfl) ?_
        refine lv_aload_n hx hb dL_lays_16 rfl (lv_at hl 0 rfl) ?_
        refine lv_aload_n hx hb dL_lays_17 rfl (lv_at hl 1 rfl) ?_
        refine lv_aload hx hb dL_lays_18 (lv_at hl 4 rfl) ?_
        refine lv_aload hx hb dL_lays_20 (lv_at hl 5 rfl) ?_
        refine lv_aload hx hb dL_lays_22 (lv_at hl 6 rfl) ?_
        refine lv_aload hx hb dL_lays_24 (lv_at hl 7 rfl) ?_
        refine lv_iload hx hb dL_lays_26 (lv_at hl 11 rfl) ?_
        refine hk_callS 7 (As := [.ref (la 0), .ref (la 1), .ref (la 4), .ref (la 5), .ref (la 6), .ref (la 7), .int (nI j)]) (rest := [.int (nI j), .ref (la 11)]) X K hAE hS hl.1 (c_L_light E l H hL1 hV1 hI (show j < cn 12 by omega)) (fun _ h => h.elim) gL_lays_L_light rfl hd_L_light rfl ⟨⟨(Nat.le_of_ble_eq_true rfl), (Nat.le_of_ble_eq_true rfl)⟩, (Nat.le_of_ble_eq_true rfl), (Nat.le_of_ble_eq_true rfl)⟩ rfl (Nat.le_of_ble_eq_true rfl) dL_lays_28 (fun v9 H1 locsH1 hp hS hzH1 hkH1 => ?_)
        obtain ⟨hv, hh⟩ := hp
        subst hv; subst hh
        refine hk_ist X K hL1.c11 hS (Or.inl rfl) (vp_in_nI (by omega) (by omega)) dL_lays_31 (fun H2 locsH2 hIH2 hzH2 hqH2 hS => ?_)
        rw [nI_clamp (show j < 2 ^ 31 by omega)] at hIH2
        have hL1 := hL1.set hla (j := 11) (by decide) hIH2 hqH2
        have hV2 := hV1.xy (V1 := va_up V1 11 (upd (V1 11) j (sp_light μ j))) (fun k h1 h2 => if_neg h1)
        refine lv_aload hx hb dL_lays_32 (lv_at hl 10 rfl) ?_
        refine lv_iload hx hb dL_lays_34 (lv_at hl 11 rfl) ?_
        refine lv_aload_n hx hb dL_lays_36 rfl (lv_at hl 2 rfl) ?_
        refine lv_aload_n hx hb dL_lays_37 rfl (lv_at hl 3 rfl) ?_
        refine lv_aload hx hb dL_lays_38 (lv_at hl 4 rfl) ?_
        refine lv_aload hx hb dL_lays_40 (lv_at hl 5 rfl) ?_
        refine lv_aload hx hb dL_lays_42 (lv_at hl 6 rfl) ?_
        refine lv_iload hx hb dL_lays_44 (lv_at hl 11 rfl) ?_
        refine hk_callS 6 (As := [.ref (la 2), .ref (la 3), .ref (la 4), .ref (la 5), .ref (la 6), .int (nI j)]) (rest := [.int (nI j), .ref (la 12)]) X K hAE hS hl.1 (c_L_time E l H2 hL1 hV2 hI (show j < cn 12 by omega)) (fun _ h => h.elim) gL_lays_L_time rfl hd_L_time rfl ⟨⟨(Nat.le_of_ble_eq_true rfl), (Nat.le_of_ble_eq_true rfl)⟩, (Nat.le_of_ble_eq_true rfl), (Nat.le_of_ble_eq_true rfl)⟩ rfl (Nat.le_of_ble_eq_true rfl) dL_lays_46 (fun v9 H3 locsH3 hp hS hzH3 hkH3 => ?_)
        obtain ⟨hv, hh⟩ := hp
        subst hv; subst hh
        refine hk_ist X K hL1.c12 hS (Or.inr rfl) (vp_in_nI (by omega) (by omega)) dL_lays_49 (fun H4 locsH4 hIH4 hzH4 hqH4 hS => ?_)
        rw [nI_clamp (show j < 2 ^ 31 by omega)] at hIH4
        have hL1 := hL1.set hla (j := 12) (by decide) hIH4 hqH4
        obtain ⟨q50, eq50⟩ : ∃ y : Int32, y = (nI j) + 1 := ⟨_, rfl⟩
        refine lv_iinc (v := q50) (lv' := [(11, .int q50), (0, .ref (la 0)), (1, .ref (la 1)), (2, .ref (la 2)), (3, .ref (la 3)), (4, .ref (la 4)), (5, .ref (la 5)), (6, .ref (la 6)), (7, .ref (la 7)), (8, .ref (la 10)), (9, .ref (la 11)), (10, .ref (la 12))]) hx hb dL_lays_50 hl (k := 11) rfl (by rw [eq50]; rfl) (by decide) rfl (fun ls hl => ?_)
        rw [nI_1] at eq50
        subst eq50
        refine lv_goto (tgt := 3) hx hb dL_lays_53 (by decide) ?_
        have hxy := lay_x (a := sp_light μ j) (b := sp_time μ j) heq hxy0 rfl rfl
        exact ih (j + 1) _ _ _ (by omega) ⟨hS, hL1, hxy.1, hxy.2, by omega, by omega⟩ _ (lv_sub hl [1, 2, 3, 4, 5, 6, 7, 8, 9, 10, 11, 0] rfl)
  exact L3 (cn 12 + 1) 0 H0 _ V (by omega) ⟨hS, hL, fun _ _ _ => rfl, fun k hk => absurd hk (Nat.not_lt_zero _), by omega, rfl⟩ _ (lv_sub hl [1, 2, 3, 4, 5, 6, 7, 8, 9, 10, 11, 0] rfl)

