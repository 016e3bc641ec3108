set_option maxHeartbeats 4000000 in
set_option maxRecDepth 100000 in
theorem k_1140 {p : Program} {l : Launch} {e : Env} {s : State} {m : MethodId} {below : List Frame} {meth : Method} {c : Code} {b L : Nat} {xs : Nat → Int32} {E : hk_E} {Z : Nat → Prop} {ho ts b4 : Nat} {li : Nat → Nat} {rr : Nat → Nat → Nat} {la : Nat → Nat} (G0 : lw_G p l s m meth c b L xs E Z la b4) {H : Heap} {locs : List Loc} {cells slots tn zn st9 : Nat} {kd : Int32} (hJ0 : lw_J E Z ho ts li rr la b4 s (fun S => 2 ≤ S.1 1 ∧ st9 < S.1 1) H locs) (hz31 : zn < 2 ^ 31) (ht2 : 2 ≤ tn) (hce : cells + 40 ≤ 664990) (hsl : slots + 2000 ≤ 7106859) {ls : Array Slot} (hl : lv_has ls 26 [(20, .int (nI st9)), (19, .int (nI zn)), (18, .int kd), (16, .int (nI tn)), (15, .int 1), (2, .ref (la 0)), (3, .ref (la 1)), (4, .ref (la 2)), (5, .ref (la 3)), (6, .ref (la 4)), (7, .ref (la 5)), (8, .ref (la 6)), (9, .ref (la 7)), (10, .ref (la 8)), (11, .ref (la 9)), (12, .ref (la 10)), (13, .ref (la 11)), (14, .ref (la 12)), (1, .ref ho), (0, .ref b)])
  (J2061 : ∀ (H1 : Heap) (locs1 : List Loc), lw_J E Z ho ts li rr la b4 s (fun S => tI (tn + 1) (S.1 1)) H1 locs1 → ∀ (ls : Array Slot), lv_has ls 26 [(19, .int (nI zn)), (16, .int (nI tn)), (15, .int 1), (2, .ref (la 0)), (3, .ref (la 1)), (4, .ref (la 2)), (5, .ref (la 3)), (6, .ref (la 4)), (7, .ref (la 5)), (8, .ref (la 6)), (9, .ref (la 7)), (10, .ref (la 8)), (11, .ref (la 9)), (12, .ref (la 10)), (13, .ref (la 11)), (14, .ref (la 12)), (1, .ref ho), (0, .ref b)] → W p l e room_1 s m #[Value.ref b] below meth c H1 locs1 (cells + 40) (slots + 2000) (lw_Z below #[Value.ref b] s) (F0 m 2061 ls [])) : W p l e room_1 s m #[Value.ref b] below meth c H locs cells slots (lw_Z below #[Value.ref b] s) (F0 m 1140 ls []) := by
  obtain ⟨hl9, hLL, C0, X, K, hE, hZn0, hlz, hla, hlA⟩ := id G0
  obtain ⟨G, R, V, ⟨cn, sc, μ⟩, hI, hV, hW, hL, hS, hb4, ⟨h2, hst⟩⟩ := hJ0
  obtain ⟨hx, hb, hr, hml, hown, hts, hXs, hbl, hlocks, -⟩ := id C0
  have hAE : ∀ q, hk_A E q → hk_A E q := fun _ h => h
  have hZA : ∀ q, Z q → hk_A E q := hW.2.2.2.2.2.2.2.2.2.2.2.2
  have hZn : ∀ q, H.size ≤ q → Z q := fun q h => hZn0 q (Nat.le_trans hb4 h)
  have hn1 : cn 1 ≤ 4 := hV.n1
  have hn8 : cn 8 ≤ 3 := hV.n8
  have hn12 : cn 12 ≤ 24 := hV.n12
  have hn22 : cn 22 ≤ 4 := hV.n22
  have hn29 : cn 29 ≤ 8 := hV.n29
  have h2 : 2 ≤ cn 1 := h2
  have hst : st9 < cn 1 := hst
  refine lv_iload hx hb dL_law_1140 (lv_at hl 2 rfl) ?_
  refine lv_bipush (v := 17) hx hb dL_law_1142 (by decide) ?_
  refine lv_icmp_ge (tgt := 1240) hx hb dL_law_1144 (by decide) (fun c_1144 => ?_) (fun c_1144 => ?_)
  · exact k_1240 G0 ⟨G, R, V, (cn, sc, μ), hI, hV, hW, hL, hS, hb4, ⟨h2, hst⟩⟩ hz31 ht2 hce hsl hl J2061
  · refine lv_aload hx hb dL_law_1147 (lv_at hl 15 rfl) ?_
    refine lv_iconst (v := 4) hx hb dL_law_1149 (by decide) ?_
    refine hk_ild (f := (V 10)) X K hL.c10 (show vp_in (nI 4) 6 from vp_in_nI (by decide) (by decide)) dL_law_1150 ?_
    rw [show (V 10) (4 : Int32).toNatClampNeg = nI (cn 29) from hV.g4]
    refine lv_bipush (v := 8) hx hb dL_law_1151 (by decide) ?_
    refine lv_icmp_ge (tgt := 1240) hx hb dL_law_1153 (by decide) (fun c_1153 => ?_) (fun c_1153 => ?_)
    · exact k_1240 G0 ⟨G, R, V, (cn, sc, μ), hI, hV, hW, hL, hS, hb4, ⟨h2, hst⟩⟩ hz31 ht2 hce hsl hl J2061
    · have h29 : cn 29 < 8 := Nat.lt_of_not_le (fun h => c_1153 (nI_le (a := 8) h (by omega)))
      refine lv_aload hx hb dL_law_1156 (lv_at hl 14 rfl) ?_
      refine lv_iconst (v := 2) hx hb dL_law_1158 (by decide) ?_
      refine lv_aload hx hb dL_law_1159 (lv_at hl 15 rfl) ?_
      refine lv_iconst (v := 4) hx hb dL_law_1161 (by decide) ?_
      refine hk_ild (f := (V 10)) X K hL.c10 (show vp_in (nI 4) 6 from vp_in_nI (by decide) (by decide)) dL_law_1162 ?_
      rw [show (V 10) (4 : Int32).toNatClampNeg = nI (cn 29) from hV.g4]
      refine lv_imul hx hb dL_law_1163 ?_
      refine lv_topi (fun z_1 ez_1 => ?_)
      have ez_1 : z_1 = nI (2 * (cn 29)) := ez_1.trans (nI_mul 2 (cn 29))
      subst ez_1
      refine lv_iload hx hb dL_law_1164 (lv_at hl 0 rfl) ?_
      refine hk_ist (f := (V 9)) X K hL.c9 hS (hlA 9 (by decide)) (vp_in_nI (by omega) (by omega)) dL_law_1166 (fun H2 locsH2 hIH2 hzH2 hqH2 hS => ?_)
      rw [nI_clamp (show (2 * (cn 29)) < 2 ^ 31 by omega)] at hIH2
      have hL := hL.set hla (j := 9) (by decide) hIH2 hqH2
      have hW := hW.kept (fun q h1 h2 => hqH2 q (fun g => h2.elim (fun h => hlz 9 (by decide) (by rw [← g]; exact h)) (fun h => h (by rw [g]; exact hlA 9 (by decide)))))
      have hb4 : b4 ≤ H2.size := by omega
      have hZn := fun (q : Nat) (h : H2.size ≤ q) => hZn0 q (Nat.le_trans hb4 h)
      refine lv_aload hx hb dL_law_1167 (lv_at hl 14 rfl) ?_
      refine lv_iconst (v := 2) hx hb dL_law_1169 (by decide) ?_
      refine lv_aload hx hb dL_law_1170 (lv_at hl 15 rfl) ?_
      refine lv_iconst (v := 4) hx hb dL_law_1172 (by decide) ?_
      refine hk_ild (f := (V 10)) X K hL.c10 (show vp_in (nI 4) 6 from vp_in_nI (by decide) (by decide)) dL_law_1173 ?_
      rw [show (V 10) (4 : Int32).toNatClampNeg = nI (cn 29) from hV.g4]
      refine lv_imul hx hb dL_law_1174 ?_
      refine lv_topi (fun z_3 ez_3 => ?_)
      have ez_3 : z_3 = nI (2 * (cn 29)) := ez_3.trans (nI_mul 2 (cn 29))
      subst ez_3
      refine lv_iconst (v := 1) hx hb dL_law_1175 (by decide) ?_
      refine lv_iadd hx hb dL_law_1176 ?_
      refine lv_topi (fun z_4 ez_4 => ?_)
      have ez_4 : z_4 = nI ((2 * (cn 29)) + 1) := ez_4.trans (nI_add (2 * (cn 29)) 1)
      subst ez_4
      refine lv_iload hx hb dL_law_1177 (lv_at hl 1 rfl) ?_
      refine lv_iconst (v := 4) hx hb dL_law_1179 (by decide) ?_
      refine lv_idiv hx hb dL_law_1180 (by decide) ?_
      refine lv_topi (fun z_5 ez_5 => ?_)
      have ez_5 : z_5 = nI (zn / 4) := ez_5.trans (pk_div (a := zn) (d := 4) (by omega) (by omega) (by omega))
      subst ez_5
      refine lv_iload hx hb dL_law_1181 (lv_at hl 1 rfl) ?_
      refine lv_iconst (v := 3) hx hb dL_law_1183 (by decide) ?_
      refine lv_irem hx hb dL_law_1184 (by decide) ?_
      refine lv_topi (fun z_6 ez_6 => ?_)
      have ez_6 : z_6 = nI (zn % 3) := ez_6.trans (pk_rem (a := zn) (d := 3) (by omega) (by omega) (by omega))
      subst ez_6
      refine lv_if_ne (tgt := 1193) hx hb dL_law_1185 (by decide) (fun c_1185 => ?_) (fun c_1185 => ?_)
      · refine lv_sipush (v := 20000) hx hb dL_law_1193 (by decide) ?_
        refine lv_irem hx hb dL_law_1196 (by decide) ?_
        refine lv_topi (fun z_7 ez_7 => ?_)
        have ez_7 : z_7 = nI ((zn / 4) % 20000) := ez_7.trans (pk_rem (a := (zn / 4)) (d := 20000) (by omega) (by omega) (by omega))
        subst ez_7
        refine hk_ist (f := (upd (V 9) (2 * (cn 29)) (nI st9))) X K hL.c9 hS (hlA 9 (by decide)) (vp_in_nI (by omega) (by omega)) dL_law_1197 (fun H8 locsH8 hIH8 hzH8 hqH8 hS => ?_)
        rw [nI_clamp (show ((2 * (cn 29)) + 1) < 2 ^ 31 by omega)] at hIH8
        have hL := hL.set hla (j := 9) (by decide) hIH8 hqH8
        have hW := hW.kept (fun q h1 h2 => hqH8 q (fun g => h2.elim (fun h => hlz 9 (by decide) (by rw [← g]; exact h)) (fun h => h (by rw [g]; exact hlA 9 (by decide)))))
        have hb4 : b4 ≤ H8.size := by omega
        have hZn := fun (q : Nat) (h : H8.size ≤ q) => hZn0 q (Nat.le_trans hb4 h)
        refine lv_aload_n hx hb dL_law_1198 rfl (lv_at hl 18 rfl) ?_
        refine lv_iload hx hb dL_law_1199 (lv_at hl 0 rfl) ?_
        refine lv_aload hx hb dL_law_1201 (lv_at hl 14 rfl) ?_
        refine lv_iconst (v := 2) hx hb dL_law_1203 (by decide) ?_
        refine lv_aload hx hb dL_law_1204 (lv_at hl 15 rfl) ?_
        refine lv_iconst (v := 4) hx hb dL_law_1206 (by decide) ?_
        refine hk_ild (f := (V 10)) X K hL.c10 (show vp_in (nI 4) 6 from vp_in_nI (by decide) (by decide)) dL_law_1207 ?_
        rw [show (V 10) (4 : Int32).toNatClampNeg = nI (cn 29) from hV.g4]
        refine lv_imul hx hb dL_law_1208 ?_
        refine lv_topi (fun z_9 ez_9 => ?_)
        have ez_9 : z_9 = nI (2 * (cn 29)) := ez_9.trans (nI_mul 2 (cn 29))
        subst ez_9
        refine lv_iconst (v := 1) hx hb dL_law_1209 (by decide) ?_
        refine lv_iadd hx hb dL_law_1210 ?_
        refine lv_topi (fun z_10 ez_10 => ?_)
        have ez_10 : z_10 = nI ((2 * (cn 29)) + 1) := ez_10.trans (nI_add (2 * (cn 29)) 1)
        subst ez_10
        refine hk_ild (f := (upd (upd (V 9) (2 * (cn 29)) (nI st9)) ((2 * (cn 29)) + 1) (nI ((zn / 4) % 20000)))) X K hL.c9 (vp_in_nI (by omega) (by omega)) dL_law_1211 ?_
        rw [show (upd (upd (V 9) (2 * (cn 29)) (nI st9)) ((2 * (cn 29)) + 1) (nI ((zn / 4) % 20000))) (nI ((2 * (cn 29)) + 1)).toNatClampNeg = nI (zn / 4 % 20000) from (congrArg _ (nI_clamp (show 2 * cn 29 + 1 < 2 ^ 31 by omega))).trans (by rw [upd_at])]
        have hcd0 : cd_minimum (nI st9) (nI (zn / 4 % 20000)) (cn, sc, μ) = 0 := mini_c hst hn1 (by omega) h29
        refine hk_callVx 2 (As := [.int (nI st9), .int (nI (zn / 4 % 20000))]) (rest := []) X K hAE hS hl.1 (HW.o hW) rfl (c_X10_minimum E l hl9 H8 hW hI hZn (p0 := nI st9) (p1 := nI (zn / 4 % 20000))) hZA gL_law_X10_minimum rfl ⟨rfl, hd_X10_minimum⟩ rfl ⟨⟨(Nat.le_of_ble_eq_true rfl), (Nat.le_of_ble_eq_true rfl)⟩, (by show cells + 12 ≤ 664990; omega), (by show slots + 600 ≤ 7106859; omega)⟩ rfl (Nat.le_of_ble_eq_true rfl) dL_law_1212 (fun x9 ce9 q9 H9 locs9 hp hS hz9 hk9 hce hcv hcl => by
            obtain ⟨hcs, -⟩ := hp
            rw [hcd0] at hcs
            rcases hcs with ⟨h, -⟩ | ⟨h, -⟩ | ⟨h, -⟩ <;> exact absurd h (by decide)
          ) (fun v9 H11 locsH11 hp hS hzH11 hkH11 => ?_)
        obtain ⟨-, hv, G, R, hW⟩ := hp
        subst hv
        have hL := hL.kept (fun k hk => hkH11 (la k) (hL.lt hk) (hlz k hk))
        have hb4 := Nat.le_trans hb4 hzH11
        have hZn := fun (q : Nat) (h : H11.size ≤ q) => hZn0 q (Nat.le_trans hb4 h)
        refine lv_aload hx hb dL_law_1215 (lv_at hl 15 rfl) ?_
        refine lv_iconst (v := 4) hx hb dL_law_1217 (by decide) ?_
        refine hk_ild (f := (V 10)) X K hL.c10 (show vp_in (nI 4) 6 from vp_in_nI (by decide) (by decide)) dL_law_1218 ?_
        rw [show (V 10) (4 : Int32).toNatClampNeg = nI (cn 29) from hV.g4]
        refine lv_icmp_ne (tgt := 1226) hx hb dL_law_1219 (by decide) (fun c_1219 => ?_) (fun c_1219 => ?_)
        · exact (c_1219 (rfl)).elim
        · refine lv_iconst (v := 1) hx hb dL_law_1222 (by decide) ?_
          refine lv_goto (tgt := 1227) hx hb dL_law_1223 (by decide) ?_
          refine lv_istore (lv' := [(15, .int 1), (20, .int (nI st9)), (19, .int (nI zn)), (18, .int kd), (16, .int (nI tn)), (2, .ref (la 0)), (3, .ref (la 1)), (4, .ref (la 2)), (5, .ref (la 3)), (6, .ref (la 4)), (7, .ref (la 5)), (8, .ref (la 6)), (9, .ref (la 7)), (10, .ref (la 8)), (11, .ref (la 9)), (12, .ref (la 10)), (13, .ref (la 11)), (14, .ref (la 12)), (1, .ref ho), (0, .ref b)]) hx hb dL_law_1227 hl (by decide) rfl (fun ls hl => ?_)
          refine lv_aload hx hb dL_law_1229 (lv_at hl 15 rfl) ?_
          refine lv_iconst (v := 4) hx hb dL_law_1231 (by decide) ?_
          refine lv_dup2_11 hx hb dL_law_1232 rfl rfl ?_
          refine hk_ild (f := (V 10)) X K hL.c10 (show vp_in (nI 4) 6 from vp_in_nI (by decide) (by decide)) dL_law_1233 ?_
          rw [show (V 10) (4 : Int32).toNatClampNeg = nI (cn 29) from hV.g4]
          refine lv_iconst (v := 1) hx hb dL_law_1234 (by decide) ?_
          refine lv_iadd hx hb dL_law_1235 ?_
          refine lv_topi (fun z_12 ez_12 => ?_)
          have ez_12 : z_12 = nI ((cn 29) + 1) := ez_12.trans (nI_add (cn 29) 1)
          subst ez_12
          refine hk_ist (f := (V 10)) X K hL.c10 hS (hlA 10 (by decide)) (show vp_in (nI 4) 6 from vp_in_nI (by decide) (by decide)) dL_law_1236 (fun H13 locsH13 hIH13 hzH13 hqH13 hS => ?_)
          rw [show (4 : Int32).toNatClampNeg = 4 from rfl] at hIH13
          have hL := hL.set hla (j := 10) (by decide) hIH13 hqH13
          have hW := hW.kept (fun q h1 h2 => hqH13 q (fun g => h2.elim (fun h => hlz 10 (by decide) (by rw [← g]; exact h)) (fun h => h (by rw [g]; exact hlA 10 (by decide)))))
          have hb4 : b4 ≤ H13.size := by omega
          have hZn := fun (q : Nat) (h : H13.size ≤ q) => hZn0 q (Nat.le_trans hb4 h)
          refine lv_goto (tgt := 2061) hx hb dL_law_1237 (by decide) ?_
          refine W.widen (k := cells + 40) (n := slots + 2000) (by show cells + 12 ≤ _; omega) (by show slots + 600 ≤ _; omega) ?_
          have hV9 := lv_minimum hV h29 (x := nI st9) (y := nI (zn / 4 % 20000))
          exact J2061 H13 _ ⟨G, R, _, _, invF_minimum hI hcd0, hV9, hW, LW.mk13 hL.c0 hL.c1 hL.c2 hL.c3 hL.c4 hL.c5 hL.c6 hL.c7 hL.c8 hL.c9 hL.c10 hL.c11 hL.c12, hS, hb4, ⟨fun h => absurd h (by omega), fun _ => h2⟩⟩ _ (lv_sub hl [2, 4, 0, 5, 6, 7, 8, 9, 10, 11, 12, 13, 14, 15, 16, 17, 18, 19] rfl)
      · refine lv_ldc hx hb hown (hts (.constant RL 141 (10000000)) (by decide +kernel)) dL_law_1188 ?_
        refine lv_goto (tgt := 1196) hx hb dL_law_1190 (by decide) ?_
        refine lv_irem hx hb dL_law_1196 (by decide) ?_
        refine lv_topi (fun z_14 ez_14 => ?_)
        have ez_14 : z_14 = nI ((zn / 4) % 10000000) := ez_14.trans (pk_rem (a := (zn / 4)) (d := 10000000) (by omega) (by omega) (by omega))
        subst ez_14
        refine hk_ist (f := (upd (V 9) (2 * (cn 29)) (nI st9))) X K hL.c9 hS (hlA 9 (by decide)) (vp_in_nI (by omega) (by omega)) dL_law_1197 (fun H15 locsH15 hIH15 hzH15 hqH15 hS => ?_)
        rw [nI_clamp (show ((2 * (cn 29)) + 1) < 2 ^ 31 by omega)] at hIH15
        have hL := hL.set hla (j := 9) (by decide) hIH15 hqH15
        have hW := hW.kept (fun q h1 h2 => hqH15 q (fun g => h2.elim (fun h => hlz 9 (by decide) (by rw [← g]; exact h)) (fun h => h (by rw [g]; exact hlA 9 (by decide)))))
        have hb4 : b4 ≤ H15.size := by omega
        have hZn := fun (q : Nat) (h : H15.size ≤ q) => hZn0 q (Nat.le_trans hb4 h)
        refine lv_aload_n hx hb dL_law_1198 rfl (lv_at hl 18 rfl) ?_
        refine lv_iload hx hb dL_law_1199 (lv_at hl 0 rfl) ?_
        refine lv_aload hx hb dL_law_1201 (lv_at hl 14 rfl) ?_
        refine lv_iconst (v := 2) hx hb dL_law_1203 (by decide) ?_
        refine lv_aload hx hb dL_law_1204 (lv_at hl 15 rfl) ?_
        refine lv_iconst (v := 4) hx hb dL_law_1206 (by decide) ?_
        refine hk_ild (f := (V 10)) X K hL.c10 (show vp_in (nI 4) 6 from vp_in_nI (by decide) (by decide)) dL_law_1207 ?_
        rw [show (V 10) (4 : Int32).toNatClampNeg = nI (cn 29) from hV.g4]
        refine lv_imul hx hb dL_law_1208 ?_
        refine lv_topi (fun z_16 ez_16 => ?_)
        have ez_16 : z_16 = nI (2 * (cn 29)) := ez_16.trans (nI_mul 2 (cn 29))
        subst ez_16
        refine lv_iconst (v := 1) hx hb dL_law_1209 (by decide) ?_
        refine lv_iadd hx hb dL_law_1210 ?_
        refine lv_topi (fun z_17 ez_17 => ?_)
        have ez_17 : z_17 = nI ((2 * (cn 29)) + 1) := ez_17.trans (nI_add (2 * (cn 29)) 1)
        subst ez_17
        refine hk_ild (f := (upd (upd (V 9) (2 * (cn 29)) (nI st9)) ((2 * (cn 29)) + 1) (nI ((zn / 4) % 10000000)))) X K hL.c9 (vp_in_nI (by omega) (by omega)) dL_law_1211 ?_
        rw [show (upd (upd (V 9) (2 * (cn 29)) (nI st9)) ((2 * (cn 29)) + 1) (nI ((zn / 4) % 10000000))) (nI ((2 * (cn 29)) + 1)).toNatClampNeg = nI (zn / 4 % 10000000) from (congrArg _ (nI_clamp (show 2 * cn 29 + 1 < 2 ^ 31 by omega))).trans (by rw [upd_at])]
        have hcd0 : cd_minimum (nI st9) (nI (zn / 4 % 10000000)) (cn, sc, μ) = 0 := mini_c hst hn1 (by omega) h29
        refine hk_callVx 2 (As := [.int (nI st9), .int (nI (zn / 4 % 10000000))]) (rest := []) X K hAE hS hl.1 (HW.o hW) rfl (c_X10_minimum E l hl9 H15 hW hI hZn (p0 := nI st9) (p1 := nI (zn / 4 % 10000000))) hZA gL_law_X10_minimum rfl ⟨rfl, hd_X10_minimum⟩ rfl ⟨⟨(Nat.le_of_ble_eq_true rfl), (Nat.le_of_ble_eq_true rfl)⟩, (by show cells + 12 ≤ 664990; omega), (by show slots + 600 ≤ 7106859; omega)⟩ rfl (Nat.le_of_ble_eq_true rfl) dL_law_1212 (fun x9 ce9 q9 H9 locs9 hp hS hz9 hk9 hce hcv hcl => by
            obtain ⟨hcs, -⟩ := hp
            rw [hcd0] at hcs
            rcases hcs with ⟨h, -⟩ | ⟨h, -⟩ | ⟨h, -⟩ <;> exact absurd h (by decide)
          ) (fun v9 H18 locsH18 hp hS hzH18 hkH18 => ?_)
        obtain ⟨-, hv, G, R, hW⟩ := hp
        subst hv
        have hL := hL.kept (fun k hk => hkH18 (la k) (hL.lt hk) (hlz k hk))
        have hb4 := Nat.le_trans hb4 hzH18
        have hZn := fun (q : Nat) (h : H18.size ≤ q) => hZn0 q (Nat.le_trans hb4 h)
        refine lv_aload hx hb dL_law_1215 (lv_at hl 15 rfl) ?_
        refine lv_iconst (v := 4) hx hb dL_law_1217 (by decide) ?_
        refine hk_ild (f := (V 10)) X K hL.c10 (show vp_in (nI 4) 6 from vp_in_nI (by decide) (by decide)) dL_law_1218 ?_
        rw [show (V 10) (4 : Int32).toNatClampNeg = nI (cn 29) from hV.g4]
        refine lv_icmp_ne (tgt := 1226) hx hb dL_law_1219 (by decide) (fun c_1219 => ?_) (fun c_1219 => ?_)
        · exact (c_1219 (rfl)).elim
        · refine lv_iconst (v := 1) hx hb dL_law_1222 (by decide) ?_
          refine lv_goto (tgt := 1227) hx hb dL_law_1223 (by decide) ?_
          refine lv_istore (lv' := [(15, .int 1), (20, .int (nI st9)), (19, .int (nI zn)), (18, .int kd), (16, .int (nI tn)), (2, .ref (la 0)), (3, .ref (la 1)), (4, .ref (la 2)), (5, .ref (la 3)), (6, .ref (la 4)), (7, .ref (la 5)), (8, .ref (la 6)), (9, .ref (la 7)), (10, .ref (la 8)), (11, .ref (la 9)), (12, .ref (la 10)), (13, .ref (la 11)), (14, .ref (la 12)), (1, .ref ho), (0, .ref b)]) hx hb dL_law_1227 hl (by decide) rfl (fun ls hl => ?_)
          refine lv_aload hx hb dL_law_1229 (lv_at hl 15 rfl) ?_
          refine lv_iconst (v := 4) hx hb dL_law_1231 (by decide) ?_
          refine lv_dup2_11 hx hb dL_law_1232 rfl rfl ?_
          refine hk_ild (f := (V 10)) X K hL.c10 (show vp_in (nI 4) 6 from vp_in_nI (by decide) (by decide)) dL_law_1233 ?_
          rw [show (V 10) (4 : Int32).toNatClampNeg = nI (cn 29) from hV.g4]
          refine lv_iconst (v := 1) hx hb dL_law_1234 (by decide) ?_
          refine lv_iadd hx hb dL_law_1235 ?_
          refine lv_topi (fun z_19 ez_19 => ?_)
          have ez_19 : z_19 = nI ((cn 29) + 1) := ez_19.trans (nI_add (cn 29) 1)
          subst ez_19
          refine hk_ist (f := (V 10)) X K hL.c10 hS (hlA 10 (by decide)) (show vp_in (nI 4) 6 from vp_in_nI (by decide) (by decide)) dL_law_1236 (fun H20 locsH20 hIH20 hzH20 hqH20 hS => ?_)
          rw [show (4 : Int32).toNatClampNeg = 4 from rfl] at hIH20
          have hL := hL.set hla (j := 10) (by decide) hIH20 hqH20
          have hW := hW.kept (fun q h1 h2 => hqH20 q (fun g => h2.elim (fun h => hlz 10 (by decide) (by rw [← g]; exact h)) (fun h => h (by rw [g]; exact hlA 10 (by decide)))))
          have hb4 : b4 ≤ H20.size := by omega
          have hZn := fun (q : Nat) (h : H20.size ≤ q) => hZn0 q (Nat.le_trans hb4 h)
          refine lv_goto (tgt := 2061) hx hb dL_law_1237 (by decide) ?_
          refine W.widen (k := cells + 40) (n := slots + 2000) (by show cells + 12 ≤ _; omega) (by show slots + 600 ≤ _; omega) ?_
          have hV9 := lv_minimum hV h29 (x := nI st9) (y := nI (zn / 4 % 10000000))
          exact J2061 H20 _ ⟨G, R, _, _, invF_minimum hI hcd0, hV9, hW, LW.mk13 hL.c0 hL.c1 hL.c2 hL.c3 hL.c4 hL.c5 hL.c6 hL.c7 hL.c8 hL.c9 hL.c10 hL.c11 hL.c12, hS, hb4, ⟨fun h => absurd h (by omega), fun _ => h2⟩⟩ _ (lv_sub hl [2, 4, 0, 5, 6, 7, 8, 9, 10, 11, 12, 13, 14, 15, 16, 17, 18, 19] rfl)

set_option maxHeartbeats 4000000 in
set_option maxRecDepth 100000 in
theorem k_1039 {p : Program} {l : Launch} {e : Env} {s : State} {m : MethodId} {below : List Frame} {meth : Method} {c : Code} {b L : Nat} {xs : Nat → Int32} {E : hk_E} {Z : Nat → Prop} {ho ts b4 : Nat} {li : Nat → Nat} {rr : Nat → Nat → Nat} {la : Nat → Nat} (G0 : lw_G p l s m meth c b L xs E Z la b4) {H : Heap} {locs : List Loc} {cells slots tn zn st9 : Nat} {kd : Int32} (hJ0 : lw_J E Z ho ts li rr la b4 s (fun S => 2 ≤ S.1 1 ∧ st9 < S.1 1) H locs) (hz31 : zn < 2 ^ 31) (ht2 : 2 ≤ tn) (hce : cells + 40 ≤ 664990) (hsl : slots + 2000 ≤ 7106859) {ls : Array Slot} (hl : lv_has ls 26 [(20, .int (nI st9)), (19, .int (nI zn)), (18, .int kd), (16, .int (nI tn)), (15, .int 1), (2, .ref (la 0)), (3, .ref (la 1)), (4, .ref (la 2)), (5, .ref (la 3)), (6, .ref (la 4)), (7, .ref (la 5)), (8, .ref (la 6)), (9, .ref (la 7)), (10, .ref (la 8)), (11, .ref (la 9)), (12, .ref (la 10)), (13, .ref (la 11)), (14, .ref (la 12)), (1, .ref ho), (0, .ref b)])
  (J2061 : ∀ (H1 : Heap) (locs1 : List Loc), lw_J E Z ho ts li rr la b4 s (fun S => tI (tn + 1) (S.1 1)) H1 locs1 → ∀ (ls : Array Slot), lv_has ls 26 [(19, .int (nI zn)), (16, .int (nI tn)), (15, .int 1), (2, .ref (la 0)), (3, .ref (la 1)), (4, .ref (la 2)), (5, .ref (la 3)), (6, .ref (la 4)), (7, .ref (la 5)), (8, .ref (la 6)), (9, .ref (la 7)), (10, .ref (la 8)), (11, .ref (la 9)), (12, .ref (la 10)), (13, .ref (la 11)), (14, .ref (la 12)), (1, .ref ho), (0, .ref b)] → W p l e room_1 s m #[Value.ref b] below meth c H1 locs1 (cells + 40) (slots + 2000) (lw_Z below #[Value.ref b] s) (F0 m 2061 ls [])) : W p l e room_1 s m #[Value.ref b] below meth c H locs cells slots (lw_Z below #[Value.ref b] s) (F0 m 1039 ls []) := by
  obtain ⟨hl9, hLL, C0, X, K, hE, hZn0, hlz, hla, hlA⟩ := id G0
  obtain ⟨G, R, V, ⟨cn, sc, μ⟩, hI, hV, hW, hL, hS, hb4, ⟨h2, hst⟩⟩ := hJ0
  obtain ⟨hx, hb, hr, hml, hown, hts, hXs, hbl, hlocks, -⟩ := id C0
  have hAE : ∀ q, hk_A E q → hk_A E q := fun _ h => h
  have hZA : ∀ q, Z q → hk_A E q := hW.2.2.2.2.2.2.2.2.2.2.2.2
  have hZn : ∀ q, H.size ≤ q → Z q := fun q h => hZn0 q (Nat.le_trans hb4 h)
  have hn1 : cn 1 ≤ 4 := hV.n1
  have hn8 : cn 8 ≤ 3 := hV.n8
  have hn12 : cn 12 ≤ 24 := hV.n12
  have hn22 : cn 22 ≤ 4 := hV.n22
  have hn29 : cn 29 ≤ 8 := hV.n29
  have h2 : 2 ≤ cn 1 := h2
  have hst : st9 < cn 1 := hst
  refine lv_iload hx hb dL_law_1039 (lv_at hl 2 rfl) ?_
  refine lv_bipush (v := 14) hx hb dL_law_1041 (by decide) ?_
  refine lv_icmp_ne (tgt := 1140) hx hb dL_law_1043 (by decide) (fun c_1043 => ?_) (fun c_1043 => ?_)
  · exact k_1140 G0 ⟨G, R, V, (cn, sc, μ), hI, hV, hW, hL, hS, hb4, ⟨h2, hst⟩⟩ hz31 ht2 hce hsl hl J2061
  · refine lv_aload hx hb dL_law_1046 (lv_at hl 15 rfl) ?_
    refine lv_iconst (v := 2) hx hb dL_law_1048 (by decide) ?_
    refine hk_ild (f := (V 10)) X K hL.c10 (show vp_in (nI 2) 6 from vp_in_nI (by decide) (by decide)) dL_law_1049 ?_
    rw [show (V 10) (2 : Int32).toNatClampNeg = nI (cn 12) from hV.g2]
    refine lv_if_le (tgt := 1140) hx hb dL_law_1050 (by decide) (fun c_1050 => ?_) (fun c_1050 => ?_)
    · exact k_1140 G0 ⟨G, R, V, (cn, sc, μ), hI, hV, hW, hL, hS, hb4, ⟨h2, hst⟩⟩ hz31 ht2 hce hsl hl J2061
    · have h12 : 0 < cn 12 := by
        rcases Nat.eq_zero_or_pos (cn 12) with h | h
        · rw [h] at c_1050; exact absurd (Int32.le_refl _) c_1050
        · exact h
      obtain ⟨lk9, elk⟩ : ∃ y, y = zn % cn 12 := ⟨_, rfl⟩
      have hlk : lk9 < cn 12 := by rw [elk]; exact Nat.mod_lt _ h12
      obtain ⟨sx, stx, ofx, dx, hsx, hstx, hofx, hdx, h13, h14, h15, h21, h5, hsd, hss⟩ := hV.lk hlk
      have hstx : stx < cn 1 := hstx
      refine lv_iload hx hb dL_law_1053 (lv_at hl 1 rfl) ?_
      refine lv_aload hx hb dL_law_1055 (lv_at hl 15 rfl) ?_
      refine lv_iconst (v := 2) hx hb dL_law_1057 (by decide) ?_
      refine hk_ild (f := (V 10)) X K hL.c10 (show vp_in (nI 2) 6 from vp_in_nI (by decide) (by decide)) dL_law_1058 ?_
      rw [show (V 10) (2 : Int32).toNatClampNeg = nI (cn 12) from hV.g2]
      refine lv_irem hx hb dL_law_1059 (nI_ne0 (by omega) (by omega)) ?_
      refine lv_topi (fun z_1 ez_1 => ?_)
      have ez_1 : z_1 = nI lk9 := ez_1.trans ((pk_rem (a := zn) (d := (cn 12)) (by omega) (by omega) (by omega)).trans (congrArg nI (show zn % (cn 12) = lk9 by omega)))
      subst ez_1
      refine lv_istore (lv' := [(21, .int (nI lk9)), (20, .int (nI st9)), (19, .int (nI zn)), (18, .int kd), (16, .int (nI tn)), (15, .int 1), (2, .ref (la 0)), (3, .ref (la 1)), (4, .ref (la 2)), (5, .ref (la 3)), (6, .ref (la 4)), (7, .ref (la 5)), (8, .ref (la 6)), (9, .ref (la 7)), (10, .ref (la 8)), (11, .ref (la 9)), (12, .ref (la 10)), (13, .ref (la 11)), (14, .ref (la 12)), (1, .ref ho), (0, .ref b)]) hx hb dL_law_1060 hl (by decide) rfl (fun ls hl => ?_)
      refine lv_iload hx hb dL_law_1062 (lv_at hl 2 rfl) ?_
      refine lv_bipush (v := 24) hx hb dL_law_1064 (by decide) ?_
      refine lv_idiv hx hb dL_law_1066 (by decide) ?_
      refine lv_topi (fun z_2 ez_2 => ?_)
      have ez_2 : z_2 = nI (zn / 24) := ez_2.trans (pk_div (a := zn) (d := 24) (by omega) (by omega) (by omega))
      subst ez_2
      refine lv_iconst (v := 2) hx hb dL_law_1067 (by decide) ?_
      refine lv_irem hx hb dL_law_1068 (by decide) ?_
      refine lv_topi (fun z_3 ez_3 => ?_)
      have ez_3 : z_3 = nI ((zn / 24) % 2) := ez_3.trans (pk_rem (a := (zn / 24)) (d := 2) (by omega) (by omega) (by omega))
      subst ez_3
      refine lv_if_ne (tgt := 1076) hx hb dL_law_1069 (by decide) (fun c_1069 => ?_) (fun c_1069 => ?_)
      · refine lv_iconst (v := 0) hx hb dL_law_1076 (by decide) ?_
        refine lv_istore (lv' := [(22, .int 0), (21, .int (nI lk9)), (20, .int (nI st9)), (19, .int (nI zn)), (18, .int kd), (16, .int (nI tn)), (15, .int 1), (2, .ref (la 0)), (3, .ref (la 1)), (4, .ref (la 2)), (5, .ref (la 3)), (6, .ref (la 4)), (7, .ref (la 5)), (8, .ref (la 6)), (9, .ref (la 7)), (10, .ref (la 8)), (11, .ref (la 9)), (12, .ref (la 10)), (13, .ref (la 11)), (14, .ref (la 12)), (1, .ref ho), (0, .ref b)]) hx hb dL_law_1077 hl (by decide) rfl (fun ls hl => ?_)
        refine lv_aload_n hx hb dL_law_1079 rfl (lv_at hl 20 rfl) ?_
        refine lv_iload hx hb dL_law_1080 (lv_at hl 1 rfl) ?_
        refine lv_iload hx hb dL_law_1082 (lv_at hl 0 rfl) ?_
        have hcd0 : cd_doubt (nI lk9) 0 (cn, sc, μ) = 0 := doub_c hlk hn12
        refine hk_callVx 2 (As := [.int (nI lk9), .int 0]) (rest := []) X K hAE hS hl.1 (HW.o hW) rfl (c_X10_doubt E l hl9 H hW hI hZn (by decide) (p0 := nI lk9) (p1 := 0)) hZA gL_law_X10_doubt rfl ⟨rfl, hd_X10_doubt⟩ rfl ⟨⟨(Nat.le_of_ble_eq_true rfl), (Nat.le_of_ble_eq_true rfl)⟩, (by show cells + 8 ≤ 664990; omega), (by show slots + 400 ≤ 7106859; omega)⟩ rfl (Nat.le_of_ble_eq_true rfl) dL_law_1084 (fun x9 ce9 q9 H9 locs9 hp hS hz9 hk9 hce hcv hcl => by
            obtain ⟨hcs, -⟩ := hp
            rw [hcd0] at hcs
            rcases hcs with ⟨h, -⟩ | ⟨h, -⟩ | ⟨h, -⟩ <;> exact absurd h (by decide)
          ) (fun v9 H4 locsH4 hp hS hzH4 hkH4 => ?_)
        obtain ⟨-, hv, G, R, hW⟩ := hp
        subst hv
        have hL := hL.kept (fun k hk => hkH4 (la k) (hL.lt hk) (hlz k hk))
        have hb4 := Nat.le_trans hb4 hzH4
        have hZn := fun (q : Nat) (h : H4.size ≤ q) => hZn0 q (Nat.le_trans hb4 h)
        refine lv_aload hx hb dL_law_1087 (lv_at hl 12 rfl) ?_
        refine lv_iload hx hb dL_law_1089 (lv_at hl 1 rfl) ?_
        refine hk_ild (f := (V 5)) X K hL.c5 (vp_in_nI (by omega) (by omega)) dL_law_1091 ?_
        rw [show (V 5) (nI lk9).toNatClampNeg = nI (sx + 2 * stx + 8 * ofx + 64 * dx) from (congrArg (V 5) (nI_clamp (show lk9 < 2 ^ 31 by omega))).trans h5]
        refine lv_bipush (v := 63) hx hb dL_law_1092 (by decide) ?_
        refine lv_icmp_le (tgt := 1101) hx hb dL_law_1094 (by decide) (fun c_1094 => ?_) (fun c_1094 => ?_)
        · refine lv_iconst (v := 0) hx hb dL_law_1101 (by decide) ?_
          refine lv_icmp_ne (tgt := 1109) hx hb dL_law_1102 (by decide) (fun c_1102 => ?_) (fun c_1102 => ?_)
          · exact (c_1102 ((doub_a (S := (cn, sc, μ)) (by omega)).trans (h21.trans (congrArg nI (show dx = 0 by
                have h := (nI_leI (a := sx + 2 * stx + 8 * ofx + 64 * dx) (b := 63) (by omega) (by omega)).mp c_1094
                omega))))).elim
          · refine lv_iconst (v := 1) hx hb dL_law_1105 (by decide) ?_
            refine lv_goto (tgt := 1110) hx hb dL_law_1106 (by decide) ?_
            refine lv_istore (lv' := [(15, .int 1), (22, .int 0), (21, .int (nI lk9)), (20, .int (nI st9)), (19, .int (nI zn)), (18, .int kd), (16, .int (nI tn)), (2, .ref (la 0)), (3, .ref (la 1)), (4, .ref (la 2)), (5, .ref (la 3)), (6, .ref (la 4)), (7, .ref (la 5)), (8, .ref (la 6)), (9, .ref (la 7)), (10, .ref (la 8)), (11, .ref (la 9)), (12, .ref (la 10)), (13, .ref (la 11)), (14, .ref (la 12)), (1, .ref ho), (0, .ref b)]) hx hb dL_law_1110 hl (by decide) rfl (fun ls hl => ?_)
            refine lv_aload hx hb dL_law_1112 (lv_at hl 12 rfl) ?_
            refine lv_iload hx hb dL_law_1114 (lv_at hl 2 rfl) ?_
            refine lv_aload hx hb dL_law_1116 (lv_at hl 12 rfl) ?_
            refine lv_iload hx hb dL_law_1118 (lv_at hl 2 rfl) ?_
            refine hk_ild (f := (V 5)) X K hL.c5 (vp_in_nI (by omega) (by omega)) dL_law_1120 ?_
            rw [show (V 5) (nI lk9).toNatClampNeg = nI (sx + 2 * stx + 8 * ofx + 64 * dx) from (congrArg (V 5) (nI_clamp (show lk9 < 2 ^ 31 by omega))).trans h5]
            refine lv_bipush (v := 64) hx hb dL_law_1121 (by decide) ?_
            refine lv_irem hx hb dL_law_1123 (by decide) ?_
            refine lv_topi (fun z_5 ez_5 => ?_)
            have ez_5 : z_5 = nI ((sx + 2 * stx + 8 * ofx + 64 * dx) % 64) := ez_5.trans (pk_rem (a := (sx + 2 * stx + 8 * ofx + 64 * dx)) (d := 64) (by omega) (by omega) (by omega))
            subst ez_5
            refine lv_iload hx hb dL_law_1124 (lv_at hl 1 rfl) ?_
            refine lv_if_eq (tgt := 1134) hx hb dL_law_1126 (by decide) (fun c_1126 => ?_) (fun c_1126 => ?_)
            · refine lv_iconst (v := 0) hx hb dL_law_1134 (by decide) ?_
              refine lv_iadd hx hb dL_law_1135 ?_
              refine lv_topi (fun z_6 ez_6 => ?_)
              have ez_6 : z_6 = nI ((sx + 2 * stx + 8 * ofx + 64 * dx) % 64 + 64 * 0) := ez_6.trans ((nI_add ((sx + 2 * stx + 8 * ofx + 64 * dx) % 64) 0).trans (congrArg nI (show ((sx + 2 * stx + 8 * ofx + 64 * dx) % 64) + 0 = (sx + 2 * stx + 8 * ofx + 64 * dx) % 64 + 64 * 0 by omega)))
              subst ez_6
              refine hk_ist (f := (V 5)) X K hL.c5 hS (hlA 5 (by decide)) (vp_in_nI (by omega) (by omega)) dL_law_1136 (fun H7 locsH7 hIH7 hzH7 hqH7 hS => ?_)
              rw [nI_clamp (show lk9 < 2 ^ 31 by omega)] at hIH7
              have hL := hL.set hla (j := 5) (by decide) hIH7 hqH7
              have hW := hW.kept (fun q h1 h2 => hqH7 q (fun g => h2.elim (fun h => hlz 5 (by decide) (by rw [← g]; exact h)) (fun h => h (by rw [g]; exact hlA 5 (by decide)))))
              have hb4 : b4 ≤ H7.size := by omega
              have hZn := fun (q : Nat) (h : H7.size ≤ q) => hZn0 q (Nat.le_trans hb4 h)
              refine lv_goto (tgt := 2061) hx hb dL_law_1137 (by decide) ?_
              refine W.widen (k := cells + 40) (n := slots + 2000) (by show cells + 8 ≤ _; omega) (by show slots + 400 ≤ _; omega) ?_
              have hV9 := lv_doubt hV hlk (d := 0) (by omega) h5 (by omega)
              exact J2061 H7 _ ⟨G, R, _, _, invF_doubt hI (by decide), hV9, hW, LW.mk13 hL.c0 hL.c1 hL.c2 hL.c3 hL.c4 hL.c5 hL.c6 hL.c7 hL.c8 hL.c9 hL.c10 hL.c11 hL.c12, hS, hb4, ⟨fun h => absurd h (by omega), fun _ => h2⟩⟩ _ (lv_sub hl [4, 6, 0, 7, 8, 9, 10, 11, 12, 13, 14, 15, 16, 17, 18, 19, 20, 21] rfl)
            · exact absurd (by decide) c_1126
        · refine lv_iconst (v := 1) hx hb dL_law_1097 (by decide) ?_
          refine lv_goto (tgt := 1102) hx hb dL_law_1098 (by decide) ?_
          refine lv_icmp_ne (tgt := 1109) hx hb dL_law_1102 (by decide) (fun c_1102 => ?_) (fun c_1102 => ?_)
          · exact (c_1102 ((doub_a (S := (cn, sc, μ)) (by omega)).trans (h21.trans (congrArg nI (show dx = 1 by
                have h := Nat.lt_of_not_le (fun h => c_1094 (nI_le (b := 63) h (by omega)))
                omega))))).elim
          · refine lv_iconst (v := 1) hx hb dL_law_1105 (by decide) ?_
            refine lv_goto (tgt := 1110) hx hb dL_law_1106 (by decide) ?_
            refine lv_istore (lv' := [(15, .int 1), (22, .int 0), (21, .int (nI lk9)), (20, .int (nI st9)), (19, .int (nI zn)), (18, .int kd), (16, .int (nI tn)), (2, .ref (la 0)), (3, .ref (la 1)), (4, .ref (la 2)), (5, .ref (la 3)), (6, .ref (la 4)), (7, .ref (la 5)), (8, .ref (la 6)), (9, .ref (la 7)), (10, .ref (la 8)), (11, .ref (la 9)), (12, .ref (la 10)), (13, .ref (la 11)), (14, .ref (la 12)), (1, .ref ho), (0, .ref b)]) hx hb dL_law_1110 hl (by decide) rfl (fun ls hl => ?_)
            refine lv_aload hx hb dL_law_1112 (lv_at hl 12 rfl) ?_
            refine lv_iload hx hb dL_law_1114 (lv_at hl 2 rfl) ?_
            refine lv_aload hx hb dL_law_1116 (lv_at hl 12 rfl) ?_
            refine lv_iload hx hb dL_law_1118 (lv_at hl 2 rfl) ?_
            refine hk_ild (f := (V 5)) X K hL.c5 (vp_in_nI (by omega) (by omega)) dL_law_1120 ?_
            rw [show (V 5) (nI lk9).toNatClampNeg = nI (sx + 2 * stx + 8 * ofx + 64 * dx) from (congrArg (V 5) (nI_clamp (show lk9 < 2 ^ 31 by omega))).trans h5]
            refine lv_bipush (v := 64) hx hb dL_law_1121 (by decide) ?_
            refine lv_irem hx hb dL_law_1123 (by decide) ?_
            refine lv_topi (fun z_8 ez_8 => ?_)
            have ez_8 : z_8 = nI ((sx + 2 * stx + 8 * ofx + 64 * dx) % 64) := ez_8.trans (pk_rem (a := (sx + 2 * stx + 8 * ofx + 64 * dx)) (d := 64) (by omega) (by omega) (by omega))
            subst ez_8
            refine lv_iload hx hb dL_law_1124 (lv_at hl 1 rfl) ?_
            refine lv_if_eq (tgt := 1134) hx hb dL_law_1126 (by decide) (fun c_1126 => ?_) (fun c_1126 => ?_)
            · refine lv_iconst (v := 0) hx hb dL_law_1134 (by decide) ?_
              refine lv_iadd hx hb dL_law_1135 ?_
              refine lv_topi (fun z_9 ez_9 => ?_)
              have ez_9 : z_9 = nI ((sx + 2 * stx + 8 * ofx + 64 * dx) % 64 + 64 * 0) := ez_9.trans ((nI_add ((sx + 2 * stx + 8 * ofx + 64 * dx) % 64) 0).trans (congrArg nI (show ((sx + 2 * stx + 8 * ofx + 64 * dx) % 64) + 0 = (sx + 2 * stx + 8 * ofx + 64 * dx) % 64 + 64 * 0 by omega)))
              subst ez_9
              refine hk_ist (f := (V 5)) X K hL.c5 hS (hlA 5 (by decide)) (vp_in_nI (by omega) (by omega)) dL_law_1136 (fun H10 locsH10 hIH10 hzH10 hqH10 hS => ?_)
              rw [nI_clamp (show lk9 < 2 ^ 31 by omega)] at hIH10
              have hL := hL.set hla (j := 5) (by decide) hIH10 hqH10
              have hW := hW.kept (fun q h1 h2 => hqH10 q (fun g => h2.elim (fun h => hlz 5 (by decide) (by rw [← g]; exact h)) (fun h => h (by rw [g]; exact hlA 5 (by decide)))))
              have hb4 : b4 ≤ H10.size := by omega
              have hZn := fun (q : Nat) (h : H10.size ≤ q) => hZn0 q (Nat.le_trans hb4 h)
              refine lv_goto (tgt := 2061) hx hb dL_law_1137 (by decide) ?_
              refine W.widen (k := cells + 40) (n := slots + 2000) (by show cells + 8 ≤ _; omega) (by show slots + 400 ≤ _; omega) ?_
              have hV9 := lv_doubt hV hlk (d := 0) (by omega) h5 (by omega)
              exact J2061 H10 _ ⟨G, R, _, _, invF_doubt hI (by decide), hV9, hW, LW.mk13 hL.c0 hL.c1 hL.c2 hL.c3 hL.c4 hL.c5 hL.c6 hL.c7 hL.c8 hL.c9 hL.c10 hL.c11 hL.c12, hS, hb4, ⟨fun h => absurd h (by omega), fun _ => h2⟩⟩ _ (lv_sub hl [4, 6, 0, 7, 8, 9, 10, 11, 12, 13, 14, 15, 16, 17, 18, 19, 20, 21] rfl)
            · exact absurd (by decide) c_1126
      · refine lv_iconst (v := 1) hx hb dL_law_1072 (by decide) ?_
        refine lv_goto (tgt := 1077) hx hb dL_law_1073 (by decide) ?_
        refine lv_istore (lv' := [(22, .int 1), (21, .int (nI lk9)), (20, .int (nI st9)), (19, .int (nI zn)), (18, .int kd), (16, .int (nI tn)), (15, .int 1), (2, .ref (la 0)), (3, .ref (la 1)), (4, .ref (la 2)), (5, .ref (la 3)), (6, .ref (la 4)), (7, .ref (la 5)), (8, .ref (la 6)), (9, .ref (la 7)), (10, .ref (la 8)), (11, .ref (la 9)), (12, .ref (la 10)), (13, .ref (la 11)), (14, .ref (la 12)), (1, .ref ho), (0, .ref b)]) hx hb dL_law_1077 hl (by decide) rfl (fun ls hl => ?_)
        refine lv_aload_n hx hb dL_law_1079 rfl (lv_at hl 20 rfl) ?_
        refine lv_iload hx hb dL_law_1080 (lv_at hl 1 rfl) ?_
        refine lv_iload hx hb dL_law_1082 (lv_at hl 0 rfl) ?_
        have hcd0 : cd_doubt (nI lk9) 1 (cn, sc, μ) = 0 := doub_c hlk hn12
        refine hk_callVx 2 (As := [.int (nI lk9), .int 1]) (rest := []) X K hAE hS hl.1 (HW.o hW) rfl (c_X10_doubt E l hl9 H hW hI hZn (by decide) (p0 := nI lk9) (p1 := 1)) hZA gL_law_X10_doubt rfl ⟨rfl, hd_X10_doubt⟩ rfl ⟨⟨(Nat.le_of_ble_eq_true rfl), (Nat.le_of_ble_eq_true rfl)⟩, (by show cells + 8 ≤ 664990; omega), (by show slots + 400 ≤ 7106859; omega)⟩ rfl (Nat.le_of_ble_eq_true rfl) dL_law_1084 (fun x9 ce9 q9 H9 locs9 hp hS hz9 hk9 hce hcv hcl => by
            obtain ⟨hcs, -⟩ := hp
            rw [hcd0] at hcs
            rcases hcs with ⟨h, -⟩ | ⟨h, -⟩ | ⟨h, -⟩ <;> exact absurd h (by decide)
          ) (fun v9 H11 locsH11 hp hS hzH11 hkH11 => ?_)
        obtain ⟨-, hv, G, R, hW⟩ := hp
        subst hv
        have hL := hL.kept (fun k hk => hkH11 (la k) (hL.lt hk) (hlz k hk))
        have hb4 := Nat.le_trans hb4 hzH11
        have hZn := fun (q : Nat) (h : H11.size ≤ q) => hZn0 q (Nat.le_trans hb4 h)
        refine lv_aload hx hb dL_law_1087 (lv_at hl 12 rfl) ?_
        refine lv_iload hx hb dL_law_1089 (lv_at hl 1 rfl) ?_
        refine hk_ild (f := (V 5)) X K hL.c5 (vp_in_nI (by omega) (by omega)) dL_law_1091 ?_
        rw [show (V 5) (nI lk9).toNatClampNeg = nI (sx + 2 * stx + 8 * ofx + 64 * dx) from (congrArg (V 5) (nI_clamp (show lk9 < 2 ^ 31 by omega))).trans h5]
        refine lv_bipush (v := 63) hx hb dL_law_1092 (by decide) ?_
        refine lv_icmp_le (tgt := 1101) hx hb dL_law_1094 (by decide) (fun c_1094 => ?_) (fun c_1094 => ?_)
        · refine lv_iconst (v := 0) hx hb dL_law_1101 (by decide) ?_
          refine lv_icmp_ne (tgt := 1109) hx hb dL_law_1102 (by decide) (fun c_1102 => ?_) (fun c_1102 => ?_)
          · exact (c_1102 ((doub_a (S := (cn, sc, μ)) (by omega)).trans (h21.trans (congrArg nI (show dx = 0 by
                have h := (nI_leI (a := sx + 2 * stx + 8 * ofx + 64 * dx) (b := 63) (by omega) (by omega)).mp c_1094
                omega))))).elim
          · refine lv_iconst (v := 1) hx hb dL_law_1105 (by decide) ?_
            refine lv_goto (tgt := 1110) hx hb dL_law_1106 (by decide) ?_
            refine lv_istore (lv' := [(15, .int 1), (22, .int 1), (21, .int (nI lk9)), (20, .int (nI st9)), (19, .int (nI zn)), (18, .int kd), (16, .int (nI tn)), (2, .ref (la 0)), (3, .ref (la 1)), (4, .ref (la 2)), (5, .ref (la 3)), (6, .ref (la 4)), (7, .ref (la 5)), (8, .ref (la 6)), (9, .ref (la 7)), (10, .ref (la 8)), (11, .ref (la 9)), (12, .ref (la 10)), (13, .ref (la 11)), (14, .ref (la 12)), (1, .ref ho), (0, .ref b)]) hx hb dL_law_1110 hl (by decide) rfl (fun ls hl => ?_)
            refine lv_aload hx hb dL_law_1112 (lv_at hl 12 rfl) ?_
            refine lv_iload hx hb dL_law_1114 (lv_at hl 2 rfl) ?_
            refine lv_aload hx hb dL_law_1116 (lv_at hl 12 rfl) ?_
            refine lv_iload hx hb dL_law_1118 (lv_at hl 2 rfl) ?_
            refine hk_ild (f := (V 5)) X K hL.c5 (vp_in_nI (by omega) (by omega)) dL_law_1120 ?_
            rw [show (V 5) (nI lk9).toNatClampNeg = nI (sx + 2 * stx + 8 * ofx + 64 * dx) from (congrArg (V 5) (nI_clamp (show lk9 < 2 ^ 31 by omega))).trans h5]
            refine lv_bipush (v := 64) hx hb dL_law_1121 (by decide) ?_
            refine lv_irem hx hb dL_law_1123 (by decide) ?_
            refine lv_topi (fun z_12 ez_12 => ?_)
            have ez_12 : z_12 = nI ((sx + 2 * stx + 8 * ofx + 64 * dx) % 64) := ez_12.trans (pk_rem (a := (sx + 2 * stx + 8 * ofx + 64 * dx)) (d := 64) (by omega) (by omega) (by omega))
            subst ez_12
            refine lv_iload hx hb dL_law_1124 (lv_at hl 1 rfl) ?_
            refine lv_if_eq (tgt := 1134) hx hb dL_law_1126 (by decide) (fun c_1126 => ?_) (fun c_1126 => ?_)
            · exact absurd c_1126 (by decide)
            · refine lv_bipush (v := 64) hx hb dL_law_1129 (by decide) ?_
              refine lv_goto (tgt := 1135) hx hb dL_law_1131 (by decide) ?_
              refine lv_iadd hx hb dL_law_1135 ?_
              refine lv_topi (fun z_13 ez_13 => ?_)
              have ez_13 : z_13 = nI ((sx + 2 * stx + 8 * ofx + 64 * dx) % 64 + 64 * 1) := ez_13.trans ((nI_add ((sx + 2 * stx + 8 * ofx + 64 * dx) % 64) 64).trans (congrArg nI (show ((sx + 2 * stx + 8 * ofx + 64 * dx) % 64) + 64 = (sx + 2 * stx + 8 * ofx + 64 * dx) % 64 + 64 * 1 by omega)))
              subst ez_13
              refine hk_ist (f := (V 5)) X K hL.c5 hS (hlA 5 (by decide)) (vp_in_nI (by omega) (by omega)) dL_law_1136 (fun H14 locsH14 hIH14 hzH14 hqH14 hS => ?_)
              rw [nI_clamp (show lk9 < 2 ^ 31 by omega)] at hIH14
              have hL := hL.set hla (j := 5) (by decide) hIH14 hqH14
              have hW := hW.kept (fun q h1 h2 => hqH14 q (fun g => h2.elim (fun h => hlz 5 (by decide) (by rw [← g]; exact h)) (fun h => h (by rw [g]; exact hlA 5 (by decide)))))
              have hb4 : b4 ≤ H14.size := by omega
              have hZn := fun (q : Nat) (h : H14.size ≤ q) => hZn0 q (Nat.le_trans hb4 h)
              refine lv_goto (tgt := 2061) hx hb dL_law_1137 (by decide) ?_
              refine W.widen (k := cells + 40) (n := slots + 2000) (by show cells + 8 ≤ _; omega) (by show slots + 400 ≤ _; omega) ?_
              have hV9 := lv_doubt hV hlk (d := 1) (by omega) h5 (by omega)
              exact J2061 H14 _ ⟨G, R, _, _, invF_doubt hI (by decide), hV9, hW, LW.mk13 hL.c0 hL.c1 hL.c2 hL.c3 hL.c4 hL.c5 hL.c6 hL.c7 hL.c8 hL.c9 hL.c10 hL.c11 hL.c12, hS, hb4, ⟨fun h => absurd h (by omega), fun _ => h2⟩⟩ _ (lv_sub hl [4, 6, 0, 7, 8, 9, 10, 11, 12, 13, 14, 15, 16, 17, 18, 19, 20, 21] rfl)
        · refine lv_iconst (v := 1) hx hb dL_law_1097 (by decide) ?_
          refine lv_goto (tgt := 1102) hx hb dL_law_1098 (by decide) ?_
          refine lv_icmp_ne (tgt := 1109) hx hb dL_law_1102 (by decide) (fun c_1102 => ?_) (fun c_1102 => ?_)
          · exact (c_1102 ((doub_a (S := (cn, sc, μ)) (by omega)).trans (h21.trans (congrArg nI (show dx = 1 by
                have h := Nat.lt_of_not_le (fun h => c_1094 (nI_le (b := 63) h (by omega)))
                omega))))).elim
          · refine lv_iconst (v := 1) hx hb dL_law_1105 (by decide) ?_
            refine lv_goto (tgt := 1110) hx hb dL_law_1106 (by decide) ?_
            refine lv_istore (lv' := [(15, .int 1), (22, .int 1), (21, .int (nI lk9)), (20, .int (nI st9)), (19, .int (nI zn)), (18, .int kd), (16, .int (nI tn)), (2, .ref (la 0)), (3, .ref (la 1)), (4, .ref (la 2)), (5, .ref (la 3)), (6, .ref (la 4)), (7, .ref (la 5)), (8, .ref (la 6)), (9, .ref (la 7)), (10, .ref (la 8)), (11, .ref (la 9)), (12, .ref (la 10)), (13, .ref (la 11)), (14, .ref (la 12)), (1, .ref ho), (0, .ref b)]) hx hb dL_law_1110 hl (by decide) rfl (fun ls hl => ?_)
            refine lv_aload hx hb dL_law_1112 (lv_at hl 12 rfl) ?_
            refine lv_iload hx hb dL_law_1114 (lv_at hl 2 rfl) ?_
            refine lv_aload hx hb dL_law_1116 (lv_at hl 12 rfl) ?_
            refine lv_iload hx hb dL_law_1118 (lv_at hl 2 rfl) ?_
            refine hk_ild (f := (V 5)) X K hL.c5 (vp_in_nI (by omega) (by omega)) dL_law_1120 ?_
            rw [show (V 5) (nI lk9).toNatClampNeg = nI (sx + 2 * stx + 8 * ofx + 64 * dx) from (congrArg (V 5) (nI_clamp (show lk9 < 2 ^ 31 by omega))).trans h5]
            refine lv_bipush (v := 64) hx hb dL_law_1121 (by decide) ?_
            refine lv_irem hx hb dL_law_1123 (by decide) ?_
            refine lv_topi (fun z_15 ez_15 => ?_)
            have ez_15 : z_15 = nI ((sx + 2 * stx + 8 * ofx + 64 * dx) % 64) := ez_15.trans (pk_rem (a := (sx + 2 * stx + 8 * ofx + 64 * dx)) (d := 64) (by omega) (by omega) (by omega))
            subst ez_15
            refine lv_iload hx hb dL_law_1124 (lv_at hl 1 rfl) ?_
            refine lv_if_eq (tgt := 1134) hx hb dL_law_1126 (by decide) (fun c_1126 => ?_) (fun c_1126 => ?_)
            · exact absurd c_1126 (by decide)
            · refine lv_bipush (v := 64) hx hb dL_law_1129 (by decide) ?_
              refine lv_goto (tgt := 1135) hx hb dL_law_1131 (by decide) ?_
              refine lv_iadd hx hb dL_law_1135 ?_
              refine lv_topi (fun z_16 ez_16 => ?_)
              have ez_16 : z_16 = nI ((sx + 2 * stx + 8 * ofx + 64 * dx) % 64 + 64 * 1) := ez_16.trans ((nI_add ((sx + 2 * stx + 8 * ofx + 64 * dx) % 64) 64).trans (congrArg nI (show ((sx + 2 * stx + 8 * ofx + 64 * dx) % 64) + 64 = (sx + 2 * stx + 8 * ofx + 64 * dx) % 64 + 64 * 1 by omega)))
              subst ez_16
              refine hk_ist (f := (V 5)) X K hL.c5 hS (hlA 5 (by decide)) (vp_in_nI (by omega) (by omega)) dL_law_1136 (fun H17 locsH17 hIH17 hzH17 hqH17 hS => ?_)
              rw [nI_clamp (show lk9 < 2 ^ 31 by omega)] at hIH17
              have hL := hL.set hla (j := 5) (by decide) hIH17 hqH17
              have hW := hW.kept (fun q h1 h2 => hqH17 q (fun g => h2.elim (fun h => hlz 5 (by decide) (by rw [← g]; exact h)) (fun h => h (by rw [g]; exact hlA 5 (by decide)))))
              have hb4 : b4 ≤ H17.size := by omega
              have hZn := fun (q : Nat) (h : H17.size ≤ q) => hZn0 q (Nat.le_trans hb4 h)
              refine lv_goto (tgt := 2061) hx hb dL_law_1137 (by decide) ?_
              refine W.widen (k := cells + 40) (n := slots + 2000) (by show cells + 8 ≤ _; omega) (by show slots + 400 ≤ _; omega) ?_
              have hV9 := lv_doubt hV hlk (d := 1) (by omega) h5 (by omega)
              exact J2061 H17 _ ⟨G, R, _, _, invF_doubt hI (by decide), hV9, hW, LW.mk13 hL.c0 hL.c1 hL.c2 hL.c3 hL.c4 hL.c5 hL.c6 hL.c7 hL.c8 hL.c9 hL.c10 hL.c11 hL.c12, hS, hb4, ⟨fun h => absurd h (by omega), fun _ => h2⟩⟩ _ (lv_sub hl [4, 6, 0, 7, 8, 9, 10, 11, 12, 13, 14, 15, 16, 17, 18, 19, 20, 21] rfl)
