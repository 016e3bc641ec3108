set_option maxHeartbeats 4000000 in
set_option maxRecDepth 100000 in
theorem k_927 {p : Program} {l : Launch} {e : Env} {s : State} {m : MethodId} {below : List Frame} {meth : Method} {c : Code} {b L : Nat} {xs : Nat → Int32} {E : hk_E} {Z : Nat → Prop} {ho ts b4 : Nat} {li : Nat → Nat} {rr : Nat → Nat → Nat} {la : Nat → Nat} (G0 : lw_G p l s m meth c b L xs E Z la b4) {H : Heap} {locs : List Loc} {cells slots tn zn st9 : Nat} {kd : Int32} (hJ0 : lw_J E Z ho ts li rr la b4 s (fun S => 2 ≤ S.1 1 ∧ st9 < S.1 1) H locs) (hz31 : zn < 2 ^ 31) (ht2 : 2 ≤ tn) (hce : cells + 40 ≤ 664990) (hsl : slots + 2000 ≤ 7106859) {ls : Array Slot} (hl : lv_has ls 26 [(20, .int (nI st9)), (19, .int (nI zn)), (18, .int kd), (16, .int (nI tn)), (15, .int 1), (2, .ref (la 0)), (3, .ref (la 1)), (4, .ref (la 2)), (5, .ref (la 3)), (6, .ref (la 4)), (7, .ref (la 5)), (8, .ref (la 6)), (9, .ref (la 7)), (10, .ref (la 8)), (11, .ref (la 9)), (12, .ref (la 10)), (13, .ref (la 11)), (14, .ref (la 12)), (1, .ref ho), (0, .ref b)])
  (J2061 : ∀ (H1 : Heap) (locs1 : List Loc), lw_J E Z ho ts li rr la b4 s (fun S => tI (tn + 1) (S.1 1)) H1 locs1 → ∀ (ls : Array Slot), lv_has ls 26 [(19, .int (nI zn)), (16, .int (nI tn)), (15, .int 1), (2, .ref (la 0)), (3, .ref (la 1)), (4, .ref (la 2)), (5, .ref (la 3)), (6, .ref (la 4)), (7, .ref (la 5)), (8, .ref (la 6)), (9, .ref (la 7)), (10, .ref (la 8)), (11, .ref (la 9)), (12, .ref (la 10)), (13, .ref (la 11)), (14, .ref (la 12)), (1, .ref ho), (0, .ref b)] → W p l e room_1 s m #[Value.ref b] below meth c H1 locs1 (cells + 40) (slots + 2000) (lw_Z below #[Value.ref b] s) (F0 m 2061 ls [])) : W p l e room_1 s m #[Value.ref b] below meth c H locs cells slots (lw_Z below #[Value.ref b] s) (F0 m 927 ls []) := by
  obtain ⟨hl9, hLL, C0, X, K, hE, hZn0, hlz, hla, hlA⟩ := id G0
  obtain ⟨G, R, V, ⟨cn, sc, μ⟩, hI, hV, hW, hL, hS, hb4, ⟨h2, hst⟩⟩ := hJ0
  obtain ⟨hx, hb, hr, hml, hown, hts, hXs, hbl, hlocks, -⟩ := id C0
  have hAE : ∀ q, hk_A E q → hk_A E q := fun _ h => h
  have hZA : ∀ q, Z q → hk_A E q := hW.2.2.2.2.2.2.2.2.2.2.2.2
  have hZn : ∀ q, H.size ≤ q → Z q := fun q h => hZn0 q (Nat.le_trans hb4 h)
  have hn1 : cn 1 ≤ 4 := hV.n1
  have hn8 : cn 8 ≤ 3 := hV.n8
  have hn12 : cn 12 ≤ 24 := hV.n12
  have hn22 : cn 22 ≤ 4 := hV.n22
  have hn29 : cn 29 ≤ 8 := hV.n29
  have h2 : 2 ≤ cn 1 := h2
  have hst : st9 < cn 1 := hst
  refine lv_iload hx hb dL_law_927 (lv_at hl 2 rfl) ?_
  refine lv_bipush (v := 14) hx hb dL_law_929 (by decide) ?_
  refine lv_icmp_ge (tgt := 1039) hx hb dL_law_931 (by decide) (fun c_931 => ?_) (fun c_931 => ?_)
  · exact k_1039 G0 ⟨G, R, V, (cn, sc, μ), hI, hV, hW, hL, hS, hb4, ⟨h2, hst⟩⟩ hz31 ht2 hce hsl hl J2061
  · refine lv_aload hx hb dL_law_934 (lv_at hl 15 rfl) ?_
    refine lv_iconst (v := 2) hx hb dL_law_936 (by decide) ?_
    refine hk_ild (f := (V 10)) X K hL.c10 (show vp_in (nI 2) 6 from vp_in_nI (by decide) (by decide)) dL_law_937 ?_
    rw [show (V 10) (2 : Int32).toNatClampNeg = nI (cn 12) from hV.g2]
    refine lv_bipush (v := 24) hx hb dL_law_938 (by decide) ?_
    refine lv_icmp_ge (tgt := 1039) hx hb dL_law_940 (by decide) (fun c_940 => ?_) (fun c_940 => ?_)
    · exact k_1039 G0 ⟨G, R, V, (cn, sc, μ), hI, hV, hW, hL, hS, hb4, ⟨h2, hst⟩⟩ hz31 ht2 hce hsl hl J2061
    · have h12 : cn 12 < 24 := Nat.lt_of_not_le (fun h => c_940 (nI_le (a := 24) h (by omega)))
      refine lv_aload hx hb dL_law_943 (lv_at hl 15 rfl) ?_
      refine lv_iconst (v := 1) hx hb dL_law_945 (by decide) ?_
      refine hk_ild (f := (V 10)) X K hL.c10 (show vp_in (nI 1) 6 from vp_in_nI (by decide) (by decide)) dL_law_946 ?_
      rw [show (V 10) (1 : Int32).toNatClampNeg = nI (cn 8) from hV.g1]
      refine lv_if_le (tgt := 1039) hx hb dL_law_947 (by decide) (fun c_947 => ?_) (fun c_947 => ?_)
      · exact k_1039 G0 ⟨G, R, V, (cn, sc, μ), hI, hV, hW, hL, hS, hb4, ⟨h2, hst⟩⟩ hz31 ht2 hce hsl hl J2061
      · have h8 : 0 < cn 8 := by
          rcases Nat.eq_zero_or_pos (cn 8) with h | h
          · rw [h] at c_947; exact absurd (Int32.le_refl _) c_947
          · exact h
        obtain ⟨pl9, epl⟩ : ∃ y, y = zn / 4 % cn 8 := ⟨_, rfl⟩
        have hpl : pl9 < cn 8 := by rw [epl]; exact Nat.mod_lt _ h8
        refine lv_aload hx hb dL_law_950 (lv_at hl 10 rfl) ?_
        refine lv_aload hx hb dL_law_952 (lv_at hl 15 rfl) ?_
        refine lv_iconst (v := 2) hx hb dL_law_954 (by decide) ?_
        refine hk_ild (f := (V 10)) X K hL.c10 (show vp_in (nI 2) 6 from vp_in_nI (by decide) (by decide)) dL_law_955 ?_
        rw [show (V 10) (2 : Int32).toNatClampNeg = nI (cn 12) from hV.g2]
        refine lv_iconst (v := 1) hx hb dL_law_956 (by decide) ?_
        refine lv_iconst (v := 2) hx hb dL_law_957 (by decide) ?_
        refine lv_iload hx hb dL_law_958 (lv_at hl 0 rfl) ?_
        refine lv_imul hx hb dL_law_960 ?_
        refine lv_topi (fun z_1 ez_1 => ?_)
        have ez_1 : z_1 = nI (2 * st9) := ez_1.trans (nI_mul 2 st9)
        subst ez_1
        refine lv_iadd hx hb dL_law_961 ?_
        refine lv_topi (fun z_2 ez_2 => ?_)
        have ez_2 : z_2 = nI (1 + (2 * st9)) := ez_2.trans (nI_add 1 (2 * st9))
        subst ez_2
        refine lv_bipush (v := 8) hx hb dL_law_962 (by decide) ?_
        refine lv_iload hx hb dL_law_964 (lv_at hl 1 rfl) ?_
        refine lv_iconst (v := 4) hx hb dL_law_966 (by decide) ?_
        refine lv_idiv hx hb dL_law_967 (by decide) ?_
        refine lv_topi (fun z_3 ez_3 => ?_)
        have ez_3 : z_3 = nI (zn / 4) := ez_3.trans (pk_div (a := zn) (d := 4) (by omega) (by omega) (by omega))
        subst ez_3
        refine lv_aload hx hb dL_law_968 (lv_at hl 15 rfl) ?_
        refine lv_iconst (v := 1) hx hb dL_law_970 (by decide) ?_
        refine hk_ild (f := (V 10)) X K hL.c10 (show vp_in (nI 1) 6 from vp_in_nI (by decide) (by decide)) dL_law_971 ?_
        rw [show (V 10) (1 : Int32).toNatClampNeg = nI (cn 8) from hV.g1]
        refine lv_irem hx hb dL_law_972 (nI_ne0 (by omega) (by omega)) ?_
        refine lv_topi (fun z_4 ez_4 => ?_)
        have ez_4 : z_4 = nI pl9 := ez_4.trans ((pk_rem (a := (zn / 4)) (d := (cn 8)) (by omega) (by omega) (by omega)).trans (congrArg nI (show (zn / 4) % (cn 8) = pl9 by omega)))
        subst ez_4
        refine lv_imul hx hb dL_law_973 ?_
        refine lv_topi (fun z_5 ez_5 => ?_)
        have ez_5 : z_5 = nI (8 * pl9) := ez_5.trans (nI_mul 8 pl9)
        subst ez_5
        refine lv_iadd hx hb dL_law_974 ?_
        refine lv_topi (fun z_6 ez_6 => ?_)
        have ez_6 : z_6 = nI (1 + 2 * st9 + 8 * pl9) := ez_6.trans ((nI_add (1 + (2 * st9)) (8 * pl9)).trans (congrArg nI (show (1 + (2 * st9)) + (8 * pl9) = 1 + 2 * st9 + 8 * pl9 by omega)))
        subst ez_6
        refine hk_ist (f := (V 5)) X K hL.c5 hS (hlA 5 (by decide)) (vp_in_nI (by omega) (by omega)) dL_law_975 (fun H7 locsH7 hIH7 hzH7 hqH7 hS => ?_)
        rw [nI_clamp (show (cn 12) < 2 ^ 31 by omega)] at hIH7
        have hL := hL.set hla (j := 5) (by decide) hIH7 hqH7
        have hW := hW.kept (fun q h1 h2 => hqH7 q (fun g => h2.elim (fun h => hlz 5 (by decide) (by rw [← g]; exact h)) (fun h => h (by rw [g]; exact hlA 5 (by decide)))))
        have hb4 : b4 ≤ H7.size := by omega
        have hZn := fun (q : Nat) (h : H7.size ≤ q) => hZn0 q (Nat.le_trans hb4 h)
        refine lv_aload hx hb dL_law_976 (lv_at hl 11 rfl) ?_
        refine lv_aload hx hb dL_law_978 (lv_at hl 15 rfl) ?_
        refine lv_iconst (v := 2) hx hb dL_law_980 (by decide) ?_
        refine hk_ild (f := (V 10)) X K hL.c10 (show vp_in (nI 2) 6 from vp_in_nI (by decide) (by decide)) dL_law_981 ?_
        rw [show (V 10) (2 : Int32).toNatClampNeg = nI (cn 12) from hV.g2]
        refine lv_iload hx hb dL_law_982 (lv_at hl 1 rfl) ?_
        refine lv_bipush (v := 12) hx hb dL_law_984 (by decide) ?_
        refine lv_idiv hx hb dL_law_986 (by decide) ?_
        refine lv_topi (fun z_8 ez_8 => ?_)
        have ez_8 : z_8 = nI (zn / 12) := ez_8.trans (pk_div (a := zn) (d := 12) (by omega) (by omega) (by omega))
        subst ez_8
        refine lv_sipush (v := 256) hx hb dL_law_987 (by decide) ?_
        refine lv_irem hx hb dL_law_990 (by decide) ?_
        refine lv_topi (fun z_9 ez_9 => ?_)
        have ez_9 : z_9 = nI ((zn / 12) % 256) := ez_9.trans (pk_rem (a := (zn / 12)) (d := 256) (by omega) (by omega) (by omega))
        subst ez_9
        refine hk_ist (f := (V 6)) X K hL.c6 hS (hlA 6 (by decide)) (vp_in_nI (by omega) (by omega)) dL_law_991 (fun H10 locsH10 hIH10 hzH10 hqH10 hS => ?_)
        rw [nI_clamp (show (cn 12) < 2 ^ 31 by omega)] at hIH10
        have hL := hL.set hla (j := 6) (by decide) hIH10 hqH10
        have hW := hW.kept (fun q h1 h2 => hqH10 q (fun g => h2.elim (fun h => hlz 6 (by decide) (by rw [← g]; exact h)) (fun h => h (by rw [g]; exact hlA 6 (by decide)))))
        have hb4 : b4 ≤ H10.size := by omega
        have hZn := fun (q : Nat) (h : H10.size ≤ q) => hZn0 q (Nat.le_trans hb4 h)
        refine lv_aload_n hx hb dL_law_992 rfl (lv_at hl 18 rfl) ?_
        refine lv_iload hx hb dL_law_993 (lv_at hl 0 rfl) ?_
        refine lv_iload hx hb dL_law_995 (lv_at hl 1 rfl) ?_
        refine lv_iconst (v := 4) hx hb dL_law_997 (by decide) ?_
        refine lv_idiv hx hb dL_law_998 (by decide) ?_
        refine lv_topi (fun z_11 ez_11 => ?_)
        have ez_11 : z_11 = nI (zn / 4) := ez_11.trans (pk_div (a := zn) (d := 4) (by omega) (by omega) (by omega))
        subst ez_11
        refine lv_aload hx hb dL_law_999 (lv_at hl 15 rfl) ?_
        refine lv_iconst (v := 1) hx hb dL_law_1001 (by decide) ?_
        refine hk_ild (f := (V 10)) X K hL.c10 (show vp_in (nI 1) 6 from vp_in_nI (by decide) (by decide)) dL_law_1002 ?_
        rw [show (V 10) (1 : Int32).toNatClampNeg = nI (cn 8) from hV.g1]
        refine lv_irem hx hb dL_law_1003 (nI_ne0 (by omega) (by omega)) ?_
        refine lv_topi (fun z_12 ez_12 => ?_)
        have ez_12 : z_12 = nI pl9 := ez_12.trans ((pk_rem (a := (zn / 4)) (d := (cn 8)) (by omega) (by omega) (by omega)).trans (congrArg nI (show (zn / 4) % (cn 8) = pl9 by omega)))
        subst ez_12
        refine lv_aload hx hb dL_law_1004 (lv_at hl 11 rfl) ?_
        refine lv_aload hx hb dL_law_1006 (lv_at hl 15 rfl) ?_
        refine lv_iconst (v := 2) hx hb dL_law_1008 (by decide) ?_
        refine hk_ild (f := (V 10)) X K hL.c10 (show vp_in (nI 2) 6 from vp_in_nI (by decide) (by decide)) dL_law_1009 ?_
        rw [show (V 10) (2 : Int32).toNatClampNeg = nI (cn 12) from hV.g2]
        refine hk_ild (f := (upd (V 6) (cn 12) (nI ((zn / 12) % 256)))) X K hL.c6 (vp_in_nI (by omega) (by omega)) dL_law_1010 ?_
        rw [show (upd (V 6) (cn 12) (nI ((zn / 12) % 256))) (nI (cn 12)).toNatClampNeg = nI (zn / 12 % 256) from (congrArg _ (nI_clamp (show cn 12 < 2 ^ 31 by omega))).trans (by rw [upd_at])]
        have hcd0 : cd_density (nI st9) (nI pl9) (nI (zn / 12 % 256)) (cn, sc, μ) = 0 := dens_c hst hn1 hpl hn8 (by omega) h12
        refine hk_callVx 3 (As := [.int (nI st9), .int (nI pl9), .int (nI (zn / 12 % 256))]) (rest := []) X K hAE hS hl.1 (HW.o hW) rfl (c_X10_density E l hl9 H10 hW hI hZn (p0 := nI st9) (p1 := nI pl9) (p2 := nI (zn / 12 % 256))) hZA gL_law_X10_density rfl ⟨rfl, hd_X10_density⟩ rfl ⟨⟨(Nat.le_of_ble_eq_true rfl), (Nat.le_of_ble_eq_true rfl)⟩, (by show cells + 12 ≤ 664990; omega), (by show slots + 600 ≤ 7106859; omega)⟩ rfl (Nat.le_of_ble_eq_true rfl) dL_law_1011 (fun x9 ce9 q9 H9 locs9 hp hS hz9 hk9 hce hcv hcl => by
            obtain ⟨hcs, -⟩ := hp
            rw [hcd0] at hcs
            rcases hcs with ⟨h, -⟩ | ⟨h, -⟩ | ⟨h, -⟩ <;> exact absurd h (by decide)
          ) (fun v9 H13 locsH13 hp hS hzH13 hkH13 => ?_)
        obtain ⟨-, hv, G, R, hW⟩ := hp
        subst hv
        have hL := hL.kept (fun k hk => hkH13 (la k) (hL.lt hk) (hlz k hk))
        have hb4 := Nat.le_trans hb4 hzH13
        have hZn := fun (q : Nat) (h : H13.size ≤ q) => hZn0 q (Nat.le_trans hb4 h)
        refine lv_aload hx hb dL_law_1014 (lv_at hl 15 rfl) ?_
        refine lv_iconst (v := 2) hx hb dL_law_1016 (by decide) ?_
        refine hk_ild (f := (V 10)) X K hL.c10 (show vp_in (nI 2) 6 from vp_in_nI (by decide) (by decide)) dL_law_1017 ?_
        rw [show (V 10) (2 : Int32).toNatClampNeg = nI (cn 12) from hV.g2]
        refine lv_icmp_ne (tgt := 1025) hx hb dL_law_1018 (by decide) (fun c_1018 => ?_) (fun c_1018 => ?_)
        · exact (c_1018 (rfl)).elim
        · refine lv_iconst (v := 1) hx hb dL_law_1021 (by decide) ?_
          refine lv_goto (tgt := 1026) hx hb dL_law_1022 (by decide) ?_
          refine lv_istore (lv' := [(15, .int 1), (20, .int (nI st9)), (19, .int (nI zn)), (18, .int kd), (16, .int (nI tn)), (2, .ref (la 0)), (3, .ref (la 1)), (4, .ref (la 2)), (5, .ref (la 3)), (6, .ref (la 4)), (7, .ref (la 5)), (8, .ref (la 6)), (9, .ref (la 7)), (10, .ref (la 8)), (11, .ref (la 9)), (12, .ref (la 10)), (13, .ref (la 11)), (14, .ref (la 12)), (1, .ref ho), (0, .ref b)]) hx hb dL_law_1026 hl (by decide) rfl (fun ls hl => ?_)
          refine lv_aload hx hb dL_law_1028 (lv_at hl 15 rfl) ?_
          refine lv_iconst (v := 2) hx hb dL_law_1030 (by decide) ?_
          refine lv_dup2_11 hx hb dL_law_1031 rfl rfl ?_
          refine hk_ild (f := (V 10)) X K hL.c10 (show vp_in (nI 2) 6 from vp_in_nI (by decide) (by decide)) dL_law_1032 ?_
          rw [show (V 10) (2 : Int32).toNatClampNeg = nI (cn 12) from hV.g2]
          refine lv_iconst (v := 1) hx hb dL_law_1033 (by decide) ?_
          refine lv_iadd hx hb dL_law_1034 ?_
          refine lv_topi (fun z_14 ez_14 => ?_)
          have ez_14 : z_14 = nI ((cn 12) + 1) := ez_14.trans (nI_add (cn 12) 1)
          subst ez_14
          refine hk_ist (f := (V 10)) X K hL.c10 hS (hlA 10 (by decide)) (show vp_in (nI 2) 6 from vp_in_nI (by decide) (by decide)) dL_law_1035 (fun H15 locsH15 hIH15 hzH15 hqH15 hS => ?_)
          rw [show (2 : Int32).toNatClampNeg = 2 from rfl] at hIH15
          have hL := hL.set hla (j := 10) (by decide) hIH15 hqH15
          have hW := hW.kept (fun q h1 h2 => hqH15 q (fun g => h2.elim (fun h => hlz 10 (by decide) (by rw [← g]; exact h)) (fun h => h (by rw [g]; exact hlA 10 (by decide)))))
          have hb4 : b4 ≤ H15.size := by omega
          have hZn := fun (q : Nat) (h : H15.size ≤ q) => hZn0 q (Nat.le_trans hb4 h)
          refine lv_goto (tgt := 2061) hx hb dL_law_1036 (by decide) ?_
          refine W.widen (k := cells + 40) (n := slots + 2000) (by show cells + 12 ≤ _; omega) (by show slots + 600 ≤ _; omega) ?_
          have hV9 := lv_density hV (st := st9) (of := pl9) hst hpl h12 (x := nI (zn / 12 % 256))
          exact J2061 H15 _ ⟨G, R, _, _, invF_density hI hcd0, hV9, hW, LW.mk13 hL.c0 hL.c1 hL.c2 hL.c3 hL.c4 hL.c5 hL.c6 hL.c7 hL.c8 hL.c9 hL.c10 hL.c11 hL.c12, hS, hb4, ⟨fun h => absurd h (by omega), fun _ => h2⟩⟩ _ (lv_sub hl [2, 4, 0, 5, 6, 7, 8, 9, 10, 11, 12, 13, 14, 15, 16, 17, 18, 19] rfl)

set_option maxHeartbeats 4000000 in
set_option maxRecDepth 100000 in
theorem k_717 {p : Program} {l : Launch} {e : Env} {s : State} {m : MethodId} {below : List Frame} {meth : Method} {c : Code} {b L : Nat} {xs : Nat → Int32} {E : hk_E} {Z : Nat → Prop} {ho ts b4 : Nat} {li : Nat → Nat} {rr : Nat → Nat → Nat} {la : Nat → Nat} (G0 : lw_G p l s m meth c b L xs E Z la b4) {H : Heap} {locs : List Loc} {cells slots tn zn st9 : Nat} {kd : Int32} (hJ0 : lw_J E Z ho ts li rr la b4 s (fun S => 2 ≤ S.1 1 ∧ st9 < S.1 1) H locs) (hz31 : zn < 2 ^ 31) (ht2 : 2 ≤ tn) (hce : cells + 40 ≤ 664990) (hsl : slots + 2000 ≤ 7106859) {ls : Array Slot} (hl : lv_has ls 26 [(20, .int (nI st9)), (19, .int (nI zn)), (18, .int kd), (16, .int (nI tn)), (15, .int 1), (2, .ref (la 0)), (3, .ref (la 1)), (4, .ref (la 2)), (5, .ref (la 3)), (6, .ref (la 4)), (7, .ref (la 5)), (8, .ref (la 6)), (9, .ref (la 7)), (10, .ref (la 8)), (11, .ref (la 9)), (12, .ref (la 10)), (13, .ref (la 11)), (14, .ref (la 12)), (1, .ref ho), (0, .ref b)])
  (J2061 : ∀ (H1 : Heap) (locs1 : List Loc), lw_J E Z ho ts li rr la b4 s (fun S => tI (tn + 1) (S.1 1)) H1 locs1 → ∀ (ls : Array Slot), lv_has ls 26 [(19, .int (nI zn)), (16, .int (nI tn)), (15, .int 1), (2, .ref (la 0)), (3, .ref (la 1)), (4, .ref (la 2)), (5, .ref (la 3)), (6, .ref (la 4)), (7, .ref (la 5)), (8, .ref (la 6)), (9, .ref (la 7)), (10, .ref (la 8)), (11, .ref (la 9)), (12, .ref (la 10)), (13, .ref (la 11)), (14, .ref (la 12)), (1, .ref ho), (0, .ref b)] → W p l e room_1 s m #[Value.ref b] below meth c H1 locs1 (cells + 40) (slots + 2000) (lw_Z below #[Value.ref b] s) (F0 m 2061 ls [])) : W p l e room_1 s m #[Value.ref b] below meth c H locs cells slots (lw_Z below #[Value.ref b] s) (F0 m 717 ls []) := by
  obtain ⟨hl9, hLL, C0, X, K, hE, hZn0, hlz, hla, hlA⟩ := id G0
  obtain ⟨G, R, V, ⟨cn, sc, μ⟩, hI, hV, hW, hL, hS, hb4, ⟨h2, hst⟩⟩ := hJ0
  obtain ⟨hx, hb, hr, hml, hown, hts, hXs, hbl, hlocks, -⟩ := id C0
  have hAE : ∀ q, hk_A E q → hk_A E q := fun _ h => h
  have hZA : ∀ q, Z q → hk_A E q := hW.2.2.2.2.2.2.2.2.2.2.2.2
  have hZn : ∀ q, H.size ≤ q → Z q := fun q h => hZn0 q (Nat.le_trans hb4 h)
  have hn1 : cn 1 ≤ 4 := hV.n1
  have hn8 : cn 8 ≤ 3 := hV.n8
  have hn12 : cn 12 ≤ 24 := hV.n12
  have hn22 : cn 22 ≤ 4 := hV.n22
  have hn29 : cn 29 ≤ 8 := hV.n29
  have h2 : 2 ≤ cn 1 := h2
  have hst : st9 < cn 1 := hst
  refine lv_iload hx hb dL_law_717 (lv_at hl 2 rfl) ?_
  refine lv_bipush (v := 11) hx hb dL_law_719 (by decide) ?_
  refine lv_icmp_ge (tgt := 927) hx hb dL_law_721 (by decide) (fun c_721 => ?_) (fun c_721 => ?_)
  · exact k_927 G0 ⟨G, R, V, (cn, sc, μ), hI, hV, hW, hL, hS, hb4, ⟨h2, hst⟩⟩ hz31 ht2 hce hsl hl J2061
  · refine lv_aload hx hb dL_law_724 (lv_at hl 15 rfl) ?_
    refine lv_iconst (v := 2) hx hb dL_law_726 (by decide) ?_
    refine hk_ild (f := (V 10)) X K hL.c10 (show vp_in (nI 2) 6 from vp_in_nI (by decide) (by decide)) dL_law_727 ?_
    rw [show (V 10) (2 : Int32).toNatClampNeg = nI (cn 12) from hV.g2]
    refine lv_bipush (v := 24) hx hb dL_law_728 (by decide) ?_
    refine lv_icmp_ge (tgt := 927) hx hb dL_law_730 (by decide) (fun c_730 => ?_) (fun c_730 => ?_)
    · exact k_927 G0 ⟨G, R, V, (cn, sc, μ), hI, hV, hW, hL, hS, hb4, ⟨h2, hst⟩⟩ hz31 ht2 hce hsl hl J2061
    · have h12 : cn 12 < 24 := Nat.lt_of_not_le (fun h => c_730 (nI_le (a := 24) h (by omega)))
      obtain ⟨ah9, eah⟩ : ∃ y, y = zn / 4 % 10 := ⟨_, rfl⟩
      obtain ⟨fi9, efi⟩ : ∃ y, y = zn / 11 % 10 := ⟨_, rfl⟩
      obtain ⟨of9, eof⟩ : ∃ y, y = zn / 17 % 8 := ⟨_, rfl⟩
      obtain ⟨se9, ese⟩ : ∃ y, y = (fi9 + 1 + zn / 13 % 9) % 10 := ⟨_, rfl⟩
      refine lv_iload hx hb dL_law_733 (lv_at hl 1 rfl) ?_
      refine lv_iconst (v := 4) hx hb dL_law_735 (by decide) ?_
      refine lv_idiv hx hb dL_law_736 (by decide) ?_
      refine lv_topi (fun z_1 ez_1 => ?_)
      have ez_1 : z_1 = nI (zn / 4) := ez_1.trans (pk_div (a := zn) (d := 4) (by omega) (by omega) (by omega))
      subst ez_1
      refine lv_bipush (v := 10) hx hb dL_law_737 (by decide) ?_
      refine lv_irem hx hb dL_law_739 (by decide) ?_
      refine lv_topi (fun z_2 ez_2 => ?_)
      have ez_2 : z_2 = nI ah9 := ez_2.trans ((pk_rem (a := (zn / 4)) (d := 10) (by omega) (by omega) (by omega)).trans (congrArg nI (show (zn / 4) % 10 = ah9 by omega)))
      subst ez_2
      refine lv_istore (lv' := [(21, .int (nI ah9)), (20, .int (nI st9)), (19, .int (nI zn)), (18, .int kd), (16, .int (nI tn)), (15, .int 1), (2, .ref (la 0)), (3, .ref (la 1)), (4, .ref (la 2)), (5, .ref (la 3)), (6, .ref (la 4)), (7, .ref (la 5)), (8, .ref (la 6)), (9, .ref (la 7)), (10, .ref (la 8)), (11, .ref (la 9)), (12, .ref (la 10)), (13, .ref (la 11)), (14, .ref (la 12)), (1, .ref ho), (0, .ref b)]) hx hb dL_law_740 hl (by decide) rfl (fun ls hl => ?_)
      refine lv_iload hx hb dL_law_742 (lv_at hl 0 rfl) ?_
      refine lv_if_ne (tgt := 760) hx hb dL_law_744 (by decide) (fun c_744 => ?_) (fun c_744 => ?_)
      · have hah : ah9 ≠ 0 := fun h => c_744 (by rw [h]; rfl)
        refine lv_iload hx hb dL_law_760 (lv_at hl 2 rfl) ?_
        refine lv_bipush (v := 40) hx hb dL_law_762 (by decide) ?_
        refine lv_idiv hx hb dL_law_764 (by decide) ?_
        refine lv_topi (fun z_3 ez_3 => ?_)
        have ez_3 : z_3 = nI (zn / 40) := ez_3.trans (pk_div (a := zn) (d := 40) (by omega) (by omega) (by omega))
        subst ez_3
        refine lv_bipush (v := 10) hx hb dL_law_765 (by decide) ?_
        refine lv_irem hx hb dL_law_767 (by decide) ?_
        refine lv_topi (fun z_4 ez_4 => ?_)
        have ez_4 : z_4 = nI ((zn / 40) % 10) := ez_4.trans (pk_rem (a := (zn / 40)) (d := 10) (by omega) (by omega) (by omega))
        subst ez_4
        refine lv_istore (lv' := [(22, .int (nI ((zn / 40) % 10))), (21, .int (nI ah9)), (20, .int (nI st9)), (19, .int (nI zn)), (18, .int kd), (16, .int (nI tn)), (15, .int 1), (2, .ref (la 0)), (3, .ref (la 1)), (4, .ref (la 2)), (5, .ref (la 3)), (6, .ref (la 4)), (7, .ref (la 5)), (8, .ref (la 6)), (9, .ref (la 7)), (10, .ref (la 8)), (11, .ref (la 9)), (12, .ref (la 10)), (13, .ref (la 11)), (14, .ref (la 12)), (1, .ref ho), (0, .ref b)]) hx hb dL_law_768 hl (by decide) rfl (fun ls hl => ?_)
        refine lv_iload hx hb dL_law_770 (lv_at hl 3 rfl) ?_
        refine lv_bipush (v := 11) hx hb dL_law_772 (by decide) ?_
        refine lv_idiv hx hb dL_law_774 (by decide) ?_
        refine lv_topi (fun z_5 ez_5 => ?_)
        have ez_5 : z_5 = nI (zn / 11) := ez_5.trans (pk_div (a := zn) (d := 11) (by omega) (by omega) (by omega))
        subst ez_5
        refine lv_bipush (v := 10) hx hb dL_law_775 (by decide) ?_
        refine lv_irem hx hb dL_law_777 (by decide) ?_
        refine lv_topi (fun z_6 ez_6 => ?_)
        have ez_6 : z_6 = nI fi9 := ez_6.trans ((pk_rem (a := (zn / 11)) (d := 10) (by omega) (by omega) (by omega)).trans (congrArg nI (show (zn / 11) % 10 = fi9 by omega)))
        subst ez_6
        refine lv_istore (lv' := [(23, .int (nI fi9)), (22, .int (nI ((zn / 40) % 10))), (21, .int (nI ah9)), (20, .int (nI st9)), (19, .int (nI zn)), (18, .int kd), (16, .int (nI tn)), (15, .int 1), (2, .ref (la 0)), (3, .ref (la 1)), (4, .ref (la 2)), (5, .ref (la 3)), (6, .ref (la 4)), (7, .ref (la 5)), (8, .ref (la 6)), (9, .ref (la 7)), (10, .ref (la 8)), (11, .ref (la 9)), (12, .ref (la 10)), (13, .ref (la 11)), (14, .ref (la 12)), (1, .ref ho), (0, .ref b)]) hx hb dL_law_778 hl (by decide) rfl (fun ls hl => ?_)
        refine lv_iload hx hb dL_law_780 (lv_at hl 0 rfl) ?_
        refine lv_iconst (v := 1) hx hb dL_law_782 (by decide) ?_
        refine lv_iadd hx hb dL_law_783 ?_
        refine lv_topi (fun z_7 ez_7 => ?_)
        have ez_7 : z_7 = nI (fi9 + 1) := ez_7.trans (nI_add fi9 1)
        subst ez_7
        refine lv_iload hx hb dL_law_784 (lv_at hl 4 rfl) ?_
        refine lv_bipush (v := 13) hx hb dL_law_786 (by decide) ?_
        refine lv_idiv hx hb dL_law_788 (by decide) ?_
        refine lv_topi (fun z_8 ez_8 => ?_)
        have ez_8 : z_8 = nI (zn / 13) := ez_8.trans (pk_div (a := zn) (d := 13) (by omega) (by omega) (by omega))
        subst ez_8
        refine lv_bipush (v := 9) hx hb dL_law_789 (by decide) ?_
        refine lv_irem hx hb dL_law_791 (by decide) ?_
        refine lv_topi (fun z_9 ez_9 => ?_)
        have ez_9 : z_9 = nI ((zn / 13) % 9) := ez_9.trans (pk_rem (a := (zn / 13)) (d := 9) (by omega) (by omega) (by omega))
        subst ez_9
        refine lv_iadd hx hb dL_law_792 ?_
        refine lv_topi (fun z_10 ez_10 => ?_)
        have ez_10 : z_10 = nI ((fi9 + 1) + ((zn / 13) % 9)) := ez_10.trans (nI_add (fi9 + 1) ((zn / 13) % 9))
        subst ez_10
        refine lv_bipush (v := 10) hx hb dL_law_793 (by decide) ?_
        refine lv_irem hx hb dL_law_795 (by decide) ?_
        refine lv_topi (fun z_11 ez_11 => ?_)
        have ez_11 : z_11 = nI se9 := ez_11.trans ((pk_rem (a := ((fi9 + 1) + ((zn / 13) % 9))) (d := 10) (by omega) (by omega) (by omega)).trans (congrArg nI (show ((fi9 + 1) + ((zn / 13) % 9)) % 10 = se9 by omega)))
        subst ez_11
        refine lv_istore (lv' := [(24, .int (nI se9)), (23, .int (nI fi9)), (22, .int (nI ((zn / 40) % 10))), (21, .int (nI ah9)), (20, .int (nI st9)), (19, .int (nI zn)), (18, .int kd), (16, .int (nI tn)), (15, .int 1), (2, .ref (la 0)), (3, .ref (la 1)), (4, .ref (la 2)), (5, .ref (la 3)), (6, .ref (la 4)), (7, .ref (la 5)), (8, .ref (la 6)), (9, .ref (la 7)), (10, .ref (la 8)), (11, .ref (la 9)), (12, .ref (la 10)), (13, .ref (la 11)), (14, .ref (la 12)), (1, .ref ho), (0, .ref b)]) hx hb dL_law_796 hl (by decide) rfl (fun ls hl => ?_)
        refine lv_iload hx hb dL_law_798 (lv_at hl 5 rfl) ?_
        refine lv_iload hx hb dL_law_800 (lv_at hl 5 rfl) ?_
        refine lv_iconst (v := 5) hx hb dL_law_802 (by decide) ?_
        refine lv_irem hx hb dL_law_803 (by decide) ?_
        refine lv_topi (fun z_12 ez_12 => ?_)
        have ez_12 : z_12 = nI (zn % 5) := ez_12.trans (pk_rem (a := zn) (d := 5) (by omega) (by omega) (by omega))
        subst ez_12
        refine lv_if_ne (tgt := 812) hx hb dL_law_804 (by decide) (fun c_804 => ?_) (fun c_804 => ?_)
        · refine lv_sipush (v := 4000) hx hb dL_law_812 (by decide) ?_
          refine lv_irem hx hb dL_law_815 (by decide) ?_
          refine lv_topi (fun z_13 ez_13 => ?_)
          have ez_13 : z_13 = nI (zn % 4000) := ez_13.trans (pk_rem (a := zn) (d := 4000) (by omega) (by omega) (by omega))
          subst ez_13
          refine lv_istore (lv' := [(25, .int (nI (zn % 4000))), (24, .int (nI se9)), (23, .int (nI fi9)), (22, .int (nI ((zn / 40) % 10))), (21, .int (nI ah9)), (20, .int (nI st9)), (19, .int (nI zn)), (18, .int kd), (16, .int (nI tn)), (15, .int 1), (2, .ref (la 0)), (3, .ref (la 1)), (4, .ref (la 2)), (5, .ref (la 3)), (6, .ref (la 4)), (7, .ref (la 5)), (8, .ref (la 6)), (9, .ref (la 7)), (10, .ref (la 8)), (11, .ref (la 9)), (12, .ref (la 10)), (13, .ref (la 11)), (14, .ref (la 12)), (1, .ref ho), (0, .ref b)]) hx hb dL_law_816 hl (by decide) rfl (fun ls hl => ?_)
          refine lv_aload hx hb dL_law_818 (lv_at hl 15 rfl) ?_
          refine lv_aload hx hb dL_law_820 (lv_at hl 20 rfl) ?_
          refine lv_iconst (v := 2) hx hb dL_law_822 (by decide) ?_
          refine hk_ild (f := (V 10)) X K hL.c10 (show vp_in (nI 2) 6 from vp_in_nI (by decide) (by decide)) dL_law_823 ?_
          rw [show (V 10) (2 : Int32).toNatClampNeg = nI (cn 12) from hV.g2]
          refine lv_iconst (v := 2) hx hb dL_law_824 (by decide) ?_
          refine lv_iload hx hb dL_law_825 (lv_at hl 5 rfl) ?_
          refine lv_imul hx hb dL_law_827 ?_
          refine lv_topi (fun z_14 ez_14 => ?_)
          have ez_14 : z_14 = nI (2 * st9) := ez_14.trans (nI_mul 2 st9)
          subst ez_14
          refine lv_bipush (v := 8) hx hb dL_law_828 (by decide) ?_
          refine lv_iload hx hb dL_law_830 (lv_at hl 6 rfl) ?_
          refine lv_bipush (v := 17) hx hb dL_law_832 (by decide) ?_
          refine lv_idiv hx hb dL_law_834 (by decide) ?_
          refine lv_topi (fun z_15 ez_15 => ?_)
          have ez_15 : z_15 = nI (zn / 17) := ez_15.trans (pk_div (a := zn) (d := 17) (by omega) (by omega) (by omega))
          subst ez_15
          refine lv_bipush (v := 8) hx hb dL_law_835 (by decide) ?_
          refine lv_irem hx hb dL_law_837 (by decide) ?_
          refine lv_topi (fun z_16 ez_16 => ?_)
          have ez_16 : z_16 = nI of9 := ez_16.trans ((pk_rem (a := (zn / 17)) (d := 8) (by omega) (by omega) (by omega)).trans (congrArg nI (show (zn / 17) % 8 = of9 by omega)))
          subst ez_16
          refine lv_imul hx hb dL_law_838 ?_
          refine lv_topi (fun z_17 ez_17 => ?_)
          have ez_17 : z_17 = nI (8 * of9) := ez_17.trans (nI_mul 8 of9)
          subst ez_17
          refine lv_iadd hx hb dL_law_839 ?_
          refine lv_topi (fun z_18 ez_18 => ?_)
          have ez_18 : z_18 = nI (2 * st9 + 8 * of9) := ez_18.trans ((nI_add (2 * st9) (8 * of9)).trans (congrArg nI (show (2 * st9) + (8 * of9) = 2 * st9 + 8 * of9 by omega)))
          subst ez_18
          refine hk_ist (f := (V 5)) X K hL.c5 hS (hlA 5 (by decide)) (vp_in_nI (by omega) (by omega)) dL_law_840 (fun H19 locsH19 hIH19 hzH19 hqH19 hS => ?_)
          rw [nI_clamp (show (cn 12) < 2 ^ 31 by omega)] at hIH19
          have hL := hL.set hla (j := 5) (by decide) hIH19 hqH19
          have hW := hW.kept (fun q h1 h2 => hqH19 q (fun g => h2.elim (fun h => hlz 5 (by decide) (by rw [← g]; exact h)) (fun h => h (by rw [g]; exact hlA 5 (by decide)))))
          have hb4 : b4 ≤ H19.size := by omega
          have hZn := fun (q : Nat) (h : H19.size ≤ q) => hZn0 q (Nat.le_trans hb4 h)
          refine lv_aload hx hb dL_law_841 (lv_at hl 16 rfl) ?_
          refine lv_aload hx hb dL_law_843 (lv_at hl 20 rfl) ?_
          refine lv_iconst (v := 2) hx hb dL_law_845 (by decide) ?_
          refine hk_ild (f := (V 10)) X K hL.c10 (show vp_in (nI 2) 6 from vp_in_nI (by decide) (by decide)) dL_law_846 ?_
          rw [show (V 10) (2 : Int32).toNatClampNeg = nI (cn 12) from hV.g2]
          refine lv_iload hx hb dL_law_847 (lv_at hl 0 rfl) ?_
          refine hk_ist (f := (V 6)) X K hL.c6 hS (hlA 6 (by decide)) (vp_in_nI (by omega) (by omega)) dL_law_849 (fun H20 locsH20 hIH20 hzH20 hqH20 hS => ?_)
          rw [nI_clamp (show (cn 12) < 2 ^ 31 by omega)] at hIH20
          have hL := hL.set hla (j := 6) (by decide) hIH20 hqH20
          have hW := hW.kept (fun q h1 h2 => hqH20 q (fun g => h2.elim (fun h => hlz 6 (by decide) (by rw [← g]; exact h)) (fun h => h (by rw [g]; exact hlA 6 (by decide)))))
          have hb4 : b4 ≤ H20.size := by omega
          have hZn := fun (q : Nat) (h : H20.size ≤ q) => hZn0 q (Nat.le_trans hb4 h)
          refine lv_aload hx hb dL_law_850 (lv_at hl 17 rfl) ?_
          refine lv_aload hx hb dL_law_852 (lv_at hl 20 rfl) ?_
          refine lv_iconst (v := 2) hx hb dL_law_854 (by decide) ?_
          refine hk_ild (f := (V 10)) X K hL.c10 (show vp_in (nI 2) 6 from vp_in_nI (by decide) (by decide)) dL_law_855 ?_
          rw [show (V 10) (2 : Int32).toNatClampNeg = nI (cn 12) from hV.g2]
          refine lv_iload hx hb dL_law_856 (lv_at hl 2 rfl) ?_
          refine lv_bipush (v := 10) hx hb dL_law_858 (by decide) ?_
          refine lv_iload hx hb dL_law_860 (lv_at hl 4 rfl) ?_
          refine lv_imul hx hb dL_law_862 ?_
          refine lv_topi (fun z_21 ez_21 => ?_)
          have ez_21 : z_21 = nI (10 * ah9) := ez_21.trans (nI_mul 10 ah9)
          subst ez_21
          refine lv_iadd hx hb dL_law_863 ?_
          refine lv_topi (fun z_22 ez_22 => ?_)
          have ez_22 : z_22 = nI (fi9 + (10 * ah9)) := ez_22.trans (nI_add fi9 (10 * ah9))
          subst ez_22
          refine lv_bipush (v := 100) hx hb dL_law_864 (by decide) ?_
          refine lv_iload hx hb dL_law_866 (lv_at hl 3 rfl) ?_
          refine lv_imul hx hb dL_law_868 ?_
          refine lv_topi (fun z_23 ez_23 => ?_)
          have ez_23 : z_23 = nI (100 * ((zn / 40) % 10)) := ez_23.trans (nI_mul 100 ((zn / 40) % 10))
          subst ez_23
          refine lv_iadd hx hb dL_law_869 ?_
          refine lv_topi (fun z_24 ez_24 => ?_)
          have ez_24 : z_24 = nI ((fi9 + (10 * ah9)) + (100 * ((zn / 40) % 10))) := ez_24.trans (nI_add (fi9 + (10 * ah9)) (100 * ((zn / 40) % 10)))
          subst ez_24
          refine lv_sipush (v := 1000) hx hb dL_law_870 (by decide) ?_
          refine lv_iload hx hb dL_law_873 (lv_at hl 1 rfl) ?_
          refine lv_imul hx hb dL_law_875 ?_
          refine lv_topi (fun z_25 ez_25 => ?_)
          have ez_25 : z_25 = nI (1000 * se9) := ez_25.trans (nI_mul 1000 se9)
          subst ez_25
          refine lv_iadd hx hb dL_law_876 ?_
          refine lv_topi (fun z_26 ez_26 => ?_)
          have ez_26 : z_26 = nI (fi9 + 10 * ah9 + 100 * ((zn / 40) % 10) + 1000 * se9) := ez_26.trans ((nI_add ((fi9 + (10 * ah9)) + (100 * ((zn / 40) % 10))) (1000 * se9)).trans (congrArg nI (show ((fi9 + (10 * ah9)) + (100 * ((zn / 40) % 10))) + (1000 * se9) = fi9 + 10 * ah9 + 100 * ((zn / 40) % 10) + 1000 * se9 by omega)))
          subst ez_26
          refine hk_ist (f := (V 7)) X K hL.c7 hS (hlA 7 (by decide)) (vp_in_nI (by omega) (by omega)) dL_law_877 (fun H27 locsH27 hIH27 hzH27 hqH27 hS => ?_)
          rw [nI_clamp (show (cn 12) < 2 ^ 31 by omega)] at hIH27
          have hL := hL.set hla (j := 7) (by decide) hIH27 hqH27
          have hW := hW.kept (fun q h1 h2 => hqH27 q (fun g => h2.elim (fun h => hlz 7 (by decide) (by rw [← g]; exact h)) (fun h => h (by rw [g]; exact hlA 7 (by decide)))))
          have hb4 : b4 ≤ H27.size := by omega
          have hZn := fun (q : Nat) (h : H27.size ≤ q) => hZn0 q (Nat.le_trans hb4 h)
          refine lv_aload_n hx hb dL_law_878 rfl (lv_at hl 23 rfl) ?_
          refine lv_iload hx hb dL_law_879 (lv_at hl 5 rfl) ?_
          refine lv_iload hx hb dL_law_881 (lv_at hl 6 rfl) ?_
          refine lv_bipush (v := 17) hx hb dL_law_883 (by decide) ?_
          refine lv_idiv hx hb dL_law_885 (by decide) ?_
          refine lv_topi (fun z_28 ez_28 => ?_)
          have ez_28 : z_28 = nI (zn / 17) := ez_28.trans (pk_div (a := zn) (d := 17) (by omega) (by omega) (by omega))
          subst ez_28
          refine lv_bipush (v := 8) hx hb dL_law_886 (by decide) ?_
          refine lv_irem hx hb dL_law_888 (by decide) ?_
          refine lv_topi (fun z_29 ez_29 => ?_)
          have ez_29 : z_29 = nI of9 := ez_29.trans ((pk_rem (a := (zn / 17)) (d := 8) (by omega) (by omega) (by omega)).trans (congrArg nI (show (zn / 17) % 8 = of9 by omega)))
          subst ez_29
          refine lv_iload hx hb dL_law_889 (lv_at hl 0 rfl) ?_
          refine lv_iload hx hb dL_law_891 (lv_at hl 2 rfl) ?_
          refine lv_iload hx hb dL_law_893 (lv_at hl 4 rfl) ?_
          refine lv_iload hx hb dL_law_895 (lv_at hl 3 rfl) ?_
          refine lv_iload hx hb dL_law_897 (lv_at hl 1 rfl) ?_
          have hcd0 : cd_step (nI st9) (nI of9) (nI (zn % 4000)) (nI fi9) (nI ah9) (nI ((zn / 40) % 10)) (nI se9) (cn, sc, μ) = 0 := step_c hst hn1 (by omega) (by omega) (by omega) (by omega) (by omega) (by omega) (by omega) (by omega) h12
          refine hk_callVx 7 (As := [.int (nI st9), .int (nI of9), .int (nI (zn % 4000)), .int (nI fi9), .int (nI ah9), .int (nI ((zn / 40) % 10)), .int (nI se9)]) (rest := []) X K hAE hS hl.1 (HW.o hW) rfl (c_X10_step E l hl9 H27 hW hI hZn (p0 := nI st9) (p1 := nI of9) (p2 := nI (zn % 4000)) (p3 := nI fi9) (p4 := nI ah9) (p5 := nI ((zn / 40) % 10)) (p6 := nI se9)) hZA gL_law_X10_step rfl ⟨rfl, hd_X10_step⟩ rfl ⟨⟨(Nat.le_of_ble_eq_true rfl), (Nat.le_of_ble_eq_true rfl)⟩, (by show cells + 12 ≤ 664990; omega), (by show slots + 600 ≤ 7106859; omega)⟩ rfl (Nat.le_of_ble_eq_true rfl) dL_law_899 (fun x9 ce9 q9 H9 locs9 hp hS hz9 hk9 hce hcv hcl => by
              obtain ⟨hcs, -⟩ := hp
              rw [hcd0] at hcs
              rcases hcs with ⟨h, -⟩ | ⟨h, -⟩ | ⟨h, -⟩ <;> exact absurd h (by decide)
            ) (fun v9 H30 locsH30 hp hS hzH30 hkH30 => ?_)
          obtain ⟨-, hv, G, R, hW⟩ := hp
          subst hv
          have hL := hL.kept (fun k hk => hkH30 (la k) (hL.lt hk) (hlz k hk))
          have hb4 := Nat.le_trans hb4 hzH30
          have hZn := fun (q : Nat) (h : H30.size ≤ q) => hZn0 q (Nat.le_trans hb4 h)
          refine lv_aload hx hb dL_law_902 (lv_at hl 20 rfl) ?_
          refine lv_iconst (v := 2) hx hb dL_law_904 (by decide) ?_
          refine hk_ild (f := (V 10)) X K hL.c10 (show vp_in (nI 2) 6 from vp_in_nI (by decide) (by decide)) dL_law_905 ?_
          rw [show (V 10) (2 : Int32).toNatClampNeg = nI (cn 12) from hV.g2]
          refine lv_icmp_ne (tgt := 913) hx hb dL_law_906 (by decide) (fun c_906 => ?_) (fun c_906 => ?_)
          · exact (c_906 (rfl)).elim
          · refine lv_iconst (v := 1) hx hb dL_law_909 (by decide) ?_
            refine lv_goto (tgt := 914) hx hb dL_law_910 (by decide) ?_
            refine lv_istore (lv' := [(15, .int 1), (25, .int (nI (zn % 4000))), (24, .int (nI se9)), (23, .int (nI fi9)), (22, .int (nI ((zn / 40) % 10))), (21, .int (nI ah9)), (20, .int (nI st9)), (19, .int (nI zn)), (18, .int kd), (16, .int (nI tn)), (2, .ref (la 0)), (3, .ref (la 1)), (4, .ref (la 2)), (5, .ref (la 3)), (6, .ref (la 4)), (7, .ref (la 5)), (8, .ref (la 6)), (9, .ref (la 7)), (10, .ref (la 8)), (11, .ref (la 9)), (12, .ref (la 10)), (13, .ref (la 11)), (14, .ref (la 12)), (1, .ref ho), (0, .ref b)]) hx hb dL_law_914 hl (by decide) rfl (fun ls hl => ?_)
            refine lv_aload hx hb dL_law_916 (lv_at hl 20 rfl) ?_
            refine lv_iconst (v := 2) hx hb dL_law_918 (by decide) ?_
            refine lv_dup2_11 hx hb dL_law_919 rfl rfl ?_
            refine hk_ild (f := (V 10)) X K hL.c10 (show vp_in (nI 2) 6 from vp_in_nI (by decide) (by decide)) dL_law_920 ?_
            rw [show (V 10) (2 : Int32).toNatClampNeg = nI (cn 12) from hV.g2]
            refine lv_iconst (v := 1) hx hb dL_law_921 (by decide) ?_
            refine lv_iadd hx hb dL_law_922 ?_
            refine lv_topi (fun z_31 ez_31 => ?_)
            have ez_31 : z_31 = nI ((cn 12) + 1) := ez_31.trans (nI_add (cn 12) 1)
            subst ez_31
            refine hk_ist (f := (V 10)) X K hL.c10 hS (hlA 10 (by decide)) (show vp_in (nI 2) 6 from vp_in_nI (by decide) (by decide)) dL_law_923 (fun H32 locsH32 hIH32 hzH32 hqH32 hS => ?_)
            rw [show (2 : Int32).toNatClampNeg = 2 from rfl] at hIH32
            have hL := hL.set hla (j := 10) (by decide) hIH32 hqH32
            have hW := hW.kept (fun q h1 h2 => hqH32 q (fun g => h2.elim (fun h => hlz 10 (by decide) (by rw [← g]; exact h)) (fun h => h (by rw [g]; exact hlA 10 (by decide)))))
            have hb4 : b4 ≤ H32.size := by omega
            have hZn := fun (q : Nat) (h : H32.size ≤ q) => hZn0 q (Nat.le_trans hb4 h)
            refine lv_goto (tgt := 2061) hx hb dL_law_924 (by decide) ?_
            refine W.widen (k := cells + 40) (n := slots + 2000) (by show cells + 12 ≤ _; omega) (by show slots + 600 ≤ _; omega) ?_
            have hV9 := lv_step hV (st := st9) (of := of9) (f := fi9) (a := ah9) (b := ((zn / 40) % 10)) (g := se9) (x := nI (zn % 4000)) hst (by omega) (by omega) (by omega) (by omega) (by omega) (by omega) h12
            exact J2061 H32 _ ⟨G, R, _, _, invF_step hI hcd0, hV9, hW, LW.mk13 hL.c0 hL.c1 hL.c2 hL.c3 hL.c4 hL.c5 hL.c6 hL.c7 hL.c8 hL.c9 hL.c10 hL.c11 hL.c12, hS, hb4, ⟨fun h => absurd h (by omega), fun _ => h2⟩⟩ _ (lv_sub hl [7, 9, 0, 10, 11, 12, 13, 14, 15, 16, 17, 18, 19, 20, 21, 22, 23, 24] rfl)
        · refine lv_ldc hx hb hown (hts (.constant RL 141 (10000000)) (by decide +kernel)) dL_law_807 ?_
          refine lv_goto (tgt := 815) hx hb dL_law_809 (by decide) ?_
          refine lv_irem hx hb dL_law_815 (by decide) ?_
          refine lv_topi (fun z_33 ez_33 => ?_)
          have ez_33 : z_33 = nI (zn % 10000000) := ez_33.trans (pk_rem (a := zn) (d := 10000000) (by omega) (by omega) (by omega))
          subst ez_33
          refine lv_istore (lv' := [(25, .int (nI (zn % 10000000))), (24, .int (nI se9)), (23, .int (nI fi9)), (22, .int (nI ((zn / 40) % 10))), (21, .int (nI ah9)), (20, .int (nI st9)), (19, .int (nI zn)), (18, .int kd), (16, .int (nI tn)), (15, .int 1), (2, .ref (la 0)), (3, .ref (la 1)), (4, .ref (la 2)), (5, .ref (la 3)), (6, .ref (la 4)), (7, .ref (la 5)), (8, .ref (la 6)), (9, .ref (la 7)), (10, .ref (la 8)), (11, .ref (la 9)), (12, .ref (la 10)), (13, .ref (la 11)), (14, .ref (la 12)), (1, .ref ho), (0, .ref b)]) hx hb dL_law_816 hl (by decide) rfl (fun ls hl => ?_)
          refine lv_aload hx hb dL_law_818 (lv_at hl 15 rfl) ?_
          refine lv_aload hx hb dL_law_820 (lv_at hl 20 rfl) ?_
          refine lv_iconst (v := 2) hx hb dL_law_822 (by decide) ?_
          refine hk_ild (f := (V 10)) X K hL.c10 (show vp_in (nI 2) 6 from vp_in_nI (by decide) (by decide)) dL_law_823 ?_
          rw [show (V 10) (2 : Int32).toNatClampNeg = nI (cn 12) from hV.g2]
          refine lv_iconst (v := 2) hx hb dL_law_824 (by decide) ?_
          refine lv_iload hx hb dL_law_825 (lv_at hl 5 rfl) ?_
          refine lv_imul hx hb dL_law_827 ?_
          refine lv_topi (fun z_34 ez_34 => ?_)
          have ez_34 : z_34 = nI (2 * st9) := ez_34.trans (nI_mul 2 st9)
          subst ez_34
          refine lv_bipush (v := 8) hx hb dL_law_828 (by decide) ?_
          refine lv_iload hx hb dL_law_830 (lv_at hl 6 rfl) ?_
          refine lv_bipush (v := 17) hx hb dL_law_832 (by decide) ?_
          refine lv_idiv hx hb dL_law_834 (by decide) ?_
          refine lv_topi (fun z_35 ez_35 => ?_)
          have ez_35 : z_35 = nI (zn / 17) := ez_35.trans (pk_div (a := zn) (d := 17) (by omega) (by omega) (by omega))
          subst ez_35
          refine lv_bipush (v := 8) hx hb dL_law_835 (by decide) ?_
          refine lv_irem hx hb dL_law_837 (by decide) ?_
          refine lv_topi (fun z_36 ez_36 => ?_)
          have ez_36 : z_36 = nI of9 := ez_36.trans ((pk_rem (a := (zn / 17)) (d := 8) (by omega) (by omega) (by omega)).trans (congrArg nI (show (zn / 17) % 8 = of9 by omega)))
          subst ez_36
          refine lv_imul hx hb dL_law_838 ?_
          refine lv_topi (fun z_37 ez_37 => ?_)
          have ez_37 : z_37 = nI (8 * of9) := ez_37.trans (nI_mul 8 of9)
          subst ez_37
          refine lv_iadd hx hb dL_law_839 ?_
          refine lv_topi (fun z_38 ez_38 => ?_)
          have ez_38 : z_38 = nI (2 * st9 + 8 * of9) := ez_38.trans ((nI_add (2 * st9) (8 * of9)).trans (congrArg nI (show (2 * st9) + (8 * of9) = 2 * st9 + 8 * of9 by omega)))
          subst ez_38
          refine hk_ist (f := (V 5)) X K hL.c5 hS (hlA 5 (by decide)) (vp_in_nI (by omega) (by omega)) dL_law_840 (fun H39 locsH39 hIH39 hzH39 hqH39 hS => ?_)
          rw [nI_clamp (show (cn 12) < 2 ^ 31 by omega)] at hIH39
          have hL := hL.set hla (j := 5) (by decide) hIH39 hqH39
          have hW := hW.kept (fun q h1 h2 => hqH39 q (fun g => h2.elim (fun h => hlz 5 (by decide) (by rw [← g]; exact h)) (fun h => h (by rw [g]; exact hlA 5 (by decide)))))
          have hb4 : b4 ≤ H39.size := by omega
          have hZn := fun (q : Nat) (h : H39.size ≤ q) => hZn0 q (Nat.le_trans hb4 h)
          refine lv_aload hx hb dL_law_841 (lv_at hl 16 rfl) ?_
          refine lv_aload hx hb dL_law_843 (lv_at hl 20 rfl) ?_
          refine lv_iconst (v := 2) hx hb dL_law_845 (by decide) ?_
          refine hk_ild (f := (V 10)) X K hL.c10 (show vp_in (nI 2) 6 from vp_in_nI (by decide) (by decide)) dL_law_846 ?_
          rw [show (V 10) (2 : Int32).toNatClampNeg = nI (cn 12) from hV.g2]
          refine lv_iload hx hb dL_law_847 (lv_at hl 0 rfl) ?_
          refine hk_ist (f := (V 6)) X K hL.c6 hS (hlA 6 (by decide)) (vp_in_nI (by omega) (by omega)) dL_law_849 (fun H40 locsH40 hIH40 hzH40 hqH40 hS => ?_)
          rw [nI_clamp (show (cn 12) < 2 ^ 31 by omega)] at hIH40
          have hL := hL.set hla (j := 6) (by decide) hIH40 hqH40
          have hW := hW.kept (fun q h1 h2 => hqH40 q (fun g => h2.elim (fun h => hlz 6 (by decide) (by rw [← g]; exact h)) (fun h => h (by rw [g]; exact hlA 6 (by decide)))))
          have hb4 : b4 ≤ H40.size := by omega
          have hZn := fun (q : Nat) (h : H40.size ≤ q) => hZn0 q (Nat.le_trans hb4 h)
          refine lv_aload hx hb dL_law_850 (lv_at hl 17 rfl) ?_
          refine lv_aload hx hb dL_law_852 (lv_at hl 20 rfl) ?_
          refine lv_iconst (v := 2) hx hb dL_law_854 (by decide) ?_
          refine hk_ild (f := (V 10)) X K hL.c10 (show vp_in (nI 2) 6 from vp_in_nI (by decide) (by decide)) dL_law_855 ?_
          rw [show (V 10) (2 : Int32).toNatClampNeg = nI (cn 12) from hV.g2]
          refine lv_iload hx hb dL_law_856 (lv_at hl 2 rfl) ?_
          refine lv_bipush (v := 10) hx hb dL_law_858 (by decide) ?_
          refine lv_iload hx hb dL_law_860 (lv_at hl 4 rfl) ?_
          refine lv_imul hx hb dL_law_862 ?_
          refine lv_topi (fun z_41 ez_41 => ?_)
          have ez_41 : z_41 = nI (10 * ah9) := ez_41.trans (nI_mul 10 ah9)
          subst ez_41
          refine lv_iadd hx hb dL_law_863 ?_
          refine lv_topi (fun z_42 ez_42 => ?_)
          have ez_42 : z_42 = nI (fi9 + (10 * ah9)) := ez_42.trans (nI_add fi9 (10 * ah9))
          subst ez_42
          refine lv_bipush (v := 100) hx hb dL_law_864 (by decide) ?_
          refine lv_iload hx hb dL_law_866 (lv_at hl 3 rfl) ?_
          refine lv_imul hx hb dL_law_868 ?_
          refine lv_topi (fun z_43 ez_43 => ?_)
          have ez_43 : z_43 = nI (100 * ((zn / 40) % 10)) := ez_43.trans (nI_mul 100 ((zn / 40) % 10))
          subst ez_43
          refine lv_iadd hx hb dL_law_869 ?_
          refine lv_topi (fun z_44 ez_44 => ?_)
          have ez_44 : z_44 = nI ((fi9 + (10 * ah9)) + (100 * ((zn / 40) % 10))) := ez_44.trans (nI_add (fi9 + (10 * ah9)) (100 * ((zn / 40) % 10)))
          subst ez_44
          refine lv_sipush (v := 1000) hx hb dL_law_870 (by decide) ?_
          refine lv_iload hx hb dL_law_873 (lv_at hl 1 rfl) ?_
          refine lv_imul hx hb dL_law_875 ?_
          refine lv_topi (fun z_45 ez_45 => ?_)
          have ez_45 : z_45 = nI (1000 * se9) := ez_45.trans (nI_mul 1000 se9)
          subst ez_45
          refine lv_iadd hx hb dL_law_876 ?_
          refine lv_topi (fun z_46 ez_46 => ?_)
          have ez_46 : z_46 = nI (fi9 + 10 * ah9 + 100 * ((zn / 40) % 10) + 1000 * se9) := ez_46.trans ((nI_add ((fi9 + (10 * ah9)) + (100 * ((zn / 40) % 10))) (1000 * se9)).trans (congrArg nI (show ((fi9 + (10 * ah9)) + (100 * ((zn / 40) % 10))) + (1000 * se9) = fi9 + 10 * ah9 + 100 * ((zn / 40) % 10) + 1000 * se9 by omega)))
          subst ez_46
          refine hk_ist (f := (V 7)) X K hL.c7 hS (hlA 7 (by decide)) (vp_in_nI (by omega) (by omega)) dL_law_877 (fun H47 locsH47 hIH47 hzH47 hqH47 hS => ?_)
          rw [nI_clamp (show (cn 12) < 2 ^ 31 by omega)] at hIH47
          have hL := hL.set hla (j := 7) (by decide) hIH47 hqH47
          have hW := hW.kept (fun q h1 h2 => hqH47 q (fun g => h2.elim (fun h => hlz 7 (by decide) (by rw [← g]; exact h)) (fun h => h (by rw [g]; exact hlA 7 (by decide)))))
          have hb4 : b4 ≤ H47.size := by omega
          have hZn := fun (q : Nat) (h : H47.size ≤ q) => hZn0 q (Nat.le_trans hb4 h)
          refine lv_aload_n hx hb dL_law_878 rfl (lv_at hl 23 rfl) ?_
          refine lv_iload hx hb dL_law_879 (lv_at hl 5 rfl) ?_
          refine lv_iload hx hb dL_law_881 (lv_at hl 6 rfl) ?_
          refine lv_bipush (v := 17) hx hb dL_law_883 (by decide) ?_
          refine lv_idiv hx hb dL_law_885 (by decide) ?_
          refine lv_topi (fun z_48 ez_48 => ?_)
          have ez_48 : z_48 = nI (zn / 17) := ez_48.trans (pk_div (a := zn) (d := 17) (by omega) (by omega) (by omega))
          subst ez_48
          refine lv_bipush (v := 8) hx hb dL_law_886 (by decide) ?_
          refine lv_irem hx hb dL_law_888 (by decide) ?_
          refine lv_topi (fun z_49 ez_49 => ?_)
          have ez_49 : z_49 = nI of9 := ez_49.trans ((pk_rem (a := (zn / 17)) (d := 8) (by omega) (by omega) (by omega)).trans (congrArg nI (show (zn / 17) % 8 = of9 by omega)))
          subst ez_49
          refine lv_iload hx hb dL_law_889 (lv_at hl 0 rfl) ?_
          refine lv_iload hx hb dL_law_891 (lv_at hl 2 rfl) ?_
          refine lv_iload hx hb dL_law_893 (lv_at hl 4 rfl) ?_
          refine lv_iload hx hb dL_law_895 (lv_at hl 3 rfl) ?_
          refine lv_iload hx hb dL_law_897 (lv_at hl 1 rfl) ?_
          have hcd0 : cd_step (nI st9) (nI of9) (nI (zn % 10000000)) (nI fi9) (nI ah9) (nI ((zn / 40) % 10)) (nI se9) (cn, sc, μ) = 0 := step_c hst hn1 (by omega) (by omega) (by omega) (by omega) (by omega) (by omega) (by omega) (by omega) h12
          refine hk_callVx 7 (As := [.int (nI st9), .int (nI of9), .int (nI (zn % 10000000)), .int (nI fi9), .int (nI ah9), .int (nI ((zn / 40) % 10)), .int (nI se9)]) (rest := []) X K hAE hS hl.1 (HW.o hW) rfl (c_X10_step E l hl9 H47 hW hI hZn (p0 := nI st9) (p1 := nI of9) (p2 := nI (zn % 10000000)) (p3 := nI fi9) (p4 := nI ah9) (p5 := nI ((zn / 40) % 10)) (p6 := nI se9)) hZA gL_law_X10_step rfl ⟨rfl, hd_X10_step⟩ rfl ⟨⟨(Nat.le_of_ble_eq_true rfl), (Nat.le_of_ble_eq_true rfl)⟩, (by show cells + 12 ≤ 664990; omega), (by show slots + 600 ≤ 7106859; omega)⟩ rfl (Nat.le_of_ble_eq_true rfl) dL_law_899 (fun x9 ce9 q9 H9 locs9 hp hS hz9 hk9 hce hcv hcl => by
              obtain ⟨hcs, -⟩ := hp
              rw [hcd0] at hcs
              rcases hcs with ⟨h, -⟩ | ⟨h, -⟩ | ⟨h, -⟩ <;> exact absurd h (by decide)
            ) (fun v9 H50 locsH50 hp hS hzH50 hkH50 => ?_)
          obtain ⟨-, hv, G, R, hW⟩ := hp
          subst hv
          have hL := hL.kept (fun k hk => hkH50 (la k) (hL.lt hk) (hlz k hk))
          have hb4 := Nat.le_trans hb4 hzH50
          have hZn := fun (q : Nat) (h : H50.size ≤ q) => hZn0 q (Nat.le_trans hb4 h)
          refine lv_aload hx hb dL_law_902 (lv_at hl 20 rfl) ?_
          refine lv_iconst (v := 2) hx hb dL_law_904 (by decide) ?_
          refine hk_ild (f := (V 10)) X K hL.c10 (show vp_in (nI 2) 6 from vp_in_nI (by decide) (by decide)) dL_law_905 ?_
          rw [show (V 10) (2 : Int32).toNatClampNeg = nI (cn 12) from hV.g2]
          refine lv_icmp_ne (tgt := 913) hx hb dL_law_906 (by decide) (fun c_906 => ?_) (fun c_906 => ?_)
          · exact (c_906 (rfl)).elim
          · refine lv_iconst (v := 1) hx hb dL_law_909 (by decide) ?_
            refine lv_goto (tgt := 914) hx hb dL_law_910 (by decide) ?_
            refine lv_istore (lv' := [(15, .int 1), (25, .int (nI (zn % 10000000))), (24, .int (nI se9)), (23, .int (nI fi9)), (22, .int (nI ((zn / 40) % 10))), (21, .int (nI ah9)), (20, .int (nI st9)), (19, .int (nI zn)), (18, .int kd), (16, .int (nI tn)), (2, .ref (la 0)), (3, .ref (la 1)), (4, .ref (la 2)), (5, .ref (la 3)), (6, .ref (la 4)), (7, .ref (la 5)), (8, .ref (la 6)), (9, .ref (la 7)), (10, .ref (la 8)), (11, .ref (la 9)), (12, .ref (la 10)), (13, .ref (la 11)), (14, .ref (la 12)), (1, .ref ho), (0, .ref b)]) hx hb dL_law_914 hl (by decide) rfl (fun ls hl => ?_)
            refine lv_aload hx hb dL_law_916 (lv_at hl 20 rfl) ?_
            refine lv_iconst (v := 2) hx hb dL_law_918 (by decide) ?_
            refine lv_dup2_11 hx hb dL_law_919 rfl rfl ?_
            refine hk_ild (f := (V 10)) X K hL.c10 (show vp_in (nI 2) 6 from vp_in_nI (by decide) (by decide)) dL_law_920 ?_
            rw [show (V 10) (2 : Int32).toNatClampNeg = nI (cn 12) from hV.g2]
            refine lv_iconst (v := 1) hx hb dL_law_921 (by decide) ?_
            refine lv_iadd hx hb dL_law_922 ?_
            refine lv_topi (fun z_51 ez_51 => ?_)
            have ez_51 : z_51 = nI ((cn 12) + 1) := ez_51.trans (nI_add (cn 12) 1)
            subst ez_51
            refine hk_ist (f := (V 10)) X K hL.c10 hS (hlA 10 (by decide)) (show vp_in (nI 2) 6 from vp_in_nI (by decide) (by decide)) dL_law_923 (fun H52 locsH52 hIH52 hzH52 hqH52 hS => ?_)
            rw [show (2 : Int32).toNatClampNeg = 2 from rfl] at hIH52
            have hL := hL.set hla (j := 10) (by decide) hIH52 hqH52
            have hW := hW.kept (fun q h1 h2 => hqH52 q (fun g => h2.elim (fun h => hlz 10 (by decide) (by rw [← g]; exact h)) (fun h => h (by rw [g]; exact hlA 10 (by decide)))))
            have hb4 : b4 ≤ H52.size := by omega
            have hZn := fun (q : Nat) (h : H52.size ≤ q) => hZn0 q (Nat.le_trans hb4 h)
            refine lv_goto (tgt := 2061) hx hb dL_law_924 (by decide) ?_
            refine W.widen (k := cells + 40) (n := slots + 2000) (by show cells + 12 ≤ _; omega) (by show slots + 600 ≤ _; omega) ?_
            have hV9 := lv_step hV (st := st9) (of := of9) (f := fi9) (a := ah9) (b := ((zn / 40) % 10)) (g := se9) (x := nI (zn % 10000000)) hst (by omega) (by omega) (by omega) (by omega) (by omega) (by omega) h12
            exact J2061 H52 _ ⟨G, R, _, _, invF_step hI hcd0, hV9, hW, LW.mk13 hL.c0 hL.c1 hL.c2 hL.c3 hL.c4 hL.c5 hL.c6 hL.c7 hL.c8 hL.c9 hL.c10 hL.c11 hL.c12, hS, hb4, ⟨fun h => absurd h (by omega), fun _ => h2⟩⟩ _ (lv_sub hl [7, 9, 0, 10, 11, 12, 13, 14, 15, 16, 17, 18, 19, 20, 21, 22, 23, 24] rfl)
      · refine lv_iconst (v := 1) hx hb dL_law_747 (by decide) ?_
        refine lv_iload hx hb dL_law_748 (lv_at hl 2 rfl) ?_
        refine lv_bipush (v := 40) hx hb dL_law_750 (by decide) ?_
        refine lv_idiv hx hb dL_law_752 (by decide) ?_
        refine lv_topi (fun z_53 ez_53 => ?_)
        have ez_53 : z_53 = nI (zn / 40) := ez_53.trans (pk_div (a := zn) (d := 40) (by omega) (by omega) (by omega))
        subst ez_53
        refine lv_bipush (v := 9) hx hb dL_law_753 (by decide) ?_
        refine lv_irem hx hb dL_law_755 (by decide) ?_
        refine lv_topi (fun z_54 ez_54 => ?_)
        have ez_54 : z_54 = nI ((zn / 40) % 9) := ez_54.trans (pk_rem (a := (zn / 40)) (d := 9) (by omega) (by omega) (by omega))
        subst ez_54
        refine lv_iadd hx hb dL_law_756 ?_
        refine lv_topi (fun z_55 ez_55 => ?_)
        have ez_55 : z_55 = nI (1 + ((zn / 40) % 9)) := ez_55.trans (nI_add 1 ((zn / 40) % 9))
        subst ez_55
        refine lv_goto (tgt := 768) hx hb dL_law_757 (by decide) ?_
        refine lv_istore (lv' := [(22, .int (nI (1 + ((zn / 40) % 9)))), (21, .int (nI ah9)), (20, .int (nI st9)), (19, .int (nI zn)), (18, .int kd), (16, .int (nI tn)), (15, .int 1), (2, .ref (la 0)), (3, .ref (la 1)), (4, .ref (la 2)), (5, .ref (la 3)), (6, .ref (la 4)), (7, .ref (la 5)), (8, .ref (la 6)), (9, .ref (la 7)), (10, .ref (la 8)), (11, .ref (la 9)), (12, .ref (la 10)), (13, .ref (la 11)), (14, .ref (la 12)), (1, .ref ho), (0, .ref b)]) hx hb dL_law_768 hl (by decide) rfl (fun ls hl => ?_)
        refine lv_iload hx hb dL_law_770 (lv_at hl 3 rfl) ?_
        refine lv_bipush (v := 11) hx hb dL_law_772 (by decide) ?_
        refine lv_idiv hx hb dL_law_774 (by decide) ?_
        refine lv_topi (fun z_56 ez_56 => ?_)
        have ez_56 : z_56 = nI (zn / 11) := ez_56.trans (pk_div (a := zn) (d := 11) (by omega) (by omega) (by omega))
        subst ez_56
        refine lv_bipush (v := 10) hx hb dL_law_775 (by decide) ?_
        refine lv_irem hx hb dL_law_777 (by decide) ?_
        refine lv_topi (fun z_57 ez_57 => ?_)
        have ez_57 : z_57 = nI fi9 := ez_57.trans ((pk_rem (a := (zn / 11)) (d := 10) (by omega) (by omega) (by omega)).trans (congrArg nI (show (zn / 11) % 10 = fi9 by omega)))
        subst ez_57
        refine lv_istore (lv' := [(23, .int (nI fi9)), (22, .int (nI (1 + ((zn / 40) % 9)))), (21, .int (nI ah9)), (20, .int (nI st9)), (19, .int (nI zn)), (18, .int kd), (16, .int (nI tn)), (15, .int 1), (2, .ref (la 0)), (3, .ref (la 1)), (4, .ref (la 2)), (5, .ref (la 3)), (6, .ref (la 4)), (7, .ref (la 5)), (8, .ref (la 6)), (9, .ref (la 7)), (10, .ref (la 8)), (11, .ref (la 9)), (12, .ref (la 10)), (13, .ref (la 11)), (14, .ref (la 12)), (1, .ref ho), (0, .ref b)]) hx hb dL_law_778 hl (by decide) rfl (fun ls hl => ?_)
        refine lv_iload hx hb dL_law_780 (lv_at hl 0 rfl) ?_
        refine lv_iconst (v := 1) hx hb dL_law_782 (by decide) ?_
        refine lv_iadd hx hb dL_law_783 ?_
        refine lv_topi (fun z_58 ez_58 => ?_)
        have ez_58 : z_58 = nI (fi9 + 1) := ez_58.trans (nI_add fi9 1)
        subst ez_58
        refine lv_iload hx hb dL_law_784 (lv_at hl 4 rfl) ?_
        refine lv_bipush (v := 13) hx hb dL_law_786 (by decide) ?_
        refine lv_idiv hx hb dL_law_788 (by decide) ?_
        refine lv_topi (fun z_59 ez_59 => ?_)
        have ez_59 : z_59 = nI (zn / 13) := ez_59.trans (pk_div (a := zn) (d := 13) (by omega) (by omega) (by omega))
        subst ez_59
        refine lv_bipush (v := 9) hx hb dL_law_789 (by decide) ?_
        refine lv_irem hx hb dL_law_791 (by decide) ?_
        refine lv_topi (fun z_60 ez_60 => ?_)
        have ez_60 : z_60 = nI ((zn / 13) % 9) := ez_60.trans (pk_rem (a := (zn / 13)) (d := 9) (by omega) (by omega) (by omega))
        subst ez_60
        refine lv_iadd hx hb dL_law_792 ?_
        refine lv_topi (fun z_61 ez_61 => ?_)
        have ez_61 : z_61 = nI ((fi9 + 1) + ((zn / 13) % 9)) := ez_61.trans (nI_add (fi9 + 1) ((zn / 13) % 9))
        subst ez_61
        refine lv_bipush (v := 10) hx hb dL_law_793 (by decide) ?_
        refine lv_irem hx hb dL_law_795 (by decide) ?_
        refine lv_topi (fun z_62 ez_62 => ?_)
        have ez_62 : z_62 = nI se9 := ez_62.trans ((pk_rem (a := ((fi9 + 1) + ((zn / 13) % 9))) (d := 10) (by omega) (by omega) (by omega)).trans (congrArg nI (show ((fi9 + 1) + ((zn / 13) % 9)) % 10 = se9 by omega)))
        subst ez_62
        refine lv_istore (lv' := [(24, .int (nI se9)), (23, .int (nI fi9)), (22, .int (nI (1 + ((zn / 40) % 9)))), (21, .int (nI ah9)), (20, .int (nI st9)), (19, .int (nI zn)), (18, .int kd), (16, .int (nI tn)), (15, .int 1), (2, .ref (la 0)), (3, .ref (la 1)), (4, .ref (la 2)), (5, .ref (la 3)), (6, .ref (la 4)), (7, .ref (la 5)), (8, .ref (la 6)), (9, .ref (la 7)), (10, .ref (la 8)), (11, .ref (la 9)), (12, .ref (la 10)), (13, .ref (la 11)), (14, .ref (la 12)), (1, .ref ho), (0, .ref b)]) hx hb dL_law_796 hl (by decide) rfl (fun ls hl => ?_)
        refine lv_iload hx hb dL_law_798 (lv_at hl 5 rfl) ?_
        refine lv_iload hx hb dL_law_800 (lv_at hl 5 rfl) ?_
        refine lv_iconst (v := 5) hx hb dL_law_802 (by decide) ?_
        refine lv_irem hx hb dL_law_803 (by decide) ?_
        refine lv_topi (fun z_63 ez_63 => ?_)
        have ez_63 : z_63 = nI (zn % 5) := ez_63.trans (pk_rem (a := zn) (d := 5) (by omega) (by omega) (by omega))
        subst ez_63
        refine lv_if_ne (tgt := 812) hx hb dL_law_804 (by decide) (fun c_804 => ?_) (fun c_804 => ?_)
        · refine lv_sipush (v := 4000) hx hb dL_law_812 (by decide) ?_
          refine lv_irem hx hb dL_law_815 (by decide) ?_
          refine lv_topi (fun z_64 ez_64 => ?_)
          have ez_64 : z_64 = nI (zn % 4000) := ez_64.trans (pk_rem (a := zn) (d := 4000) (by omega) (by omega) (by omega))
          subst ez_64
          refine lv_istore (lv' := [(25, .int (nI (zn % 4000))), (24, .int (nI se9)), (23, .int (nI fi9)), (22, .int (nI (1 + ((zn / 40) % 9)))), (21, .int (nI ah9)), (20, .int (nI st9)), (19, .int (nI zn)), (18, .int kd), (16, .int (nI tn)), (15, .int 1), (2, .ref (la 0)), (3, .ref (la 1)), (4, .ref (la 2)), (5, .ref (la 3)), (6, .ref (la 4)), (7, .ref (la 5)), (8, .ref (la 6)), (9, .ref (la 7)), (10, .ref (la 8)), (11, .ref (la 9)), (12, .ref (la 10)), (13, .ref (la 11)), (14, .ref (la 12)), (1, .ref ho), (0, .ref b)]) hx hb dL_law_816 hl (by decide) rfl (fun ls hl => ?_)
          refine lv_aload hx hb dL_law_818 (lv_at hl 15 rfl) ?_
          refine lv_aload hx hb dL_law_820 (lv_at hl 20 rfl) ?_
          refine lv_iconst (v := 2) hx hb dL_law_822 (by decide) ?_
          refine hk_ild (f := (V 10)) X K hL.c10 (show vp_in (nI 2) 6 from vp_in_nI (by decide) (by decide)) dL_law_823 ?_
          rw [show (V 10) (2 : Int32).toNatClampNeg = nI (cn 12) from hV.g2]
          refine lv_iconst (v := 2) hx hb dL_law_824 (by decide) ?_
          refine lv_iload hx hb dL_law_825 (lv_at hl 5 rfl) ?_
          refine lv_imul hx hb dL_law_827 ?_
          refine lv_topi (fun z_65 ez_65 => ?_)
          have ez_65 : z_65 = nI (2 * st9) := ez_65.trans (nI_mul 2 st9)
          subst ez_65
          refine lv_bipush (v := 8) hx hb dL_law_828 (by decide) ?_
          refine lv_iload hx hb dL_law_830 (lv_at hl 6 rfl) ?_
          refine lv_bipush (v := 17) hx hb dL_law_832 (by decide) ?_
          refine lv_idiv hx hb dL_law_834 (by decide) ?_
          refine lv_topi (fun z_66 ez_66 => ?_)
          have ez_66 : z_66 = nI (zn / 17) := ez_66.trans (pk_div (a := zn) (d := 17) (by omega) (by omega) (by omega))
          subst ez_66
          refine lv_bipush (v := 8) hx hb dL_law_835 (by decide) ?_
          refine lv_irem hx hb dL_law_837 (by decide) ?_
          refine lv_topi (fun z_67 ez_67 => ?_)
          have ez_67 : z_67 = nI of9 := ez_67.trans ((pk_rem (a := (zn / 17)) (d := 8) (by omega) (by omega) (by omega)).trans (congrArg nI (show (zn / 17) % 8 = of9 by omega)))
          subst ez_67
          refine lv_imul hx hb dL_law_838 ?_
          refine lv_topi (fun z_68 ez_68 => ?_)
          have ez_68 : z_68 = nI (8 * of9) := ez_68.trans (nI_mul 8 of9)
          subst ez_68
          refine lv_iadd hx hb dL_law_839 ?_
          refine lv_topi (fun z_69 ez_69 => ?_)
          have ez_69 : z_69 = nI (2 * st9 + 8 * of9) := ez_69.trans ((nI_add (2 * st9) (8 * of9)).trans (congrArg nI (show (2 * st9) + (8 * of9) = 2 * st9 + 8 * of9 by omega)))
          subst ez_69
          refine hk_ist (f := (V 5)) X K hL.c5 hS (hlA 5 (by decide)) (vp_in_nI (by omega) (by omega)) dL_law_840 (fun H70 locsH70 hIH70 hzH70 hqH70 hS => ?_)
          rw [nI_clamp (show (cn 12) < 2 ^ 31 by omega)] at hIH70
          have hL := hL.set hla (j := 5) (by decide) hIH70 hqH70
          have hW := hW.kept (fun q h1 h2 => hqH70 q (fun g => h2.elim (fun h => hlz 5 (by decide) (by rw [← g]; exact h)) (fun h => h (by rw [g]; exact hlA 5 (by decide)))))
          have hb4 : b4 ≤ H70.size := by omega
          have hZn := fun (q : Nat) (h : H70.size ≤ q) => hZn0 q (Nat.le_trans hb4 h)
          refine lv_aload hx hb dL_law_841 (lv_at hl 16 rfl) ?_
          refine lv_aload hx hb dL_law_843 (lv_at hl 20 rfl) ?_
          refine lv_iconst (v := 2) hx hb dL_law_845 (by decide) ?_
          refine hk_ild (f := (V 10)) X K hL.c10 (show vp_in (nI 2) 6 from vp_in_nI (by decide) (by decide)) dL_law_846 ?_
          rw [show (V 10) (2 : Int32).toNatClampNeg = nI (cn 12) from hV.g2]
          refine lv_iload hx hb dL_law_847 (lv_at hl 0 rfl) ?_
          refine hk_ist (f := (V 6)) X K hL.c6 hS (hlA 6 (by decide)) (vp_in_nI (by omega) (by omega)) dL_law_849 (fun H71 locsH71 hIH71 hzH71 hqH71 hS => ?_)
          rw [nI_clamp (show (cn 12) < 2 ^ 31 by omega)] at hIH71
          have hL := hL.set hla (j := 6) (by decide) hIH71 hqH71
          have hW := hW.kept (fun q h1 h2 => hqH71 q (fun g => h2.elim (fun h => hlz 6 (by decide) (by rw [← g]; exact h)) (fun h => h (by rw [g]; exact hlA 6 (by decide)))))
          have hb4 : b4 ≤ H71.size := by omega
          have hZn := fun (q : Nat) (h : H71.size ≤ q) => hZn0 q (Nat.le_trans hb4 h)
          refine lv_aload hx hb dL_law_850 (lv_at hl 17 rfl) ?_
          refine lv_aload hx hb dL_law_852 (lv_at hl 20 rfl) ?_
          refine lv_iconst (v := 2) hx hb dL_law_854 (by decide) ?_
          refine hk_ild (f := (V 10)) X K hL.c10 (show vp_in (nI 2) 6 from vp_in_nI (by decide) (by decide)) dL_law_855 ?_
          rw [show (V 10) (2 : Int32).toNatClampNeg = nI (cn 12) from hV.g2]
          refine lv_iload hx hb dL_law_856 (lv_at hl 2 rfl) ?_
          refine lv_bipush (v := 10) hx hb dL_law_858 (by decide) ?_
          refine lv_iload hx hb dL_law_860 (lv_at hl 4 rfl) ?_
          refine lv_imul hx hb dL_law_862 ?_
          refine lv_topi (fun z_72 ez_72 => ?_)
          have ez_72 : z_72 = nI (10 * ah9) := ez_72.trans (nI_mul 10 ah9)
          subst ez_72
          refine lv_iadd hx hb dL_law_863 ?_
          refine lv_topi (fun z_73 ez_73 => ?_)
          have ez_73 : z_73 = nI (fi9 + (10 * ah9)) := ez_73.trans (nI_add fi9 (10 * ah9))
          subst ez_73
          refine lv_bipush (v := 100) hx hb dL_law_864 (by decide) ?_
          refine lv_iload hx hb dL_law_866 (lv_at hl 3 rfl) ?_
          refine lv_imul hx hb dL_law_868 ?_
          refine lv_topi (fun z_74 ez_74 => ?_)
          have ez_74 : z_74 = nI (100 * (1 + ((zn / 40) % 9))) := ez_74.trans (nI_mul 100 (1 + ((zn / 40) % 9)))
          subst ez_74
          refine lv_iadd hx hb dL_law_869 ?_
          refine lv_topi (fun z_75 ez_75 => ?_)
          have ez_75 : z_75 = nI ((fi9 + (10 * ah9)) + (100 * (1 + ((zn / 40) % 9)))) := ez_75.trans (nI_add (fi9 + (10 * ah9)) (100 * (1 + ((zn / 40) % 9))))
          subst ez_75
          refine lv_sipush (v := 1000) hx hb dL_law_870 (by decide) ?_
          refine lv_iload hx hb dL_law_873 (lv_at hl 1 rfl) ?_
          refine lv_imul hx hb dL_law_875 ?_
          refine lv_topi (fun z_76 ez_76 => ?_)
          have ez_76 : z_76 = nI (1000 * se9) := ez_76.trans (nI_mul 1000 se9)
          subst ez_76
          refine lv_iadd hx hb dL_law_876 ?_
          refine lv_topi (fun z_77 ez_77 => ?_)
          have ez_77 : z_77 = nI (fi9 + 10 * ah9 + 100 * (1 + ((zn / 40) % 9)) + 1000 * se9) := ez_77.trans ((nI_add ((fi9 + (10 * ah9)) + (100 * (1 + ((zn / 40) % 9)))) (1000 * se9)).trans (congrArg nI (show ((fi9 + (10 * ah9)) + (100 * (1 + ((zn / 40) % 9)))) + (1000 * se9) = fi9 + 10 * ah9 + 100 * (1 + ((zn / 40) % 9)) + 1000 * se9 by omega)))
          subst ez_77
          refine hk_ist (f := (V 7)) X K hL.c7 hS (hlA 7 (by decide)) (vp_in_nI (by omega) (by omega)) dL_law_877 (fun H78 locsH78 hIH78 hzH78 hqH78 hS => ?_)
          rw [nI_clamp (show (cn 12) < 2 ^ 31 by omega)] at hIH78
          have hL := hL.set hla (j := 7) (by decide) hIH78 hqH78
          have hW := hW.kept (fun q h1 h2 => hqH78 q (fun g => h2.elim (fun h => hlz 7 (by decide) (by rw [← g]; exact h)) (fun h => h (by rw [g]; exact hlA 7 (by decide)))))
          have hb4 : b4 ≤ H78.size := by omega
          have hZn := fun (q : Nat) (h : H78.size ≤ q) => hZn0 q (Nat.le_trans hb4 h)
          refine lv_aload_n hx hb dL_law_878 rfl (lv_at hl 23 rfl) ?_
          refine lv_iload hx hb dL_law_879 (lv_at hl 5 rfl) ?_
          refine lv_iload hx hb dL_law_881 (lv_at hl 6 rfl) ?_
          refine lv_bipush (v := 17) hx hb dL_law_883 (by decide) ?_
          refine lv_idiv hx hb dL_law_885 (by decide) ?_
          refine lv_topi (fun z_79 ez_79 => ?_)
          have ez_79 : z_79 = nI (zn / 17) := ez_79.trans (pk_div (a := zn) (d := 17) (by omega) (by omega) (by omega))
          subst ez_79
          refine lv_bipush (v := 8) hx hb dL_law_886 (by decide) ?_
          refine lv_irem hx hb dL_law_888 (by decide) ?_
          refine lv_topi (fun z_80 ez_80 => ?_)
          have ez_80 : z_80 = nI of9 := ez_80.trans ((pk_rem (a := (zn / 17)) (d := 8) (by omega) (by omega) (by omega)).trans (congrArg nI (show (zn / 17) % 8 = of9 by omega)))
          subst ez_80
          refine lv_iload hx hb dL_law_889 (lv_at hl 0 rfl) ?_
          refine lv_iload hx hb dL_law_891 (lv_at hl 2 rfl) ?_
          refine lv_iload hx hb dL_law_893 (lv_at hl 4 rfl) ?_
          refine lv_iload hx hb dL_law_895 (lv_at hl 3 rfl) ?_
          refine lv_iload hx hb dL_law_897 (lv_at hl 1 rfl) ?_
          have hcd0 : cd_step (nI st9) (nI of9) (nI (zn % 4000)) (nI fi9) (nI ah9) (nI (1 + ((zn / 40) % 9))) (nI se9) (cn, sc, μ) = 0 := step_c hst hn1 (by omega) (by omega) (by omega) (by omega) (by omega) (by omega) (by omega) (by omega) h12
          refine hk_callVx 7 (As := [.int (nI st9), .int (nI of9), .int (nI (zn % 4000)), .int (nI fi9), .int (nI ah9), .int (nI (1 + ((zn / 40) % 9))), .int (nI se9)]) (rest := []) X K hAE hS hl.1 (HW.o hW) rfl (c_X10_step E l hl9 H78 hW hI hZn (p0 := nI st9) (p1 := nI of9) (p2 := nI (zn % 4000)) (p3 := nI fi9) (p4 := nI ah9) (p5 := nI (1 + ((zn / 40) % 9))) (p6 := nI se9)) hZA gL_law_X10_step rfl ⟨rfl, hd_X10_step⟩ rfl ⟨⟨(Nat.le_of_ble_eq_true rfl), (Nat.le_of_ble_eq_true rfl)⟩, (by show cells + 12 ≤ 664990; omega), (by show slots + 600 ≤ 7106859; omega)⟩ rfl (Nat.le_of_ble_eq_true rfl) dL_law_899 (fun x9 ce9 q9 H9 locs9 hp hS hz9 hk9 hce hcv hcl => by
              obtain ⟨hcs, -⟩ := hp
              rw [hcd0] at hcs
              rcases hcs with ⟨h, -⟩ | ⟨h, -⟩ | ⟨h, -⟩ <;> exact absurd h (by decide)
            ) (fun v9 H81 locsH81 hp hS hzH81 hkH81 => ?_)
          obtain ⟨-, hv, G, R, hW⟩ := hp
          subst hv
          have hL := hL.kept (fun k hk => hkH81 (la k) (hL.lt hk) (hlz k hk))
          have hb4 := Nat.le_trans hb4 hzH81
          have hZn := fun (q : Nat) (h : H81.size ≤ q) => hZn0 q (Nat.le_trans hb4 h)
          refine lv_aload hx hb dL_law_902 (lv_at hl 20 rfl) ?_
          refine lv_iconst (v := 2) hx hb dL_law_904 (by decide) ?_
          refine hk_ild (f := (V 10)) X K hL.c10 (show vp_in (nI 2) 6 from vp_in_nI (by decide) (by decide)) dL_law_905 ?_
          rw [show (V 10) (2 : Int32).toNatClampNeg = nI (cn 12) from hV.g2]
          refine lv_icmp_ne (tgt := 913) hx hb dL_law_906 (by decide) (fun c_906 => ?_) (fun c_906 => ?_)
          · exact (c_906 (rfl)).elim
          · refine lv_iconst (v := 1) hx hb dL_law_909 (by decide) ?_
            refine lv_goto (tgt := 914) hx hb dL_law_910 (by decide) ?_
            refine lv_istore (lv' := [(15, .int 1), (25, .int (nI (zn % 4000))), (24, .int (nI se9)), (23, .int (nI fi9)), (22, .int (nI (1 + ((zn / 40) % 9)))), (21, .int (nI ah9)), (20, .int (nI st9)), (19, .int (nI zn)), (18, .int kd), (16, .int (nI tn)), (2, .ref (la 0)), (3, .ref (la 1)), (4, .ref (la 2)), (5, .ref (la 3)), (6, .ref (la 4)), (7, .ref (la 5)), (8, .ref (la 6)), (9, .ref (la 7)), (10, .ref (la 8)), (11, .ref (la 9)), (12, .ref (la 10)), (13, .ref (la 11)), (14, .ref (la 12)), (1, .ref ho), (0, .ref b)]) hx hb dL_law_914 hl (by decide) rfl (fun ls hl => ?_)
            refine lv_aload hx hb dL_law_916 (lv_at hl 20 rfl) ?_
            refine lv_iconst (v := 2) hx hb dL_law_918 (by decide) ?_
            refine lv_dup2_11 hx hb dL_law_919 rfl rfl ?_
            refine hk_ild (f := (V 10)) X K hL.c10 (show vp_in (nI 2) 6 from vp_in_nI (by decide) (by decide)) dL_law_920 ?_
            rw [show (V 10) (2 : Int32).toNatClampNeg = nI (cn 12) from hV.g2]
            refine lv_iconst (v := 1) hx hb dL_law_921 (by decide) ?_
            refine lv_iadd hx hb dL_law_922 ?_
            refine lv_topi (fun z_82 ez_82 => ?_)
            have ez_82 : z_82 = nI ((cn 12) + 1) := ez_82.trans (nI_add (cn 12) 1)
            subst ez_82
            refine hk_ist (f := (V 10)) X K hL.c10 hS (hlA 10 (by decide)) (show vp_in (nI 2) 6 from vp_in_nI (by decide) (by decide)) dL_law_923 (fun H83 locsH83 hIH83 hzH83 hqH83 hS => ?_)
            rw [show (2 : Int32).toNatClampNeg = 2 from rfl] at hIH83
            have hL := hL.set hla (j := 10) (by decide) hIH83 hqH83
            have hW := hW.kept (fun q h1 h2 => hqH83 q (fun g => h2.elim (fun h => hlz 10 (by decide) (by rw [← g]; exact h)) (fun h => h (by rw [g]; exact hlA 10 (by decide)))))
            have hb4 : b4 ≤ H83.size := by omega
            have hZn := fun (q : Nat) (h : H83.size ≤ q) => hZn0 q (Nat.le_trans hb4 h)
            refine lv_goto (tgt := 2061) hx hb dL_law_924 (by decide) ?_
            refine W.widen (k := cells + 40) (n := slots + 2000) (by show cells + 12 ≤ _; omega) (by show slots + 600 ≤ _; omega) ?_
            have hV9 := lv_step hV (st := st9) (of := of9) (f := fi9) (a := ah9) (b := (1 + ((zn / 40) % 9))) (g := se9) (x := nI (zn % 4000)) hst (by omega) (by omega) (by omega) (by omega) (by omega) (by omega) h12
            exact J2061 H83 _ ⟨G, R, _, _, invF_step hI hcd0, hV9, hW, LW.mk13 hL.c0 hL.c1 hL.c2 hL.c3 hL.c4 hL.c5 hL.c6 hL.c7 hL.c8 hL.c9 hL.c10 hL.c11 hL.c12, hS, hb4, ⟨fun h => absurd h (by omega), fun _ => h2⟩⟩ _ (lv_sub hl [7, 9, 0, 10, 11, 12, 13, 14, 15, 16, 17, 18, 19, 20, 21, 22, 23, 24] rfl)
        · refine lv_ldc hx hb hown (hts (.constant RL 141 (10000000)) (by decide +kernel)) dL_law_807 ?_
          refine lv_goto (tgt := 815) hx hb dL_law_809 (by decide) ?_
          refine lv_irem hx hb dL_law_815 (by decide) ?_
          refine lv_topi (fun z_84 ez_84 => ?_)
          have ez_84 : z_84 = nI (zn % 10000000) := ez_84.trans (pk_rem (a := zn) (d := 10000000) (by omega) (by omega) (by omega))
          subst ez_84
          refine lv_istore (lv' := [(25, .int (nI (zn % 10000000))), (24, .int (nI se9)), (23, .int (nI fi9)), (22, .int (nI (1 + ((zn / 40) % 9)))), (21, .int (nI ah9)), (20, .int (nI st9)), (19, .int (nI zn)), (18, .int kd), (16, .int (nI tn)), (15, .int 1), (2, .ref (la 0)), (3, .ref (la 1)), (4, .ref (la 2)), (5, .ref (la 3)), (6, .ref (la 4)), (7, .ref (la 5)), (8, .ref (la 6)), (9, .ref (la 7)), (10, .ref (la 8)), (11, .ref (la 9)), (12, .ref (la 10)), (13, .ref (la 11)), (14, .ref (la 12)), (1, .ref ho), (0, .ref b)]) hx hb dL_law_816 hl (by decide) rfl (fun ls hl => ?_)
          refine lv_aload hx hb dL_law_818 (lv_at hl 15 rfl) ?_
          refine lv_aload hx hb dL_law_820 (lv_at hl 20 rfl) ?_
          refine lv_iconst (v := 2) hx hb dL_law_822 (by decide) ?_
          refine hk_ild (f := (V 10)) X K hL.c10 (show vp_in (nI 2) 6 from vp_in_nI (by decide) (by decide)) dL_law_823 ?_
          rw [show (V 10) (2 : Int32).toNatClampNeg = nI (cn 12) from hV.g2]
          refine lv_iconst (v := 2) hx hb dL_law_824 (by decide) ?_
          refine lv_iload hx hb dL_law_825 (lv_at hl 5 rfl) ?_
          refine lv_imul hx hb dL_law_827 ?_
          refine lv_topi (fun z_85 ez_85 => ?_)
          have ez_85 : z_85 = nI (2 * st9) := ez_85.trans (nI_mul 2 st9)
          subst ez_85
          refine lv_bipush (v := 8) hx hb dL_law_828 (by decide) ?_
          refine lv_iload hx hb dL_law_830 (lv_at hl 6 rfl) ?_
          refine lv_bipush (v := 17) hx hb dL_law_832 (by decide) ?_
          refine lv_idiv hx hb dL_law_834 (by decide) ?_
          refine lv_topi (fun z_86 ez_86 => ?_)
          have ez_86 : z_86 = nI (zn / 17) := ez_86.trans (pk_div (a := zn) (d := 17) (by omega) (by omega) (by omega))
          subst ez_86
          refine lv_bipush (v := 8) hx hb dL_law_835 (by decide) ?_
          refine lv_irem hx hb dL_law_837 (by decide) ?_
          refine lv_topi (fun z_87 ez_87 => ?_)
          have ez_87 : z_87 = nI of9 := ez_87.trans ((pk_rem (a := (zn / 17)) (d := 8) (by omega) (by omega) (by omega)).trans (congrArg nI (show (zn / 17) % 8 = of9 by omega)))
          subst ez_87
          refine lv_imul hx hb dL_law_838 ?_
          refine lv_topi (fun z_88 ez_88 => ?_)
          have ez_88 : z_88 = nI (8 * of9) := ez_88.trans (nI_mul 8 of9)
          subst ez_88
          refine lv_iadd hx hb dL_law_839 ?_
          refine lv_topi (fun z_89 ez_89 => ?_)
          have ez_89 : z_89 = nI (2 * st9 + 8 * of9) := ez_89.trans ((nI_add (2 * st9) (8 * of9)).trans (congrArg nI (show (2 * st9) + (8 * of9) = 2 * st9 + 8 * of9 by omega)))
          subst ez_89
          refine hk_ist (f := (V 5)) X K hL.c5 hS (hlA 5 (by decide)) (vp_in_nI (by omega) (by omega)) dL_law_840 (fun H90 locsH90 hIH90 hzH90 hqH90 hS => ?_)
          rw [nI_clamp (show (cn 12) < 2 ^ 31 by omega)] at hIH90
          have hL := hL.set hla (j := 5) (by decide) hIH90 hqH90
          have hW := hW.kept (fun q h1 h2 => hqH90 q (fun g => h2.elim (fun h => hlz 5 (by decide) (by rw [← g]; exact h)) (fun h => h (by rw [g]; exact hlA 5 (by decide)))))
          have hb4 : b4 ≤ H90.size := by omega
          have hZn := fun (q : Nat) (h : H90.size ≤ q) => hZn0 q (Nat.le_trans hb4 h)
          refine lv_aload hx hb dL_law_841 (lv_at hl 16 rfl) ?_
          refine lv_aload hx hb dL_law_843 (lv_at hl 20 rfl) ?_
          refine lv_iconst (v := 2) hx hb dL_law_845 (by decide) ?_
          refine hk_ild (f := (V 10)) X K hL.c10 (show vp_in (nI 2) 6 from vp_in_nI (by decide) (by decide)) dL_law_846 ?_
          rw [show (V 10) (2 : Int32).toNatClampNeg = nI (cn 12) from hV.g2]
          refine lv_iload hx hb dL_law_847 (lv_at hl 0 rfl) ?_
          refine hk_ist (f := (V 6)) X K hL.c6 hS (hlA 6 (by decide)) (vp_in_nI (by omega) (by omega)) dL_law_849 (fun H91 locsH91 hIH91 hzH91 hqH91 hS => ?_)
          rw [nI_clamp (show (cn 12) < 2 ^ 31 by omega)] at hIH91
          have hL := hL.set hla (j := 6) (by decide) hIH91 hqH91
          have hW := hW.kept (fun q h1 h2 => hqH91 q (fun g => h2.elim (fun h => hlz 6 (by decide) (by rw [← g]; exact h)) (fun h => h (by rw [g]; exact hlA 6 (by decide)))))
          have hb4 : b4 ≤ H91.size := by omega
          have hZn := fun (q : Nat) (h : H91.size ≤ q) => hZn0 q (Nat.le_trans hb4 h)
          refine lv_aload hx hb dL_law_850 (lv_at hl 17 rfl) ?_
          refine lv_aload hx hb dL_law_852 (lv_at hl 20 rfl) ?_
          refine lv_iconst (v := 2) hx hb dL_law_854 (by decide) ?_
          refine hk_ild (f := (V 10)) X K hL.c10 (show vp_in (nI 2) 6 from vp_in_nI (by decide) (by decide)) dL_law_855 ?_
          rw [show (V 10) (2 : Int32).toNatClampNeg = nI (cn 12) from hV.g2]
          refine lv_iload hx hb dL_law_856 (lv_at hl 2 rfl) ?_
          refine lv_bipush (v := 10) hx hb dL_law_858 (by decide) ?_
          refine lv_iload hx hb dL_law_860 (lv_at hl 4 rfl) ?_
          refine lv_imul hx hb dL_law_862 ?_
          refine lv_topi (fun z_92 ez_92 => ?_)
          have ez_92 : z_92 = nI (10 * ah9) := ez_92.trans (nI_mul 10 ah9)
          subst ez_92
          refine lv_iadd hx hb dL_law_863 ?_
          refine lv_topi (fun z_93 ez_93 => ?_)
          have ez_93 : z_93 = nI (fi9 + (10 * ah9)) := ez_93.trans (nI_add fi9 (10 * ah9))
          subst ez_93
          refine lv_bipush (v := 100) hx hb dL_law_864 (by decide) ?_
          refine lv_iload hx hb dL_law_866 (lv_at hl 3 rfl) ?_
          refine lv_imul hx hb dL_law_868 ?_
          refine lv_topi (fun z_94 ez_94 => ?_)
          have ez_94 : z_94 = nI (100 * (1 + ((zn / 40) % 9))) := ez_94.trans (nI_mul 100 (1 + ((zn / 40) % 9)))
          subst ez_94
          refine lv_iadd hx hb dL_law_869 ?_
          refine lv_topi (fun z_95 ez_95 => ?_)
          have ez_95 : z_95 = nI ((fi9 + (10 * ah9)) + (100 * (1 + ((zn / 40) % 9)))) := ez_95.trans (nI_add (fi9 + (10 * ah9)) (100 * (1 + ((zn / 40) % 9))))
          subst ez_95
          refine lv_sipush (v := 1000) hx hb dL_law_870 (by decide) ?_
          refine lv_iload hx hb dL_law_873 (lv_at hl 1 rfl) ?_
          refine lv_imul hx hb dL_law_875 ?_
          refine lv_topi (fun z_96 ez_96 => ?_)
          have ez_96 : z_96 = nI (1000 * se9) := ez_96.trans (nI_mul 1000 se9)
          subst ez_96
          refine lv_iadd hx hb dL_law_876 ?_
          refine lv_topi (fun z_97 ez_97 => ?_)
          have ez_97 : z_97 = nI (fi9 + 10 * ah9 + 100 * (1 + ((zn / 40) % 9)) + 1000 * se9) := ez_97.trans ((nI_add ((fi9 + (10 * ah9)) + (100 * (1 + ((zn / 40) % 9)))) (1000 * se9)).trans (congrArg nI (show ((fi9 + (10 * ah9)) + (100 * (1 + ((zn / 40) % 9)))) + (1000 * se9) = fi9 + 10 * ah9 + 100 * (1 + ((zn / 40) % 9)) + 1000 * se9 by omega)))
          subst ez_97
          refine hk_ist (f := (V 7)) X K hL.c7 hS (hlA 7 (by decide)) (vp_in_nI (by omega) (by omega)) dL_law_877 (fun H98 locsH98 hIH98 hzH98 hqH98 hS => ?_)
          rw [nI_clamp (show (cn 12) < 2 ^ 31 by omega)] at hIH98
          have hL := hL.set hla (j := 7) (by decide) hIH98 hqH98
          have hW := hW.kept (fun q h1 h2 => hqH98 q (fun g => h2.elim (fun h => hlz 7 (by decide) (by rw [← g]; exact h)) (fun h => h (by rw [g]; exact hlA 7 (by decide)))))
          have hb4 : b4 ≤ H98.size := by omega
          have hZn := fun (q : Nat) (h : H98.size ≤ q) => hZn0 q (Nat.le_trans hb4 h)
          refine lv_aload_n hx hb dL_law_878 rfl (lv_at hl 23 rfl) ?_
          refine lv_iload hx hb dL_law_879 (lv_at hl 5 rfl) ?_
          refine lv_iload hx hb dL_law_881 (lv_at hl 6 rfl) ?_
          refine lv_bipush (v := 17) hx hb dL_law_883 (by decide) ?_
          refine lv_idiv hx hb dL_law_885 (by decide) ?_
          refine lv_topi (fun z_99 ez_99 => ?_)
          have ez_99 : z_99 = nI (zn / 17) := ez_99.trans (pk_div (a := zn) (d := 17) (by omega) (by omega) (by omega))
          subst ez_99
          refine lv_bipush (v := 8) hx hb dL_law_886 (by decide) ?_
          refine lv_irem hx hb dL_law_888 (by decide) ?_
          refine lv_topi (fun z_100 ez_100 => ?_)
          have ez_100 : z_100 = nI of9 := ez_100.trans ((pk_rem (a := (zn / 17)) (d := 8) (by omega) (by omega) (by omega)).trans (congrArg nI (show (zn / 17) % 8 = of9 by omega)))
          subst ez_100
          refine lv_iload hx hb dL_law_889 (lv_at hl 0 rfl) ?_
          refine lv_iload hx hb dL_law_891 (lv_at hl 2 rfl) ?_
          refine lv_iload hx hb dL_law_893 (lv_at hl 4 rfl) ?_
          refine lv_iload hx hb dL_law_895 (lv_at hl 3 rfl) ?_
          refine lv_iload hx hb dL_law_897 (lv_at hl 1 rfl) ?_
          have hcd0 : cd_step (nI st9) (nI of9) (nI (zn % 10000000)) (nI fi9) (nI ah9) (nI (1 + ((zn / 40) % 9))) (nI se9) (cn, sc, μ) = 0 := step_c hst hn1 (by omega) (by omega) (by omega) (by omega) (by omega) (by omega) (by omega) (by omega) h12
          refine hk_callVx 7 (As := [.int (nI st9), .int (nI of9), .int (nI (zn % 10000000)), .int (nI fi9), .int (nI ah9), .int (nI (1 + ((zn / 40) % 9))), .int (nI se9)]) (rest := []) X K hAE hS hl.1 (HW.o hW) rfl (c_X10_step E l hl9 H98 hW hI hZn (p0 := nI st9) (p1 := nI of9) (p2 := nI (zn % 10000000)) (p3 := nI fi9) (p4 := nI ah9) (p5 := nI (1 + ((zn / 40) % 9))) (p6 := nI se9)) hZA gL_law_X10_step rfl ⟨rfl, hd_X10_step⟩ rfl ⟨⟨(Nat.le_of_ble_eq_true rfl), (Nat.le_of_ble_eq_true rfl)⟩, (by show cells + 12 ≤ 664990; omega), (by show slots + 600 ≤ 7106859; omega)⟩ rfl (Nat.le_of_ble_eq_true rfl) dL_law_899 (fun x9 ce9 q9 H9 locs9 hp hS hz9 hk9 hce hcv hcl => by
              obtain ⟨hcs, -⟩ := hp
              rw [hcd0] at hcs
              rcases hcs with ⟨h, -⟩ | ⟨h, -⟩ | ⟨h, -⟩ <;> exact absurd h (by decide)
            ) (fun v9 H101 locsH101 hp hS hzH101 hkH101 => ?_)
          obtain ⟨-, hv, G, R, hW⟩ := hp
          subst hv
          have hL := hL.kept (fun k hk => hkH101 (la k) (hL.lt hk) (hlz k hk))
          have hb4 := Nat.le_trans hb4 hzH101
          have hZn := fun (q : Nat) (h : H101.size ≤ q) => hZn0 q (Nat.le_trans hb4 h)
          refine lv_aload hx hb dL_law_902 (lv_at hl 20 rfl) ?_
          refine lv_iconst (v := 2) hx hb dL_law_904 (by decide) ?_
          refine hk_ild (f := (V 10)) X K hL.c10 (show vp_in (nI 2) 6 from vp_in_nI (by decide) (by decide)) dL_law_905 ?_
          rw [show (V 10) (2 : Int32).toNatClampNeg = nI (cn 12) from hV.g2]
          refine lv_icmp_ne (tgt := 913) hx hb dL_law_906 (by decide) (fun c_906 => ?_) (fun c_906 => ?_)
          · exact (c_906 (rfl)).elim
          · refine lv_iconst (v := 1) hx hb dL_law_909 (by decide) ?_
            refine lv_goto (tgt := 914) hx hb dL_law_910 (by decide) ?_
            refine lv_istore (lv' := [(15, .int 1), (25, .int (nI (zn % 10000000))), (24, .int (nI se9)), (23, .int (nI fi9)), (22, .int (nI (1 + ((zn / 40) % 9)))), (21, .int (nI ah9)), (20, .int (nI st9)), (19, .int (nI zn)), (18, .int kd), (16, .int (nI tn)), (2, .ref (la 0)), (3, .ref (la 1)), (4, .ref (la 2)), (5, .ref (la 3)), (6, .ref (la 4)), (7, .ref (la 5)), (8, .ref (la 6)), (9, .ref (la 7)), (10, .ref (la 8)), (11, .ref (la 9)), (12, .ref (la 10)), (13, .ref (la 11)), (14, .ref (la 12)), (1, .ref ho), (0, .ref b)]) hx hb dL_law_914 hl (by decide) rfl (fun ls hl => ?_)
            refine lv_aload hx hb dL_law_916 (lv_at hl 20 rfl) ?_
            refine lv_iconst (v := 2) hx hb dL_law_918 (by decide) ?_
            refine lv_dup2_11 hx hb dL_law_919 rfl rfl ?_
            refine hk_ild (f := (V 10)) X K hL.c10 (show vp_in (nI 2) 6 from vp_in_nI (by decide) (by decide)) dL_law_920 ?_
            rw [show (V 10) (2 : Int32).toNatClampNeg = nI (cn 12) from hV.g2]
            refine lv_iconst (v := 1) hx hb dL_law_921 (by decide) ?_
            refine lv_iadd hx hb dL_law_922 ?_
            refine lv_topi (fun z_102 ez_102 => ?_)
            have ez_102 : z_102 = nI ((cn 12) + 1) := ez_102.trans (nI_add (cn 12) 1)
            subst ez_102
            refine hk_ist (f := (V 10)) X K hL.c10 hS (hlA 10 (by decide)) (show vp_in (nI 2) 6 from vp_in_nI (by decide) (by decide)) dL_law_923 (fun H103 locsH103 hIH103 hzH103 hqH103 hS => ?_)
            rw [show (2 : Int32).toNatClampNeg = 2 from rfl] at hIH103
            have hL := hL.set hla (j := 10) (by decide) hIH103 hqH103
            have hW := hW.kept (fun q h1 h2 => hqH103 q (fun g => h2.elim (fun h => hlz 10 (by decide) (by rw [← g]; exact h)) (fun h => h (by rw [g]; exact hlA 10 (by decide)))))
            have hb4 : b4 ≤ H103.size := by omega
            have hZn := fun (q : Nat) (h : H103.size ≤ q) => hZn0 q (Nat.le_trans hb4 h)
            refine lv_goto (tgt := 2061) hx hb dL_law_924 (by decide) ?_
            refine W.widen (k := cells + 40) (n := slots + 2000) (by show cells + 12 ≤ _; omega) (by show slots + 600 ≤ _; omega) ?_
            have hV9 := lv_step hV (st := st9) (of := of9) (f := fi9) (a := ah9) (b := (1 + ((zn / 40) % 9))) (g := se9) (x := nI (zn % 10000000)) hst (by omega) (by omega) (by omega) (by omega) (by omega) (by omega) h12
            exact J2061 H103 _ ⟨G, R, _, _, invF_step hI hcd0, hV9, hW, LW.mk13 hL.c0 hL.c1 hL.c2 hL.c3 hL.c4 hL.c5 hL.c6 hL.c7 hL.c8 hL.c9 hL.c10 hL.c11 hL.c12, hS, hb4, ⟨fun h => absurd h (by omega), fun _ => h2⟩⟩ _ (lv_sub hl [7, 9, 0, 10, 11, 12, 13, 14, 15, 16, 17, 18, 19, 20, 21, 22, 23, 24] rfl)

set_option maxHeartbeats 4000000 in
set_option maxRecDepth 100000 in
theorem k_634 {p : Program} {l : Launch} {e : Env} {s : State} {m : MethodId} {below : List Frame} {meth : Method} {c : Code} {b L : Nat} {xs : Nat → Int32} {E : hk_E} {Z : Nat → Prop} {ho ts b4 : Nat} {li : Nat → Nat} {rr : Nat → Nat → Nat} {la : Nat → Nat} (G0 : lw_G p l s m meth c b L xs E Z la b4) {H : Heap} {locs : List Loc} {cells slots tn zn st9 : Nat} {kd : Int32} (hJ0 : lw_J E Z ho ts li rr la b4 s (fun S => 2 ≤ S.1 1 ∧ st9 < S.1 1) H locs) (hz31 : zn < 2 ^ 31) (ht2 : 2 ≤ tn) (hce : cells + 40 ≤ 664990) (hsl : slots + 2000 ≤ 7106859) {ls : Array Slot} (hl : lv_has ls 26 [(20, .int (nI st9)), (19, .int (nI zn)), (18, .int kd), (16, .int (nI tn)), (15, .int 1), (2, .ref (la 0)), (3, .ref (la 1)), (4, .ref (la 2)), (5, .ref (la 3)), (6, .ref (la 4)), (7, .ref (la 5)), (8, .ref (la 6)), (9, .ref (la 7)), (10, .ref (la 8)), (11, .ref (la 9)), (12, .ref (la 10)), (13, .ref (la 11)), (14, .ref (la 12)), (1, .ref ho), (0, .ref b)])
  (J2061 : ∀ (H1 : Heap) (locs1 : List Loc), lw_J E Z ho ts li rr la b4 s (fun S => tI (tn + 1) (S.1 1)) H1 locs1 → ∀ (ls : Array Slot), lv_has ls 26 [(19, .int (nI zn)), (16, .int (nI tn)), (15, .int 1), (2, .ref (la 0)), (3, .ref (la 1)), (4, .ref (la 2)), (5, .ref (la 3)), (6, .ref (la 4)), (7, .ref (la 5)), (8, .ref (la 6)), (9, .ref (la 7)), (10, .ref (la 8)), (11, .ref (la 9)), (12, .ref (la 10)), (13, .ref (la 11)), (14, .ref (la 12)), (1, .ref ho), (0, .ref b)] → W p l e room_1 s m #[Value.ref b] below meth c H1 locs1 (cells + 40) (slots + 2000) (lw_Z below #[Value.ref b] s) (F0 m 2061 ls [])) : W p l e room_1 s m #[Value.ref b] below meth c H locs cells slots (lw_Z below #[Value.ref b] s) (F0 m 634 ls []) := by
  obtain ⟨hl9, hLL, C0, X, K, hE, hZn0, hlz, hla, hlA⟩ := id G0
  obtain ⟨G, R, V, ⟨cn, sc, μ⟩, hI, hV, hW, hL, hS, hb4, ⟨h2, hst⟩⟩ := hJ0
  obtain ⟨hx, hb, hr, hml, hown, hts, hXs, hbl, hlocks, -⟩ := id C0
  have hAE : ∀ q, hk_A E q → hk_A E q := fun _ h => h
  have hZA : ∀ q, Z q → hk_A E q := hW.2.2.2.2.2.2.2.2.2.2.2.2
  have hZn : ∀ q, H.size ≤ q → Z q := fun q h => hZn0 q (Nat.le_trans hb4 h)
  have hn1 : cn 1 ≤ 4 := hV.n1
  have hn8 : cn 8 ≤ 3 := hV.n8
  have hn12 : cn 12 ≤ 24 := hV.n12
  have hn22 : cn 22 ≤ 4 := hV.n22
  have hn29 : cn 29 ≤ 8 := hV.n29
  have h2 : 2 ≤ cn 1 := h2
  have hst : st9 < cn 1 := hst
  refine lv_iload hx hb dL_law_634 (lv_at hl 2 rfl) ?_
  refine lv_iconst (v := 5) hx hb dL_law_636 (by decide) ?_
  refine lv_icmp_ne (tgt := 717) hx hb dL_law_637 (by decide) (fun c_637 => ?_) (fun c_637 => ?_)
  · exact k_717 G0 ⟨G, R, V, (cn, sc, μ), hI, hV, hW, hL, hS, hb4, ⟨h2, hst⟩⟩ hz31 ht2 hce hsl hl J2061
  · refine lv_aload hx hb dL_law_640 (lv_at hl 15 rfl) ?_
    refine lv_iconst (v := 1) hx hb dL_law_642 (by decide) ?_
    refine hk_ild (f := (V 10)) X K hL.c10 (show vp_in (nI 1) 6 from vp_in_nI (by decide) (by decide)) dL_law_643 ?_
    rw [show (V 10) (1 : Int32).toNatClampNeg = nI (cn 8) from hV.g1]
    refine lv_if_le (tgt := 717) hx hb dL_law_644 (by decide) (fun c_644 => ?_) (fun c_644 => ?_)
    · exact k_717 G0 ⟨G, R, V, (cn, sc, μ), hI, hV, hW, hL, hS, hb4, ⟨h2, hst⟩⟩ hz31 ht2 hce hsl hl J2061
    · have h8 : 0 < cn 8 := by
        rcases Nat.eq_zero_or_pos (cn 8) with h | h
        · rw [h] at c_644; exact absurd (Int32.le_refl _) c_644
        · exact h
      obtain ⟨pl9, epl⟩ : ∃ y, y = zn % cn 8 := ⟨_, rfl⟩
      have hpl : pl9 < cn 8 := by rw [epl]; exact Nat.mod_lt _ h8
      refine lv_iload hx hb dL_law_647 (lv_at hl 1 rfl) ?_
      refine lv_iconst (v := 3) hx hb dL_law_649 (by decide) ?_
      refine lv_idiv hx hb dL_law_650 (by decide) ?_
      refine lv_topi (fun z_1 ez_1 => ?_)
      have ez_1 : z_1 = nI (zn / 3) := ez_1.trans (pk_div (a := zn) (d := 3) (by omega) (by omega) (by omega))
      subst ez_1
      refine lv_sipush (v := 3501) hx hb dL_law_651 (by decide) ?_
      refine lv_irem hx hb dL_law_654 (by decide) ?_
      refine lv_topi (fun z_2 ez_2 => ?_)
      have ez_2 : z_2 = nI ((zn / 3) % 3501) := ez_2.trans (pk_rem (a := (zn / 3)) (d := 3501) (by omega) (by omega) (by omega))
      subst ez_2
      refine lv_sipush (v := 500) hx hb dL_law_655 (by decide) ?_
      refine lv_isub hx hb dL_law_658 ?_
      refine lv_topi (fun v9 ev9 => ?_)
      refine lv_istore (lv' := [(21, .int v9), (20, .int (nI st9)), (19, .int (nI zn)), (18, .int kd), (16, .int (nI tn)), (15, .int 1), (2, .ref (la 0)), (3, .ref (la 1)), (4, .ref (la 2)), (5, .ref (la 3)), (6, .ref (la 4)), (7, .ref (la 5)), (8, .ref (la 6)), (9, .ref (la 7)), (10, .ref (la 8)), (11, .ref (la 9)), (12, .ref (la 10)), (13, .ref (la 11)), (14, .ref (la 12)), (1, .ref ho), (0, .ref b)]) hx hb dL_law_659 hl (by decide) rfl (fun ls hl => ?_)
      refine lv_aload_n hx hb dL_law_661 rfl (lv_at hl 19 rfl) ?_
      refine lv_iload hx hb dL_law_662 (lv_at hl 2 rfl) ?_
      refine lv_aload hx hb dL_law_664 (lv_at hl 16 rfl) ?_
      refine lv_iconst (v := 1) hx hb dL_law_666 (by decide) ?_
      refine hk_ild (f := (V 10)) X K hL.c10 (show vp_in (nI 1) 6 from vp_in_nI (by decide) (by decide)) dL_law_667 ?_
      rw [show (V 10) (1 : Int32).toNatClampNeg = nI (cn 8) from hV.g1]
      refine lv_irem hx hb dL_law_668 (nI_ne0 (by omega) (by omega)) ?_
      refine lv_topi (fun z_3 ez_3 => ?_)
      have ez_3 : z_3 = nI pl9 := ez_3.trans ((pk_rem (a := zn) (d := (cn 8)) (by omega) (by omega) (by omega)).trans (congrArg nI (show zn % (cn 8) = pl9 by omega)))
      subst ez_3
      refine lv_iload hx hb dL_law_669 (lv_at hl 0 rfl) ?_
      have hcd0 : cd_join (nI pl9) v9 (cn, sc, μ) = 0 := join_c hpl hn8 (by rw [ev9]; exact sub_rng (c := 500) (by omega) (by omega) (by show (-500 : Int) ≤ _; omega) (by show _ ≤ (3000 : Int); omega))
      refine hk_callVx 2 (As := [.int (nI pl9), .int v9]) (rest := []) X K hAE hS hl.1 (HW.o hW) rfl (c_X10_join E l hl9 H hW hI hZn (p0 := nI pl9) (p1 := v9)) hZA gL_law_X10_join rfl ⟨rfl, hd_X10_join⟩ rfl ⟨⟨(Nat.le_of_ble_eq_true rfl), (Nat.le_of_ble_eq_true rfl)⟩, (by show cells + 8 ≤ 664990; omega), (by show slots + 400 ≤ 7106859; omega)⟩ rfl (Nat.le_of_ble_eq_true rfl) dL_law_671 (fun x9 ce9 q9 H9 locs9 hp hS hz9 hk9 hce hcv hcl => by
          obtain ⟨hcs, -⟩ := hp
          rw [hcd0] at hcs
          rcases hcs with ⟨h, -⟩ | ⟨h, -⟩ | ⟨h, -⟩ <;> exact absurd h (by decide)
        ) (fun v9 H4 locsH4 hp hS hzH4 hkH4 => ?_)
      obtain ⟨-, hv, G, R, hW⟩ := hp
      subst hv
      have hL := hL.kept (fun k hk => hkH4 (la k) (hL.lt hk) (hlz k hk))
      have hb4 := Nat.le_trans hb4 hzH4
      have hZn := fun (q : Nat) (h : H4.size ≤ q) => hZn0 q (Nat.le_trans hb4 h)
      refine lv_aload hx hb dL_law_674 (lv_at hl 10 rfl) ?_
      refine lv_iconst (v := 3) hx hb dL_law_676 (by decide) ?_
      refine lv_iload hx hb dL_law_677 (lv_at hl 2 rfl) ?_
      refine lv_aload hx hb dL_law_679 (lv_at hl 16 rfl) ?_
      refine lv_iconst (v := 1) hx hb dL_law_681 (by decide) ?_
      refine hk_ild (f := (V 10)) X K hL.c10 (show vp_in (nI 1) 6 from vp_in_nI (by decide) (by decide)) dL_law_682 ?_
      rw [show (V 10) (1 : Int32).toNatClampNeg = nI (cn 8) from hV.g1]
      refine lv_irem hx hb dL_law_683 (nI_ne0 (by omega) (by omega)) ?_
      refine lv_topi (fun z_5 ez_5 => ?_)
      have ez_5 : z_5 = nI pl9 := ez_5.trans ((pk_rem (a := zn) (d := (cn 8)) (by omega) (by omega) (by omega)).trans (congrArg nI (show zn % (cn 8) = pl9 by omega)))
      subst ez_5
      refine lv_imul hx hb dL_law_684 ?_
      refine lv_topi (fun z_6 ez_6 => ?_)
      have ez_6 : z_6 = nI (3 * pl9) := ez_6.trans (nI_mul 3 pl9)
      subst ez_6
      refine lv_iconst (v := 1) hx hb dL_law_685 (by decide) ?_
      refine lv_iadd hx hb dL_law_686 ?_
      refine lv_topi (fun z_7 ez_7 => ?_)
      have ez_7 : z_7 = nI ((3 * pl9) + 1) := ez_7.trans (nI_add (3 * pl9) 1)
      subst ez_7
      refine hk_ild (f := (V 4)) X K hL.c4 (vp_in_nI (by omega) (by omega)) dL_law_687 ?_
      rw [show (V 4) (nI ((3 * pl9) + 1)).toNatClampNeg = V 4 ((3 * pl9) + 1) from by rw [nI_clamp (show ((3 * pl9) + 1) < 2 ^ 31 by omega)]]
      refine lv_icmp_ne (tgt := 695) hx hb dL_law_688 (by decide) (fun c_688 => ?_) (fun c_688 => ?_)
      · exact (c_688 ((join_a (S := (cn, sc, μ)) (by omega)).trans (hV.p hpl).2.1.symm)).elim
      · refine lv_iconst (v := 1) hx hb dL_law_691 (by decide) ?_
        refine lv_goto (tgt := 696) hx hb dL_law_692 (by decide) ?_
        refine lv_istore (lv' := [(15, .int 1), (21, .int v9), (20, .int (nI st9)), (19, .int (nI zn)), (18, .int kd), (16, .int (nI tn)), (2, .ref (la 0)), (3, .ref (la 1)), (4, .ref (la 2)), (5, .ref (la 3)), (6, .ref (la 4)), (7, .ref (la 5)), (8, .ref (la 6)), (9, .ref (la 7)), (10, .ref (la 8)), (11, .ref (la 9)), (12, .ref (la 10)), (13, .ref (la 11)), (14, .ref (la 12)), (1, .ref ho), (0, .ref b)]) hx hb dL_law_696 hl (by decide) rfl (fun ls hl => ?_)
        refine lv_aload hx hb dL_law_698 (lv_at hl 10 rfl) ?_
        refine lv_iconst (v := 3) hx hb dL_law_700 (by decide) ?_
        refine lv_iload hx hb dL_law_701 (lv_at hl 3 rfl) ?_
        refine lv_aload hx hb dL_law_703 (lv_at hl 16 rfl) ?_
        refine lv_iconst (v := 1) hx hb dL_law_705 (by decide) ?_
        refine hk_ild (f := (V 10)) X K hL.c10 (show vp_in (nI 1) 6 from vp_in_nI (by decide) (by decide)) dL_law_706 ?_
        rw [show (V 10) (1 : Int32).toNatClampNeg = nI (cn 8) from hV.g1]
        refine lv_irem hx hb dL_law_707 (nI_ne0 (by omega) (by omega)) ?_
        refine lv_topi (fun z_8 ez_8 => ?_)
        have ez_8 : z_8 = nI pl9 := ez_8.trans ((pk_rem (a := zn) (d := (cn 8)) (by omega) (by omega) (by omega)).trans (congrArg nI (show zn % (cn 8) = pl9 by omega)))
        subst ez_8
        refine lv_imul hx hb dL_law_708 ?_
        refine lv_topi (fun z_9 ez_9 => ?_)
        have ez_9 : z_9 = nI (3 * pl9) := ez_9.trans (nI_mul 3 pl9)
        subst ez_9
        refine lv_iconst (v := 1) hx hb dL_law_709 (by decide) ?_
        refine lv_iadd hx hb dL_law_710 ?_
        refine lv_topi (fun z_10 ez_10 => ?_)
        have ez_10 : z_10 = nI ((3 * pl9) + 1) := ez_10.trans (nI_add (3 * pl9) 1)
        subst ez_10
        refine lv_iload hx hb dL_law_711 (lv_at hl 1 rfl) ?_
        refine hk_ist (f := (V 4)) X K hL.c4 hS (hlA 4 (by decide)) (vp_in_nI (by omega) (by omega)) dL_law_713 (fun H11 locsH11 hIH11 hzH11 hqH11 hS => ?_)
        rw [nI_clamp (show ((3 * pl9) + 1) < 2 ^ 31 by omega)] at hIH11
        have hL := hL.set hla (j := 4) (by decide) hIH11 hqH11
        have hW := hW.kept (fun q h1 h2 => hqH11 q (fun g => h2.elim (fun h => hlz 4 (by decide) (by rw [← g]; exact h)) (fun h => h (by rw [g]; exact hlA 4 (by decide)))))
        have hb4 : b4 ≤ H11.size := by omega
        have hZn := fun (q : Nat) (h : H11.size ≤ q) => hZn0 q (Nat.le_trans hb4 h)
        refine lv_goto (tgt := 2061) hx hb dL_law_714 (by decide) ?_
        refine W.widen (k := cells + 40) (n := slots + 2000) (by show cells + 8 ≤ _; omega) (by show slots + 400 ≤ _; omega) ?_
        have hV9 := lv_join hV (at9 := pl9) hpl (x := v9)
        exact J2061 H11 _ ⟨G, R, _, _, invF_join hI hcd0, hV9, hW, LW.mk13 hL.c0 hL.c1 hL.c2 hL.c3 hL.c4 hL.c5 hL.c6 hL.c7 hL.c8 hL.c9 hL.c10 hL.c11 hL.c12, hS, hb4, ⟨fun h => absurd h (by omega), fun _ => h2⟩⟩ _ (lv_sub hl [3, 5, 0, 6, 7, 8, 9, 10, 11, 12, 13, 14, 15, 16, 17, 18, 19, 20] rfl)

set_option maxHeartbeats 4000000 in
set_option maxRecDepth 100000 in
theorem k_572 {p : Program} {l : Launch} {e : Env} {s : State} {m : MethodId} {below : List Frame} {meth : Method} {c : Code} {b L : Nat} {xs : Nat → Int32} {E : hk_E} {Z : Nat → Prop} {ho ts b4 : Nat} {li : Nat → Nat} {rr : Nat → Nat → Nat} {la : Nat → Nat} (G0 : lw_G p l s m meth c b L xs E Z la b4) {H : Heap} {locs : List Loc} {cells slots tn zn st9 : Nat} {kd : Int32} (hJ0 : lw_J E Z ho ts li rr la b4 s (fun S => 2 ≤ S.1 1 ∧ st9 < S.1 1) H locs) (hz31 : zn < 2 ^ 31) (ht2 : 2 ≤ tn) (hce : cells + 40 ≤ 664990) (hsl : slots + 2000 ≤ 7106859) {ls : Array Slot} (hl : lv_has ls 26 [(20, .int (nI st9)), (19, .int (nI zn)), (18, .int kd), (16, .int (nI tn)), (15, .int 1), (2, .ref (la 0)), (3, .ref (la 1)), (4, .ref (la 2)), (5, .ref (la 3)), (6, .ref (la 4)), (7, .ref (la 5)), (8, .ref (la 6)), (9, .ref (la 7)), (10, .ref (la 8)), (11, .ref (la 9)), (12, .ref (la 10)), (13, .ref (la 11)), (14, .ref (la 12)), (1, .ref ho), (0, .ref b)])
  (J2061 : ∀ (H1 : Heap) (locs1 : List Loc), lw_J E Z ho ts li rr la b4 s (fun S => tI (tn + 1) (S.1 1)) H1 locs1 → ∀ (ls : Array Slot), lv_has ls 26 [(19, .int (nI zn)), (16, .int (nI tn)), (15, .int 1), (2, .ref (la 0)), (3, .ref (la 1)), (4, .ref (la 2)), (5, .ref (la 3)), (6, .ref (la 4)), (7, .ref (la 5)), (8, .ref (la 6)), (9, .ref (la 7)), (10, .ref (la 8)), (11, .ref (la 9)), (12, .ref (la 10)), (13, .ref (la 11)), (14, .ref (la 12)), (1, .ref ho), (0, .ref b)] → W p l e room_1 s m #[Value.ref b] below meth c H1 locs1 (cells + 40) (slots + 2000) (lw_Z below #[Value.ref b] s) (F0 m 2061 ls [])) : W p l e room_1 s m #[Value.ref b] below meth c H locs cells slots (lw_Z below #[Value.ref b] s) (F0 m 572 ls []) := by
  obtain ⟨hl9, hLL, C0, X, K, hE, hZn0, hlz, hla, hlA⟩ := id G0
  obtain ⟨G, R, V, ⟨cn, sc, μ⟩, hI, hV, hW, hL, hS, hb4, ⟨h2, hst⟩⟩ := hJ0
  obtain ⟨hx, hb, hr, hml, hown, hts, hXs, hbl, hlocks, -⟩ := id C0
  have hAE : ∀ q, hk_A E q → hk_A E q := fun _ h => h
  have hZA : ∀ q, Z q → hk_A E q := hW.2.2.2.2.2.2.2.2.2.2.2.2
  have hZn : ∀ q, H.size ≤ q → Z q := fun q h => hZn0 q (Nat.le_trans hb4 h)
  have hn1 : cn 1 ≤ 4 := hV.n1
  have hn8 : cn 8 ≤ 3 := hV.n8
  have hn12 : cn 12 ≤ 24 := hV.n12
  have hn22 : cn 22 ≤ 4 := hV.n22
  have hn29 : cn 29 ≤ 8 := hV.n29
  have h2 : 2 ≤ cn 1 := h2
  have hst : st9 < cn 1 := hst
  refine lv_iload hx hb dL_law_572 (lv_at hl 2 rfl) ?_
  refine lv_iconst (v := 4) hx hb dL_law_574 (by decide) ?_
  refine lv_icmp_ne (tgt := 634) hx hb dL_law_575 (by decide) (fun c_575 => ?_) (fun c_575 => ?_)
  · exact k_634 G0 ⟨G, R, V, (cn, sc, μ), hI, hV, hW, hL, hS, hb4, ⟨h2, hst⟩⟩ hz31 ht2 hce hsl hl J2061
  · refine lv_iload hx hb dL_law_578 (lv_at hl 1 rfl) ?_
    refine lv_iconst (v := 3) hx hb dL_law_580 (by decide) ?_
    refine lv_idiv hx hb dL_law_581 (by decide) ?_
    refine lv_topi (fun z_1 ez_1 => ?_)
    have ez_1 : z_1 = nI (zn / 3) := ez_1.trans (pk_div (a := zn) (d := 3) (by omega) (by omega) (by omega))
    subst ez_1
    refine lv_sipush (v := 2881) hx hb dL_law_582 (by decide) ?_
    refine lv_irem hx hb dL_law_585 (by decide) ?_
    refine lv_topi (fun z_2 ez_2 => ?_)
    have ez_2 : z_2 = nI ((zn / 3) % 2881) := ez_2.trans (pk_rem (a := (zn / 3)) (d := 2881) (by omega) (by omega) (by omega))
    subst ez_2
    refine lv_sipush (v := 1440) hx hb dL_law_586 (by decide) ?_
    refine lv_isub hx hb dL_law_589 ?_
    refine lv_topi (fun v9 ev9 => ?_)
    refine lv_istore (lv' := [(21, .int v9), (20, .int (nI st9)), (19, .int (nI zn)), (18, .int kd), (16, .int (nI tn)), (15, .int 1), (2, .ref (la 0)), (3, .ref (la 1)), (4, .ref (la 2)), (5, .ref (la 3)), (6, .ref (la 4)), (7, .ref (la 5)), (8, .ref (la 6)), (9, .ref (la 7)), (10, .ref (la 8)), (11, .ref (la 9)), (12, .ref (la 10)), (13, .ref (la 11)), (14, .ref (la 12)), (1, .ref ho), (0, .ref b)]) hx hb dL_law_590 hl (by decide) rfl (fun ls hl => ?_)
    refine lv_aload_n hx hb dL_law_592 rfl (lv_at hl 19 rfl) ?_
    refine lv_iload hx hb dL_law_593 (lv_at hl 2 rfl) ?_
    refine lv_bipush (v := 8) hx hb dL_law_595 (by decide) ?_
    refine lv_irem hx hb dL_law_597 (by decide) ?_
    refine lv_topi (fun z_3 ez_3 => ?_)
    have ez_3 : z_3 = nI (zn % 8) := ez_3.trans (pk_rem (a := zn) (d := 8) (by omega) (by omega) (by omega))
    subst ez_3
    refine lv_iload hx hb dL_law_598 (lv_at hl 0 rfl) ?_
    have hcd0 : cd_clock (nI (zn % 8)) v9 (cn, sc, μ) = 0 := cloc_c (by omega) (by rw [ev9]; exact sub_rng (c := 1440) (by omega) (by omega) (by show (-1440 : Int) ≤ _; omega) (by show _ ≤ (1440 : Int); omega))
    refine hk_callVx 2 (As := [.int (nI (zn % 8)), .int v9]) (rest := []) X K hAE hS hl.1 (HW.o hW) rfl (c_X10_clock E l hl9 H hW hI hZn (p0 := nI (zn % 8)) (p1 := v9)) hZA gL_law_X10_clock rfl ⟨rfl, hd_X10_clock⟩ rfl ⟨⟨(Nat.le_of_ble_eq_true rfl), (Nat.le_of_ble_eq_true rfl)⟩, (by show cells + 8 ≤ 664990; omega), (by show slots + 400 ≤ 7106859; omega)⟩ rfl (Nat.le_of_ble_eq_true rfl) dL_law_600 (fun x9 ce9 q9 H9 locs9 hp hS hz9 hk9 hce hcv hcl => by
        obtain ⟨hcs, -⟩ := hp
        rw [hcd0] at hcs
        rcases hcs with ⟨h, -⟩ | ⟨h, -⟩ | ⟨h, -⟩ <;> exact absurd h (by decide)
      ) (fun v9 H4 locsH4 hp hS hzH4 hkH4 => ?_)
    obtain ⟨-, hv, G, R, hW⟩ := hp
    subst hv
    have hL := hL.kept (fun k hk => hkH4 (la k) (hL.lt hk) (hlz k hk))
    have hb4 := Nat.le_trans hb4 hzH4
    have hZn := fun (q : Nat) (h : H4.size ≤ q) => hZn0 q (Nat.le_trans hb4 h)
    refine lv_aload hx hb dL_law_603 (lv_at hl 8 rfl) ?_
    refine lv_iload hx hb dL_law_605 (lv_at hl 2 rfl) ?_
    refine lv_bipush (v := 8) hx hb dL_law_607 (by decide) ?_
    refine lv_irem hx hb dL_law_609 (by decide) ?_
    refine lv_topi (fun z_5 ez_5 => ?_)
    have ez_5 : z_5 = nI (zn % 8) := ez_5.trans (pk_rem (a := zn) (d := 8) (by omega) (by omega) (by omega))
    subst ez_5
    refine hk_ild (f := (V 2)) X K hL.c2 (vp_in_nI (by omega) (by omega)) dL_law_610 ?_
    rw [show (V 2) (nI (zn % 8)).toNatClampNeg = V 2 (zn % 8) from by rw [nI_clamp (show (zn % 8) < 2 ^ 31 by omega)]]
    refine lv_icmp_ne (tgt := 618) hx hb dL_law_611 (by decide) (fun c_611 => ?_) (fun c_611 => ?_)
    · exact (c_611 ((cloc_a (S := (cn, sc, μ)) (by omega)).trans (hV.w (by omega)).symm)).elim
    · refine lv_iconst (v := 1) hx hb dL_law_614 (by decide) ?_
      refine lv_goto (tgt := 619) hx hb dL_law_615 (by decide) ?_
      refine lv_istore (lv' := [(15, .int 1), (21, .int v9), (20, .int (nI st9)), (19, .int (nI zn)), (18, .int kd), (16, .int (nI tn)), (2, .ref (la 0)), (3, .ref (la 1)), (4, .ref (la 2)), (5, .ref (la 3)), (6, .ref (la 4)), (7, .ref (la 5)), (8, .ref (la 6)), (9, .ref (la 7)), (10, .ref (la 8)), (11, .ref (la 9)), (12, .ref (la 10)), (13, .ref (la 11)), (14, .ref (la 12)), (1, .ref ho), (0, .ref b)]) hx hb dL_law_619 hl (by decide) rfl (fun ls hl => ?_)
      refine lv_aload hx hb dL_law_621 (lv_at hl 8 rfl) ?_
      refine lv_iload hx hb dL_law_623 (lv_at hl 3 rfl) ?_
      refine lv_bipush (v := 8) hx hb dL_law_625 (by decide) ?_
      refine lv_irem hx hb dL_law_627 (by decide) ?_
      refine lv_topi (fun z_6 ez_6 => ?_)
      have ez_6 : z_6 = nI (zn % 8) := ez_6.trans (pk_rem (a := zn) (d := 8) (by omega) (by omega) (by omega))
      subst ez_6
      refine lv_iload hx hb dL_law_628 (lv_at hl 1 rfl) ?_
      refine hk_ist (f := (V 2)) X K hL.c2 hS (hlA 2 (by decide)) (vp_in_nI (by omega) (by omega)) dL_law_630 (fun H7 locsH7 hIH7 hzH7 hqH7 hS => ?_)
      rw [nI_clamp (show (zn % 8) < 2 ^ 31 by omega)] at hIH7
      have hL := hL.set hla (j := 2) (by decide) hIH7 hqH7
      have hW := hW.kept (fun q h1 h2 => hqH7 q (fun g => h2.elim (fun h => hlz 2 (by decide) (by rw [← g]; exact h)) (fun h => h (by rw [g]; exact hlA 2 (by decide)))))
      have hb4 : b4 ≤ H7.size := by omega
      have hZn := fun (q : Nat) (h : H7.size ≤ q) => hZn0 q (Nat.le_trans hb4 h)
      refine lv_goto (tgt := 2061) hx hb dL_law_631 (by decide) ?_
      refine W.widen (k := cells + 40) (n := slots + 2000) (by show cells + 8 ≤ _; omega) (by show slots + 400 ≤ _; omega) ?_
      have hV9 := lv_clock hV (at9 := zn % 8) (by omega) (x := v9)
      exact J2061 H7 _ ⟨G, R, _, _, invF_clock hI, hV9, hW, LW.mk13 hL.c0 hL.c1 hL.c2 hL.c3 hL.c4 hL.c5 hL.c6 hL.c7 hL.c8 hL.c9 hL.c10 hL.c11 hL.c12, hS, hb4, ⟨fun h => absurd h (by omega), fun _ => h2⟩⟩ _ (lv_sub hl [3, 5, 0, 6, 7, 8, 9, 10, 11, 12, 13, 14, 15, 16, 17, 18, 19, 20] rfl)

set_option maxHeartbeats 4000000 in
set_option maxRecDepth 100000 in
theorem k_513 {p : Program} {l : Launch} {e : Env} {s : State} {m : MethodId} {below : List Frame} {meth : Method} {c : Code} {b L : Nat} {xs : Nat → Int32} {E : hk_E} {Z : Nat → Prop} {ho ts b4 : Nat} {li : Nat → Nat} {rr : Nat → Nat → Nat} {la : Nat → Nat} (G0 : lw_G p l s m meth c b L xs E Z la b4) {H : Heap} {locs : List Loc} {cells slots tn zn st9 : Nat} {kd : Int32} (hJ0 : lw_J E Z ho ts li rr la b4 s (fun S => 2 ≤ S.1 1 ∧ st9 < S.1 1) H locs) (hz31 : zn < 2 ^ 31) (ht2 : 2 ≤ tn) (hce : cells + 40 ≤ 664990) (hsl : slots + 2000 ≤ 7106859) {ls : Array Slot} (hl : lv_has ls 26 [(20, .int (nI st9)), (19, .int (nI zn)), (18, .int kd), (16, .int (nI tn)), (15, .int 1), (2, .ref (la 0)), (3, .ref (la 1)), (4, .ref (la 2)), (5, .ref (la 3)), (6, .ref (la 4)), (7, .ref (la 5)), (8, .ref (la 6)), (9, .ref (la 7)), (10, .ref (la 8)), (11, .ref (la 9)), (12, .ref (la 10)), (13, .ref (la 11)), (14, .ref (la 12)), (1, .ref ho), (0, .ref b)])
  (J2061 : ∀ (H1 : Heap) (locs1 : List Loc), lw_J E Z ho ts li rr la b4 s (fun S => tI (tn + 1) (S.1 1)) H1 locs1 → ∀ (ls : Array Slot), lv_has ls 26 [(19, .int (nI zn)), (16, .int (nI tn)), (15, .int 1), (2, .ref (la 0)), (3, .ref (la 1)), (4, .ref (la 2)), (5, .ref (la 3)), (6, .ref (la 4)), (7, .ref (la 5)), (8, .ref (la 6)), (9, .ref (la 7)), (10, .ref (la 8)), (11, .ref (la 9)), (12, .ref (la 10)), (13, .ref (la 11)), (14, .ref (la 12)), (1, .ref ho), (0, .ref b)] → W p l e room_1 s m #[Value.ref b] below meth c H1 locs1 (cells + 40) (slots + 2000) (lw_Z below #[Value.ref b] s) (F0 m 2061 ls [])) : W p l e room_1 s m #[Value.ref b] below meth c H locs cells slots (lw_Z below #[Value.ref b] s) (F0 m 513 ls []) := by
  obtain ⟨hl9, hLL, C0, X, K, hE, hZn0, hlz, hla, hlA⟩ := id G0
  obtain ⟨G, R, V, ⟨cn, sc, μ⟩, hI, hV, hW, hL, hS, hb4, ⟨h2, hst⟩⟩ := hJ0
  obtain ⟨hx, hb, hr, hml, hown, hts, hXs, hbl, hlocks, -⟩ := id C0
  have hAE : ∀ q, hk_A E q → hk_A E q := fun _ h => h
  have hZA : ∀ q, Z q → hk_A E q := hW.2.2.2.2.2.2.2.2.2.2.2.2
  have hZn : ∀ q, H.size ≤ q → Z q := fun q h => hZn0 q (Nat.le_trans hb4 h)
  have hn1 : cn 1 ≤ 4 := hV.n1
  have hn8 : cn 8 ≤ 3 := hV.n8
  have hn12 : cn 12 ≤ 24 := hV.n12
  have hn22 : cn 22 ≤ 4 := hV.n22
  have hn29 : cn 29 ≤ 8 := hV.n29
  have h2 : 2 ≤ cn 1 := h2
  have hst : st9 < cn 1 := hst
  refine lv_iload hx hb dL_law_513 (lv_at hl 2 rfl) ?_
  refine lv_iconst (v := 3) hx hb dL_law_515 (by decide) ?_
  refine lv_icmp_ne (tgt := 572) hx hb dL_law_516 (by decide) (fun c_516 => ?_) (fun c_516 => ?_)
  · exact k_572 G0 ⟨G, R, V, (cn, sc, μ), hI, hV, hW, hL, hS, hb4, ⟨h2, hst⟩⟩ hz31 ht2 hce hsl hl J2061
  · refine lv_iload hx hb dL_law_519 (lv_at hl 1 rfl) ?_
    refine lv_iconst (v := 3) hx hb dL_law_521 (by decide) ?_
    refine lv_idiv hx hb dL_law_522 (by decide) ?_
    refine lv_topi (fun z_1 ez_1 => ?_)
    have ez_1 : z_1 = nI (zn / 3) := ez_1.trans (pk_div (a := zn) (d := 3) (by omega) (by omega) (by omega))
    subst ez_1
    refine lv_sipush (v := 199) hx hb dL_law_523 (by decide) ?_
    refine lv_irem hx hb dL_law_526 (by decide) ?_
    refine lv_topi (fun z_2 ez_2 => ?_)
    have ez_2 : z_2 = nI ((zn / 3) % 199) := ez_2.trans (pk_rem (a := (zn / 3)) (d := 199) (by omega) (by omega) (by omega))
    subst ez_2
    refine lv_bipush (v := 99) hx hb dL_law_527 (by decide) ?_
    refine lv_isub hx hb dL_law_529 ?_
    refine lv_topi (fun v9 ev9 => ?_)
    refine lv_istore (lv' := [(21, .int v9), (20, .int (nI st9)), (19, .int (nI zn)), (18, .int kd), (16, .int (nI tn)), (15, .int 1), (2, .ref (la 0)), (3, .ref (la 1)), (4, .ref (la 2)), (5, .ref (la 3)), (6, .ref (la 4)), (7, .ref (la 5)), (8, .ref (la 6)), (9, .ref (la 7)), (10, .ref (la 8)), (11, .ref (la 9)), (12, .ref (la 10)), (13, .ref (la 11)), (14, .ref (la 12)), (1, .ref ho), (0, .ref b)]) hx hb dL_law_530 hl (by decide) rfl (fun ls hl => ?_)
    refine lv_aload_n hx hb dL_law_532 rfl (lv_at hl 19 rfl) ?_
    refine lv_iload hx hb dL_law_533 (lv_at hl 2 rfl) ?_
    refine lv_bipush (v := 8) hx hb dL_law_535 (by decide) ?_
    refine lv_irem hx hb dL_law_537 (by decide) ?_
    refine lv_topi (fun z_3 ez_3 => ?_)
    have ez_3 : z_3 = nI (zn % 8) := ez_3.trans (pk_rem (a := zn) (d := 8) (by omega) (by omega) (by omega))
    subst ez_3
    refine lv_iload hx hb dL_law_538 (lv_at hl 0 rfl) ?_
    have hcd0 : cd_bias (nI (zn % 8)) v9 (cn, sc, μ) = 0 := bias_c (by omega) (by rw [ev9]; exact sub_rng (c := 99) (by omega) (by omega) (by show (-99 : Int) ≤ _; omega) (by show _ ≤ (99 : Int); omega))
    refine hk_callVx 2 (As := [.int (nI (zn % 8)), .int v9]) (rest := []) X K hAE hS hl.1 (HW.o hW) rfl (c_X10_bias E l hl9 H hW hI hZn (p0 := nI (zn % 8)) (p1 := v9)) hZA gL_law_X10_bias rfl ⟨rfl, hd_X10_bias⟩ rfl ⟨⟨(Nat.le_of_ble_eq_true rfl), (Nat.le_of_ble_eq_true rfl)⟩, (by show cells + 8 ≤ 664990; omega), (by show slots + 400 ≤ 7106859; omega)⟩ rfl (Nat.le_of_ble_eq_true rfl) dL_law_540 (fun x9 ce9 q9 H9 locs9 hp hS hz9 hk9 hce hcv hcl => by
        obtain ⟨hcs, -⟩ := hp
        rw [hcd0] at hcs
        rcases hcs with ⟨h, -⟩ | ⟨h, -⟩ | ⟨h, -⟩ <;> exact absurd h (by decide)
      ) (fun v9 H4 locsH4 hp hS hzH4 hkH4 => ?_)
    obtain ⟨-, hv, G, R, hW⟩ := hp
    subst hv
    have hL := hL.kept (fun k hk => hkH4 (la k) (hL.lt hk) (hlz k hk))
    have hb4 := Nat.le_trans hb4 hzH4
    have hZn := fun (q : Nat) (h : H4.size ≤ q) => hZn0 q (Nat.le_trans hb4 h)
    refine lv_aload_n hx hb dL_law_543 rfl (lv_at hl 7 rfl) ?_
    refine lv_iload hx hb dL_law_544 (lv_at hl 2 rfl) ?_
    refine lv_bipush (v := 8) hx hb dL_law_546 (by decide) ?_
    refine lv_irem hx hb dL_law_548 (by decide) ?_
    refine lv_topi (fun z_5 ez_5 => ?_)
    have ez_5 : z_5 = nI (zn % 8) := ez_5.trans (pk_rem (a := zn) (d := 8) (by omega) (by omega) (by omega))
    subst ez_5
    refine hk_ild (f := (V 1)) X K hL.c1 (vp_in_nI (by omega) (by omega)) dL_law_549 ?_
    rw [show (V 1) (nI (zn % 8)).toNatClampNeg = V 1 (zn % 8) from by rw [nI_clamp (show (zn % 8) < 2 ^ 31 by omega)]]
    refine lv_icmp_ne (tgt := 557) hx hb dL_law_550 (by decide) (fun c_550 => ?_) (fun c_550 => ?_)
    · exact (c_550 ((bias_a (S := (cn, sc, μ)) (by omega)).trans (hV.b (by omega)).symm)).elim
    · refine lv_iconst (v := 1) hx hb dL_law_553 (by decide) ?_
      refine lv_goto (tgt := 558) hx hb dL_law_554 (by decide) ?_
      refine lv_istore (lv' := [(15, .int 1), (21, .int v9), (20, .int (nI st9)), (19, .int (nI zn)), (18, .int kd), (16, .int (nI tn)), (2, .ref (la 0)), (3, .ref (la 1)), (4, .ref (la 2)), (5, .ref (la 3)), (6, .ref (la 4)), (7, .ref (la 5)), (8, .ref (la 6)), (9, .ref (la 7)), (10, .ref (la 8)), (11, .ref (la 9)), (12, .ref (la 10)), (13, .ref (la 11)), (14, .ref (la 12)), (1, .ref ho), (0, .ref b)]) hx hb dL_law_558 hl (by decide) rfl (fun ls hl => ?_)
      refine lv_aload_n hx hb dL_law_560 rfl (lv_at hl 7 rfl) ?_
      refine lv_iload hx hb dL_law_561 (lv_at hl 3 rfl) ?_
      refine lv_bipush (v := 8) hx hb dL_law_563 (by decide) ?_
      refine lv_irem hx hb dL_law_565 (by decide) ?_
      refine lv_topi (fun z_6 ez_6 => ?_)
      have ez_6 : z_6 = nI (zn % 8) := ez_6.trans (pk_rem (a := zn) (d := 8) (by omega) (by omega) (by omega))
      subst ez_6
      refine lv_iload hx hb dL_law_566 (lv_at hl 1 rfl) ?_
      refine hk_ist (f := (V 1)) X K hL.c1 hS (hlA 1 (by decide)) (vp_in_nI (by omega) (by omega)) dL_law_568 (fun H7 locsH7 hIH7 hzH7 hqH7 hS => ?_)
      rw [nI_clamp (show (zn % 8) < 2 ^ 31 by omega)] at hIH7
      have hL := hL.set hla (j := 1) (by decide) hIH7 hqH7
      have hW := hW.kept (fun q h1 h2 => hqH7 q (fun g => h2.elim (fun h => hlz 1 (by decide) (by rw [← g]; exact h)) (fun h => h (by rw [g]; exact hlA 1 (by decide)))))
      have hb4 : b4 ≤ H7.size := by omega
      have hZn := fun (q : Nat) (h : H7.size ≤ q) => hZn0 q (Nat.le_trans hb4 h)
      refine lv_goto (tgt := 2061) hx hb dL_law_569 (by decide) ?_
      refine W.widen (k := cells + 40) (n := slots + 2000) (by show cells + 8 ≤ _; omega) (by show slots + 400 ≤ _; omega) ?_
      have hV9 := lv_bias hV (at9 := zn % 8) (by omega) (x := v9)
      exact J2061 H7 _ ⟨G, R, _, _, invF_bias hI hcd0, hV9, hW, LW.mk13 hL.c0 hL.c1 hL.c2 hL.c3 hL.c4 hL.c5 hL.c6 hL.c7 hL.c8 hL.c9 hL.c10 hL.c11 hL.c12, hS, hb4, ⟨fun h => absurd h (by omega), fun _ => h2⟩⟩ _ (lv_sub hl [3, 5, 0, 6, 7, 8, 9, 10, 11, 12, 13, 14, 15, 16, 17, 18, 19, 20] rfl)

set_option maxHeartbeats 4000000 in
set_option maxRecDepth 100000 in
theorem k_369 {p : Program} {l : Launch} {e : Env} {s : State} {m : MethodId} {below : List Frame} {meth : Method} {c : Code} {b L : Nat} {xs : Nat → Int32} {E : hk_E} {Z : Nat → Prop} {ho ts b4 : Nat} {li : Nat → Nat} {rr : Nat → Nat → Nat} {la : Nat → Nat} (G0 : lw_G p l s m meth c b L xs E Z la b4) {H : Heap} {locs : List Loc} {cells slots tn zn st9 : Nat} {kd : Int32} (hJ0 : lw_J E Z ho ts li rr la b4 s (fun S => 2 ≤ S.1 1 ∧ st9 < S.1 1) H locs) (hz31 : zn < 2 ^ 31) (ht2 : 2 ≤ tn) (hce : cells + 40 ≤ 664990) (hsl : slots + 2000 ≤ 7106859) {ls : Array Slot} (hl : lv_has ls 26 [(20, .int (nI st9)), (19, .int (nI zn)), (18, .int kd), (16, .int (nI tn)), (15, .int 1), (2, .ref (la 0)), (3, .ref (la 1)), (4, .ref (la 2)), (5, .ref (la 3)), (6, .ref (la 4)), (7, .ref (la 5)), (8, .ref (la 6)), (9, .ref (la 7)), (10, .ref (la 8)), (11, .ref (la 9)), (12, .ref (la 10)), (13, .ref (la 11)), (14, .ref (la 12)), (1, .ref ho), (0, .ref b)])
  (J2061 : ∀ (H1 : Heap) (locs1 : List Loc), lw_J E Z ho ts li rr la b4 s (fun S => tI (tn + 1) (S.1 1)) H1 locs1 → ∀ (ls : Array Slot), lv_has ls 26 [(19, .int (nI zn)), (16, .int (nI tn)), (15, .int 1), (2, .ref (la 0)), (3, .ref (la 1)), (4, .ref (la 2)), (5, .ref (la 3)), (6, .ref (la 4)), (7, .ref (la 5)), (8, .ref (la 6)), (9, .ref (la 7)), (10, .ref (la 8)), (11, .ref (la 9)), (12, .ref (la 10)), (13, .ref (la 11)), (14, .ref (la 12)), (1, .ref ho), (0, .ref b)] → W p l e room_1 s m #[Value.ref b] below meth c H1 locs1 (cells + 40) (slots + 2000) (lw_Z below #[Value.ref b] s) (F0 m 2061 ls [])) : W p l e room_1 s m #[Value.ref b] below meth c H locs cells slots (lw_Z below #[Value.ref b] s) (F0 m 369 ls []) := by
  obtain ⟨hl9, hLL, C0, X, K, hE, hZn0, hlz, hla, hlA⟩ := id G0
  obtain ⟨G, R, V, ⟨cn, sc, μ⟩, hI, hV, hW, hL, hS, hb4, ⟨h2, hst⟩⟩ := hJ0
  obtain ⟨hx, hb, hr, hml, hown, hts, hXs, hbl, hlocks, -⟩ := id C0
  have hAE : ∀ q, hk_A E q → hk_A E q := fun _ h => h
  have hZA : ∀ q, Z q → hk_A E q := hW.2.2.2.2.2.2.2.2.2.2.2.2
  have hZn : ∀ q, H.size ≤ q → Z q := fun q h => hZn0 q (Nat.le_trans hb4 h)
  have hn1 : cn 1 ≤ 4 := hV.n1
  have hn8 : cn 8 ≤ 3 := hV.n8
  have hn12 : cn 12 ≤ 24 := hV.n12
  have hn22 : cn 22 ≤ 4 := hV.n22
  have hn29 : cn 29 ≤ 8 := hV.n29
  have h2 : 2 ≤ cn 1 := h2
  have hst : st9 < cn 1 := hst
  refine lv_iload hx hb dL_law_369 (lv_at hl 2 rfl) ?_
  refine lv_iconst (v := 2) hx hb dL_law_371 (by decide) ?_
  refine lv_icmp_ne (tgt := 513) hx hb dL_law_372 (by decide) (fun c_372 => ?_) (fun c_372 => ?_)
  · exact k_513 G0 ⟨G, R, V, (cn, sc, μ), hI, hV, hW, hL, hS, hb4, ⟨h2, hst⟩⟩ hz31 ht2 hce hsl hl J2061
  · refine lv_aload hx hb dL_law_375 (lv_at hl 15 rfl) ?_
    refine lv_iconst (v := 1) hx hb dL_law_377 (by decide) ?_
    refine hk_ild (f := (V 10)) X K hL.c10 (show vp_in (nI 1) 6 from vp_in_nI (by decide) (by decide)) dL_law_378 ?_
    rw [show (V 10) (1 : Int32).toNatClampNeg = nI (cn 8) from hV.g1]
    refine lv_iconst (v := 3) hx hb dL_law_379 (by decide) ?_
    refine lv_icmp_ge (tgt := 513) hx hb dL_law_380 (by decide) (fun c_380 => ?_) (fun c_380 => ?_)
    · exact k_513 G0 ⟨G, R, V, (cn, sc, μ), hI, hV, hW, hL, hS, hb4, ⟨h2, hst⟩⟩ hz31 ht2 hce hsl hl J2061
    · have h8 : cn 8 < 3 := Nat.lt_of_not_le (fun h => c_380 (nI_le (a := 3) h (by omega)))
      refine lv_aload hx hb dL_law_383 (lv_at hl 9 rfl) ?_
      refine lv_iconst (v := 3) hx hb dL_law_385 (by decide) ?_
      refine lv_aload hx hb dL_law_386 (lv_at hl 15 rfl) ?_
      refine lv_iconst (v := 1) hx hb dL_law_388 (by decide) ?_
      refine hk_ild (f := (V 10)) X K hL.c10 (show vp_in (nI 1) 6 from vp_in_nI (by decide) (by decide)) dL_law_389 ?_
      rw [show (V 10) (1 : Int32).toNatClampNeg = nI (cn 8) from hV.g1]
      refine lv_imul hx hb dL_law_390 ?_
      refine lv_topi (fun z_1 ez_1 => ?_)
      have ez_1 : z_1 = nI (3 * (cn 8)) := ez_1.trans (nI_mul 3 (cn 8))
      subst ez_1
      refine lv_iload hx hb dL_law_391 (lv_at hl 1 rfl) ?_
      refine lv_iload hx hb dL_law_393 (lv_at hl 1 rfl) ?_
      refine lv_iconst (v := 3) hx hb dL_law_395 (by decide) ?_
      refine lv_irem hx hb dL_law_396 (by decide) ?_
      refine lv_topi (fun z_2 ez_2 => ?_)
      have ez_2 : z_2 = nI (zn % 3) := ez_2.trans (pk_rem (a := zn) (d := 3) (by omega) (by omega) (by omega))
      subst ez_2
      refine lv_if_ne (tgt := 405) hx hb dL_law_397 (by decide) (fun c_397 => ?_) (fun c_397 => ?_)
      · refine lv_sipush (v := 3000) hx hb dL_law_405 (by decide) ?_
        refine lv_irem hx hb dL_law_408 (by decide) ?_
        refine lv_topi (fun z_3 ez_3 => ?_)
        have ez_3 : z_3 = nI (zn % 3000) := ez_3.trans (pk_rem (a := zn) (d := 3000) (by omega) (by omega) (by omega))
        subst ez_3
        refine hk_ist (f := (V 4)) X K hL.c4 hS (hlA 4 (by decide)) (vp_in_nI (by omega) (by omega)) dL_law_409 (fun H4 locsH4 hIH4 hzH4 hqH4 hS => ?_)
        rw [nI_clamp (show (3 * (cn 8)) < 2 ^ 31 by omega)] at hIH4
        have hL := hL.set hla (j := 4) (by decide) hIH4 hqH4
        have hW := hW.kept (fun q h1 h2 => hqH4 q (fun g => h2.elim (fun h => hlz 4 (by decide) (by rw [← g]; exact h)) (fun h => h (by rw [g]; exact hlA 4 (by decide)))))
        have hb4 : b4 ≤ H4.size := by omega
        have hZn := fun (q : Nat) (h : H4.size ≤ q) => hZn0 q (Nat.le_trans hb4 h)
        refine lv_aload hx hb dL_law_410 (lv_at hl 9 rfl) ?_
        refine lv_iconst (v := 3) hx hb dL_law_412 (by decide) ?_
        refine lv_aload hx hb dL_law_413 (lv_at hl 15 rfl) ?_
        refine lv_iconst (v := 1) hx hb dL_law_415 (by decide) ?_
        refine hk_ild (f := (V 10)) X K hL.c10 (show vp_in (nI 1) 6 from vp_in_nI (by decide) (by decide)) dL_law_416 ?_
        rw [show (V 10) (1 : Int32).toNatClampNeg = nI (cn 8) from hV.g1]
        refine lv_imul hx hb dL_law_417 ?_
        refine lv_topi (fun z_5 ez_5 => ?_)
        have ez_5 : z_5 = nI (3 * (cn 8)) := ez_5.trans (nI_mul 3 (cn 8))
        subst ez_5
        refine lv_iconst (v := 1) hx hb dL_law_418 (by decide) ?_
        refine lv_iadd hx hb dL_law_419 ?_
        refine lv_topi (fun z_6 ez_6 => ?_)
        have ez_6 : z_6 = nI ((3 * (cn 8)) + 1) := ez_6.trans (nI_add (3 * (cn 8)) 1)
        subst ez_6
        refine lv_iload hx hb dL_law_420 (lv_at hl 1 rfl) ?_
        refine lv_iconst (v := 3) hx hb dL_law_422 (by decide) ?_
        refine lv_idiv hx hb dL_law_423 (by decide) ?_
        refine lv_topi (fun z_7 ez_7 => ?_)
        have ez_7 : z_7 = nI (zn / 3) := ez_7.trans (pk_div (a := zn) (d := 3) (by omega) (by omega) (by omega))
        subst ez_7
        refine lv_sipush (v := 3501) hx hb dL_law_424 (by decide) ?_
        refine lv_irem hx hb dL_law_427 (by decide) ?_
        refine lv_topi (fun z_8 ez_8 => ?_)
        have ez_8 : z_8 = nI ((zn / 3) % 3501) := ez_8.trans (pk_rem (a := (zn / 3)) (d := 3501) (by omega) (by omega) (by omega))
        subst ez_8
        refine lv_sipush (v := 500) hx hb dL_law_428 (by decide) ?_
        refine lv_isub hx hb dL_law_431 ?_
        refine lv_topi (fun y9 ey9 => ?_)
        refine hk_ist (f := (upd (V 4) (3 * (cn 8)) (nI (zn % 3000)))) X K hL.c4 hS (hlA 4 (by decide)) (vp_in_nI (by omega) (by omega)) dL_law_432 (fun H9 locsH9 hIH9 hzH9 hqH9 hS => ?_)
        rw [nI_clamp (show ((3 * (cn 8)) + 1) < 2 ^ 31 by omega)] at hIH9
        have hL := hL.set hla (j := 4) (by decide) hIH9 hqH9
        have hW := hW.kept (fun q h1 h2 => hqH9 q (fun g => h2.elim (fun h => hlz 4 (by decide) (by rw [← g]; exact h)) (fun h => h (by rw [g]; exact hlA 4 (by decide)))))
        have hb4 : b4 ≤ H9.size := by omega
        have hZn := fun (q : Nat) (h : H9.size ≤ q) => hZn0 q (Nat.le_trans hb4 h)
        refine lv_aload hx hb dL_law_433 (lv_at hl 9 rfl) ?_
        refine lv_iconst (v := 3) hx hb dL_law_435 (by decide) ?_
        refine lv_aload hx hb dL_law_436 (lv_at hl 15 rfl) ?_
        refine lv_iconst (v := 1) hx hb dL_law_438 (by decide) ?_
        refine hk_ild (f := (V 10)) X K hL.c10 (show vp_in (nI 1) 6 from vp_in_nI (by decide) (by decide)) dL_law_439 ?_
        rw [show (V 10) (1 : Int32).toNatClampNeg = nI (cn 8) from hV.g1]
        refine lv_imul hx hb dL_law_440 ?_
        refine lv_topi (fun z_10 ez_10 => ?_)
        have ez_10 : z_10 = nI (3 * (cn 8)) := ez_10.trans (nI_mul 3 (cn 8))
        subst ez_10
        refine lv_iconst (v := 2) hx hb dL_law_441 (by decide) ?_
        refine lv_iadd hx hb dL_law_442 ?_
        refine lv_topi (fun z_11 ez_11 => ?_)
        have ez_11 : z_11 = nI ((3 * (cn 8)) + 2) := ez_11.trans (nI_add (3 * (cn 8)) 2)
        subst ez_11
        refine lv_iconst (v := 1) hx hb dL_law_443 (by decide) ?_
        refine lv_iload hx hb dL_law_444 (lv_at hl 1 rfl) ?_
        refine lv_iconst (v := 5) hx hb dL_law_446 (by decide) ?_
        refine lv_idiv hx hb dL_law_447 (by decide) ?_
        refine lv_topi (fun z_12 ez_12 => ?_)
        have ez_12 : z_12 = nI (zn / 5) := ez_12.trans (pk_div (a := zn) (d := 5) (by omega) (by omega) (by omega))
        subst ez_12
        refine lv_bipush (v := 20) hx hb dL_law_448 (by decide) ?_
        refine lv_irem hx hb dL_law_450 (by decide) ?_
        refine lv_topi (fun z_13 ez_13 => ?_)
        have ez_13 : z_13 = nI ((zn / 5) % 20) := ez_13.trans (pk_rem (a := (zn / 5)) (d := 20) (by omega) (by omega) (by omega))
        subst ez_13
        refine lv_iadd hx hb dL_law_451 ?_
        refine lv_topi (fun z_14 ez_14 => ?_)
        have ez_14 : z_14 = nI (1 + ((zn / 5) % 20)) := ez_14.trans (nI_add 1 ((zn / 5) % 20))
        subst ez_14
        refine hk_ist (f := (upd (upd (V 4) (3 * (cn 8)) (nI (zn % 3000))) ((3 * (cn 8)) + 1) y9)) X K hL.c4 hS (hlA 4 (by decide)) (vp_in_nI (by omega) (by omega)) dL_law_452 (fun H15 locsH15 hIH15 hzH15 hqH15 hS => ?_)
        rw [nI_clamp (show ((3 * (cn 8)) + 2) < 2 ^ 31 by omega)] at hIH15
        have hL := hL.set hla (j := 4) (by decide) hIH15 hqH15
        have hW := hW.kept (fun q h1 h2 => hqH15 q (fun g => h2.elim (fun h => hlz 4 (by decide) (by rw [← g]; exact h)) (fun h => h (by rw [g]; exact hlA 4 (by decide)))))
        have hb4 : b4 ≤ H15.size := by omega
        have hZn := fun (q : Nat) (h : H15.size ≤ q) => hZn0 q (Nat.le_trans hb4 h)
        refine lv_aload_n hx hb dL_law_453 rfl (lv_at hl 18 rfl) ?_
        refine lv_aload hx hb dL_law_454 (lv_at hl 9 rfl) ?_
        refine lv_iconst (v := 3) hx hb dL_law_456 (by decide) ?_
        refine lv_aload hx hb dL_law_457 (lv_at hl 15 rfl) ?_
        refine lv_iconst (v := 1) hx hb dL_law_459 (by decide) ?_
        refine hk_ild (f := (V 10)) X K hL.c10 (show vp_in (nI 1) 6 from vp_in_nI (by decide) (by decide)) dL_law_460 ?_
        rw [show (V 10) (1 : Int32).toNatClampNeg = nI (cn 8) from hV.g1]
        refine lv_imul hx hb dL_law_461 ?_
        refine lv_topi (fun z_16 ez_16 => ?_)
        have ez_16 : z_16 = nI (3 * (cn 8)) := ez_16.trans (nI_mul 3 (cn 8))
        subst ez_16
        refine hk_ild (f := (upd (upd (upd (V 4) (3 * (cn 8)) (nI (zn % 3000))) ((3 * (cn 8)) + 1) y9) ((3 * (cn 8)) + 2) (nI (1 + ((zn / 5) % 20))))) X K hL.c4 (vp_in_nI (by omega) (by omega)) dL_law_462 ?_
        rw [show (upd (upd (upd (V 4) (3 * (cn 8)) (nI (zn % 3000))) ((3 * (cn 8)) + 1) y9) ((3 * (cn 8)) + 2) (nI (1 + ((zn / 5) % 20)))) (nI (3 * (cn 8))).toNatClampNeg = nI (zn % 3000) from (congrArg _ (nI_clamp (show 3 * cn 8 < 2 ^ 31 by omega))).trans (by rw [upd_ne (by omega), upd_ne (by omega), upd_at])]
        refine lv_aload hx hb dL_law_463 (lv_at hl 9 rfl) ?_
        refine lv_iconst (v := 3) hx hb dL_law_465 (by decide) ?_
        refine lv_aload hx hb dL_law_466 (lv_at hl 15 rfl) ?_
        refine lv_iconst (v := 1) hx hb dL_law_468 (by decide) ?_
        refine hk_ild (f := (V 10)) X K hL.c10 (show vp_in (nI 1) 6 from vp_in_nI (by decide) (by decide)) dL_law_469 ?_
        rw [show (V 10) (1 : Int32).toNatClampNeg = nI (cn 8) from hV.g1]
        refine lv_imul hx hb dL_law_470 ?_
        refine lv_topi (fun z_17 ez_17 => ?_)
        have ez_17 : z_17 = nI (3 * (cn 8)) := ez_17.trans (nI_mul 3 (cn 8))
        subst ez_17
        refine lv_iconst (v := 1) hx hb dL_law_471 (by decide) ?_
        refine lv_iadd hx hb dL_law_472 ?_
        refine lv_topi (fun z_18 ez_18 => ?_)
        have ez_18 : z_18 = nI ((3 * (cn 8)) + 1) := ez_18.trans (nI_add (3 * (cn 8)) 1)
        subst ez_18
        refine hk_ild (f := (upd (upd (upd (V 4) (3 * (cn 8)) (nI (zn % 3000))) ((3 * (cn 8)) + 1) y9) ((3 * (cn 8)) + 2) (nI (1 + ((zn / 5) % 20))))) X K hL.c4 (vp_in_nI (by omega) (by omega)) dL_law_473 ?_
        rw [show (upd (upd (upd (V 4) (3 * (cn 8)) (nI (zn % 3000))) ((3 * (cn 8)) + 1) y9) ((3 * (cn 8)) + 2) (nI (1 + ((zn / 5) % 20)))) (nI ((3 * (cn 8)) + 1)).toNatClampNeg = y9 from (congrArg _ (nI_clamp (show 3 * cn 8 + 1 < 2 ^ 31 by omega))).trans (by rw [upd_ne (by omega), upd_at])]
        refine lv_aload hx hb dL_law_474 (lv_at hl 9 rfl) ?_
        refine lv_iconst (v := 3) hx hb dL_law_476 (by decide) ?_
        refine lv_aload hx hb dL_law_477 (lv_at hl 15 rfl) ?_
        refine lv_iconst (v := 1) hx hb dL_law_479 (by decide) ?_
        refine hk_ild (f := (V 10)) X K hL.c10 (show vp_in (nI 1) 6 from vp_in_nI (by decide) (by decide)) dL_law_480 ?_
        rw [show (V 10) (1 : Int32).toNatClampNeg = nI (cn 8) from hV.g1]
        refine lv_imul hx hb dL_law_481 ?_
        refine lv_topi (fun z_19 ez_19 => ?_)
        have ez_19 : z_19 = nI (3 * (cn 8)) := ez_19.trans (nI_mul 3 (cn 8))
        subst ez_19
        refine lv_iconst (v := 2) hx hb dL_law_482 (by decide) ?_
        refine lv_iadd hx hb dL_law_483 ?_
        refine lv_topi (fun z_20 ez_20 => ?_)
        have ez_20 : z_20 = nI ((3 * (cn 8)) + 2) := ez_20.trans (nI_add (3 * (cn 8)) 2)
        subst ez_20
        refine hk_ild (f := (upd (upd (upd (V 4) (3 * (cn 8)) (nI (zn % 3000))) ((3 * (cn 8)) + 1) y9) ((3 * (cn 8)) + 2) (nI (1 + ((zn / 5) % 20))))) X K hL.c4 (vp_in_nI (by omega) (by omega)) dL_law_484 ?_
        rw [show (upd (upd (upd (V 4) (3 * (cn 8)) (nI (zn % 3000))) ((3 * (cn 8)) + 1) y9) ((3 * (cn 8)) + 2) (nI (1 + ((zn / 5) % 20)))) (nI ((3 * (cn 8)) + 2)).toNatClampNeg = nI (1 + zn / 5 % 20) from (congrArg _ (nI_clamp (show 3 * cn 8 + 2 < 2 ^ 31 by omega))).trans (by rw [upd_at])]
        have hcd0 : cd_plate (nI (zn % 3000)) y9 (nI (1 + zn / 5 % 20)) (cn, sc, μ) = 0 := plat_c (by omega) (by rw [ey9]; exact sub_rng (c := 500) (by omega) (by omega) (by show (-500 : Int) ≤ _; omega) (by show _ ≤ (3000 : Int); omega)) (by omega) (by omega) h8
        refine hk_callVx 3 (As := [.int (nI (zn % 3000)), .int y9, .int (nI (1 + zn / 5 % 20))]) (rest := []) X K hAE hS hl.1 (HW.o hW) rfl (c_X10_plate E l hl9 H15 hW hI hZn (p0 := nI (zn % 3000)) (p1 := y9) (p2 := nI (1 + zn / 5 % 20))) hZA gL_law_X10_plate rfl ⟨rfl, hd_X10_plate⟩ rfl ⟨⟨(Nat.le_of_ble_eq_true rfl), (Nat.le_of_ble_eq_true rfl)⟩, (by show cells + 12 ≤ 664990; omega), (by show slots + 600 ≤ 7106859; omega)⟩ rfl (Nat.le_of_ble_eq_true rfl) dL_law_485 (fun x9 ce9 q9 H9 locs9 hp hS hz9 hk9 hce hcv hcl => by
            obtain ⟨hcs, -⟩ := hp
            rw [hcd0] at hcs
            rcases hcs with ⟨h, -⟩ | ⟨h, -⟩ | ⟨h, -⟩ <;> exact absurd h (by decide)
          ) (fun v9 H21 locsH21 hp hS hzH21 hkH21 => ?_)
        obtain ⟨-, hv, G, R, hW⟩ := hp
        subst hv
        have hL := hL.kept (fun k hk => hkH21 (la k) (hL.lt hk) (hlz k hk))
        have hb4 := Nat.le_trans hb4 hzH21
        have hZn := fun (q : Nat) (h : H21.size ≤ q) => hZn0 q (Nat.le_trans hb4 h)
        refine lv_aload hx hb dL_law_488 (lv_at hl 15 rfl) ?_
        refine lv_iconst (v := 1) hx hb dL_law_490 (by decide) ?_
        refine hk_ild (f := (V 10)) X K hL.c10 (show vp_in (nI 1) 6 from vp_in_nI (by decide) (by decide)) dL_law_491 ?_
        rw [show (V 10) (1 : Int32).toNatClampNeg = nI (cn 8) from hV.g1]
        refine lv_icmp_ne (tgt := 499) hx hb dL_law_492 (by decide) (fun c_492 => ?_) (fun c_492 => ?_)
        · exact (c_492 (rfl)).elim
        · refine lv_iconst (v := 1) hx hb dL_law_495 (by decide) ?_
          refine lv_goto (tgt := 500) hx hb dL_law_496 (by decide) ?_
          refine lv_istore (lv' := [(15, .int 1), (20, .int (nI st9)), (19, .int (nI zn)), (18, .int kd), (16, .int (nI tn)), (2, .ref (la 0)), (3, .ref (la 1)), (4, .ref (la 2)), (5, .ref (la 3)), (6, .ref (la 4)), (7, .ref (la 5)), (8, .ref (la 6)), (9, .ref (la 7)), (10, .ref (la 8)), (11, .ref (la 9)), (12, .ref (la 10)), (13, .ref (la 11)), (14, .ref (la 12)), (1, .ref ho), (0, .ref b)]) hx hb dL_law_500 hl (by decide) rfl (fun ls hl => ?_)
          refine lv_aload hx hb dL_law_502 (lv_at hl 15 rfl) ?_
          refine lv_iconst (v := 1) hx hb dL_law_504 (by decide) ?_
          refine lv_dup2_11 hx hb dL_law_505 rfl rfl ?_
          refine hk_ild (f := (V 10)) X K hL.c10 (show vp_in (nI 1) 6 from vp_in_nI (by decide) (by decide)) dL_law_506 ?_
          rw [show (V 10) (1 : Int32).toNatClampNeg = nI (cn 8) from hV.g1]
          refine lv_iconst (v := 1) hx hb dL_law_507 (by decide) ?_
          refine lv_iadd hx hb dL_law_508 ?_
          refine lv_topi (fun z_22 ez_22 => ?_)
          have ez_22 : z_22 = nI ((cn 8) + 1) := ez_22.trans (nI_add (cn 8) 1)
          subst ez_22
          refine hk_ist (f := (V 10)) X K hL.c10 hS (hlA 10 (by decide)) (show vp_in (nI 1) 6 from vp_in_nI (by decide) (by decide)) dL_law_509 (fun H23 locsH23 hIH23 hzH23 hqH23 hS => ?_)
          rw [show (1 : Int32).toNatClampNeg = 1 from rfl] at hIH23
          have hL := hL.set hla (j := 10) (by decide) hIH23 hqH23
          have hW := hW.kept (fun q h1 h2 => hqH23 q (fun g => h2.elim (fun h => hlz 10 (by decide) (by rw [← g]; exact h)) (fun h => h (by rw [g]; exact hlA 10 (by decide)))))
          have hb4 : b4 ≤ H23.size := by omega
          have hZn := fun (q : Nat) (h : H23.size ≤ q) => hZn0 q (Nat.le_trans hb4 h)
          refine lv_goto (tgt := 2061) hx hb dL_law_510 (by decide) ?_
          refine W.widen (k := cells + 40) (n := slots + 2000) (by show cells + 12 ≤ _; omega) (by show slots + 600 ≤ _; omega) ?_
          have hV9 := lv_plate hV h8 (x := nI (zn % 3000)) (y := y9) (z := nI (1 + zn / 5 % 20))
          exact J2061 H23 _ ⟨G, R, _, _, invF_plate hI hcd0, hV9, hW, LW.mk13 hL.c0 hL.c1 hL.c2 hL.c3 hL.c4 hL.c5 hL.c6 hL.c7 hL.c8 hL.c9 hL.c10 hL.c11 hL.c12, hS, hb4, ⟨fun h => absurd h (by omega), fun _ => h2⟩⟩ _ (lv_sub hl [2, 4, 0, 5, 6, 7, 8, 9, 10, 11, 12, 13, 14, 15, 16, 17, 18, 19] rfl)
      · refine lv_ldc hx hb hown (hts (.constant RL 141 (10000000)) (by decide +kernel)) dL_law_400 ?_
        refine lv_goto (tgt := 408) hx hb dL_law_402 (by decide) ?_
        refine lv_irem hx hb dL_law_408 (by decide) ?_
        refine lv_topi (fun z_24 ez_24 => ?_)
        have ez_24 : z_24 = nI (zn % 10000000) := ez_24.trans (pk_rem (a := zn) (d := 10000000) (by omega) (by omega) (by omega))
        subst ez_24
        refine hk_ist (f := (V 4)) X K hL.c4 hS (hlA 4 (by decide)) (vp_in_nI (by omega) (by omega)) dL_law_409 (fun H25 locsH25 hIH25 hzH25 hqH25 hS => ?_)
        rw [nI_clamp (show (3 * (cn 8)) < 2 ^ 31 by omega)] at hIH25
        have hL := hL.set hla (j := 4) (by decide) hIH25 hqH25
        have hW := hW.kept (fun q h1 h2 => hqH25 q (fun g => h2.elim (fun h => hlz 4 (by decide) (by rw [← g]; exact h)) (fun h => h (by rw [g]; exact hlA 4 (by decide)))))
        have hb4 : b4 ≤ H25.size := by omega
        have hZn := fun (q : Nat) (h : H25.size ≤ q) => hZn0 q (Nat.le_trans hb4 h)
        refine lv_aload hx hb dL_law_410 (lv_at hl 9 rfl) ?_
        refine lv_iconst (v := 3) hx hb dL_law_412 (by decide) ?_
        refine lv_aload hx hb dL_law_413 (lv_at hl 15 rfl) ?_
        refine lv_iconst (v := 1) hx hb dL_law_415 (by decide) ?_
        refine hk_ild (f := (V 10)) X K hL.c10 (show vp_in (nI 1) 6 from vp_in_nI (by decide) (by decide)) dL_law_416 ?_
        rw [show (V 10) (1 : Int32).toNatClampNeg = nI (cn 8) from hV.g1]
        refine lv_imul hx hb dL_law_417 ?_
        refine lv_topi (fun z_26 ez_26 => ?_)
        have ez_26 : z_26 = nI (3 * (cn 8)) := ez_26.trans (nI_mul 3 (cn 8))
        subst ez_26
        refine lv_iconst (v := 1) hx hb dL_law_418 (by decide) ?_
        refine lv_iadd hx hb dL_law_419 ?_
        refine lv_topi (fun z_27 ez_27 => ?_)
        have ez_27 : z_27 = nI ((3 * (cn 8)) + 1) := ez_27.trans (nI_add (3 * (cn 8)) 1)
        subst ez_27
        refine lv_iload hx hb dL_law_420 (lv_at hl 1 rfl) ?_
        refine lv_iconst (v := 3) hx hb dL_law_422 (by decide) ?_
        refine lv_idiv hx hb dL_law_423 (by decide) ?_
        refine lv_topi (fun z_28 ez_28 => ?_)
        have ez_28 : z_28 = nI (zn / 3) := ez_28.trans (pk_div (a := zn) (d := 3) (by omega) (by omega) (by omega))
        subst ez_28
        refine lv_sipush (v := 3501) hx hb dL_law_424 (by decide) ?_
        refine lv_irem hx hb dL_law_427 (by decide) ?_
        refine lv_topi (fun z_29 ez_29 => ?_)
        have ez_29 : z_29 = nI ((zn / 3) % 3501) := ez_29.trans (pk_rem (a := (zn / 3)) (d := 3501) (by omega) (by omega) (by omega))
        subst ez_29
        refine lv_sipush (v := 500) hx hb dL_law_428 (by decide) ?_
        refine lv_isub hx hb dL_law_431 ?_
        refine lv_topi (fun y9 ey9 => ?_)
        refine hk_ist (f := (upd (V 4) (3 * (cn 8)) (nI (zn % 10000000)))) X K hL.c4 hS (hlA 4 (by decide)) (vp_in_nI (by omega) (by omega)) dL_law_432 (fun H30 locsH30 hIH30 hzH30 hqH30 hS => ?_)
        rw [nI_clamp (show ((3 * (cn 8)) + 1) < 2 ^ 31 by omega)] at hIH30
        have hL := hL.set hla (j := 4) (by decide) hIH30 hqH30
        have hW := hW.kept (fun q h1 h2 => hqH30 q (fun g => h2.elim (fun h => hlz 4 (by decide) (by rw [← g]; exact h)) (fun h => h (by rw [g]; exact hlA 4 (by decide)))))
        have hb4 : b4 ≤ H30.size := by omega
        have hZn := fun (q : Nat) (h : H30.size ≤ q) => hZn0 q (Nat.le_trans hb4 h)
        refine lv_aload hx hb dL_law_433 (lv_at hl 9 rfl) ?_
        refine lv_iconst (v := 3) hx hb dL_law_435 (by decide) ?_
        refine lv_aload hx hb dL_law_436 (lv_at hl 15 rfl) ?_
        refine lv_iconst (v := 1) hx hb dL_law_438 (by decide) ?_
        refine hk_ild (f := (V 10)) X K hL.c10 (show vp_in (nI 1) 6 from vp_in_nI (by decide) (by decide)) dL_law_439 ?_
        rw [show (V 10) (1 : Int32).toNatClampNeg = nI (cn 8) from hV.g1]
        refine lv_imul hx hb dL_law_440 ?_
        refine lv_topi (fun z_31 ez_31 => ?_)
        have ez_31 : z_31 = nI (3 * (cn 8)) := ez_31.trans (nI_mul 3 (cn 8))
        subst ez_31
        refine lv_iconst (v := 2) hx hb dL_law_441 (by decide) ?_
        refine lv_iadd hx hb dL_law_442 ?_
        refine lv_topi (fun z_32 ez_32 => ?_)
        have ez_32 : z_32 = nI ((3 * (cn 8)) + 2) := ez_32.trans (nI_add (3 * (cn 8)) 2)
        subst ez_32
        refine lv_iconst (v := 1) hx hb dL_law_443 (by decide) ?_
        refine lv_iload hx hb dL_law_444 (lv_at hl 1 rfl) ?_
        refine lv_iconst (v := 5) hx hb dL_law_446 (by decide) ?_
        refine lv_idiv hx hb dL_law_447 (by decide) ?_
        refine lv_topi (fun z_33 ez_33 => ?_)
        have ez_33 : z_33 = nI (zn / 5) := ez_33.trans (pk_div (a := zn) (d := 5) (by omega) (by omega) (by omega))
        subst ez_33
        refine lv_bipush (v := 20) hx hb dL_law_448 (by decide) ?_
        refine lv_irem hx hb dL_law_450 (by decide) ?_
        refine lv_topi (fun z_34 ez_34 => ?_)
        have ez_34 : z_34 = nI ((zn / 5) % 20) := ez_34.trans (pk_rem (a := (zn / 5)) (d := 20) (by omega) (by omega) (by omega))
        subst ez_34
        refine lv_iadd hx hb dL_law_451 ?_
        refine lv_topi (fun z_35 ez_35 => ?_)
        have ez_35 : z_35 = nI (1 + ((zn / 5) % 20)) := ez_35.trans (nI_add 1 ((zn / 5) % 20))
        subst ez_35
        refine hk_ist (f := (upd (upd (V 4) (3 * (cn 8)) (nI (zn % 10000000))) ((3 * (cn 8)) + 1) y9)) X K hL.c4 hS (hlA 4 (by decide)) (vp_in_nI (by omega) (by omega)) dL_law_452 (fun H36 locsH36 hIH36 hzH36 hqH36 hS => ?_)
        rw [nI_clamp (show ((3 * (cn 8)) + 2) < 2 ^ 31 by omega)] at hIH36
        have hL := hL.set hla (j := 4) (by decide) hIH36 hqH36
        have hW := hW.kept (fun q h1 h2 => hqH36 q (fun g => h2.elim (fun h => hlz 4 (by decide) (by rw [← g]; exact h)) (fun h => h (by rw [g]; exact hlA 4 (by decide)))))
        have hb4 : b4 ≤ H36.size := by omega
        have hZn := fun (q : Nat) (h : H36.size ≤ q) => hZn0 q (Nat.le_trans hb4 h)
        refine lv_aload_n hx hb dL_law_453 rfl (lv_at hl 18 rfl) ?_
        refine lv_aload hx hb dL_law_454 (lv_at hl 9 rfl) ?_
        refine lv_iconst (v := 3) hx hb dL_law_456 (by decide) ?_
        refine lv_aload hx hb dL_law_457 (lv_at hl 15 rfl) ?_
        refine lv_iconst (v := 1) hx hb dL_law_459 (by decide) ?_
        refine hk_ild (f := (V 10)) X K hL.c10 (show vp_in (nI 1) 6 from vp_in_nI (by decide) (by decide)) dL_law_460 ?_
        rw [show (V 10) (1 : Int32).toNatClampNeg = nI (cn 8) from hV.g1]
        refine lv_imul hx hb dL_law_461 ?_
        refine lv_topi (fun z_37 ez_37 => ?_)
        have ez_37 : z_37 = nI (3 * (cn 8)) := ez_37.trans (nI_mul 3 (cn 8))
        subst ez_37
        refine hk_ild (f := (upd (upd (upd (V 4) (3 * (cn 8)) (nI (zn % 10000000))) ((3 * (cn 8)) + 1) y9) ((3 * (cn 8)) + 2) (nI (1 + ((zn / 5) % 20))))) X K hL.c4 (vp_in_nI (by omega) (by omega)) dL_law_462 ?_
        rw [show (upd (upd (upd (V 4) (3 * (cn 8)) (nI (zn % 10000000))) ((3 * (cn 8)) + 1) y9) ((3 * (cn 8)) + 2) (nI (1 + ((zn / 5) % 20)))) (nI (3 * (cn 8))).toNatClampNeg = nI (zn % 10000000) from (congrArg _ (nI_clamp (show 3 * cn 8 < 2 ^ 31 by omega))).trans (by rw [upd_ne (by omega), upd_ne (by omega), upd_at])]
        refine lv_aload hx hb dL_law_463 (lv_at hl 9 rfl) ?_
        refine lv_iconst (v := 3) hx hb dL_law_465 (by decide) ?_
        refine lv_aload hx hb dL_law_466 (lv_at hl 15 rfl) ?_
        refine lv_iconst (v := 1) hx hb dL_law_468 (by decide) ?_
        refine hk_ild (f := (V 10)) X K hL.c10 (show vp_in (nI 1) 6 from vp_in_nI (by decide) (by decide)) dL_law_469 ?_
        rw [show (V 10) (1 : Int32).toNatClampNeg = nI (cn 8) from hV.g1]
        refine lv_imul hx hb dL_law_470 ?_
        refine lv_topi (fun z_38 ez_38 => ?_)
        have ez_38 : z_38 = nI (3 * (cn 8)) := ez_38.trans (nI_mul 3 (cn 8))
        subst ez_38
        refine lv_iconst (v := 1) hx hb dL_law_471 (by decide) ?_
        refine lv_iadd hx hb dL_law_472 ?_
        refine lv_topi (fun z_39 ez_39 => ?_)
        have ez_39 : z_39 = nI ((3 * (cn 8)) + 1) := ez_39.trans (nI_add (3 * (cn 8)) 1)
        subst ez_39
        refine hk_ild (f := (upd (upd (upd (V 4) (3 * (cn 8)) (nI (zn % 10000000))) ((3 * (cn 8)) + 1) y9) ((3 * (cn 8)) + 2) (nI (1 + ((zn / 5) % 20))))) X K hL.c4 (vp_in_nI (by omega) (by omega)) dL_law_473 ?_
        rw [show (upd (upd (upd (V 4) (3 * (cn 8)) (nI (zn % 10000000))) ((3 * (cn 8)) + 1) y9) ((3 * (cn 8)) + 2) (nI (1 + ((zn / 5) % 20)))) (nI ((3 * (cn 8)) + 1)).toNatClampNeg = y9 from (congrArg _ (nI_clamp (show 3 * cn 8 + 1 < 2 ^ 31 by omega))).trans (by rw [upd_ne (by omega), upd_at])]
        refine lv_aload hx hb dL_law_474 (lv_at hl 9 rfl) ?_
        refine lv_iconst (v := 3) hx hb dL_law_476 (by decide) ?_
        refine lv_aload hx hb dL_law_477 (lv_at hl 15 rfl) ?_
        refine lv_iconst (v := 1) hx hb dL_law_479 (by decide) ?_
        refine hk_ild (f := (V 10)) X K hL.c10 (show vp_in (nI 1) 6 from vp_in_nI (by decide) (by decide)) dL_law_480 ?_
        rw [show (V 10) (1 : Int32).toNatClampNeg = nI (cn 8) from hV.g1]
        refine lv_imul hx hb dL_law_481 ?_
        refine lv_topi (fun z_40 ez_40 => ?_)
        have ez_40 : z_40 = nI (3 * (cn 8)) := ez_40.trans (nI_mul 3 (cn 8))
        subst ez_40
        refine lv_iconst (v := 2) hx hb dL_law_482 (by decide) ?_
        refine lv_iadd hx hb dL_law_483 ?_
        refine lv_topi (fun z_41 ez_41 => ?_)
        have ez_41 : z_41 = nI ((3 * (cn 8)) + 2) := ez_41.trans (nI_add (3 * (cn 8)) 2)
        subst ez_41
        refine hk_ild (f := (upd (upd (upd (V 4) (3 * (cn 8)) (nI (zn % 10000000))) ((3 * (cn 8)) + 1) y9) ((3 * (cn 8)) + 2) (nI (1 + ((zn / 5) % 20))))) X K hL.c4 (vp_in_nI (by omega) (by omega)) dL_law_484 ?_
        rw [show (upd (upd (upd (V 4) (3 * (cn 8)) (nI (zn % 10000000))) ((3 * (cn 8)) + 1) y9) ((3 * (cn 8)) + 2) (nI (1 + ((zn / 5) % 20)))) (nI ((3 * (cn 8)) + 2)).toNatClampNeg = nI (1 + zn / 5 % 20) from (congrArg _ (nI_clamp (show 3 * cn 8 + 2 < 2 ^ 31 by omega))).trans (by rw [upd_at])]
        have hcd0 : cd_plate (nI (zn % 10000000)) y9 (nI (1 + zn / 5 % 20)) (cn, sc, μ) = 0 := plat_c (by omega) (by rw [ey9]; exact sub_rng (c := 500) (by omega) (by omega) (by show (-500 : Int) ≤ _; omega) (by show _ ≤ (3000 : Int); omega)) (by omega) (by omega) h8
        refine hk_callVx 3 (As := [.int (nI (zn % 10000000)), .int y9, .int (nI (1 + zn / 5 % 20))]) (rest := []) X K hAE hS hl.1 (HW.o hW) rfl (c_X10_plate E l hl9 H36 hW hI hZn (p0 := nI (zn % 10000000)) (p1 := y9) (p2 := nI (1 + zn / 5 % 20))) hZA gL_law_X10_plate rfl ⟨rfl, hd_X10_plate⟩ rfl ⟨⟨(Nat.le_of_ble_eq_true rfl), (Nat.le_of_ble_eq_true rfl)⟩, (by show cells + 12 ≤ 664990; omega), (by show slots + 600 ≤ 7106859; omega)⟩ rfl (Nat.le_of_ble_eq_true rfl) dL_law_485 (fun x9 ce9 q9 H9 locs9 hp hS hz9 hk9 hce hcv hcl => by
            obtain ⟨hcs, -⟩ := hp
            rw [hcd0] at hcs
            rcases hcs with ⟨h, -⟩ | ⟨h, -⟩ | ⟨h, -⟩ <;> exact absurd h (by decide)
          ) (fun v9 H42 locsH42 hp hS hzH42 hkH42 => ?_)
        obtain ⟨-, hv, G, R, hW⟩ := hp
        subst hv
        have hL := hL.kept (fun k hk => hkH42 (la k) (hL.lt hk) (hlz k hk))
        have hb4 := Nat.le_trans hb4 hzH42
        have hZn := fun (q : Nat) (h : H42.size ≤ q) => hZn0 q (Nat.le_trans hb4 h)
        refine lv_aload hx hb dL_law_488 (lv_at hl 15 rfl) ?_
        refine lv_iconst (v := 1) hx hb dL_law_490 (by decide) ?_
        refine hk_ild (f := (V 10)) X K hL.c10 (show vp_in (nI 1) 6 from vp_in_nI (by decide) (by decide)) dL_law_491 ?_
        rw [show (V 10) (1 : Int32).toNatClampNeg = nI (cn 8) from hV.g1]
        refine lv_icmp_ne (tgt := 499) hx hb dL_law_492 (by decide) (fun c_492 => ?_) (fun c_492 => ?_)
        · exact (c_492 (rfl)).elim
        · refine lv_iconst (v := 1) hx hb dL_law_495 (by decide) ?_
          refine lv_goto (tgt := 500) hx hb dL_law_496 (by decide) ?_
          refine lv_istore (lv' := [(15, .int 1), (20, .int (nI st9)), (19, .int (nI zn)), (18, .int kd), (16, .int (nI tn)), (2, .ref (la 0)), (3, .ref (la 1)), (4, .ref (la 2)), (5, .ref (la 3)), (6, .ref (la 4)), (7, .ref (la 5)), (8, .ref (la 6)), (9, .ref (la 7)), (10, .ref (la 8)), (11, .ref (la 9)), (12, .ref (la 10)), (13, .ref (la 11)), (14, .ref (la 12)), (1, .ref ho), (0, .ref b)]) hx hb dL_law_500 hl (by decide) rfl (fun ls hl => ?_)
          refine lv_aload hx hb dL_law_502 (lv_at hl 15 rfl) ?_
          refine lv_iconst (v := 1) hx hb dL_law_504 (by decide) ?_
          refine lv_dup2_11 hx hb dL_law_505 rfl rfl ?_
          refine hk_ild (f := (V 10)) X K hL.c10 (show vp_in (nI 1) 6 from vp_in_nI (by decide) (by decide)) dL_law_506 ?_
          rw [show (V 10) (1 : Int32).toNatClampNeg = nI (cn 8) from hV.g1]
          refine lv_iconst (v := 1) hx hb dL_law_507 (by decide) ?_
          refine lv_iadd hx hb dL_law_508 ?_
          refine lv_topi (fun z_43 ez_43 => ?_)
          have ez_43 : z_43 = nI ((cn 8) + 1) := ez_43.trans (nI_add (cn 8) 1)
          subst ez_43
          refine hk_ist (f := (V 10)) X K hL.c10 hS (hlA 10 (by decide)) (show vp_in (nI 1) 6 from vp_in_nI (by decide) (by decide)) dL_law_509 (fun H44 locsH44 hIH44 hzH44 hqH44 hS => ?_)
          rw [show (1 : Int32).toNatClampNeg = 1 from rfl] at hIH44
          have hL := hL.set hla (j := 10) (by decide) hIH44 hqH44
          have hW := hW.kept (fun q h1 h2 => hqH44 q (fun g => h2.elim (fun h => hlz 10 (by decide) (by rw [← g]; exact h)) (fun h => h (by rw [g]; exact hlA 10 (by decide)))))
          have hb4 : b4 ≤ H44.size := by omega
          have hZn := fun (q : Nat) (h : H44.size ≤ q) => hZn0 q (Nat.le_trans hb4 h)
          refine lv_goto (tgt := 2061) hx hb dL_law_510 (by decide) ?_
          refine W.widen (k := cells + 40) (n := slots + 2000) (by show cells + 12 ≤ _; omega) (by show slots + 600 ≤ _; omega) ?_
          have hV9 := lv_plate hV h8 (x := nI (zn % 10000000)) (y := y9) (z := nI (1 + zn / 5 % 20))
          exact J2061 H44 _ ⟨G, R, _, _, invF_plate hI hcd0, hV9, hW, LW.mk13 hL.c0 hL.c1 hL.c2 hL.c3 hL.c4 hL.c5 hL.c6 hL.c7 hL.c8 hL.c9 hL.c10 hL.c11 hL.c12, hS, hb4, ⟨fun h => absurd h (by omega), fun _ => h2⟩⟩ _ (lv_sub hl [2, 4, 0, 5, 6, 7, 8, 9, 10, 11, 12, 13, 14, 15, 16, 17, 18, 19] rfl)

set_option maxHeartbeats 4000000 in
set_option maxRecDepth 100000 in
theorem k_310 {p : Program} {l : Launch} {e : Env} {s : State} {m : MethodId} {below : List Frame} {meth : Method} {c : Code} {b L : Nat} {xs : Nat → Int32} {E : hk_E} {Z : Nat → Prop} {ho ts b4 : Nat} {li : Nat → Nat} {rr : Nat → Nat → Nat} {la : Nat → Nat} (G0 : lw_G p l s m meth c b L xs E Z la b4) {H : Heap} {locs : List Loc} {cells slots tn zn st9 : Nat} {kd : Int32} (hJ0 : lw_J E Z ho ts li rr la b4 s (fun S => 2 ≤ S.1 1 ∧ st9 < S.1 1) H locs) (hz31 : zn < 2 ^ 31) (ht2 : 2 ≤ tn) (hce : cells + 40 ≤ 664990) (hsl : slots + 2000 ≤ 7106859) {ls : Array Slot} (hl : lv_has ls 26 [(20, .int (nI st9)), (19, .int (nI zn)), (18, .int kd), (16, .int (nI tn)), (15, .int 1), (2, .ref (la 0)), (3, .ref (la 1)), (4, .ref (la 2)), (5, .ref (la 3)), (6, .ref (la 4)), (7, .ref (la 5)), (8, .ref (la 6)), (9, .ref (la 7)), (10, .ref (la 8)), (11, .ref (la 9)), (12, .ref (la 10)), (13, .ref (la 11)), (14, .ref (la 12)), (1, .ref ho), (0, .ref b)])
  (J2061 : ∀ (H1 : Heap) (locs1 : List Loc), lw_J E Z ho ts li rr la b4 s (fun S => tI (tn + 1) (S.1 1)) H1 locs1 → ∀ (ls : Array Slot), lv_has ls 26 [(19, .int (nI zn)), (16, .int (nI tn)), (15, .int 1), (2, .ref (la 0)), (3, .ref (la 1)), (4, .ref (la 2)), (5, .ref (la 3)), (6, .ref (la 4)), (7, .ref (la 5)), (8, .ref (la 6)), (9, .ref (la 7)), (10, .ref (la 8)), (11, .ref (la 9)), (12, .ref (la 10)), (13, .ref (la 11)), (14, .ref (la 12)), (1, .ref ho), (0, .ref b)] → W p l e room_1 s m #[Value.ref b] below meth c H1 locs1 (cells + 40) (slots + 2000) (lw_Z below #[Value.ref b] s) (F0 m 2061 ls [])) : W p l e room_1 s m #[Value.ref b] below meth c H locs cells slots (lw_Z below #[Value.ref b] s) (F0 m 310 ls []) := by
  obtain ⟨hl9, hLL, C0, X, K, hE, hZn0, hlz, hla, hlA⟩ := id G0
  obtain ⟨G, R, V, ⟨cn, sc, μ⟩, hI, hV, hW, hL, hS, hb4, ⟨h2, hst⟩⟩ := hJ0
  obtain ⟨hx, hb, hr, hml, hown, hts, hXs, hbl, hlocks, -⟩ := id C0
  have hAE : ∀ q, hk_A E q → hk_A E q := fun _ h => h
  have hZA : ∀ q, Z q → hk_A E q := hW.2.2.2.2.2.2.2.2.2.2.2.2
  have hZn : ∀ q, H.size ≤ q → Z q := fun q h => hZn0 q (Nat.le_trans hb4 h)
  have hn1 : cn 1 ≤ 4 := hV.n1
  have hn8 : cn 8 ≤ 3 := hV.n8
  have hn12 : cn 12 ≤ 24 := hV.n12
  have hn22 : cn 22 ≤ 4 := hV.n22
  have hn29 : cn 29 ≤ 8 := hV.n29
  have h2 : 2 ≤ cn 1 := h2
  have hst : st9 < cn 1 := hst
  refine lv_iload hx hb dL_law_310 (lv_at hl 2 rfl) ?_
  refine lv_iconst (v := 1) hx hb dL_law_312 (by decide) ?_
  refine lv_icmp_ne (tgt := 369) hx hb dL_law_313 (by decide) (fun c_313 => ?_) (fun c_313 => ?_)
  · exact k_369 G0 ⟨G, R, V, (cn, sc, μ), hI, hV, hW, hL, hS, hb4, ⟨h2, hst⟩⟩ hz31 ht2 hce hsl hl J2061
  · refine lv_iload hx hb dL_law_316 (lv_at hl 1 rfl) ?_
    refine lv_bipush (v := 10) hx hb dL_law_318 (by decide) ?_
    refine lv_irem hx hb dL_law_320 (by decide) ?_
    refine lv_topi (fun z_1 ez_1 => ?_)
    have ez_1 : z_1 = nI (zn % 10) := ez_1.trans (pk_rem (a := zn) (d := 10) (by omega) (by omega) (by omega))
    subst ez_1
    refine lv_istore (lv' := [(21, .int (nI (zn % 10))), (20, .int (nI st9)), (19, .int (nI zn)), (18, .int kd), (16, .int (nI tn)), (15, .int 1), (2, .ref (la 0)), (3, .ref (la 1)), (4, .ref (la 2)), (5, .ref (la 3)), (6, .ref (la 4)), (7, .ref (la 5)), (8, .ref (la 6)), (9, .ref (la 7)), (10, .ref (la 8)), (11, .ref (la 9)), (12, .ref (la 10)), (13, .ref (la 11)), (14, .ref (la 12)), (1, .ref ho), (0, .ref b)]) hx hb dL_law_321 hl (by decide) rfl (fun ls hl => ?_)
    refine lv_iload hx hb dL_law_323 (lv_at hl 2 rfl) ?_
    refine lv_bipush (v := 10) hx hb dL_law_325 (by decide) ?_
    refine lv_idiv hx hb dL_law_327 (by decide) ?_
    refine lv_topi (fun z_2 ez_2 => ?_)
    have ez_2 : z_2 = nI (zn / 10) := ez_2.trans (pk_div (a := zn) (d := 10) (by omega) (by omega) (by omega))
    subst ez_2
    refine lv_sipush (v := 2201) hx hb dL_law_328 (by decide) ?_
    refine lv_irem hx hb dL_law_331 (by decide) ?_
    refine lv_topi (fun z_3 ez_3 => ?_)
    have ez_3 : z_3 = nI ((zn / 10) % 2201) := ez_3.trans (pk_rem (a := (zn / 10)) (d := 2201) (by omega) (by omega) (by omega))
    subst ez_3
    refine lv_sipush (v := 200) hx hb dL_law_332 (by decide) ?_
    refine lv_isub hx hb dL_law_335 ?_
    refine lv_topi (fun v9 ev9 => ?_)
    refine lv_istore (lv' := [(22, .int v9), (21, .int (nI (zn % 10))), (20, .int (nI st9)), (19, .int (nI zn)), (18, .int kd), (16, .int (nI tn)), (15, .int 1), (2, .ref (la 0)), (3, .ref (la 1)), (4, .ref (la 2)), (5, .ref (la 3)), (6, .ref (la 4)), (7, .ref (la 5)), (8, .ref (la 6)), (9, .ref (la 7)), (10, .ref (la 8)), (11, .ref (la 9)), (12, .ref (la 10)), (13, .ref (la 11)), (14, .ref (la 12)), (1, .ref ho), (0, .ref b)]) hx hb dL_law_336 hl (by decide) rfl (fun ls hl => ?_)
    refine lv_aload_n hx hb dL_law_338 rfl (lv_at hl 20 rfl) ?_
    refine lv_iload hx hb dL_law_339 (lv_at hl 1 rfl) ?_
    refine lv_iload hx hb dL_law_341 (lv_at hl 0 rfl) ?_
    have hcd0 : cd_comparison (nI (zn % 10)) v9 (cn, sc, μ) = 0 := comp_c (by omega) (by rw [ev9]; exact sub_rng (c := 200) (by omega) (by omega) (by show (-200 : Int) ≤ _; omega) (by show _ ≤ (2000 : Int); omega))
    refine hk_callVx 2 (As := [.int (nI (zn % 10)), .int v9]) (rest := []) X K hAE hS hl.1 (HW.o hW) rfl (c_X10_comparison E l hl9 H hW hI hZn (p0 := nI (zn % 10)) (p1 := v9)) hZA gL_law_X10_comparison rfl ⟨rfl, hd_X10_comparison⟩ rfl ⟨⟨(Nat.le_of_ble_eq_true rfl), (Nat.le_of_ble_eq_true rfl)⟩, (by show cells + 8 ≤ 664990; omega), (by show slots + 400 ≤ 7106859; omega)⟩ rfl (Nat.le_of_ble_eq_true rfl) dL_law_343 (fun x9 ce9 q9 H9 locs9 hp hS hz9 hk9 hce hcv hcl => by
        obtain ⟨hcs, -⟩ := hp
        rw [hcd0] at hcs
        rcases hcs with ⟨h, -⟩ | ⟨h, -⟩ | ⟨h, -⟩ <;> exact absurd h (by decide)
      ) (fun v9 H4 locsH4 hp hS hzH4 hkH4 => ?_)
    obtain ⟨-, hv, G, R, hW⟩ := hp
    subst hv
    have hL := hL.kept (fun k hk => hkH4 (la k) (hL.lt hk) (hlz k hk))
    have hb4 := Nat.le_trans hb4 hzH4
    have hZn := fun (q : Nat) (h : H4.size ≤ q) => hZn0 q (Nat.le_trans hb4 h)
    refine lv_aload_n hx hb dL_law_346 rfl (lv_at hl 7 rfl) ?_
    refine lv_iload hx hb dL_law_347 (lv_at hl 1 rfl) ?_
    refine hk_ild (f := (V 0)) X K hL.c0 (vp_in_nI (by omega) (by omega)) dL_law_349 ?_
    rw [show (V 0) (nI (zn % 10)).toNatClampNeg = V 0 (zn % 10) from by rw [nI_clamp (show (zn % 10) < 2 ^ 31 by omega)]]
    refine lv_icmp_ne (tgt := 357) hx hb dL_law_350 (by decide) (fun c_350 => ?_) (fun c_350 => ?_)
    · exact (c_350 ((comp_a (S := (cn, sc, μ)) (by omega)).trans (hV.c (by omega)).symm)).elim
    · refine lv_iconst (v := 1) hx hb dL_law_353 (by decide) ?_
      refine lv_goto (tgt := 358) hx hb dL_law_354 (by decide) ?_
      refine lv_istore (lv' := [(15, .int 1), (22, .int v9), (21, .int (nI (zn % 10))), (20, .int (nI st9)), (19, .int (nI zn)), (18, .int kd), (16, .int (nI tn)), (2, .ref (la 0)), (3, .ref (la 1)), (4, .ref (la 2)), (5, .ref (la 3)), (6, .ref (la 4)), (7, .ref (la 5)), (8, .ref (la 6)), (9, .ref (la 7)), (10, .ref (la 8)), (11, .ref (la 9)), (12, .ref (la 10)), (13, .ref (la 11)), (14, .ref (la 12)), (1, .ref ho), (0, .ref b)]) hx hb dL_law_358 hl (by decide) rfl (fun ls hl => ?_)
      refine lv_aload_n hx hb dL_law_360 rfl (lv_at hl 7 rfl) ?_
      refine lv_iload hx hb dL_law_361 (lv_at hl 2 rfl) ?_
      refine lv_iload hx hb dL_law_363 (lv_at hl 1 rfl) ?_
      refine hk_ist (f := (V 0)) X K hL.c0 hS (hlA 0 (by decide)) (vp_in_nI (by omega) (by omega)) dL_law_365 (fun H5 locsH5 hIH5 hzH5 hqH5 hS => ?_)
      rw [nI_clamp (show (zn % 10) < 2 ^ 31 by omega)] at hIH5
      have hL := hL.set hla (j := 0) (by decide) hIH5 hqH5
      have hW := hW.kept (fun q h1 h2 => hqH5 q (fun g => h2.elim (fun h => hlz 0 (by decide) (by rw [← g]; exact h)) (fun h => h (by rw [g]; exact hlA 0 (by decide)))))
      have hb4 : b4 ≤ H5.size := by omega
      have hZn := fun (q : Nat) (h : H5.size ≤ q) => hZn0 q (Nat.le_trans hb4 h)
      refine lv_goto (tgt := 2061) hx hb dL_law_366 (by decide) ?_
      refine W.widen (k := cells + 40) (n := slots + 2000) (by show cells + 8 ≤ _; omega) (by show slots + 400 ≤ _; omega) ?_
      have hV9 := lv_comparison hV (at9 := zn % 10) (by omega) (x := v9)
      exact J2061 H5 _ ⟨G, R, _, _, invF_comparison hI hcd0, hV9, hW, LW.mk13 hL.c0 hL.c1 hL.c2 hL.c3 hL.c4 hL.c5 hL.c6 hL.c7 hL.c8 hL.c9 hL.c10 hL.c11 hL.c12, hS, hb4, ⟨fun h => absurd h (by omega), fun _ => h2⟩⟩ _ (lv_sub hl [4, 6, 0, 7, 8, 9, 10, 11, 12, 13, 14, 15, 16, 17, 18, 19, 20, 21] rfl)

set_option maxHeartbeats 4000000 in
set_option maxRecDepth 100000 in
theorem k_230 {p : Program} {l : Launch} {e : Env} {s : State} {m : MethodId} {below : List Frame} {meth : Method} {c : Code} {b L : Nat} {xs : Nat → Int32} {E : hk_E} {Z : Nat → Prop} {ho ts b4 : Nat} {li : Nat → Nat} {rr : Nat → Nat → Nat} {la : Nat → Nat} (G0 : lw_G p l s m meth c b L xs E Z la b4) {H : Heap} {locs : List Loc} {cells slots tn zn st9 : Nat} {kd : Int32} (hJ0 : lw_J E Z ho ts li rr la b4 s (fun S => tI tn (S.1 1) ∧ (1 ≤ S.1 1 → st9 < S.1 1)) H locs) (hz31 : zn < 2 ^ 31) (hkd : kd = 0 ∨ 2 ≤ tn) (hce : cells + 40 ≤ 664990) (hsl : slots + 2000 ≤ 7106859) {ls : Array Slot} (hl : lv_has ls 26 [(20, .int (nI st9)), (19, .int (nI zn)), (18, .int kd), (16, .int (nI tn)), (15, .int 1), (2, .ref (la 0)), (3, .ref (la 1)), (4, .ref (la 2)), (5, .ref (la 3)), (6, .ref (la 4)), (7, .ref (la 5)), (8, .ref (la 6)), (9, .ref (la 7)), (10, .ref (la 8)), (11, .ref (la 9)), (12, .ref (la 10)), (13, .ref (la 11)), (14, .ref (la 12)), (1, .ref ho), (0, .ref b)])
  (J2061 : ∀ (H1 : Heap) (locs1 : List Loc), lw_J E Z ho ts li rr la b4 s (fun S => tI (tn + 1) (S.1 1)) H1 locs1 → ∀ (ls : Array Slot), lv_has ls 26 [(19, .int (nI zn)), (16, .int (nI tn)), (15, .int 1), (2, .ref (la 0)), (3, .ref (la 1)), (4, .ref (la 2)), (5, .ref (la 3)), (6, .ref (la 4)), (7, .ref (la 5)), (8, .ref (la 6)), (9, .ref (la 7)), (10, .ref (la 8)), (11, .ref (la 9)), (12, .ref (la 10)), (13, .ref (la 11)), (14, .ref (la 12)), (1, .ref ho), (0, .ref b)] → W p l e room_1 s m #[Value.ref b] below meth c H1 locs1 (cells + 40) (slots + 2000) (lw_Z below #[Value.ref b] s) (F0 m 2061 ls [])) : W p l e room_1 s m #[Value.ref b] below meth c H locs cells slots (lw_Z below #[Value.ref b] s) (F0 m 230 ls []) := by
  obtain ⟨hl9, hLL, C0, X, K, hE, hZn0, hlz, hla, hlA⟩ := id G0
  obtain ⟨G, R, V, ⟨cn, sc, μ⟩, hI, hV, hW, hL, hS, hb4, ⟨ht9, hst0⟩⟩ := hJ0
  obtain ⟨hx, hb, hr, hml, hown, hts, hXs, hbl, hlocks, -⟩ := id C0
  have hAE : ∀ q, hk_A E q → hk_A E q := fun _ h => h
  have hZA : ∀ q, Z q → hk_A E q := hW.2.2.2.2.2.2.2.2.2.2.2.2
  have hZn : ∀ q, H.size ≤ q → Z q := fun q h => hZn0 q (Nat.le_trans hb4 h)
  have hn1 : cn 1 ≤ 4 := hV.n1
  have hn8 : cn 8 ≤ 3 := hV.n8
  have hn12 : cn 12 ≤ 24 := hV.n12
  have hn22 : cn 22 ≤ 4 := hV.n22
  have hn29 : cn 29 ≤ 8 := hV.n29
  have ht9 : tI tn (cn 1) := ht9
  have hst0 : 1 ≤ cn 1 → st9 < cn 1 := hst0
  refine lv_iload hx hb dL_law_230 (lv_at hl 2 rfl) ?_
  refine lv_if_ne (tgt := 310) hx hb dL_law_232 (by decide) (fun c_232 => ?_) (fun c_232 => ?_)
  · have ht2 : 2 ≤ tn := hkd.resolve_left c_232
    exact k_310 G0 ⟨G, R, V, (cn, sc, μ), hI, hV, hW, hL, hS, hb4, ⟨ht9.2 ht2, hst0 (by have := ht9.2 ht2; omega)⟩⟩ hz31 ht2 hce hsl hl J2061
  · refine lv_aload hx hb dL_law_235 (lv_at hl 15 rfl) ?_
    refine lv_iconst (v := 0) hx hb dL_law_237 (by decide) ?_
    refine hk_ild (f := (V 10)) X K hL.c10 (show vp_in (nI 0) 6 from vp_in_nI (by decide) (by decide)) dL_law_238 ?_
    rw [show (V 10) (0 : Int32).toNatClampNeg = nI (cn 1) from hV.g0]
    refine lv_iconst (v := 4) hx hb dL_law_239 (by decide) ?_
    refine lv_icmp_ge (tgt := 310) hx hb dL_law_240 (by decide) (fun c_240 => ?_) (fun c_240 => ?_)
    · have h4 : 4 ≤ cn 1 := (nI_leI (a := 4) (by omega) (by omega)).mp c_240
      have ht2 : 2 ≤ tn := by
        rcases Nat.lt_or_ge tn 2 with h | h
        · have : cn 1 = tn := ht9.1 h
          omega
        · exact h
      exact k_310 G0 ⟨G, R, V, (cn, sc, μ), hI, hV, hW, hL, hS, hb4, ⟨ht9.2 ht2, hst0 (by have := ht9.2 ht2; omega)⟩⟩ hz31 ht2 hce hsl hl J2061
    · have h4 : cn 1 < 4 := Nat.lt_of_not_le (fun h => c_240 (nI_le (a := 4) h (by omega)))
      refine lv_aload hx hb dL_law_243 (lv_at hl 8 rfl) ?_
      refine lv_iconst (v := 4) hx hb dL_law_245 (by decide) ?_
      refine lv_aload hx hb dL_law_246 (lv_at hl 15 rfl) ?_
      refine lv_iconst (v := 0) hx hb dL_law_248 (by decide) ?_
      refine hk_ild (f := (V 10)) X K hL.c10 (show vp_in (nI 0) 6 from vp_in_nI (by decide) (by decide)) dL_law_249 ?_
      rw [show (V 10) (0 : Int32).toNatClampNeg = nI (cn 1) from hV.g0]
      refine lv_imul hx hb dL_law_250 ?_
      refine lv_topi (fun z_1 ez_1 => ?_)
      have ez_1 : z_1 = nI (4 * (cn 1)) := ez_1.trans (nI_mul 4 (cn 1))
      subst ez_1
      refine lv_iload hx hb dL_law_251 (lv_at hl 1 rfl) ?_
      refine lv_sipush (v := 364) hx hb dL_law_253 (by decide) ?_
      refine lv_irem hx hb dL_law_256 (by decide) ?_
      refine lv_topi (fun z_2 ez_2 => ?_)
      have ez_2 : z_2 = nI (zn % 364) := ez_2.trans (pk_rem (a := zn) (d := 364) (by omega) (by omega) (by omega))
      subst ez_2
      refine hk_ist (f := (V 3)) X K hL.c3 hS (hlA 3 (by decide)) (vp_in_nI (by omega) (by omega)) dL_law_257 (fun H3 locsH3 hIH3 hzH3 hqH3 hS => ?_)
      rw [nI_clamp (show (4 * (cn 1)) < 2 ^ 31 by omega)] at hIH3
      have hL := hL.set hla (j := 3) (by decide) hIH3 hqH3
      have hW := hW.kept (fun q h1 h2 => hqH3 q (fun g => h2.elim (fun h => hlz 3 (by decide) (by rw [← g]; exact h)) (fun h => h (by rw [g]; exact hlA 3 (by decide)))))
      have hb4 : b4 ≤ H3.size := by omega
      have hZn := fun (q : Nat) (h : H3.size ≤ q) => hZn0 q (Nat.le_trans hb4 h)
      refine lv_aload hx hb dL_law_258 (lv_at hl 8 rfl) ?_
      refine lv_iconst (v := 4) hx hb dL_law_260 (by decide) ?_
      refine lv_aload hx hb dL_law_261 (lv_at hl 15 rfl) ?_
      refine lv_iconst (v := 0) hx hb dL_law_263 (by decide) ?_
      refine hk_ild (f := (V 10)) X K hL.c10 (show vp_in (nI 0) 6 from vp_in_nI (by decide) (by decide)) dL_law_264 ?_
      rw [show (V 10) (0 : Int32).toNatClampNeg = nI (cn 1) from hV.g0]
      refine lv_imul hx hb dL_law_265 ?_
      refine lv_topi (fun z_4 ez_4 => ?_)
      have ez_4 : z_4 = nI (4 * (cn 1)) := ez_4.trans (nI_mul 4 (cn 1))
      subst ez_4
      refine lv_iconst (v := 1) hx hb dL_law_266 (by decide) ?_
      refine lv_iadd hx hb dL_law_267 ?_
      refine lv_topi (fun z_5 ez_5 => ?_)
      have ez_5 : z_5 = nI ((4 * (cn 1)) + 1) := ez_5.trans (nI_add (4 * (cn 1)) 1)
      subst ez_5
      refine lv_iconst (v := 1) hx hb dL_law_268 (by decide) ?_
      refine lv_aload hx hb dL_law_269 (lv_at hl 15 rfl) ?_
      refine lv_iconst (v := 0) hx hb dL_law_271 (by decide) ?_
      refine hk_ild (f := (V 10)) X K hL.c10 (show vp_in (nI 0) 6 from vp_in_nI (by decide) (by decide)) dL_law_272 ?_
      rw [show (V 10) (0 : Int32).toNatClampNeg = nI (cn 1) from hV.g0]
      refine lv_ishl hx hb dL_law_273 ?_
      refine lv_topi (fun q273 eq273 => ?_)
      rw [l_shl (cn 1) (by omega)] at eq273
      subst eq273
      refine hk_ist (f := (upd (V 3) (4 * (cn 1)) (nI (zn % 364)))) X K hL.c3 hS (hlA 3 (by decide)) (vp_in_nI (by omega) (by omega)) dL_law_274 (fun H6 locsH6 hIH6 hzH6 hqH6 hS => ?_)
      rw [nI_clamp (show ((4 * (cn 1)) + 1) < 2 ^ 31 by omega)] at hIH6
      have hL := hL.set hla (j := 3) (by decide) hIH6 hqH6
      have hW := hW.kept (fun q h1 h2 => hqH6 q (fun g => h2.elim (fun h => hlz 3 (by decide) (by rw [← g]; exact h)) (fun h => h (by rw [g]; exact hlA 3 (by decide)))))
      have hb4 : b4 ≤ H6.size := by omega
      have hZn := fun (q : Nat) (h : H6.size ≤ q) => hZn0 q (Nat.le_trans hb4 h)
      refine lv_aload_n hx hb dL_law_275 rfl (lv_at hl 18 rfl) ?_
      refine lv_iload hx hb dL_law_276 (lv_at hl 1 rfl) ?_
      refine lv_sipush (v := 364) hx hb dL_law_278 (by decide) ?_
      refine lv_irem hx hb dL_law_281 (by decide) ?_
      refine lv_topi (fun z_7 ez_7 => ?_)
      have ez_7 : z_7 = nI (zn % 364) := ez_7.trans (pk_rem (a := zn) (d := 364) (by omega) (by omega) (by omega))
      subst ez_7
      have hcd0 : cd_star (nI (zn % 364)) (cn, sc, μ) = 0 := star_c (by omega) h4
      refine hk_callVx 1 (As := [.int (nI (zn % 364))]) (rest := []) X K hAE hS hl.1 (HW.o hW) rfl (c_X10_star E l hl9 H6 hW hI hZn (p0 := nI (zn % 364))) hZA gL_law_X10_star rfl ⟨rfl, hd_X10_star⟩ rfl ⟨⟨(Nat.le_of_ble_eq_true rfl), (Nat.le_of_ble_eq_true rfl)⟩, (by show cells + 12 ≤ 664990; omega), (by show slots + 600 ≤ 7106859; omega)⟩ rfl (Nat.le_of_ble_eq_true rfl) dL_law_282 (fun x9 ce9 q9 H9 locs9 hp hS hz9 hk9 hce hcv hcl => by
          obtain ⟨hcs, -⟩ := hp
          rw [hcd0] at hcs
          rcases hcs with ⟨h, -⟩ | ⟨h, -⟩ | ⟨h, -⟩ <;> exact absurd h (by decide)
        ) (fun v9 H8 locsH8 hp hS hzH8 hkH8 => ?_)
      obtain ⟨-, hv, G, R, hW⟩ := hp
      subst hv
      have hL := hL.kept (fun k hk => hkH8 (la k) (hL.lt hk) (hlz k hk))
      have hb4 := Nat.le_trans hb4 hzH8
      have hZn := fun (q : Nat) (h : H8.size ≤ q) => hZn0 q (Nat.le_trans hb4 h)
      refine lv_aload hx hb dL_law_285 (lv_at hl 15 rfl) ?_
      refine lv_iconst (v := 0) hx hb dL_law_287 (by decide) ?_
      refine hk_ild (f := (V 10)) X K hL.c10 (show vp_in (nI 0) 6 from vp_in_nI (by decide) (by decide)) dL_law_288 ?_
      rw [show (V 10) (0 : Int32).toNatClampNeg = nI (cn 1) from hV.g0]
      refine lv_icmp_ne (tgt := 296) hx hb dL_law_289 (by decide) (fun c_289 => ?_) (fun c_289 => ?_)
      · exact (c_289 (rfl)).elim
      · refine lv_iconst (v := 1) hx hb dL_law_292 (by decide) ?_
        refine lv_goto (tgt := 297) hx hb dL_law_293 (by decide) ?_
        refine lv_istore (lv' := [(15, .int 1), (20, .int (nI st9)), (19, .int (nI zn)), (18, .int kd), (16, .int (nI tn)), (2, .ref (la 0)), (3, .ref (la 1)), (4, .ref (la 2)), (5, .ref (la 3)), (6, .ref (la 4)), (7, .ref (la 5)), (8, .ref (la 6)), (9, .ref (la 7)), (10, .ref (la 8)), (11, .ref (la 9)), (12, .ref (la 10)), (13, .ref (la 11)), (14, .ref (la 12)), (1, .ref ho), (0, .ref b)]) hx hb dL_law_297 hl (by decide) rfl (fun ls hl => ?_)
        refine lv_aload hx hb dL_law_299 (lv_at hl 15 rfl) ?_
        refine lv_iconst (v := 0) hx hb dL_law_301 (by decide) ?_
        refine lv_dup2_11 hx hb dL_law_302 rfl rfl ?_
        refine hk_ild (f := (V 10)) X K hL.c10 (show vp_in (nI 0) 6 from vp_in_nI (by decide) (by decide)) dL_law_303 ?_
        rw [show (V 10) (0 : Int32).toNatClampNeg = nI (cn 1) from hV.g0]
        refine lv_iconst (v := 1) hx hb dL_law_304 (by decide) ?_
        refine lv_iadd hx hb dL_law_305 ?_
        refine lv_topi (fun z_9 ez_9 => ?_)
        have ez_9 : z_9 = nI ((cn 1) + 1) := ez_9.trans (nI_add (cn 1) 1)
        subst ez_9
        refine hk_ist (f := (V 10)) X K hL.c10 hS (hlA 10 (by decide)) (show vp_in (nI 0) 6 from vp_in_nI (by decide) (by decide)) dL_law_306 (fun H10 locsH10 hIH10 hzH10 hqH10 hS => ?_)
        rw [show (0 : Int32).toNatClampNeg = 0 from rfl] at hIH10
        have hL := hL.set hla (j := 10) (by decide) hIH10 hqH10
        have hW := hW.kept (fun q h1 h2 => hqH10 q (fun g => h2.elim (fun h => hlz 10 (by decide) (by rw [← g]; exact h)) (fun h => h (by rw [g]; exact hlA 10 (by decide)))))
        have hb4 : b4 ≤ H10.size := by omega
        have hZn := fun (q : Nat) (h : H10.size ≤ q) => hZn0 q (Nat.le_trans hb4 h)
        refine lv_goto (tgt := 2061) hx hb dL_law_307 (by decide) ?_
        refine W.widen (k := cells + 40) (n := slots + 2000) (by show cells + 12 ≤ _; omega) (by show slots + 600 ≤ _; omega) ?_
        have hV9 := lv_star hV hI h4 (x := nI (zn % 364))
        exact J2061 H10 _ ⟨G, R, _, _, invF_star hI hcd0, hV9, hW, LW.mk13 hL.c0 hL.c1 hL.c2 hL.c3 hL.c4 hL.c5 hL.c6 hL.c7 hL.c8 hL.c9 hL.c10 hL.c11 hL.c12, hS, hb4, ⟨fun h => by have h9 : cn 1 = tn := ht9.1 (by omega); show cn 1 + 1 = tn + 1; omega, fun h => by
            show 2 ≤ cn 1 + 1
            rcases Nat.lt_or_ge tn 2 with g | g
            · have h9 : cn 1 = tn := ht9.1 g
              omega
            · have h9 : 2 ≤ cn 1 := ht9.2 g
              omega⟩⟩ _ (lv_sub hl [2, 4, 0, 5, 6, 7, 8, 9, 10, 11, 12, 13, 14, 15, 16, 17, 18, 19] rfl)
