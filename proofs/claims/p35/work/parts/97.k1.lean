set_option maxHeartbeats 4000000 in
set_option maxRecDepth 100000 in
theorem k_1618 {p : Program} {l : Launch} {e : Env} {s : State} {m : MethodId} {below : List Frame} {meth : Method} {c : Code} {b L : Nat} {xs : Nat → Int32} {E : hk_E} {Z : Nat → Prop} {ho ts b4 : Nat} {li : Nat → Nat} {rr : Nat → Nat → Nat} {la : Nat → Nat} (G0 : lw_G p l s m meth c b L xs E Z la b4) {H : Heap} {locs : List Loc} {cells slots tn zn st9 : Nat} {kd : Int32} (hJ0 : lw_J E Z ho ts li rr la b4 s (fun S => 2 ≤ S.1 1 ∧ st9 < S.1 1) H locs) (hz31 : zn < 2 ^ 31) (ht2 : 2 ≤ tn) (hce : cells + 40 ≤ 664990) (hsl : slots + 2000 ≤ 7106859) {ls : Array Slot} (hl : lv_has ls 26 [(20, .int (nI st9)), (19, .int (nI zn)), (18, .int kd), (16, .int (nI tn)), (15, .int 1), (2, .ref (la 0)), (3, .ref (la 1)), (4, .ref (la 2)), (5, .ref (la 3)), (6, .ref (la 4)), (7, .ref (la 5)), (8, .ref (la 6)), (9, .ref (la 7)), (10, .ref (la 8)), (11, .ref (la 9)), (12, .ref (la 10)), (13, .ref (la 11)), (14, .ref (la 12)), (1, .ref ho), (0, .ref b)])
  (J2061 : ∀ (H1 : Heap) (locs1 : List Loc), lw_J E Z ho ts li rr la b4 s (fun S => tI (tn + 1) (S.1 1)) H1 locs1 → ∀ (ls : Array Slot), lv_has ls 26 [(19, .int (nI zn)), (16, .int (nI tn)), (15, .int 1), (2, .ref (la 0)), (3, .ref (la 1)), (4, .ref (la 2)), (5, .ref (la 3)), (6, .ref (la 4)), (7, .ref (la 5)), (8, .ref (la 6)), (9, .ref (la 7)), (10, .ref (la 8)), (11, .ref (la 9)), (12, .ref (la 10)), (13, .ref (la 11)), (14, .ref (la 12)), (1, .ref ho), (0, .ref b)] → W p l e room_1 s m #[Value.ref b] below meth c H1 locs1 (cells + 40) (slots + 2000) (lw_Z below #[Value.ref b] s) (F0 m 2061 ls [])) : W p l e room_1 s m #[Value.ref b] below meth c H locs cells slots (lw_Z below #[Value.ref b] s) (F0 m 1618 ls []) := by
  obtain ⟨hl9, hLL, C0, X, K, hE, hZn0, hlz, hla, hlA⟩ := id G0
  obtain ⟨G, R, V, ⟨cn, sc, μ⟩, hI, hV, hW, hL, hS, hb4, ⟨h2, hst⟩⟩ := hJ0
  obtain ⟨hx, hb, hr, hml, hown, hts, hXs, hbl, hlocks, -⟩ := id C0
  have hAE : ∀ q, hk_A E q → hk_A E q := fun _ h => h
  have hZA : ∀ q, Z q → hk_A E q := hW.2.2.2.2.2.2.2.2.2.2.2.2
  have hZn : ∀ q, H.size ≤ q → Z q := fun q h => hZn0 q (Nat.le_trans hb4 h)
  have hn1 : cn 1 ≤ 4 := hV.n1
  have hn8 : cn 8 ≤ 3 := hV.n8
  have hn12 : cn 12 ≤ 24 := hV.n12
  have hn22 : cn 22 ≤ 4 := hV.n22
  have hn29 : cn 29 ≤ 8 := hV.n29
  have h2 : 2 ≤ cn 1 := h2
  have hst : st9 < cn 1 := hst
  refine lv_iload hx hb dL_law_1618 (lv_at hl 2 rfl) ?_
  refine lv_bipush (v := 23) hx hb dL_law_1620 (by decide) ?_
  refine lv_icmp_ge (tgt := 1809) hx hb dL_law_1622 (by decide) (fun c_1622 => ?_) (fun c_1622 => ?_)
  · exact k_1809 G0 ⟨G, R, V, (cn, sc, μ), hI, hV, hW, hL, hS, hb4, ⟨h2, hst⟩⟩ hz31 ht2 hce hsl hl J2061
  · refine lv_aload hx hb dL_law_1625 (lv_at hl 15 rfl) ?_
    refine lv_iconst (v := 3) hx hb dL_law_1627 (by decide) ?_
    refine hk_ild (f := (V 10)) X K hL.c10 (show vp_in (nI 3) 6 from vp_in_nI (by decide) (by decide)) dL_law_1628 ?_
    rw [show (V 10) (3 : Int32).toNatClampNeg = nI (cn 22) from hV.g3]
    refine lv_iconst (v := 4) hx hb dL_law_1629 (by decide) ?_
    refine lv_icmp_ge (tgt := 1809) hx hb dL_law_1630 (by decide) (fun c_1630 => ?_) (fun c_1630 => ?_)
    · exact k_1809 G0 ⟨G, R, V, (cn, sc, μ), hI, hV, hW, hL, hS, hb4, ⟨h2, hst⟩⟩ hz31 ht2 hce hsl hl J2061
    · have h22 : cn 22 < 4 := Nat.lt_of_not_le (fun h => c_1630 (nI_le (a := 4) h (by omega)))
      refine lv_bipush (v := 6) hx hb dL_law_1633 (by decide) ?_
      refine lv_aload hx hb dL_law_1635 (lv_at hl 15 rfl) ?_
      refine lv_iconst (v := 3) hx hb dL_law_1637 (by decide) ?_
      refine hk_ild (f := (V 10)) X K hL.c10 (show vp_in (nI 3) 6 from vp_in_nI (by decide) (by decide)) dL_law_1638 ?_
      rw [show (V 10) (3 : Int32).toNatClampNeg = nI (cn 22) from hV.g3]
      refine lv_imul hx hb dL_law_1639 ?_
      refine lv_topi (fun z_1 ez_1 => ?_)
      have ez_1 : z_1 = nI (6 * (cn 22)) := ez_1.trans (nI_mul 6 (cn 22))
      subst ez_1
      refine lv_istore (lv' := [(21, .int (nI (6 * (cn 22)))), (20, .int (nI st9)), (19, .int (nI zn)), (18, .int kd), (16, .int (nI tn)), (15, .int 1), (2, .ref (la 0)), (3, .ref (la 1)), (4, .ref (la 2)), (5, .ref (la 3)), (6, .ref (la 4)), (7, .ref (la 5)), (8, .ref (la 6)), (9, .ref (la 7)), (10, .ref (la 8)), (11, .ref (la 9)), (12, .ref (la 10)), (13, .ref (la 11)), (14, .ref (la 12)), (1, .ref ho), (0, .ref b)]) hx hb dL_law_1640 hl (by decide) rfl (fun ls hl => ?_)
      refine lv_aload hx hb dL_law_1642 (lv_at hl 14 rfl) ?_
      refine lv_iload hx hb dL_law_1644 (lv_at hl 0 rfl) ?_
      refine lv_iload hx hb dL_law_1646 (lv_at hl 2 rfl) ?_
      refine lv_iconst (v := 5) hx hb dL_law_1648 (by decide) ?_
      refine lv_irem hx hb dL_law_1649 (by decide) ?_
      refine lv_topi (fun z_2 ez_2 => ?_)
      have ez_2 : z_2 = nI (zn % 5) := ez_2.trans (pk_rem (a := zn) (d := 5) (by omega) (by omega) (by omega))
      subst ez_2
      refine hk_ist (f := (V 8)) X K hL.c8 hS (hlA 8 (by decide)) (vp_in_nI (by omega) (by omega)) dL_law_1650 (fun H3 locsH3 hIH3 hzH3 hqH3 hS => ?_)
      rw [nI_clamp (show (6 * (cn 22)) < 2 ^ 31 by omega)] at hIH3
      have hL := hL.set hla (j := 8) (by decide) hIH3 hqH3
      have hW := hW.kept (fun q h1 h2 => hqH3 q (fun g => h2.elim (fun h => hlz 8 (by decide) (by rw [← g]; exact h)) (fun h => h (by rw [g]; exact hlA 8 (by decide)))))
      have hb4 : b4 ≤ H3.size := by omega
      have hZn := fun (q : Nat) (h : H3.size ≤ q) => hZn0 q (Nat.le_trans hb4 h)
      refine lv_aload hx hb dL_law_1651 (lv_at hl 14 rfl) ?_
      refine lv_iload hx hb dL_law_1653 (lv_at hl 0 rfl) ?_
      refine lv_iconst (v := 1) hx hb dL_law_1655 (by decide) ?_
      refine lv_iadd hx hb dL_law_1656 ?_
      refine lv_topi (fun z_4 ez_4 => ?_)
      have ez_4 : z_4 = nI ((6 * (cn 22)) + 1) := ez_4.trans (nI_add (6 * (cn 22)) 1)
      subst ez_4
      refine lv_iload hx hb dL_law_1657 (lv_at hl 2 rfl) ?_
      refine lv_iconst (v := 5) hx hb dL_law_1659 (by decide) ?_
      refine lv_idiv hx hb dL_law_1660 (by decide) ?_
      refine lv_topi (fun z_5 ez_5 => ?_)
      have ez_5 : z_5 = nI (zn / 5) := ez_5.trans (pk_div (a := zn) (d := 5) (by omega) (by omega) (by omega))
      subst ez_5
      refine lv_iconst (v := 3) hx hb dL_law_1661 (by decide) ?_
      refine lv_irem hx hb dL_law_1662 (by decide) ?_
      refine lv_topi (fun z_6 ez_6 => ?_)
      have ez_6 : z_6 = nI ((zn / 5) % 3) := ez_6.trans (pk_rem (a := (zn / 5)) (d := 3) (by omega) (by omega) (by omega))
      subst ez_6
      refine hk_ist (f := (upd (V 8) (6 * (cn 22)) (nI (zn % 5)))) X K hL.c8 hS (hlA 8 (by decide)) (vp_in_nI (by omega) (by omega)) dL_law_1663 (fun H7 locsH7 hIH7 hzH7 hqH7 hS => ?_)
      rw [nI_clamp (show ((6 * (cn 22)) + 1) < 2 ^ 31 by omega)] at hIH7
      have hL := hL.set hla (j := 8) (by decide) hIH7 hqH7
      have hW := hW.kept (fun q h1 h2 => hqH7 q (fun g => h2.elim (fun h => hlz 8 (by decide) (by rw [← g]; exact h)) (fun h => h (by rw [g]; exact hlA 8 (by decide)))))
      have hb4 : b4 ≤ H7.size := by omega
      have hZn := fun (q : Nat) (h : H7.size ≤ q) => hZn0 q (Nat.le_trans hb4 h)
      refine lv_aload hx hb dL_law_1664 (lv_at hl 14 rfl) ?_
      refine lv_iload hx hb dL_law_1666 (lv_at hl 0 rfl) ?_
      refine lv_iconst (v := 2) hx hb dL_law_1668 (by decide) ?_
      refine lv_iadd hx hb dL_law_1669 ?_
      refine lv_topi (fun z_8 ez_8 => ?_)
      have ez_8 : z_8 = nI ((6 * (cn 22)) + 2) := ez_8.trans (nI_add (6 * (cn 22)) 2)
      subst ez_8
      refine lv_iload hx hb dL_law_1670 (lv_at hl 2 rfl) ?_
      refine lv_bipush (v := 15) hx hb dL_law_1672 (by decide) ?_
      refine lv_idiv hx hb dL_law_1674 (by decide) ?_
      refine lv_topi (fun z_9 ez_9 => ?_)
      have ez_9 : z_9 = nI (zn / 15) := ez_9.trans (pk_div (a := zn) (d := 15) (by omega) (by omega) (by omega))
      subst ez_9
      refine lv_sipush (v := 200) hx hb dL_law_1675 (by decide) ?_
      refine lv_irem hx hb dL_law_1678 (by decide) ?_
      refine lv_topi (fun z_10 ez_10 => ?_)
      have ez_10 : z_10 = nI ((zn / 15) % 200) := ez_10.trans (pk_rem (a := (zn / 15)) (d := 200) (by omega) (by omega) (by omega))
      subst ez_10
      refine hk_ist (f := (upd (upd (V 8) (6 * (cn 22)) (nI (zn % 5))) ((6 * (cn 22)) + 1) (nI ((zn / 5) % 3)))) X K hL.c8 hS (hlA 8 (by decide)) (vp_in_nI (by omega) (by omega)) dL_law_1679 (fun H11 locsH11 hIH11 hzH11 hqH11 hS => ?_)
      rw [nI_clamp (show ((6 * (cn 22)) + 2) < 2 ^ 31 by omega)] at hIH11
      have hL := hL.set hla (j := 8) (by decide) hIH11 hqH11
      have hW := hW.kept (fun q h1 h2 => hqH11 q (fun g => h2.elim (fun h => hlz 8 (by decide) (by rw [← g]; exact h)) (fun h => h (by rw [g]; exact hlA 8 (by decide)))))
      have hb4 : b4 ≤ H11.size := by omega
      have hZn := fun (q : Nat) (h : H11.size ≤ q) => hZn0 q (Nat.le_trans hb4 h)
      refine lv_aload hx hb dL_law_1680 (lv_at hl 14 rfl) ?_
      refine lv_iload hx hb dL_law_1682 (lv_at hl 0 rfl) ?_
      refine lv_iconst (v := 3) hx hb dL_law_1684 (by decide) ?_
      refine lv_iadd hx hb dL_law_1685 ?_
      refine lv_topi (fun z_12 ez_12 => ?_)
      have ez_12 : z_12 = nI ((6 * (cn 22)) + 3) := ez_12.trans (nI_add (6 * (cn 22)) 3)
      subst ez_12
      refine lv_aload hx hb dL_law_1686 (lv_at hl 14 rfl) ?_
      refine lv_iload hx hb dL_law_1688 (lv_at hl 0 rfl) ?_
      refine lv_iconst (v := 2) hx hb dL_law_1690 (by decide) ?_
      refine lv_iadd hx hb dL_law_1691 ?_
      refine lv_topi (fun z_13 ez_13 => ?_)
      have ez_13 : z_13 = nI ((6 * (cn 22)) + 2) := ez_13.trans (nI_add (6 * (cn 22)) 2)
      subst ez_13
      refine hk_ild (f := (upd (upd (upd (V 8) (6 * (cn 22)) (nI (zn % 5))) ((6 * (cn 22)) + 1) (nI ((zn / 5) % 3))) ((6 * (cn 22)) + 2) (nI ((zn / 15) % 200)))) X K hL.c8 (vp_in_nI (by omega) (by omega)) dL_law_1692 ?_
      rw [show (upd (upd (upd (V 8) (6 * (cn 22)) (nI (zn % 5))) ((6 * (cn 22)) + 1) (nI ((zn / 5) % 3))) ((6 * (cn 22)) + 2) (nI ((zn / 15) % 200))) (nI ((6 * (cn 22)) + 2)).toNatClampNeg = nI (zn / 15 % 200) from (congrArg _ (nI_clamp (show 6 * cn 22 + 2 < 2 ^ 31 by omega))).trans (by rw [upd_at])]
      refine lv_iload hx hb dL_law_1693 (lv_at hl 2 rfl) ?_
      refine lv_bipush (v := 7) hx hb dL_law_1695 (by decide) ?_
      refine lv_idiv hx hb dL_law_1697 (by decide) ?_
      refine lv_topi (fun z_14 ez_14 => ?_)
      have ez_14 : z_14 = nI (zn / 7) := ez_14.trans (pk_div (a := zn) (d := 7) (by omega) (by omega) (by omega))
      subst ez_14
      refine lv_sipush (v := 2000) hx hb dL_law_1698 (by decide) ?_
      refine lv_irem hx hb dL_law_1701 (by decide) ?_
      refine lv_topi (fun z_15 ez_15 => ?_)
      have ez_15 : z_15 = nI ((zn / 7) % 2000) := ez_15.trans (pk_rem (a := (zn / 7)) (d := 2000) (by omega) (by omega) (by omega))
      subst ez_15
      refine lv_iadd hx hb dL_law_1702 ?_
      refine lv_topi (fun z_16 ez_16 => ?_)
      have ez_16 : z_16 = nI ((zn / 15 % 200) + ((zn / 7) % 2000)) := ez_16.trans (nI_add (zn / 15 % 200) ((zn / 7) % 2000))
      subst ez_16
      refine hk_ist (f := (upd (upd (upd (V 8) (6 * (cn 22)) (nI (zn % 5))) ((6 * (cn 22)) + 1) (nI ((zn / 5) % 3))) ((6 * (cn 22)) + 2) (nI ((zn / 15) % 200)))) X K hL.c8 hS (hlA 8 (by decide)) (vp_in_nI (by omega) (by omega)) dL_law_1703 (fun H17 locsH17 hIH17 hzH17 hqH17 hS => ?_)
      rw [nI_clamp (show ((6 * (cn 22)) + 3) < 2 ^ 31 by omega)] at hIH17
      have hL := hL.set hla (j := 8) (by decide) hIH17 hqH17
      have hW := hW.kept (fun q h1 h2 => hqH17 q (fun g => h2.elim (fun h => hlz 8 (by decide) (by rw [← g]; exact h)) (fun h => h (by rw [g]; exact hlA 8 (by decide)))))
      have hb4 : b4 ≤ H17.size := by omega
      have hZn := fun (q : Nat) (h : H17.size ≤ q) => hZn0 q (Nat.le_trans hb4 h)
      refine lv_aload hx hb dL_law_1704 (lv_at hl 14 rfl) ?_
      refine lv_iload hx hb dL_law_1706 (lv_at hl 0 rfl) ?_
      refine lv_iconst (v := 4) hx hb dL_law_1708 (by decide) ?_
      refine lv_iadd hx hb dL_law_1709 ?_
      refine lv_topi (fun z_18 ez_18 => ?_)
      have ez_18 : z_18 = nI ((6 * (cn 22)) + 4) := ez_18.trans (nI_add (6 * (cn 22)) 4)
      subst ez_18
      refine lv_iload hx hb dL_law_1710 (lv_at hl 2 rfl) ?_
      refine lv_bipush (v := 19) hx hb dL_law_1712 (by decide) ?_
      refine lv_idiv hx hb dL_law_1714 (by decide) ?_
      refine lv_topi (fun z_19 ez_19 => ?_)
      have ez_19 : z_19 = nI (zn / 19) := ez_19.trans (pk_div (a := zn) (d := 19) (by omega) (by omega) (by omega))
      subst ez_19
      refine lv_bipush (v := 9) hx hb dL_law_1715 (by decide) ?_
      refine lv_irem hx hb dL_law_1717 (by decide) ?_
      refine lv_topi (fun z_20 ez_20 => ?_)
      have ez_20 : z_20 = nI ((zn / 19) % 9) := ez_20.trans (pk_rem (a := (zn / 19)) (d := 9) (by omega) (by omega) (by omega))
      subst ez_20
      refine lv_iconst (v := 4) hx hb dL_law_1718 (by decide) ?_
      refine lv_isub hx hb dL_law_1719 ?_
      refine lv_if_le (tgt := 1736) hx hb dL_law_1720 (by decide) (fun c_1720 => ?_) (fun c_1720 => ?_)
      · refine lv_iload hx hb dL_law_1736 (lv_at hl 2 rfl) ?_
        refine lv_bipush (v := 19) hx hb dL_law_1738 (by decide) ?_
        refine lv_idiv hx hb dL_law_1740 (by decide) ?_
        refine lv_topi (fun z_21 ez_21 => ?_)
        have ez_21 : z_21 = nI (zn / 19) := ez_21.trans (pk_div (a := zn) (d := 19) (by omega) (by omega) (by omega))
        subst ez_21
        refine lv_bipush (v := 9) hx hb dL_law_1741 (by decide) ?_
        refine lv_irem hx hb dL_law_1743 (by decide) ?_
        refine lv_topi (fun z_22 ez_22 => ?_)
        have ez_22 : z_22 = nI ((zn / 19) % 9) := ez_22.trans (pk_rem (a := (zn / 19)) (d := 9) (by omega) (by omega) (by omega))
        subst ez_22
        refine lv_iconst (v := 5) hx hb dL_law_1744 (by decide) ?_
        refine lv_isub hx hb dL_law_1745 ?_
        refine lv_topi (fun v9 ev9 => ?_)
        refine hk_ist (f := (upd (upd (upd (upd (V 8) (6 * (cn 22)) (nI (zn % 5))) ((6 * (cn 22)) + 1) (nI ((zn / 5) % 3))) ((6 * (cn 22)) + 2) (nI ((zn / 15) % 200))) ((6 * (cn 22)) + 3) (nI ((zn / 15 % 200) + ((zn / 7) % 2000))))) X K hL.c8 hS (hlA 8 (by decide)) (vp_in_nI (by omega) (by omega)) dL_law_1746 (fun H23 locsH23 hIH23 hzH23 hqH23 hS => ?_)
        rw [nI_clamp (show ((6 * (cn 22)) + 4) < 2 ^ 31 by omega)] at hIH23
        have hL := hL.set hla (j := 8) (by decide) hIH23 hqH23
        have hW := hW.kept (fun q h1 h2 => hqH23 q (fun g => h2.elim (fun h => hlz 8 (by decide) (by rw [← g]; exact h)) (fun h => h (by rw [g]; exact hlA 8 (by decide)))))
        have hb4 : b4 ≤ H23.size := by omega
        have hZn := fun (q : Nat) (h : H23.size ≤ q) => hZn0 q (Nat.le_trans hb4 h)
        have hv0 : ¬ v9 = 0 := fun h => by
          have h1 := (sub_int (y := zn / 19 % 9) (c := 5) (by omega) (by omega))
          have h2 : (nI (zn / 19 % 9) - nI 5).toInt = (0 : Int32).toInt := congrArg Int32.toInt (ev9.symm.trans h)
          rw [h1, i_0] at h2
          have h3 := i_le.mp (show nI (zn / 19 % 9) - nI 4 ≤ 0 from c_1720)
          rw [sub_int (by omega) (by omega), i_0] at h3
          omega
        refine lv_aload_n hx hb dL_law_1747 rfl (lv_at hl 19 rfl) ?_
        refine lv_aload hx hb dL_law_1748 (lv_at hl 14 rfl) ?_
        refine lv_iload hx hb dL_law_1750 (lv_at hl 0 rfl) ?_
        refine hk_ild (f := (upd (upd (upd (upd (upd (V 8) (6 * (cn 22)) (nI (zn % 5))) ((6 * (cn 22)) + 1) (nI ((zn / 5) % 3))) ((6 * (cn 22)) + 2) (nI ((zn / 15) % 200))) ((6 * (cn 22)) + 3) (nI ((zn / 15 % 200) + ((zn / 7) % 2000)))) ((6 * (cn 22)) + 4) v9)) X K hL.c8 (vp_in_nI (by omega) (by omega)) dL_law_1752 ?_
        rw [show (upd (upd (upd (upd (upd (V 8) (6 * (cn 22)) (nI (zn % 5))) ((6 * (cn 22)) + 1) (nI ((zn / 5) % 3))) ((6 * (cn 22)) + 2) (nI ((zn / 15) % 200))) ((6 * (cn 22)) + 3) (nI ((zn / 15 % 200) + ((zn / 7) % 2000)))) ((6 * (cn 22)) + 4) v9) (nI (6 * (cn 22))).toNatClampNeg = nI (zn % 5) from (congrArg _ (nI_clamp (show 6 * cn 22 < 2 ^ 31 by omega))).trans (by rw [upd_ne (by omega), upd_ne (by omega), upd_ne (by omega), upd_ne (by omega), upd_at])]
        refine lv_aload hx hb dL_law_1753 (lv_at hl 14 rfl) ?_
        refine lv_iload hx hb dL_law_1755 (lv_at hl 0 rfl) ?_
        refine lv_iconst (v := 1) hx hb dL_law_1757 (by decide) ?_
        refine lv_iadd hx hb dL_law_1758 ?_
        refine lv_topi (fun z_24 ez_24 => ?_)
        have ez_24 : z_24 = nI ((6 * (cn 22)) + 1) := ez_24.trans (nI_add (6 * (cn 22)) 1)
        subst ez_24
        refine hk_ild (f := (upd (upd (upd (upd (upd (V 8) (6 * (cn 22)) (nI (zn % 5))) ((6 * (cn 22)) + 1) (nI ((zn / 5) % 3))) ((6 * (cn 22)) + 2) (nI ((zn / 15) % 200))) ((6 * (cn 22)) + 3) (nI ((zn / 15 % 200) + ((zn / 7) % 2000)))) ((6 * (cn 22)) + 4) v9)) X K hL.c8 (vp_in_nI (by omega) (by omega)) dL_law_1759 ?_
        rw [show (upd (upd (upd (upd (upd (V 8) (6 * (cn 22)) (nI (zn % 5))) ((6 * (cn 22)) + 1) (nI ((zn / 5) % 3))) ((6 * (cn 22)) + 2) (nI ((zn / 15) % 200))) ((6 * (cn 22)) + 3) (nI ((zn / 15 % 200) + ((zn / 7) % 2000)))) ((6 * (cn 22)) + 4) v9) (nI ((6 * (cn 22)) + 1)).toNatClampNeg = nI (zn / 5 % 3) from (congrArg _ (nI_clamp (show 6 * cn 22 + 1 < 2 ^ 31 by omega))).trans (by rw [upd_ne (by omega), upd_ne (by omega), upd_ne (by omega), upd_at])]
        refine lv_aload hx hb dL_law_1760 (lv_at hl 14 rfl) ?_
        refine lv_iload hx hb dL_law_1762 (lv_at hl 0 rfl) ?_
        refine lv_iconst (v := 2) hx hb dL_law_1764 (by decide) ?_
        refine lv_iadd hx hb dL_law_1765 ?_
        refine lv_topi (fun z_25 ez_25 => ?_)
        have ez_25 : z_25 = nI ((6 * (cn 22)) + 2) := ez_25.trans (nI_add (6 * (cn 22)) 2)
        subst ez_25
        refine hk_ild (f := (upd (upd (upd (upd (upd (V 8) (6 * (cn 22)) (nI (zn % 5))) ((6 * (cn 22)) + 1) (nI ((zn / 5) % 3))) ((6 * (cn 22)) + 2) (nI ((zn / 15) % 200))) ((6 * (cn 22)) + 3) (nI ((zn / 15 % 200) + ((zn / 7) % 2000)))) ((6 * (cn 22)) + 4) v9)) X K hL.c8 (vp_in_nI (by omega) (by omega)) dL_law_1766 ?_
        rw [show (upd (upd (upd (upd (upd (V 8) (6 * (cn 22)) (nI (zn % 5))) ((6 * (cn 22)) + 1) (nI ((zn / 5) % 3))) ((6 * (cn 22)) + 2) (nI ((zn / 15) % 200))) ((6 * (cn 22)) + 3) (nI ((zn / 15 % 200) + ((zn / 7) % 2000)))) ((6 * (cn 22)) + 4) v9) (nI ((6 * (cn 22)) + 2)).toNatClampNeg = nI (zn / 15 % 200) from (congrArg _ (nI_clamp (show 6 * cn 22 + 2 < 2 ^ 31 by omega))).trans (by rw [upd_ne (by omega), upd_ne (by omega), upd_at])]
        refine lv_aload hx hb dL_law_1767 (lv_at hl 14 rfl) ?_
        refine lv_iload hx hb dL_law_1769 (lv_at hl 0 rfl) ?_
        refine lv_iconst (v := 3) hx hb dL_law_1771 (by decide) ?_
        refine lv_iadd hx hb dL_law_1772 ?_
        refine lv_topi (fun z_26 ez_26 => ?_)
        have ez_26 : z_26 = nI ((6 * (cn 22)) + 3) := ez_26.trans (nI_add (6 * (cn 22)) 3)
        subst ez_26
        refine hk_ild (f := (upd (upd (upd (upd (upd (V 8) (6 * (cn 22)) (nI (zn % 5))) ((6 * (cn 22)) + 1) (nI ((zn / 5) % 3))) ((6 * (cn 22)) + 2) (nI ((zn / 15) % 200))) ((6 * (cn 22)) + 3) (nI ((zn / 15 % 200) + ((zn / 7) % 2000)))) ((6 * (cn 22)) + 4) v9)) X K hL.c8 (vp_in_nI (by omega) (by omega)) dL_law_1773 ?_
        rw [show (upd (upd (upd (upd (upd (V 8) (6 * (cn 22)) (nI (zn % 5))) ((6 * (cn 22)) + 1) (nI ((zn / 5) % 3))) ((6 * (cn 22)) + 2) (nI ((zn / 15) % 200))) ((6 * (cn 22)) + 3) (nI ((zn / 15 % 200) + ((zn / 7) % 2000)))) ((6 * (cn 22)) + 4) v9) (nI ((6 * (cn 22)) + 3)).toNatClampNeg = nI (zn / 15 % 200 + zn / 7 % 2000) from (congrArg _ (nI_clamp (show 6 * cn 22 + 3 < 2 ^ 31 by omega))).trans (by rw [upd_ne (by omega), upd_at])]
        refine lv_aload hx hb dL_law_1774 (lv_at hl 14 rfl) ?_
        refine lv_iload hx hb dL_law_1776 (lv_at hl 0 rfl) ?_
        refine lv_iconst (v := 4) hx hb dL_law_1778 (by decide) ?_
        refine lv_iadd hx hb dL_law_1779 ?_
        refine lv_topi (fun z_27 ez_27 => ?_)
        have ez_27 : z_27 = nI ((6 * (cn 22)) + 4) := ez_27.trans (nI_add (6 * (cn 22)) 4)
        subst ez_27
        refine hk_ild (f := (upd (upd (upd (upd (upd (V 8) (6 * (cn 22)) (nI (zn % 5))) ((6 * (cn 22)) + 1) (nI ((zn / 5) % 3))) ((6 * (cn 22)) + 2) (nI ((zn / 15) % 200))) ((6 * (cn 22)) + 3) (nI ((zn / 15 % 200) + ((zn / 7) % 2000)))) ((6 * (cn 22)) + 4) v9)) X K hL.c8 (vp_in_nI (by omega) (by omega)) dL_law_1780 ?_
        rw [show (upd (upd (upd (upd (upd (V 8) (6 * (cn 22)) (nI (zn % 5))) ((6 * (cn 22)) + 1) (nI ((zn / 5) % 3))) ((6 * (cn 22)) + 2) (nI ((zn / 15) % 200))) ((6 * (cn 22)) + 3) (nI ((zn / 15 % 200) + ((zn / 7) % 2000)))) ((6 * (cn 22)) + 4) v9) (nI ((6 * (cn 22)) + 4)).toNatClampNeg = v9 from (congrArg _ (nI_clamp (show 6 * cn 22 + 4 < 2 ^ 31 by omega))).trans (by rw [upd_at])]
        have hcd0 : cd_rule (nI (zn % 5)) (nI (zn / 5 % 3)) (nI (zn / 15 % 200)) (nI (zn / 15 % 200 + zn / 7 % 2000)) v9 (cn, sc, μ) = 0 := rule_c (by omega) (by omega) (by omega) (by omega) (by omega) (by rw [ev9]; exact sub_rng (c := 5) (by omega) (by omega) (by show (-9 : Int) ≤ _; omega) (by show _ ≤ (9 : Int); omega)) hv0 h22
        refine hk_callVx 5 (As := [.int (nI (zn % 5)), .int (nI (zn / 5 % 3)), .int (nI (zn / 15 % 200)), .int (nI (zn / 15 % 200 + zn / 7 % 2000)), .int v9]) (rest := []) X K hAE hS hl.1 (HW.o hW) rfl (c_X10_rule E l hl9 H23 hW hI hZn (p0 := nI (zn % 5)) (p1 := nI (zn / 5 % 3)) (p2 := nI (zn / 15 % 200)) (p3 := nI (zn / 15 % 200 + zn / 7 % 2000)) (p4 := v9)) hZA gL_law_X10_rule rfl ⟨rfl, hd_X10_rule⟩ rfl ⟨⟨(Nat.le_of_ble_eq_true rfl), (Nat.le_of_ble_eq_true rfl)⟩, (by show cells + 12 ≤ 664990; omega), (by show slots + 600 ≤ 7106859; omega)⟩ rfl (Nat.le_of_ble_eq_true rfl) dL_law_1781 (fun x9 ce9 q9 H9 locs9 hp hS hz9 hk9 hce hcv hcl => by
            obtain ⟨hcs, -⟩ := hp
            rw [hcd0] at hcs
            rcases hcs with ⟨h, -⟩ | ⟨h, -⟩ | ⟨h, -⟩ <;> exact absurd h (by decide)
          ) (fun v9 H28 locsH28 hp hS hzH28 hkH28 => ?_)
        obtain ⟨-, hv, G, R, hW⟩ := hp
        subst hv
        have hL := hL.kept (fun k hk => hkH28 (la k) (hL.lt hk) (hlz k hk))
        have hb4 := Nat.le_trans hb4 hzH28
        have hZn := fun (q : Nat) (h : H28.size ≤ q) => hZn0 q (Nat.le_trans hb4 h)
        refine lv_aload hx hb dL_law_1784 (lv_at hl 16 rfl) ?_
        refine lv_iconst (v := 3) hx hb dL_law_1786 (by decide) ?_
        refine hk_ild (f := (V 10)) X K hL.c10 (show vp_in (nI 3) 6 from vp_in_nI (by decide) (by decide)) dL_law_1787 ?_
        rw [show (V 10) (3 : Int32).toNatClampNeg = nI (cn 22) from hV.g3]
        refine lv_icmp_ne (tgt := 1795) hx hb dL_law_1788 (by decide) (fun c_1788 => ?_) (fun c_1788 => ?_)
        · exact (c_1788 (rfl)).elim
        · refine lv_iconst (v := 1) hx hb dL_law_1791 (by decide) ?_
          refine lv_goto (tgt := 1796) hx hb dL_law_1792 (by decide) ?_
          refine lv_istore (lv' := [(15, .int 1), (21, .int (nI (6 * (cn 22)))), (20, .int (nI st9)), (19, .int (nI zn)), (18, .int kd), (16, .int (nI tn)), (2, .ref (la 0)), (3, .ref (la 1)), (4, .ref (la 2)), (5, .ref (la 3)), (6, .ref (la 4)), (7, .ref (la 5)), (8, .ref (la 6)), (9, .ref (la 7)), (10, .ref (la 8)), (11, .ref (la 9)), (12, .ref (la 10)), (13, .ref (la 11)), (14, .ref (la 12)), (1, .ref ho), (0, .ref b)]) hx hb dL_law_1796 hl (by decide) rfl (fun ls hl => ?_)
          refine lv_aload hx hb dL_law_1798 (lv_at hl 16 rfl) ?_
          refine lv_iconst (v := 3) hx hb dL_law_1800 (by decide) ?_
          refine lv_dup2_11 hx hb dL_law_1801 rfl rfl ?_
          refine hk_ild (f := (V 10)) X K hL.c10 (show vp_in (nI 3) 6 from vp_in_nI (by decide) (by decide)) dL_law_1802 ?_
          rw [show (V 10) (3 : Int32).toNatClampNeg = nI (cn 22) from hV.g3]
          refine lv_iconst (v := 1) hx hb dL_law_1803 (by decide) ?_
          refine lv_iadd hx hb dL_law_1804 ?_
          refine lv_topi (fun z_29 ez_29 => ?_)
          have ez_29 : z_29 = nI ((cn 22) + 1) := ez_29.trans (nI_add (cn 22) 1)
          subst ez_29
          refine hk_ist (f := (V 10)) X K hL.c10 hS (hlA 10 (by decide)) (show vp_in (nI 3) 6 from vp_in_nI (by decide) (by decide)) dL_law_1805 (fun H30 locsH30 hIH30 hzH30 hqH30 hS => ?_)
          rw [show (3 : Int32).toNatClampNeg = 3 from rfl] at hIH30
          have hL := hL.set hla (j := 10) (by decide) hIH30 hqH30
          have hW := hW.kept (fun q h1 h2 => hqH30 q (fun g => h2.elim (fun h => hlz 10 (by decide) (by rw [← g]; exact h)) (fun h => h (by rw [g]; exact hlA 10 (by decide)))))
          have hb4 : b4 ≤ H30.size := by omega
          have hZn := fun (q : Nat) (h : H30.size ≤ q) => hZn0 q (Nat.le_trans hb4 h)
          refine lv_goto (tgt := 2061) hx hb dL_law_1806 (by decide) ?_
          refine W.widen (k := cells + 40) (n := slots + 2000) (by show cells + 12 ≤ _; omega) (by show slots + 600 ≤ _; omega) ?_
          have hV9 := lv_rule hV h22 (x0 := nI (zn % 5)) (x1 := nI (zn / 5 % 3)) (x2 := nI (zn / 15 % 200)) (x3 := nI (zn / 15 % 200 + zn / 7 % 2000)) (x4 := v9)
          exact J2061 H30 _ ⟨G, R, _, _, invF_rule hI hcd0, hV9, hW, LW.mk13 hL.c0 hL.c1 hL.c2 hL.c3 hL.c4 hL.c5 hL.c6 hL.c7 hL.c8 hL.c9 hL.c10 hL.c11 hL.c12, hS, hb4, ⟨fun h => absurd h (by omega), fun _ => h2⟩⟩ _ (lv_sub hl [3, 5, 0, 6, 7, 8, 9, 10, 11, 12, 13, 14, 15, 16, 17, 18, 19, 20] rfl)
      · refine lv_iload hx hb dL_law_1723 (lv_at hl 2 rfl) ?_
        refine lv_bipush (v := 19) hx hb dL_law_1725 (by decide) ?_
        refine lv_idiv hx hb dL_law_1727 (by decide) ?_
        refine lv_topi (fun z_31 ez_31 => ?_)
        have ez_31 : z_31 = nI (zn / 19) := ez_31.trans (pk_div (a := zn) (d := 19) (by omega) (by omega) (by omega))
        subst ez_31
        refine lv_bipush (v := 9) hx hb dL_law_1728 (by decide) ?_
        refine lv_irem hx hb dL_law_1730 (by decide) ?_
        refine lv_topi (fun z_32 ez_32 => ?_)
        have ez_32 : z_32 = nI ((zn / 19) % 9) := ez_32.trans (pk_rem (a := (zn / 19)) (d := 9) (by omega) (by omega) (by omega))
        subst ez_32
        refine lv_iconst (v := 4) hx hb dL_law_1731 (by decide) ?_
        refine lv_isub hx hb dL_law_1732 ?_
        refine lv_topi (fun v9 ev9 => ?_)
        refine lv_goto (tgt := 1746) hx hb dL_law_1733 (by decide) ?_
        refine hk_ist (f := (upd (upd (upd (upd (V 8) (6 * (cn 22)) (nI (zn % 5))) ((6 * (cn 22)) + 1) (nI ((zn / 5) % 3))) ((6 * (cn 22)) + 2) (nI ((zn / 15) % 200))) ((6 * (cn 22)) + 3) (nI ((zn / 15 % 200) + ((zn / 7) % 2000))))) X K hL.c8 hS (hlA 8 (by decide)) (vp_in_nI (by omega) (by omega)) dL_law_1746 (fun H33 locsH33 hIH33 hzH33 hqH33 hS => ?_)
        rw [nI_clamp (show ((6 * (cn 22)) + 4) < 2 ^ 31 by omega)] at hIH33
        have hL := hL.set hla (j := 8) (by decide) hIH33 hqH33
        have hW := hW.kept (fun q h1 h2 => hqH33 q (fun g => h2.elim (fun h => hlz 8 (by decide) (by rw [← g]; exact h)) (fun h => h (by rw [g]; exact hlA 8 (by decide)))))
        have hb4 : b4 ≤ H33.size := by omega
        have hZn := fun (q : Nat) (h : H33.size ≤ q) => hZn0 q (Nat.le_trans hb4 h)
        have hv0 : ¬ v9 = 0 := fun h => by
          have h1 := (sub_int (y := zn / 19 % 9) (c := 4) (by omega) (by omega))
          have h2 : (nI (zn / 19 % 9) - nI 4).toInt = (0 : Int32).toInt := congrArg Int32.toInt (ev9.symm.trans h)
          rw [h1, i_0] at h2
          have h3 := c_1720
          rw [i_le, show (nI (zn / 19 % 9) - 4).toInt = _ from sub_int (c := 4) (by omega) (by omega), i_0] at h3
          omega
        refine lv_aload_n hx hb dL_law_1747 rfl (lv_at hl 19 rfl) ?_
        refine lv_aload hx hb dL_law_1748 (lv_at hl 14 rfl) ?_
        refine lv_iload hx hb dL_law_1750 (lv_at hl 0 rfl) ?_
        refine hk_ild (f := (upd (upd (upd (upd (upd (V 8) (6 * (cn 22)) (nI (zn % 5))) ((6 * (cn 22)) + 1) (nI ((zn / 5) % 3))) ((6 * (cn 22)) + 2) (nI ((zn / 15) % 200))) ((6 * (cn 22)) + 3) (nI ((zn / 15 % 200) + ((zn / 7) % 2000)))) ((6 * (cn 22)) + 4) v9)) X K hL.c8 (vp_in_nI (by omega) (by omega)) dL_law_1752 ?_
        rw [show (upd (upd (upd (upd (upd (V 8) (6 * (cn 22)) (nI (zn % 5))) ((6 * (cn 22)) + 1) (nI ((zn / 5) % 3))) ((6 * (cn 22)) + 2) (nI ((zn / 15) % 200))) ((6 * (cn 22)) + 3) (nI ((zn / 15 % 200) + ((zn / 7) % 2000)))) ((6 * (cn 22)) + 4) v9) (nI (6 * (cn 22))).toNatClampNeg = nI (zn % 5) from (congrArg _ (nI_clamp (show 6 * cn 22 < 2 ^ 31 by omega))).trans (by rw [upd_ne (by omega), upd_ne (by omega), upd_ne (by omega), upd_ne (by omega), upd_at])]
        refine lv_aload hx hb dL_law_1753 (lv_at hl 14 rfl) ?_
        refine lv_iload hx hb dL_law_1755 (lv_at hl 0 rfl) ?_
        refine lv_iconst (v := 1) hx hb dL_law_1757 (by decide) ?_
        refine lv_iadd hx hb dL_law_1758 ?_
        refine lv_topi (fun z_34 ez_34 => ?_)
        have ez_34 : z_34 = nI ((6 * (cn 22)) + 1) := ez_34.trans (nI_add (6 * (cn 22)) 1)
        subst ez_34
        refine hk_ild (f := (upd (upd (upd (upd (upd (V 8) (6 * (cn 22)) (nI (zn % 5))) ((6 * (cn 22)) + 1) (nI ((zn / 5) % 3))) ((6 * (cn 22)) + 2) (nI ((zn / 15) % 200))) ((6 * (cn 22)) + 3) (nI ((zn / 15 % 200) + ((zn / 7) % 2000)))) ((6 * (cn 22)) + 4) v9)) X K hL.c8 (vp_in_nI (by omega) (by omega)) dL_law_1759 ?_
        rw [show (upd (upd (upd (upd (upd (V 8) (6 * (cn 22)) (nI (zn % 5))) ((6 * (cn 22)) + 1) (nI ((zn / 5) % 3))) ((6 * (cn 22)) + 2) (nI ((zn / 15) % 200))) ((6 * (cn 22)) + 3) (nI ((zn / 15 % 200) + ((zn / 7) % 2000)))) ((6 * (cn 22)) + 4) v9) (nI ((6 * (cn 22)) + 1)).toNatClampNeg = nI (zn / 5 % 3) from (congrArg _ (nI_clamp (show 6 * cn 22 + 1 < 2 ^ 31 by omega))).trans (by rw [upd_ne (by omega), upd_ne (by omega), upd_ne (by omega), upd_at])]
        refine lv_aload hx hb dL_law_1760 (lv_at hl 14 rfl) ?_
        refine lv_iload hx hb dL_law_1762 (lv_at hl 0 rfl) ?_
        refine lv_iconst (v := 2) hx hb dL_law_1764 (by decide) ?_
        refine lv_iadd hx hb dL_law_1765 ?_
        refine lv_topi (fun z_35 ez_35 => ?_)
        have ez_35 : z_35 = nI ((6 * (cn 22)) + 2) := ez_35.trans (nI_add (6 * (cn 22)) 2)
        subst ez_35
        refine hk_ild (f := (upd (upd (upd (upd (upd (V 8) (6 * (cn 22)) (nI (zn % 5))) ((6 * (cn 22)) + 1) (nI ((zn / 5) % 3))) ((6 * (cn 22)) + 2) (nI ((zn / 15) % 200))) ((6 * (cn 22)) + 3) (nI ((zn / 15 % 200) + ((zn / 7) % 2000)))) ((6 * (cn 22)) + 4) v9)) X K hL.c8 (vp_in_nI (by omega) (by omega)) dL_law_1766 ?_
        rw [show (upd (upd (upd (upd (upd (V 8) (6 * (cn 22)) (nI (zn % 5))) ((6 * (cn 22)) + 1) (nI ((zn / 5) % 3))) ((6 * (cn 22)) + 2) (nI ((zn / 15) % 200))) ((6 * (cn 22)) + 3) (nI ((zn / 15 % 200) + ((zn / 7) % 2000)))) ((6 * (cn 22)) + 4) v9) (nI ((6 * (cn 22)) + 2)).toNatClampNeg = nI (zn / 15 % 200) from (congrArg _ (nI_clamp (show 6 * cn 22 + 2 < 2 ^ 31 by omega))).trans (by rw [upd_ne (by omega), upd_ne (by omega), upd_at])]
        refine lv_aload hx hb dL_law_1767 (lv_at hl 14 rfl) ?_
        refine lv_iload hx hb dL_law_1769 (lv_at hl 0 rfl) ?_
        refine lv_iconst (v := 3) hx hb dL_law_1771 (by decide) ?_
        refine lv_iadd hx hb dL_law_1772 ?_
        refine lv_topi (fun z_36 ez_36 => ?_)
        have ez_36 : z_36 = nI ((6 * (cn 22)) + 3) := ez_36.trans (nI_add (6 * (cn 22)) 3)
        subst ez_36
        refine hk_ild (f := (upd (upd (upd (upd (upd (V 8) (6 * (cn 22)) (nI (zn % 5))) ((6 * (cn 22)) + 1) (nI ((zn / 5) % 3))) ((6 * (cn 22)) + 2) (nI ((zn / 15) % 200))) ((6 * (cn 22)) + 3) (nI ((zn / 15 % 200) + ((zn / 7) % 2000)))) ((6 * (cn 22)) + 4) v9)) X K hL.c8 (vp_in_nI (by omega) (by omega)) dL_law_1773 ?_
        rw [show (upd (upd (upd (upd (upd (V 8) (6 * (cn 22)) (nI (zn % 5))) ((6 * (cn 22)) + 1) (nI ((zn / 5) % 3))) ((6 * (cn 22)) + 2) (nI ((zn / 15) % 200))) ((6 * (cn 22)) + 3) (nI ((zn / 15 % 200) + ((zn / 7) % 2000)))) ((6 * (cn 22)) + 4) v9) (nI ((6 * (cn 22)) + 3)).toNatClampNeg = nI (zn / 15 % 200 + zn / 7 % 2000) from (congrArg _ (nI_clamp (show 6 * cn 22 + 3 < 2 ^ 31 by omega))).trans (by rw [upd_ne (by omega), upd_at])]
        refine lv_aload hx hb dL_law_1774 (lv_at hl 14 rfl) ?_
        refine lv_iload hx hb dL_law_1776 (lv_at hl 0 rfl) ?_
        refine lv_iconst (v := 4) hx hb dL_law_1778 (by decide) ?_
        refine lv_iadd hx hb dL_law_1779 ?_
        refine lv_topi (fun z_37 ez_37 => ?_)
        have ez_37 : z_37 = nI ((6 * (cn 22)) + 4) := ez_37.trans (nI_add (6 * (cn 22)) 4)
        subst ez_37
        refine hk_ild (f := (upd (upd (upd (upd (upd (V 8) (6 * (cn 22)) (nI (zn % 5))) ((6 * (cn 22)) + 1) (nI ((zn / 5) % 3))) ((6 * (cn 22)) + 2) (nI ((zn / 15) % 200))) ((6 * (cn 22)) + 3) (nI ((zn / 15 % 200) + ((zn / 7) % 2000)))) ((6 * (cn 22)) + 4) v9)) X K hL.c8 (vp_in_nI (by omega) (by omega)) dL_law_1780 ?_
        rw [show (upd (upd (upd (upd (upd (V 8) (6 * (cn 22)) (nI (zn % 5))) ((6 * (cn 22)) + 1) (nI ((zn / 5) % 3))) ((6 * (cn 22)) + 2) (nI ((zn / 15) % 200))) ((6 * (cn 22)) + 3) (nI ((zn / 15 % 200) + ((zn / 7) % 2000)))) ((6 * (cn 22)) + 4) v9) (nI ((6 * (cn 22)) + 4)).toNatClampNeg = v9 from (congrArg _ (nI_clamp (show 6 * cn 22 + 4 < 2 ^ 31 by omega))).trans (by rw [upd_at])]
        have hcd0 : cd_rule (nI (zn % 5)) (nI (zn / 5 % 3)) (nI (zn / 15 % 200)) (nI (zn / 15 % 200 + zn / 7 % 2000)) v9 (cn, sc, μ) = 0 := rule_c (by omega) (by omega) (by omega) (by omega) (by omega) (by rw [ev9]; exact sub_rng (c := 4) (by omega) (by omega) (by show (-9 : Int) ≤ _; omega) (by show _ ≤ (9 : Int); omega)) hv0 h22
        refine hk_callVx 5 (As := [.int (nI (zn % 5)), .int (nI (zn / 5 % 3)), .int (nI (zn / 15 % 200)), .int (nI (zn / 15 % 200 + zn / 7 % 2000)), .int v9]) (rest := []) X K hAE hS hl.1 (HW.o hW) rfl (c_X10_rule E l hl9 H33 hW hI hZn (p0 := nI (zn % 5)) (p1 := nI (zn / 5 % 3)) (p2 := nI (zn / 15 % 200)) (p3 := nI (zn / 15 % 200 + zn / 7 % 2000)) (p4 := v9)) hZA gL_law_X10_rule rfl ⟨rfl, hd_X10_rule⟩ rfl ⟨⟨(Nat.le_of_ble_eq_true rfl), (Nat.le_of_ble_eq_true rfl)⟩, (by show cells + 12 ≤ 664990; omega), (by show slots + 600 ≤ 7106859; omega)⟩ rfl (Nat.le_of_ble_eq_true rfl) dL_law_1781 (fun x9 ce9 q9 H9 locs9 hp hS hz9 hk9 hce hcv hcl => by
            obtain ⟨hcs, -⟩ := hp
            rw [hcd0] at hcs
            rcases hcs with ⟨h, -⟩ | ⟨h, -⟩ | ⟨h, -⟩ <;> exact absurd h (by decide)
          ) (fun v9 H38 locsH38 hp hS hzH38 hkH38 => ?_)
        obtain ⟨-, hv, G, R, hW⟩ := hp
        subst hv
        have hL := hL.kept (fun k hk => hkH38 (la k) (hL.lt hk) (hlz k hk))
        have hb4 := Nat.le_trans hb4 hzH38
        have hZn := fun (q : Nat) (h : H38.size ≤ q) => hZn0 q (Nat.le_trans hb4 h)
        refine lv_aload hx hb dL_law_1784 (lv_at hl 16 rfl) ?_
        refine lv_iconst (v := 3) hx hb dL_law_1786 (by decide) ?_
        refine hk_ild (f := (V 10)) X K hL.c10 (show vp_in (nI 3) 6 from vp_in_nI (by decide) (by decide)) dL_law_1787 ?_
        rw [show (V 10) (3 : Int32).toNatClampNeg = nI (cn 22) from hV.g3]
        refine lv_icmp_ne (tgt := 1795) hx hb dL_law_1788 (by decide) (fun c_1788 => ?_) (fun c_1788 => ?_)
        · exact (c_1788 (rfl)).elim
        · refine lv_iconst (v := 1) hx hb dL_law_1791 (by decide) ?_
          refine lv_goto (tgt := 1796) hx hb dL_law_1792 (by decide) ?_
          refine lv_istore (lv' := [(15, .int 1), (21, .int (nI (6 * (cn 22)))), (20, .int (nI st9)), (19, .int (nI zn)), (18, .int kd), (16, .int (nI tn)), (2, .ref (la 0)), (3, .ref (la 1)), (4, .ref (la 2)), (5, .ref (la 3)), (6, .ref (la 4)), (7, .ref (la 5)), (8, .ref (la 6)), (9, .ref (la 7)), (10, .ref (la 8)), (11, .ref (la 9)), (12, .ref (la 10)), (13, .ref (la 11)), (14, .ref (la 12)), (1, .ref ho), (0, .ref b)]) hx hb dL_law_1796 hl (by decide) rfl (fun ls hl => ?_)
          refine lv_aload hx hb dL_law_1798 (lv_at hl 16 rfl) ?_
          refine lv_iconst (v := 3) hx hb dL_law_1800 (by decide) ?_
          refine lv_dup2_11 hx hb dL_law_1801 rfl rfl ?_
          refine hk_ild (f := (V 10)) X K hL.c10 (show vp_in (nI 3) 6 from vp_in_nI (by decide) (by decide)) dL_law_1802 ?_
          rw [show (V 10) (3 : Int32).toNatClampNeg = nI (cn 22) from hV.g3]
          refine lv_iconst (v := 1) hx hb dL_law_1803 (by decide) ?_
          refine lv_iadd hx hb dL_law_1804 ?_
          refine lv_topi (fun z_39 ez_39 => ?_)
          have ez_39 : z_39 = nI ((cn 22) + 1) := ez_39.trans (nI_add (cn 22) 1)
          subst ez_39
          refine hk_ist (f := (V 10)) X K hL.c10 hS (hlA 10 (by decide)) (show vp_in (nI 3) 6 from vp_in_nI (by decide) (by decide)) dL_law_1805 (fun H40 locsH40 hIH40 hzH40 hqH40 hS => ?_)
          rw [show (3 : Int32).toNatClampNeg = 3 from rfl] at hIH40
          have hL := hL.set hla (j := 10) (by decide) hIH40 hqH40
          have hW := hW.kept (fun q h1 h2 => hqH40 q (fun g => h2.elim (fun h => hlz 10 (by decide) (by rw [← g]; exact h)) (fun h => h (by rw [g]; exact hlA 10 (by decide)))))
          have hb4 : b4 ≤ H40.size := by omega
          have hZn := fun (q : Nat) (h : H40.size ≤ q) => hZn0 q (Nat.le_trans hb4 h)
          refine lv_goto (tgt := 2061) hx hb dL_law_1806 (by decide) ?_
          refine W.widen (k := cells + 40) (n := slots + 2000) (by show cells + 12 ≤ _; omega) (by show slots + 600 ≤ _; omega) ?_
          have hV9 := lv_rule hV h22 (x0 := nI (zn % 5)) (x1 := nI (zn / 5 % 3)) (x2 := nI (zn / 15 % 200)) (x3 := nI (zn / 15 % 200 + zn / 7 % 2000)) (x4 := v9)
          exact J2061 H40 _ ⟨G, R, _, _, invF_rule hI hcd0, hV9, hW, LW.mk13 hL.c0 hL.c1 hL.c2 hL.c3 hL.c4 hL.c5 hL.c6 hL.c7 hL.c8 hL.c9 hL.c10 hL.c11 hL.c12, hS, hb4, ⟨fun h => absurd h (by omega), fun _ => h2⟩⟩ _ (lv_sub hl [3, 5, 0, 6, 7, 8, 9, 10, 11, 12, 13, 14, 15, 16, 17, 18, 19, 20] rfl)

set_option maxHeartbeats 4000000 in
set_option maxRecDepth 100000 in
theorem k_1530 {p : Program} {l : Launch} {e : Env} {s : State} {m : MethodId} {below : List Frame} {meth : Method} {c : Code} {b L : Nat} {xs : Nat → Int32} {E : hk_E} {Z : Nat → Prop} {ho ts b4 : Nat} {li : Nat → Nat} {rr : Nat → Nat → Nat} {la : Nat → Nat} (G0 : lw_G p l s m meth c b L xs E Z la b4) {H : Heap} {locs : List Loc} {cells slots tn zn st9 : Nat} {kd : Int32} (hJ0 : lw_J E Z ho ts li rr la b4 s (fun S => 2 ≤ S.1 1 ∧ st9 < S.1 1) H locs) (hz31 : zn < 2 ^ 31) (ht2 : 2 ≤ tn) (hce : cells + 40 ≤ 664990) (hsl : slots + 2000 ≤ 7106859) {ls : Array Slot} (hl : lv_has ls 26 [(20, .int (nI st9)), (19, .int (nI zn)), (18, .int kd), (16, .int (nI tn)), (15, .int 1), (2, .ref (la 0)), (3, .ref (la 1)), (4, .ref (la 2)), (5, .ref (la 3)), (6, .ref (la 4)), (7, .ref (la 5)), (8, .ref (la 6)), (9, .ref (la 7)), (10, .ref (la 8)), (11, .ref (la 9)), (12, .ref (la 10)), (13, .ref (la 11)), (14, .ref (la 12)), (1, .ref ho), (0, .ref b)])
  (J2061 : ∀ (H1 : Heap) (locs1 : List Loc), lw_J E Z ho ts li rr la b4 s (fun S => tI (tn + 1) (S.1 1)) H1 locs1 → ∀ (ls : Array Slot), lv_has ls 26 [(19, .int (nI zn)), (16, .int (nI tn)), (15, .int 1), (2, .ref (la 0)), (3, .ref (la 1)), (4, .ref (la 2)), (5, .ref (la 3)), (6, .ref (la 4)), (7, .ref (la 5)), (8, .ref (la 6)), (9, .ref (la 7)), (10, .ref (la 8)), (11, .ref (la 9)), (12, .ref (la 10)), (13, .ref (la 11)), (14, .ref (la 12)), (1, .ref ho), (0, .ref b)] → W p l e room_1 s m #[Value.ref b] below meth c H1 locs1 (cells + 40) (slots + 2000) (lw_Z below #[Value.ref b] s) (F0 m 2061 ls [])) : W p l e room_1 s m #[Value.ref b] below meth c H locs cells slots (lw_Z below #[Value.ref b] s) (F0 m 1530 ls []) := by
  obtain ⟨hl9, hLL, C0, X, K, hE, hZn0, hlz, hla, hlA⟩ := id G0
  obtain ⟨G, R, V, ⟨cn, sc, μ⟩, hI, hV, hW, hL, hS, hb4, ⟨h2, hst⟩⟩ := hJ0
  obtain ⟨hx, hb, hr, hml, hown, hts, hXs, hbl, hlocks, -⟩ := id C0
  have hAE : ∀ q, hk_A E q → hk_A E q := fun _ h => h
  have hZA : ∀ q, Z q → hk_A E q := hW.2.2.2.2.2.2.2.2.2.2.2.2
  have hZn : ∀ q, H.size ≤ q → Z q := fun q h => hZn0 q (Nat.le_trans hb4 h)
  have hn1 : cn 1 ≤ 4 := hV.n1
  have hn8 : cn 8 ≤ 3 := hV.n8
  have hn12 : cn 12 ≤ 24 := hV.n12
  have hn22 : cn 22 ≤ 4 := hV.n22
  have hn29 : cn 29 ≤ 8 := hV.n29
  have h2 : 2 ≤ cn 1 := h2
  have hst : st9 < cn 1 := hst
  refine lv_iload hx hb dL_law_1530 (lv_at hl 2 rfl) ?_
  refine lv_bipush (v := 21) hx hb dL_law_1532 (by decide) ?_
  refine lv_icmp_ge (tgt := 1618) hx hb dL_law_1534 (by decide) (fun c_1534 => ?_) (fun c_1534 => ?_)
  · exact k_1618 G0 ⟨G, R, V, (cn, sc, μ), hI, hV, hW, hL, hS, hb4, ⟨h2, hst⟩⟩ hz31 ht2 hce hsl hl J2061
  · refine lv_iload hx hb dL_law_1537 (lv_at hl 1 rfl) ?_
    refine lv_iconst (v := 4) hx hb dL_law_1539 (by decide) ?_
    refine lv_idiv hx hb dL_law_1540 (by decide) ?_
    refine lv_topi (fun z_1 ez_1 => ?_)
    have ez_1 : z_1 = nI (zn / 4) := ez_1.trans (pk_div (a := zn) (d := 4) (by omega) (by omega) (by omega))
    subst ez_1
    refine lv_bipush (v := 6) hx hb dL_law_1541 (by decide) ?_
    refine lv_irem hx hb dL_law_1543 (by decide) ?_
    refine lv_topi (fun z_2 ez_2 => ?_)
    have ez_2 : z_2 = nI ((zn / 4) % 6) := ez_2.trans (pk_rem (a := (zn / 4)) (d := 6) (by omega) (by omega) (by omega))
    subst ez_2
    refine lv_if_ne (tgt := 1551) hx hb dL_law_1544 (by decide) (fun c_1544 => ?_) (fun c_1544 => ?_)
    · refine lv_bipush (v := 30) hx hb dL_law_1551 (by decide) ?_
      refine lv_iload hx hb dL_law_1553 (lv_at hl 1 rfl) ?_
      refine lv_bipush (v := 24) hx hb dL_law_1555 (by decide) ?_
      refine lv_idiv hx hb dL_law_1557 (by decide) ?_
      refine lv_topi (fun z_3 ez_3 => ?_)
      have ez_3 : z_3 = nI (zn / 24) := ez_3.trans (pk_div (a := zn) (d := 24) (by omega) (by omega) (by omega))
      subst ez_3
      refine lv_iload hx hb dL_law_1558 (lv_at hl 1 rfl) ?_
      refine lv_iconst (v := 2) hx hb dL_law_1560 (by decide) ?_
      refine lv_irem hx hb dL_law_1561 (by decide) ?_
      refine lv_topi (fun z_4 ez_4 => ?_)
      have ez_4 : z_4 = nI (zn % 2) := ez_4.trans (pk_rem (a := zn) (d := 2) (by omega) (by omega) (by omega))
      subst ez_4
      refine lv_if_ne (tgt := 1570) hx hb dL_law_1562 (by decide) (fun c_1562 => ?_) (fun c_1562 => ?_)
      · refine lv_sipush (v := 3000) hx hb dL_law_1570 (by decide) ?_
        refine lv_irem hx hb dL_law_1573 (by decide) ?_
        refine lv_topi (fun z_5 ez_5 => ?_)
        have ez_5 : z_5 = nI ((zn / 24) % 3000) := ez_5.trans (pk_rem (a := (zn / 24)) (d := 3000) (by omega) (by omega) (by omega))
        subst ez_5
        refine lv_iadd hx hb dL_law_1574 ?_
        refine lv_topi (fun z_6 ez_6 => ?_)
        have ez_6 : z_6 = nI (30 + ((zn / 24) % 3000)) := ez_6.trans (nI_add 30 ((zn / 24) % 3000))
        subst ez_6
        refine lv_istore (lv' := [(21, .int (nI (30 + ((zn / 24) % 3000)))), (20, .int (nI st9)), (19, .int (nI zn)), (18, .int kd), (16, .int (nI tn)), (15, .int 1), (2, .ref (la 0)), (3, .ref (la 1)), (4, .ref (la 2)), (5, .ref (la 3)), (6, .ref (la 4)), (7, .ref (la 5)), (8, .ref (la 6)), (9, .ref (la 7)), (10, .ref (la 8)), (11, .ref (la 9)), (12, .ref (la 10)), (13, .ref (la 11)), (14, .ref (la 12)), (1, .ref ho), (0, .ref b)]) hx hb dL_law_1575 hl (by decide) rfl (fun ls hl => ?_)
        refine lv_aload_n hx hb dL_law_1577 rfl (lv_at hl 19 rfl) ?_
        refine lv_iload hx hb dL_law_1578 (lv_at hl 1 rfl) ?_
        refine lv_iload hx hb dL_law_1580 (lv_at hl 0 rfl) ?_
        have hcd0 : cd_claim (nI st9) (nI (30 + ((zn / 24) % 3000))) (cn, sc, μ) = 0 := clai_c hst hn1 (Or.inr (inr_nI (a := 30) (b := 1000000) (by omega) (by omega) (by omega)))
        refine hk_callVx 2 (As := [.int (nI st9), .int (nI (30 + ((zn / 24) % 3000)))]) (rest := []) X K hAE hS hl.1 (HW.o hW) rfl (c_X10_claim E l hl9 H hW hI hZn (p0 := nI st9) (p1 := nI (30 + ((zn / 24) % 3000)))) hZA gL_law_X10_claim rfl ⟨rfl, hd_X10_claim⟩ rfl ⟨⟨(Nat.le_of_ble_eq_true rfl), (Nat.le_of_ble_eq_true rfl)⟩, (by show cells + 8 ≤ 664990; omega), (by show slots + 400 ≤ 7106859; omega)⟩ rfl (Nat.le_of_ble_eq_true rfl) dL_law_1582 (fun x9 ce9 q9 H9 locs9 hp hS hz9 hk9 hce hcv hcl => by
            obtain ⟨hcs, -⟩ := hp
            rw [hcd0] at hcs
            rcases hcs with ⟨h, -⟩ | ⟨h, -⟩ | ⟨h, -⟩ <;> exact absurd h (by decide)
          ) (fun v9 H7 locsH7 hp hS hzH7 hkH7 => ?_)
        obtain ⟨-, hv, G, R, hW⟩ := hp
        subst hv
        have hL := hL.kept (fun k hk => hkH7 (la k) (hL.lt hk) (hlz k hk))
        have hb4 := Nat.le_trans hb4 hzH7
        have hZn := fun (q : Nat) (h : H7.size ≤ q) => hZn0 q (Nat.le_trans hb4 h)
        refine lv_aload hx hb dL_law_1585 (lv_at hl 9 rfl) ?_
        refine lv_iconst (v := 4) hx hb dL_law_1587 (by decide) ?_
        refine lv_iload hx hb dL_law_1588 (lv_at hl 1 rfl) ?_
        refine lv_imul hx hb dL_law_1590 ?_
        refine lv_topi (fun z_8 ez_8 => ?_)
        have ez_8 : z_8 = nI (4 * st9) := ez_8.trans (nI_mul 4 st9)
        subst ez_8
        refine lv_iconst (v := 2) hx hb dL_law_1591 (by decide) ?_
        refine lv_iadd hx hb dL_law_1592 ?_
        refine lv_topi (fun z_9 ez_9 => ?_)
        have ez_9 : z_9 = nI ((4 * st9) + 2) := ez_9.trans (nI_add (4 * st9) 2)
        subst ez_9
        refine hk_ild (f := (V 3)) X K hL.c3 (vp_in_nI (by omega) (by omega)) dL_law_1593 ?_
        rw [show (V 3) (nI ((4 * st9) + 2)).toNatClampNeg = V 3 ((4 * st9) + 2) from by rw [nI_clamp (show ((4 * st9) + 2) < 2 ^ 31 by omega)]]
        refine lv_icmp_ne (tgt := 1601) hx hb dL_law_1594 (by decide) (fun c_1594 => ?_) (fun c_1594 => ?_)
        · exact (c_1594 ((clai_a (S := (cn, sc, μ)) (by omega)).trans (hV.a2 (by omega)).symm)).elim
        · refine lv_iconst (v := 1) hx hb dL_law_1597 (by decide) ?_
          refine lv_goto (tgt := 1602) hx hb dL_law_1598 (by decide) ?_
          refine lv_istore (lv' := [(15, .int 1), (21, .int (nI (30 + ((zn / 24) % 3000)))), (20, .int (nI st9)), (19, .int (nI zn)), (18, .int kd), (16, .int (nI tn)), (2, .ref (la 0)), (3, .ref (la 1)), (4, .ref (la 2)), (5, .ref (la 3)), (6, .ref (la 4)), (7, .ref (la 5)), (8, .ref (la 6)), (9, .ref (la 7)), (10, .ref (la 8)), (11, .ref (la 9)), (12, .ref (la 10)), (13, .ref (la 11)), (14, .ref (la 12)), (1, .ref ho), (0, .ref b)]) hx hb dL_law_1602 hl (by decide) rfl (fun ls hl => ?_)
          refine lv_aload hx hb dL_law_1604 (lv_at hl 9 rfl) ?_
          refine lv_iconst (v := 4) hx hb dL_law_1606 (by decide) ?_
          refine lv_iload hx hb dL_law_1607 (lv_at hl 2 rfl) ?_
          refine lv_imul hx hb dL_law_1609 ?_
          refine lv_topi (fun z_10 ez_10 => ?_)
          have ez_10 : z_10 = nI (4 * st9) := ez_10.trans (nI_mul 4 st9)
          subst ez_10
          refine lv_iconst (v := 2) hx hb dL_law_1610 (by decide) ?_
          refine lv_iadd hx hb dL_law_1611 ?_
          refine lv_topi (fun z_11 ez_11 => ?_)
          have ez_11 : z_11 = nI ((4 * st9) + 2) := ez_11.trans (nI_add (4 * st9) 2)
          subst ez_11
          refine lv_iload hx hb dL_law_1612 (lv_at hl 1 rfl) ?_
          refine hk_ist (f := (V 3)) X K hL.c3 hS (hlA 3 (by decide)) (vp_in_nI (by omega) (by omega)) dL_law_1614 (fun H12 locsH12 hIH12 hzH12 hqH12 hS => ?_)
          rw [nI_clamp (show ((4 * st9) + 2) < 2 ^ 31 by omega)] at hIH12
          have hL := hL.set hla (j := 3) (by decide) hIH12 hqH12
          have hW := hW.kept (fun q h1 h2 => hqH12 q (fun g => h2.elim (fun h => hlz 3 (by decide) (by rw [← g]; exact h)) (fun h => h (by rw [g]; exact hlA 3 (by decide)))))
          have hb4 : b4 ≤ H12.size := by omega
          have hZn := fun (q : Nat) (h : H12.size ≤ q) => hZn0 q (Nat.le_trans hb4 h)
          refine lv_goto (tgt := 2061) hx hb dL_law_1615 (by decide) ?_
          refine W.widen (k := cells + 40) (n := slots + 2000) (by show cells + 8 ≤ _; omega) (by show slots + 400 ≤ _; omega) ?_
          have hV9 := lv_claim hV (at9 := st9) (by omega) (x := nI (30 + ((zn / 24) % 3000)))
          exact J2061 H12 _ ⟨G, R, _, _, invF_claim hI hcd0, hV9, hW, LW.mk13 hL.c0 hL.c1 hL.c2 hL.c3 hL.c4 hL.c5 hL.c6 hL.c7 hL.c8 hL.c9 hL.c10 hL.c11 hL.c12, hS, hb4, ⟨fun h => absurd h (by omega), fun _ => h2⟩⟩ _ (lv_sub hl [3, 5, 0, 6, 7, 8, 9, 10, 11, 12, 13, 14, 15, 16, 17, 18, 19, 20] rfl)
      · refine lv_ldc hx hb hown (hts (.constant RL 168 (999971)) (by decide +kernel)) dL_law_1565 ?_
        refine lv_goto (tgt := 1573) hx hb dL_law_1567 (by decide) ?_
        refine lv_irem hx hb dL_law_1573 (by decide) ?_
        refine lv_topi (fun z_13 ez_13 => ?_)
        have ez_13 : z_13 = nI ((zn / 24) % 999971) := ez_13.trans (pk_rem (a := (zn / 24)) (d := 999971) (by omega) (by omega) (by omega))
        subst ez_13
        refine lv_iadd hx hb dL_law_1574 ?_
        refine lv_topi (fun z_14 ez_14 => ?_)
        have ez_14 : z_14 = nI (30 + ((zn / 24) % 999971)) := ez_14.trans (nI_add 30 ((zn / 24) % 999971))
        subst ez_14
        refine lv_istore (lv' := [(21, .int (nI (30 + ((zn / 24) % 999971)))), (20, .int (nI st9)), (19, .int (nI zn)), (18, .int kd), (16, .int (nI tn)), (15, .int 1), (2, .ref (la 0)), (3, .ref (la 1)), (4, .ref (la 2)), (5, .ref (la 3)), (6, .ref (la 4)), (7, .ref (la 5)), (8, .ref (la 6)), (9, .ref (la 7)), (10, .ref (la 8)), (11, .ref (la 9)), (12, .ref (la 10)), (13, .ref (la 11)), (14, .ref (la 12)), (1, .ref ho), (0, .ref b)]) hx hb dL_law_1575 hl (by decide) rfl (fun ls hl => ?_)
        refine lv_aload_n hx hb dL_law_1577 rfl (lv_at hl 19 rfl) ?_
        refine lv_iload hx hb dL_law_1578 (lv_at hl 1 rfl) ?_
        refine lv_iload hx hb dL_law_1580 (lv_at hl 0 rfl) ?_
        have hcd0 : cd_claim (nI st9) (nI (30 + ((zn / 24) % 999971))) (cn, sc, μ) = 0 := clai_c hst hn1 (Or.inr (inr_nI (a := 30) (b := 1000000) (by omega) (by omega) (by omega)))
        refine hk_callVx 2 (As := [.int (nI st9), .int (nI (30 + ((zn / 24) % 999971)))]) (rest := []) X K hAE hS hl.1 (HW.o hW) rfl (c_X10_claim E l hl9 H hW hI hZn (p0 := nI st9) (p1 := nI (30 + ((zn / 24) % 999971)))) hZA gL_law_X10_claim rfl ⟨rfl, hd_X10_claim⟩ rfl ⟨⟨(Nat.le_of_ble_eq_true rfl), (Nat.le_of_ble_eq_true rfl)⟩, (by show cells + 8 ≤ 664990; omega), (by show slots + 400 ≤ 7106859; omega)⟩ rfl (Nat.le_of_ble_eq_true rfl) dL_law_1582 (fun x9 ce9 q9 H9 locs9 hp hS hz9 hk9 hce hcv hcl => by
            obtain ⟨hcs, -⟩ := hp
            rw [hcd0] at hcs
            rcases hcs with ⟨h, -⟩ | ⟨h, -⟩ | ⟨h, -⟩ <;> exact absurd h (by decide)
          ) (fun v9 H15 locsH15 hp hS hzH15 hkH15 => ?_)
        obtain ⟨-, hv, G, R, hW⟩ := hp
        subst hv
        have hL := hL.kept (fun k hk => hkH15 (la k) (hL.lt hk) (hlz k hk))
        have hb4 := Nat.le_trans hb4 hzH15
        have hZn := fun (q : Nat) (h : H15.size ≤ q) => hZn0 q (Nat.le_trans hb4 h)
        refine lv_aload hx hb dL_law_1585 (lv_at hl 9 rfl) ?_
        refine lv_iconst (v := 4) hx hb dL_law_1587 (by decide) ?_
        refine lv_iload hx hb dL_law_1588 (lv_at hl 1 rfl) ?_
        refine lv_imul hx hb dL_law_1590 ?_
        refine lv_topi (fun z_16 ez_16 => ?_)
        have ez_16 : z_16 = nI (4 * st9) := ez_16.trans (nI_mul 4 st9)
        subst ez_16
        refine lv_iconst (v := 2) hx hb dL_law_1591 (by decide) ?_
        refine lv_iadd hx hb dL_law_1592 ?_
        refine lv_topi (fun z_17 ez_17 => ?_)
        have ez_17 : z_17 = nI ((4 * st9) + 2) := ez_17.trans (nI_add (4 * st9) 2)
        subst ez_17
        refine hk_ild (f := (V 3)) X K hL.c3 (vp_in_nI (by omega) (by omega)) dL_law_1593 ?_
        rw [show (V 3) (nI ((4 * st9) + 2)).toNatClampNeg = V 3 ((4 * st9) + 2) from by rw [nI_clamp (show ((4 * st9) + 2) < 2 ^ 31 by omega)]]
        refine lv_icmp_ne (tgt := 1601) hx hb dL_law_1594 (by decide) (fun c_1594 => ?_) (fun c_1594 => ?_)
        · exact (c_1594 ((clai_a (S := (cn, sc, μ)) (by omega)).trans (hV.a2 (by omega)).symm)).elim
        · refine lv_iconst (v := 1) hx hb dL_law_1597 (by decide) ?_
          refine lv_goto (tgt := 1602) hx hb dL_law_1598 (by decide) ?_
          refine lv_istore (lv' := [(15, .int 1), (21, .int (nI (30 + ((zn / 24) % 999971)))), (20, .int (nI st9)), (19, .int (nI zn)), (18, .int kd), (16, .int (nI tn)), (2, .ref (la 0)), (3, .ref (la 1)), (4, .ref (la 2)), (5, .ref (la 3)), (6, .ref (la 4)), (7, .ref (la 5)), (8, .ref (la 6)), (9, .ref (la 7)), (10, .ref (la 8)), (11, .ref (la 9)), (12, .ref (la 10)), (13, .ref (la 11)), (14, .ref (la 12)), (1, .ref ho), (0, .ref b)]) hx hb dL_law_1602 hl (by decide) rfl (fun ls hl => ?_)
          refine lv_aload hx hb dL_law_1604 (lv_at hl 9 rfl) ?_
          refine lv_iconst (v := 4) hx hb dL_law_1606 (by decide) ?_
          refine lv_iload hx hb dL_law_1607 (lv_at hl 2 rfl) ?_
          refine lv_imul hx hb dL_law_1609 ?_
          refine lv_topi (fun z_18 ez_18 => ?_)
          have ez_18 : z_18 = nI (4 * st9) := ez_18.trans (nI_mul 4 st9)
          subst ez_18
          refine lv_iconst (v := 2) hx hb dL_law_1610 (by decide) ?_
          refine lv_iadd hx hb dL_law_1611 ?_
          refine lv_topi (fun z_19 ez_19 => ?_)
          have ez_19 : z_19 = nI ((4 * st9) + 2) := ez_19.trans (nI_add (4 * st9) 2)
          subst ez_19
          refine lv_iload hx hb dL_law_1612 (lv_at hl 1 rfl) ?_
          refine hk_ist (f := (V 3)) X K hL.c3 hS (hlA 3 (by decide)) (vp_in_nI (by omega) (by omega)) dL_law_1614 (fun H20 locsH20 hIH20 hzH20 hqH20 hS => ?_)
          rw [nI_clamp (show ((4 * st9) + 2) < 2 ^ 31 by omega)] at hIH20
          have hL := hL.set hla (j := 3) (by decide) hIH20 hqH20
          have hW := hW.kept (fun q h1 h2 => hqH20 q (fun g => h2.elim (fun h => hlz 3 (by decide) (by rw [← g]; exact h)) (fun h => h (by rw [g]; exact hlA 3 (by decide)))))
          have hb4 : b4 ≤ H20.size := by omega
          have hZn := fun (q : Nat) (h : H20.size ≤ q) => hZn0 q (Nat.le_trans hb4 h)
          refine lv_goto (tgt := 2061) hx hb dL_law_1615 (by decide) ?_
          refine W.widen (k := cells + 40) (n := slots + 2000) (by show cells + 8 ≤ _; omega) (by show slots + 400 ≤ _; omega) ?_
          have hV9 := lv_claim hV (at9 := st9) (by omega) (x := nI (30 + ((zn / 24) % 999971)))
          exact J2061 H20 _ ⟨G, R, _, _, invF_claim hI hcd0, hV9, hW, LW.mk13 hL.c0 hL.c1 hL.c2 hL.c3 hL.c4 hL.c5 hL.c6 hL.c7 hL.c8 hL.c9 hL.c10 hL.c11 hL.c12, hS, hb4, ⟨fun h => absurd h (by omega), fun _ => h2⟩⟩ _ (lv_sub hl [3, 5, 0, 6, 7, 8, 9, 10, 11, 12, 13, 14, 15, 16, 17, 18, 19, 20] rfl)
    · refine lv_iconst (v := 0) hx hb dL_law_1547 (by decide) ?_
      refine lv_goto (tgt := 1575) hx hb dL_law_1548 (by decide) ?_
      refine lv_istore (lv' := [(21, .int 0), (20, .int (nI st9)), (19, .int (nI zn)), (18, .int kd), (16, .int (nI tn)), (15, .int 1), (2, .ref (la 0)), (3, .ref (la 1)), (4, .ref (la 2)), (5, .ref (la 3)), (6, .ref (la 4)), (7, .ref (la 5)), (8, .ref (la 6)), (9, .ref (la 7)), (10, .ref (la 8)), (11, .ref (la 9)), (12, .ref (la 10)), (13, .ref (la 11)), (14, .ref (la 12)), (1, .ref ho), (0, .ref b)]) hx hb dL_law_1575 hl (by decide) rfl (fun ls hl => ?_)
      refine lv_aload_n hx hb dL_law_1577 rfl (lv_at hl 19 rfl) ?_
      refine lv_iload hx hb dL_law_1578 (lv_at hl 1 rfl) ?_
      refine lv_iload hx hb dL_law_1580 (lv_at hl 0 rfl) ?_
      have hcd0 : cd_claim (nI st9) 0 (cn, sc, μ) = 0 := clai_c hst hn1 (Or.inl rfl)
      refine hk_callVx 2 (As := [.int (nI st9), .int 0]) (rest := []) X K hAE hS hl.1 (HW.o hW) rfl (c_X10_claim E l hl9 H hW hI hZn (p0 := nI st9) (p1 := 0)) hZA gL_law_X10_claim rfl ⟨rfl, hd_X10_claim⟩ rfl ⟨⟨(Nat.le_of_ble_eq_true rfl), (Nat.le_of_ble_eq_true rfl)⟩, (by show cells + 8 ≤ 664990; omega), (by show slots + 400 ≤ 7106859; omega)⟩ rfl (Nat.le_of_ble_eq_true rfl) dL_law_1582 (fun x9 ce9 q9 H9 locs9 hp hS hz9 hk9 hce hcv hcl => by
          obtain ⟨hcs, -⟩ := hp
          rw [hcd0] at hcs
          rcases hcs with ⟨h, -⟩ | ⟨h, -⟩ | ⟨h, -⟩ <;> exact absurd h (by decide)
        ) (fun v9 H21 locsH21 hp hS hzH21 hkH21 => ?_)
      obtain ⟨-, hv, G, R, hW⟩ := hp
      subst hv
      have hL := hL.kept (fun k hk => hkH21 (la k) (hL.lt hk) (hlz k hk))
      have hb4 := Nat.le_trans hb4 hzH21
      have hZn := fun (q : Nat) (h : H21.size ≤ q) => hZn0 q (Nat.le_trans hb4 h)
      refine lv_aload hx hb dL_law_1585 (lv_at hl 9 rfl) ?_
      refine lv_iconst (v := 4) hx hb dL_law_1587 (by decide) ?_
      refine lv_iload hx hb dL_law_1588 (lv_at hl 1 rfl) ?_
      refine lv_imul hx hb dL_law_1590 ?_
      refine lv_topi (fun z_22 ez_22 => ?_)
      have ez_22 : z_22 = nI (4 * st9) := ez_22.trans (nI_mul 4 st9)
      subst ez_22
      refine lv_iconst (v := 2) hx hb dL_law_1591 (by decide) ?_
      refine lv_iadd hx hb dL_law_1592 ?_
      refine lv_topi (fun z_23 ez_23 => ?_)
      have ez_23 : z_23 = nI ((4 * st9) + 2) := ez_23.trans (nI_add (4 * st9) 2)
      subst ez_23
      refine hk_ild (f := (V 3)) X K hL.c3 (vp_in_nI (by omega) (by omega)) dL_law_1593 ?_
      rw [show (V 3) (nI ((4 * st9) + 2)).toNatClampNeg = V 3 ((4 * st9) + 2) from by rw [nI_clamp (show ((4 * st9) + 2) < 2 ^ 31 by omega)]]
      refine lv_icmp_ne (tgt := 1601) hx hb dL_law_1594 (by decide) (fun c_1594 => ?_) (fun c_1594 => ?_)
      · exact (c_1594 ((clai_a (S := (cn, sc, μ)) (by omega)).trans (hV.a2 (by omega)).symm)).elim
      · refine lv_iconst (v := 1) hx hb dL_law_1597 (by decide) ?_
        refine lv_goto (tgt := 1602) hx hb dL_law_1598 (by decide) ?_
        refine lv_istore (lv' := [(15, .int 1), (21, .int 0), (20, .int (nI st9)), (19, .int (nI zn)), (18, .int kd), (16, .int (nI tn)), (2, .ref (la 0)), (3, .ref (la 1)), (4, .ref (la 2)), (5, .ref (la 3)), (6, .ref (la 4)), (7, .ref (la 5)), (8, .ref (la 6)), (9, .ref (la 7)), (10, .ref (la 8)), (11, .ref (la 9)), (12, .ref (la 10)), (13, .ref (la 11)), (14, .ref (la 12)), (1, .ref ho), (0, .ref b)]) hx hb dL_law_1602 hl (by decide) rfl (fun ls hl => ?_)
        refine lv_aload hx hb dL_law_1604 (lv_at hl 9 rfl) ?_
        refine lv_iconst (v := 4) hx hb dL_law_1606 (by decide) ?_
        refine lv_iload hx hb dL_law_1607 (lv_at hl 2 rfl) ?_
        refine lv_imul hx hb dL_law_1609 ?_
        refine lv_topi (fun z_24 ez_24 => ?_)
        have ez_24 : z_24 = nI (4 * st9) := ez_24.trans (nI_mul 4 st9)
        subst ez_24
        refine lv_iconst (v := 2) hx hb dL_law_1610 (by decide) ?_
        refine lv_iadd hx hb dL_law_1611 ?_
        refine lv_topi (fun z_25 ez_25 => ?_)
        have ez_25 : z_25 = nI ((4 * st9) + 2) := ez_25.trans (nI_add (4 * st9) 2)
        subst ez_25
        refine lv_iload hx hb dL_law_1612 (lv_at hl 1 rfl) ?_
        refine hk_ist (f := (V 3)) X K hL.c3 hS (hlA 3 (by decide)) (vp_in_nI (by omega) (by omega)) dL_law_1614 (fun H26 locsH26 hIH26 hzH26 hqH26 hS => ?_)
        rw [nI_clamp (show ((4 * st9) + 2) < 2 ^ 31 by omega)] at hIH26
        have hL := hL.set hla (j := 3) (by decide) hIH26 hqH26
        have hW := hW.kept (fun q h1 h2 => hqH26 q (fun g => h2.elim (fun h => hlz 3 (by decide) (by rw [← g]; exact h)) (fun h => h (by rw [g]; exact hlA 3 (by decide)))))
        have hb4 : b4 ≤ H26.size := by omega
        have hZn := fun (q : Nat) (h : H26.size ≤ q) => hZn0 q (Nat.le_trans hb4 h)
        refine lv_goto (tgt := 2061) hx hb dL_law_1615 (by decide) ?_
        refine W.widen (k := cells + 40) (n := slots + 2000) (by show cells + 8 ≤ _; omega) (by show slots + 400 ≤ _; omega) ?_
        have hV9 := lv_claim hV (at9 := st9) (by omega) (x := 0)
        exact J2061 H26 _ ⟨G, R, _, _, invF_claim hI hcd0, hV9, hW, LW.mk13 hL.c0 hL.c1 hL.c2 hL.c3 hL.c4 hL.c5 hL.c6 hL.c7 hL.c8 hL.c9 hL.c10 hL.c11 hL.c12, hS, hb4, ⟨fun h => absurd h (by omega), fun _ => h2⟩⟩ _ (lv_sub hl [3, 5, 0, 6, 7, 8, 9, 10, 11, 12, 13, 14, 15, 16, 17, 18, 19, 20] rfl)

set_option maxHeartbeats 4000000 in
set_option maxRecDepth 100000 in
theorem k_1396 {p : Program} {l : Launch} {e : Env} {s : State} {m : MethodId} {below : List Frame} {meth : Method} {c : Code} {b L : Nat} {xs : Nat → Int32} {E : hk_E} {Z : Nat → Prop} {ho ts b4 : Nat} {li : Nat → Nat} {rr : Nat → Nat → Nat} {la : Nat → Nat} (G0 : lw_G p l s m meth c b L xs E Z la b4) {H : Heap} {locs : List Loc} {cells slots tn zn st9 : Nat} {kd : Int32} (hJ0 : lw_J E Z ho ts li rr la b4 s (fun S => 2 ≤ S.1 1 ∧ st9 < S.1 1) H locs) (hz31 : zn < 2 ^ 31) (ht2 : 2 ≤ tn) (hce : cells + 40 ≤ 664990) (hsl : slots + 2000 ≤ 7106859) {ls : Array Slot} (hl : lv_has ls 26 [(20, .int (nI st9)), (19, .int (nI zn)), (18, .int kd), (16, .int (nI tn)), (15, .int 1), (2, .ref (la 0)), (3, .ref (la 1)), (4, .ref (la 2)), (5, .ref (la 3)), (6, .ref (la 4)), (7, .ref (la 5)), (8, .ref (la 6)), (9, .ref (la 7)), (10, .ref (la 8)), (11, .ref (la 9)), (12, .ref (la 10)), (13, .ref (la 11)), (14, .ref (la 12)), (1, .ref ho), (0, .ref b)])
  (J2061 : ∀ (H1 : Heap) (locs1 : List Loc), lw_J E Z ho ts li rr la b4 s (fun S => tI (tn + 1) (S.1 1)) H1 locs1 → ∀ (ls : Array Slot), lv_has ls 26 [(19, .int (nI zn)), (16, .int (nI tn)), (15, .int 1), (2, .ref (la 0)), (3, .ref (la 1)), (4, .ref (la 2)), (5, .ref (la 3)), (6, .ref (la 4)), (7, .ref (la 5)), (8, .ref (la 6)), (9, .ref (la 7)), (10, .ref (la 8)), (11, .ref (la 9)), (12, .ref (la 10)), (13, .ref (la 11)), (14, .ref (la 12)), (1, .ref ho), (0, .ref b)] → W p l e room_1 s m #[Value.ref b] below meth c H1 locs1 (cells + 40) (slots + 2000) (lw_Z below #[Value.ref b] s) (F0 m 2061 ls [])) : W p l e room_1 s m #[Value.ref b] below meth c H locs cells slots (lw_Z below #[Value.ref b] s) (F0 m 1396 ls []) := by
  obtain ⟨hl9, hLL, C0, X, K, hE, hZn0, hlz, hla, hlA⟩ := id G0
  obtain ⟨G, R, V, ⟨cn, sc, μ⟩, hI, hV, hW, hL, hS, hb4, ⟨h2, hst⟩⟩ := hJ0
  obtain ⟨hx, hb, hr, hml, hown, hts, hXs, hbl, hlocks, -⟩ := id C0
  have hAE : ∀ q, hk_A E q → hk_A E q := fun _ h => h
  have hZA : ∀ q, Z q → hk_A E q := hW.2.2.2.2.2.2.2.2.2.2.2.2
  have hZn : ∀ q, H.size ≤ q → Z q := fun q h => hZn0 q (Nat.le_trans hb4 h)
  have hn1 : cn 1 ≤ 4 := hV.n1
  have hn8 : cn 8 ≤ 3 := hV.n8
  have hn12 : cn 12 ≤ 24 := hV.n12
  have hn22 : cn 22 ≤ 4 := hV.n22
  have hn29 : cn 29 ≤ 8 := hV.n29
  have h2 : 2 ≤ cn 1 := h2
  have hst : st9 < cn 1 := hst
  refine lv_iload hx hb dL_law_1396 (lv_at hl 2 rfl) ?_
  refine lv_bipush (v := 18) hx hb dL_law_1398 (by decide) ?_
  refine lv_icmp_ne (tgt := 1530) hx hb dL_law_1400 (by decide) (fun c_1400 => ?_) (fun c_1400 => ?_)
  · exact k_1530 G0 ⟨G, R, V, (cn, sc, μ), hI, hV, hW, hL, hS, hb4, ⟨h2, hst⟩⟩ hz31 ht2 hce hsl hl J2061
  · refine lv_iload hx hb dL_law_1403 (lv_at hl 1 rfl) ?_
    refine lv_iconst (v := 4) hx hb dL_law_1405 (by decide) ?_
    refine lv_idiv hx hb dL_law_1406 (by decide) ?_
    refine lv_topi (fun z_1 ez_1 => ?_)
    have ez_1 : z_1 = nI (zn / 4) := ez_1.trans (pk_div (a := zn) (d := 4) (by omega) (by omega) (by omega))
    subst ez_1
    refine lv_iconst (v := 3) hx hb dL_law_1407 (by decide) ?_
    refine lv_irem hx hb dL_law_1408 (by decide) ?_
    refine lv_topi (fun z_2 ez_2 => ?_)
    have ez_2 : z_2 = nI ((zn / 4) % 3) := ez_2.trans (pk_rem (a := (zn / 4)) (d := 3) (by omega) (by omega) (by omega))
    subst ez_2
    refine lv_if_ne (tgt := 1530) hx hb dL_law_1409 (by decide) (fun c_1409 => ?_) (fun c_1409 => ?_)
    · exact k_1530 G0 ⟨G, R, V, (cn, sc, μ), hI, hV, hW, hL, hS, hb4, ⟨h2, hst⟩⟩ hz31 ht2 hce hsl hl J2061
    · obtain ⟨ma, hma, hmA⟩ := hV.a1 hst
      have hmA : mskR (cn 1) (μ 3) ma (μ 3 st9) (-1) := hmA
      have hba : ma.testBit st9 = true := (hmA.2 st9 (by omega)).mpr ⟨hst, Or.inl rfl⟩
      have hsb := sub_bit ma hmA.1 st9 (by omega) hba
      have hsq16 : ma - 2 ^ st9 < 16 := Nat.lt_of_le_of_lt (Nat.sub_le _ _) hmA.1
      refine lv_aload hx hb dL_law_1412 (lv_at hl 8 rfl) ?_
      refine lv_iconst (v := 4) hx hb dL_law_1414 (by decide) ?_
      refine lv_iload hx hb dL_law_1415 (lv_at hl 0 rfl) ?_
      refine lv_imul hx hb dL_law_1417 ?_
      refine lv_topi (fun z_3 ez_3 => ?_)
      have ez_3 : z_3 = nI (4 * st9) := ez_3.trans (nI_mul 4 st9)
      subst ez_3
      refine lv_iconst (v := 1) hx hb dL_law_1418 (by decide) ?_
      refine lv_iadd hx hb dL_law_1419 ?_
      refine lv_topi (fun z_4 ez_4 => ?_)
      have ez_4 : z_4 = nI ((4 * st9) + 1) := ez_4.trans (nI_add (4 * st9) 1)
      subst ez_4
      refine hk_ild (f := (V 3)) X K hL.c3 (vp_in_nI (by omega) (by omega)) dL_law_1420 ?_
      rw [show (V 3) (nI ((4 * st9) + 1)).toNatClampNeg = nI ma from (congrArg (V 3) (nI_clamp (show 4 * st9 + 1 < 2 ^ 31 by omega))).trans hma]
      refine lv_iconst (v := 1) hx hb dL_law_1421 (by decide) ?_
      refine lv_iload hx hb dL_law_1422 (lv_at hl 0 rfl) ?_
      refine lv_ishl hx hb dL_law_1424 ?_
      refine lv_topi (fun q1424 eq1424 => ?_)
      rw [l_shl st9 (by omega)] at eq1424
      subst eq1424
      refine lv_isub hx hb dL_law_1425 ?_
      refine lv_topi (fun q1425 eq1425 => ?_)
      rw [nI_sub hsb.1] at eq1425
      subst eq1425
      refine lv_istore (lv' := [(21, .int (nI (ma - 2 ^ st9))), (20, .int (nI st9)), (19, .int (nI zn)), (18, .int kd), (16, .int (nI tn)), (15, .int 1), (2, .ref (la 0)), (3, .ref (la 1)), (4, .ref (la 2)), (5, .ref (la 3)), (6, .ref (la 4)), (7, .ref (la 5)), (8, .ref (la 6)), (9, .ref (la 7)), (10, .ref (la 8)), (11, .ref (la 9)), (12, .ref (la 10)), (13, .ref (la 11)), (14, .ref (la 12)), (1, .ref ho), (0, .ref b)]) hx hb dL_law_1426 hl (by decide) rfl (fun ls hl => ?_)
      refine lv_aload_n hx hb dL_law_1428 rfl (lv_at hl 19 rfl) ?_
      refine lv_iconst (v := 1) hx hb dL_law_1429 (by decide) ?_
      refine lv_iload hx hb dL_law_1430 (lv_at hl 1 rfl) ?_
      refine lv_iconst (v := 0) hx hb dL_law_1432 (by decide) ?_
      refine lv_iconst (v := 0) hx hb dL_law_1433 (by decide) ?_
      refine lv_iconst (v := 0) hx hb dL_law_1434 (by decide) ?_
      refine lv_iconst (v := 0) hx hb dL_law_1435 (by decide) ?_
      refine hk_callSxW 7 (As := [.ref ho, .int 1, .int (nI st9), .int 0, .int 0, .int 0, .int 0]) (rest := []) X K hAE hS hl.1 (c_L_does_split E l hl9 H hW hI hZn (p0 := nI st9) (p1 := 0) (p2 := 0) (p3 := 0) (p4 := 0)) hZA gL_law_L_does rfl hd_L_does rfl ⟨⟨(Nat.le_of_ble_eq_true rfl), (Nat.le_of_ble_eq_true rfl)⟩, (by show cells + 12 ≤ 664990; omega), (by show slots + 600 ≤ 7106859; omega)⟩ rfl (Nat.le_of_ble_eq_true rfl) dL_law_1436 (fun _ _ _ _ _ hp _ _ _ _ _ _ => False.elim hp) (fun v9 H5 locsH5 hp hS hzH5 hkH5 => ?_)
      obtain ⟨hv, G, R, hW⟩ := hp
      subst hv
      have hL := hL.kept (fun k hk => hkH5 (la k) (hL.lt hk) (hlz k hk))
      have hb4 := Nat.le_trans hb4 hzH5
      have hZn := fun (q : Nat) (h : H5.size ≤ q) => hZn0 q (Nat.le_trans hb4 h)
      refine lv_iload hx hb dL_law_1439 (lv_at hl 0 rfl) ?_
      refine lv_if_ne (tgt := 1449) hx hb dL_law_1441 (by decide) (fun c_1441 => ?_) (fun c_1441 => ?_)
      · have h0 : ma - 2 ^ st9 ≠ 0 := fun h => c_1441 (by rw [h]; rfl)
        have hcd0 : cd_split (nI st9) (cn, sc, μ) = 0 := split_1 hI hn1 hst hmA h0
        refine lv_iload hx hb dL_law_1449 (lv_at hl 0 rfl) ?_
        refine hk_callS 1 (As := [.int (nI (ma - 2 ^ st9))]) (rest := [.int (dv (cd_split (nI st9) (cn, sc, μ)) (an_split (nI st9) (cn, sc, μ)) (-1111111) (-1111113) 0)]) X K hAE hS hl.1 (c_L_lowest E l H5 hsq16 h0) (fun _ h => h.elim) gL_law_L_lowest rfl hd_L_lowest rfl ⟨⟨(Nat.le_of_ble_eq_true rfl), (Nat.le_of_ble_eq_true rfl)⟩, (by show cells + 12 + 0 ≤ 664990; omega), (by show slots + 600 + 0 ≤ 7106859; omega)⟩ rfl (Nat.le_of_ble_eq_true rfl) dL_law_1451 (fun v9 H6 locsH6 hp hS hzH6 hkH6 => ?_)
        obtain ⟨hv, hh⟩ := hp
        subst hv; subst hh
        refine lv_icmp_ne (tgt := 1461) hx hb dL_law_1454 (by decide) (fun c_1454 => ?_) (fun c_1454 => ?_)
        · exact (c_1454 ((dv_0 hcd0).trans (split_a (S := (cn, sc, μ)) hI hn1 hst hmA h0))).elim
        · refine lv_iconst (v := 1) hx hb dL_law_1457 (by decide) ?_
          refine lv_goto (tgt := 1462) hx hb dL_law_1458 (by decide) ?_
          refine lv_istore (lv' := [(15, .int 1), (21, .int (nI (ma - 2 ^ st9))), (20, .int (nI st9)), (19, .int (nI zn)), (18, .int kd), (16, .int (nI tn)), (2, .ref (la 0)), (3, .ref (la 1)), (4, .ref (la 2)), (5, .ref (la 3)), (6, .ref (la 4)), (7, .ref (la 5)), (8, .ref (la 6)), (9, .ref (la 7)), (10, .ref (la 8)), (11, .ref (la 9)), (12, .ref (la 10)), (13, .ref (la 11)), (14, .ref (la 12)), (1, .ref ho), (0, .ref b)]) hx hb dL_law_1462 hl (by decide) rfl (fun ls hl => ?_)
          rw [if_pos hcd0] at hW
          refine lv_iconst (v := 0) hx hb dL_law_1464 (by decide) ?_
          refine lv_istore (lv' := [(22, .int 0), (15, .int 1), (21, .int (nI (ma - 2 ^ st9))), (20, .int (nI st9)), (19, .int (nI zn)), (18, .int kd), (16, .int (nI tn)), (2, .ref (la 0)), (3, .ref (la 1)), (4, .ref (la 2)), (5, .ref (la 3)), (6, .ref (la 4)), (7, .ref (la 5)), (8, .ref (la 6)), (9, .ref (la 7)), (10, .ref (la 8)), (11, .ref (la 9)), (12, .ref (la 10)), (13, .ref (la 11)), (14, .ref (la 12)), (1, .ref ho), (0, .ref b)]) hx hb dL_law_1465 hl (by decide) rfl (fun ls hl => ?_)
          have L1467 : ∀ (n9 : Nat) (j9 : Nat) (H : Heap) (locs : List Loc), 5 ≤ j9 + n9 → (va_S (hk_A E) s.heap H locs ∧ HW E Z (ho, li, rr, ts) G R (st_split (nI st9) (cn, sc, μ)) H ∧ LW E la (va_up V 3 (chA (V 3) (spG (V 3) (ma - 2 ^ st9) st9) j9)) H ∧ b4 ≤ H.size ∧ j9 ≤ 4) → ∀ (ls : Array Slot), lv_has ls 26 [(22, .int (nI j9)), (21, .int (nI (ma - 2 ^ st9))), (20, .int (nI st9)), (19, .int (nI zn)), (16, .int (nI tn)), (15, .int 1), (2, .ref (la 0)), (3, .ref (la 1)), (4, .ref (la 2)), (5, .ref (la 3)), (6, .ref (la 4)), (7, .ref (la 5)), (8, .ref (la 6)), (9, .ref (la 7)), (10, .ref (la 8)), (11, .ref (la 9)), (12, .ref (la 10)), (13, .ref (la 11)), (14, .ref (la 12)), (1, .ref ho), (0, .ref b)] → W p l e room_1 s m #[Value.ref b] below meth c H locs (cells + 12) (slots + 600) (lw_Z below #[Value.ref b] s) (F0 m 1467 ls []) := by
            intro n9
            induction n9 with
            | zero =>
              intro j9 H locs hm9 ⟨hS, hW, hL, hb4, hj9⟩ ls hl
              exact absurd hm9 (by omega)
            | succ n9 ih =>
              intro j9 H locs hm9 ⟨hS, hW, hL, hb4, hj9⟩ ls hl
              refine lv_iload hx hb dL_law_1467 (lv_at hl 0 rfl) ?_
              refine lv_iconst (v := 4) hx hb dL_law_1469 (by decide) ?_
              refine lv_icmp_ge (tgt := 1527) hx hb dL_law_1470 (by decide) (fun c_1470 => ?_) (fun c_1470 => ?_)
              · have hj4 : j9 = 4 := by
                  have := (nI_leI (a := 4) (by omega) (by omega)).mp c_1470
                  omega
                rw [hj4] at hL
                refine lv_goto (tgt := 2061) hx hb dL_law_1527 (by decide) ?_
                refine W.widen (k := cells + 40) (n := slots + 2000) (by show cells + 12 ≤ _; omega) (by show slots + 600 ≤ _; omega) ?_
                have hV9 := lv_spl1 (a := st9) hV hI hst hmA h0
                exact J2061 H _ ⟨G, R, _, _, invF_split hI hcd0, hV9, hW, LW.mk13 hL.c0 hL.c1 hL.c2 hL.c3 hL.c4 hL.c5 hL.c6 hL.c7 hL.c8 hL.c9 hL.c10 hL.c11 hL.c12, hS, hb4, ⟨fun h => absurd h (by omega), fun _ => h2⟩⟩ _ (lv_sub hl [3, 4, 5, 6, 7, 8, 9, 10, 11, 12, 13, 14, 15, 16, 17, 18, 19, 20] rfl)
              · have hj4 : j9 < 4 := Nat.lt_of_not_le (fun h => c_1470 (nI_le (a := 4) h (by omega)))
                refine lv_aload hx hb dL_law_1473 (lv_at hl 9 rfl) ?_
                refine lv_iconst (v := 4) hx hb dL_law_1475 (by decide) ?_
                refine lv_iload hx hb dL_law_1476 (lv_at hl 0 rfl) ?_
                refine lv_imul hx hb dL_law_1478 ?_
                refine lv_topi (fun z_7 ez_7 => ?_)
                have ez_7 : z_7 = nI (4 * j9) := ez_7.trans (nI_mul 4 j9)
                subst ez_7
                refine lv_iconst (v := 1) hx hb dL_law_1479 (by decide) ?_
                refine lv_iadd hx hb dL_law_1480 ?_
                refine lv_topi (fun z_8 ez_8 => ?_)
                have ez_8 : z_8 = nI ((4 * j9) + 1) := ez_8.trans (nI_add (4 * j9) 1)
                subst ez_8
                refine lv_iload hx hb dL_law_1481 (lv_at hl 1 rfl) ?_
                refine lv_iload hx hb dL_law_1483 (lv_at hl 0 rfl) ?_
                refine lv_ishr hx hb dL_law_1485 ?_
                refine lv_iconst (v := 1) hx hb dL_law_1486 (by decide) ?_
                refine lv_iand hx hb dL_law_1487 ?_
                refine lv_topi (fun bt ebt => ?_)
                rw [l_bit (ma - 2 ^ st9) hsq16 j9 (by omega)] at ebt
                refine lv_iconst (v := 1) hx hb dL_law_1488 (by decide) ?_
                refine lv_icmp_ne (tgt := 1497) hx hb dL_law_1489 (by decide) (fun c_1489 => ?_) (fun c_1489 => ?_)
                · refine lv_iload hx hb dL_law_1497 (lv_at hl 0 rfl) ?_
                  refine lv_iload hx hb dL_law_1499 (lv_at hl 2 rfl) ?_
                  refine lv_icmp_ne (tgt := 1511) hx hb dL_law_1501 (by decide) (fun c_1501 => ?_) (fun c_1501 => ?_)
                  · refine lv_aload hx hb dL_law_1511 (lv_at hl 9 rfl) ?_
                    refine lv_iconst (v := 4) hx hb dL_law_1513 (by decide) ?_
                    refine lv_iload hx hb dL_law_1514 (lv_at hl 0 rfl) ?_
                    refine lv_imul hx hb dL_law_1516 ?_
                    refine lv_topi (fun z_9 ez_9 => ?_)
                    have ez_9 : z_9 = nI (4 * j9) := ez_9.trans (nI_mul 4 j9)
                    subst ez_9
                    refine lv_iconst (v := 1) hx hb dL_law_1517 (by decide) ?_
                    refine lv_iadd hx hb dL_law_1518 ?_
                    refine lv_topi (fun z_10 ez_10 => ?_)
                    have ez_10 : z_10 = nI ((4 * j9) + 1) := ez_10.trans (nI_add (4 * j9) 1)
                    subst ez_10
                    refine hk_ild (f := (chA (V 3) (spG (V 3) (ma - 2 ^ st9) st9) j9)) X K hL.c3 (vp_in_nI (by omega) (by omega)) dL_law_1519 ?_
                    rw [show (chA (V 3) (spG (V 3) (ma - 2 ^ st9) st9) j9) (nI ((4 * j9) + 1)).toNatClampNeg = V 3 (4 * j9 + 1) from (congrArg _ (nI_clamp (show 4 * j9 + 1 < 2 ^ 31 by omega))).trans chA_rd]
                    refine hk_ist (f := (chA (V 3) (spG (V 3) (ma - 2 ^ st9) st9) j9)) X K hL.c3 hS (hlA 3 (by decide)) (vp_in_nI (by omega) (by omega)) dL_law_1520 (fun H11 locsH11 hIH11 hzH11 hqH11 hS => ?_)
                    rw [nI_clamp (show ((4 * j9) + 1) < 2 ^ 31 by omega)] at hIH11
                    have hL := hL.set hla (j := 3) (by decide) hIH11 hqH11
                    have hW := hW.kept (fun q h1 h2 => hqH11 q (fun g => h2.elim (fun h => hlz 3 (by decide) (by rw [← g]; exact h)) (fun h => h (by rw [g]; exact hlA 3 (by decide)))))
                    have hb4 : b4 ≤ H11.size := by omega
                    have hZn := fun (q : Nat) (h : H11.size ≤ q) => hZn0 q (Nat.le_trans hb4 h)
                    obtain ⟨q1521, eq1521⟩ : ∃ y : Int32, y = (nI j9) + 1 := ⟨_, rfl⟩
                    refine lv_iinc (v := q1521) (lv' := [(22, .int q1521), (21, .int (nI (ma - 2 ^ st9))), (20, .int (nI st9)), (19, .int (nI zn)), (16, .int (nI tn)), (15, .int 1), (2, .ref (la 0)), (3, .ref (la 1)), (4, .ref (la 2)), (5, .ref (la 3)), (6, .ref (la 4)), (7, .ref (la 5)), (8, .ref (la 6)), (9, .ref (la 7)), (10, .ref (la 8)), (11, .ref (la 9)), (12, .ref (la 10)), (13, .ref (la 11)), (14, .ref (la 12)), (1, .ref ho), (0, .ref b)]) hx hb dL_law_1521 hl (k := 0) rfl (by rw [eq1521]; rfl) (by decide) rfl (fun ls hl => ?_)
                    rw [nI_1] at eq1521
                    subst eq1521
                    refine lv_goto (tgt := 1467) hx hb dL_law_1524 (by decide) ?_
                    have hL3 : hk_I E 0 (la 3) 16 (chA (V 3) (spG (V 3) (ma - 2 ^ st9) st9) (j9 + 1)) H11 := by
                      have h := hL.c3
                      rw [← chA_step (j := j9) (show V 3 (4 * j9 + 1) = spG (V 3) (ma - 2 ^ st9) st9 j9 from ((if_neg (bit_n1 ebt c_1489)).trans (if_neg (fun h => c_1501 (by rw [h])))).symm)]
                      exact h
                    have hLn : LW E la (va_up V 3 (chA (V 3) (spG (V 3) (ma - 2 ^ st9) st9) (j9 + 1))) H11 := LW.mk13 hL.c0 hL.c1 hL.c2 hL3 hL.c4 hL.c5 hL.c6 hL.c7 hL.c8 hL.c9 hL.c10 hL.c11 hL.c12
                    exact ih (j9 + 1) _ _ (by omega) ⟨hS, hW, hLn, hb4, by omega⟩ _ (lv_sub hl [0, 1, 2, 3, 4, 5, 6, 7, 8, 9, 10, 11, 12, 13, 14, 15, 16, 17, 18, 19, 20] rfl)
                  · refine lv_iconst (v := 1) hx hb dL_law_1504 (by decide) ?_
                    refine lv_iload hx hb dL_law_1505 (lv_at hl 2 rfl) ?_
                    refine lv_ishl hx hb dL_law_1507 ?_
                    refine lv_topi (fun q1507 eq1507 => ?_)
                    rw [l_shl st9 (by omega)] at eq1507
                    subst eq1507
                    refine lv_goto (tgt := 1520) hx hb dL_law_1508 (by decide) ?_
                    refine hk_ist (f := (chA (V 3) (spG (V 3) (ma - 2 ^ st9) st9) j9)) X K hL.c3 hS (hlA 3 (by decide)) (vp_in_nI (by omega) (by omega)) dL_law_1520 (fun H12 locsH12 hIH12 hzH12 hqH12 hS => ?_)
                    rw [nI_clamp (show ((4 * j9) + 1) < 2 ^ 31 by omega)] at hIH12
                    have hL := hL.set hla (j := 3) (by decide) hIH12 hqH12
                    have hW := hW.kept (fun q h1 h2 => hqH12 q (fun g => h2.elim (fun h => hlz 3 (by decide) (by rw [← g]; exact h)) (fun h => h (by rw [g]; exact hlA 3 (by decide)))))
                    have hb4 : b4 ≤ H12.size := by omega
                    have hZn := fun (q : Nat) (h : H12.size ≤ q) => hZn0 q (Nat.le_trans hb4 h)
                    obtain ⟨q1521, eq1521⟩ : ∃ y : Int32, y = (nI j9) + 1 := ⟨_, rfl⟩
                    refine lv_iinc (v := q1521) (lv' := [(22, .int q1521), (21, .int (nI (ma - 2 ^ st9))), (20, .int (nI st9)), (19, .int (nI zn)), (16, .int (nI tn)), (15, .int 1), (2, .ref (la 0)), (3, .ref (la 1)), (4, .ref (la 2)), (5, .ref (la 3)), (6, .ref (la 4)), (7, .ref (la 5)), (8, .ref (la 6)), (9, .ref (la 7)), (10, .ref (la 8)), (11, .ref (la 9)), (12, .ref (la 10)), (13, .ref (la 11)), (14, .ref (la 12)), (1, .ref ho), (0, .ref b)]) hx hb dL_law_1521 hl (k := 0) rfl (by rw [eq1521]; rfl) (by decide) rfl (fun ls hl => ?_)
                    rw [nI_1] at eq1521
                    subst eq1521
                    refine lv_goto (tgt := 1467) hx hb dL_law_1524 (by decide) ?_
                    have hL3 : hk_I E 0 (la 3) 16 (chA (V 3) (spG (V 3) (ma - 2 ^ st9) st9) (j9 + 1)) H12 := by
                      have h := hL.c3
                      rw [← chA_step (j := j9) (show nI (2 ^ st9) = spG (V 3) (ma - 2 ^ st9) st9 j9 from ((if_neg (bit_n1 ebt c_1489)).trans (if_pos ((nI_eq (by omega) (by omega)).mp c_1501))).symm)]
                      exact h
                    have hLn : LW E la (va_up V 3 (chA (V 3) (spG (V 3) (ma - 2 ^ st9) st9) (j9 + 1))) H12 := LW.mk13 hL.c0 hL.c1 hL.c2 hL3 hL.c4 hL.c5 hL.c6 hL.c7 hL.c8 hL.c9 hL.c10 hL.c11 hL.c12
                    exact ih (j9 + 1) _ _ (by omega) ⟨hS, hW, hLn, hb4, by omega⟩ _ (lv_sub hl [0, 1, 2, 3, 4, 5, 6, 7, 8, 9, 10, 11, 12, 13, 14, 15, 16, 17, 18, 19, 20] rfl)
                · refine lv_iload hx hb dL_law_1492 (lv_at hl 1 rfl) ?_
                  refine lv_goto (tgt := 1520) hx hb dL_law_1494 (by decide) ?_
                  refine hk_ist (f := (chA (V 3) (spG (V 3) (ma - 2 ^ st9) st9) j9)) X K hL.c3 hS (hlA 3 (by decide)) (vp_in_nI (by omega) (by omega)) dL_law_1520 (fun H13 locsH13 hIH13 hzH13 hqH13 hS => ?_)
                  rw [nI_clamp (show ((4 * j9) + 1) < 2 ^ 31 by omega)] at hIH13
                  have hL := hL.set hla (j := 3) (by decide) hIH13 hqH13
                  have hW := hW.kept (fun q h1 h2 => hqH13 q (fun g => h2.elim (fun h => hlz 3 (by decide) (by rw [← g]; exact h)) (fun h => h (by rw [g]; exact hlA 3 (by decide)))))
                  have hb4 : b4 ≤ H13.size := by omega
                  have hZn := fun (q : Nat) (h : H13.size ≤ q) => hZn0 q (Nat.le_trans hb4 h)
                  obtain ⟨q1521, eq1521⟩ : ∃ y : Int32, y = (nI j9) + 1 := ⟨_, rfl⟩
                  refine lv_iinc (v := q1521) (lv' := [(22, .int q1521), (21, .int (nI (ma - 2 ^ st9))), (20, .int (nI st9)), (19, .int (nI zn)), (16, .int (nI tn)), (15, .int 1), (2, .ref (la 0)), (3, .ref (la 1)), (4, .ref (la 2)), (5, .ref (la 3)), (6, .ref (la 4)), (7, .ref (la 5)), (8, .ref (la 6)), (9, .ref (la 7)), (10, .ref (la 8)), (11, .ref (la 9)), (12, .ref (la 10)), (13, .ref (la 11)), (14, .ref (la 12)), (1, .ref ho), (0, .ref b)]) hx hb dL_law_1521 hl (k := 0) rfl (by rw [eq1521]; rfl) (by decide) rfl (fun ls hl => ?_)
                  rw [nI_1] at eq1521
                  subst eq1521
                  refine lv_goto (tgt := 1467) hx hb dL_law_1524 (by decide) ?_
                  have hL3 : hk_I E 0 (la 3) 16 (chA (V 3) (spG (V 3) (ma - 2 ^ st9) st9) (j9 + 1)) H13 := by
                    have h := hL.c3
                    rw [← chA_step (j := j9) (show nI (ma - 2 ^ st9) = spG (V 3) (ma - 2 ^ st9) st9 j9 from (if_pos (bit_y1 ebt c_1489)).symm)]
                    exact h
                  have hLn : LW E la (va_up V 3 (chA (V 3) (spG (V 3) (ma - 2 ^ st9) st9) (j9 + 1))) H13 := LW.mk13 hL.c0 hL.c1 hL.c2 hL3 hL.c4 hL.c5 hL.c6 hL.c7 hL.c8 hL.c9 hL.c10 hL.c11 hL.c12
                  exact ih (j9 + 1) _ _ (by omega) ⟨hS, hW, hLn, hb4, by omega⟩ _ (lv_sub hl [0, 1, 2, 3, 4, 5, 6, 7, 8, 9, 10, 11, 12, 13, 14, 15, 16, 17, 18, 19, 20] rfl)
          exact L1467 5 0 _ _ (by omega) ⟨hS, hW, by rw [chA_0, va_same]; exact hL, hb4, by omega⟩ _ (lv_sub hl [0, 2, 3, 4, 6, 1, 7, 8, 9, 10, 11, 12, 13, 14, 15, 16, 17, 18, 19, 20, 21] rfl)
      · have h0 : ma - 2 ^ st9 = 0 := (nI_eq (b := 0) (by omega) (by omega)).mp c_1441
        have hcd0 : cd_split (nI st9) (cn, sc, μ) = 2 := split_0 hI hn1 hst hmA h0
        refine lv_ldc hx hb hown (hts (.constant RL 96 (-1111113)) (by decide +kernel)) dL_law_1444 ?_
        refine lv_goto (tgt := 1454) hx hb dL_law_1446 (by decide) ?_
        refine lv_icmp_ne (tgt := 1461) hx hb dL_law_1454 (by decide) (fun c_1454 => ?_) (fun c_1454 => ?_)
        · exact (c_1454 (dv_2 hcd0)).elim
        · refine lv_iconst (v := 1) hx hb dL_law_1457 (by decide) ?_
          refine lv_goto (tgt := 1462) hx hb dL_law_1458 (by decide) ?_
          refine lv_istore (lv' := [(15, .int 1), (21, .int (nI (ma - 2 ^ st9))), (20, .int (nI st9)), (19, .int (nI zn)), (18, .int kd), (16, .int (nI tn)), (2, .ref (la 0)), (3, .ref (la 1)), (4, .ref (la 2)), (5, .ref (la 3)), (6, .ref (la 4)), (7, .ref (la 5)), (8, .ref (la 6)), (9, .ref (la 7)), (10, .ref (la 8)), (11, .ref (la 9)), (12, .ref (la 10)), (13, .ref (la 11)), (14, .ref (la 12)), (1, .ref ho), (0, .ref b)]) hx hb dL_law_1462 hl (by decide) rfl (fun ls hl => ?_)
          rw [if_neg (by rw [hcd0]; decide)] at hW
          refine lv_iconst (v := 0) hx hb dL_law_1464 (by decide) ?_
          refine lv_istore (lv' := [(22, .int 0), (15, .int 1), (21, .int (nI (ma - 2 ^ st9))), (20, .int (nI st9)), (19, .int (nI zn)), (18, .int kd), (16, .int (nI tn)), (2, .ref (la 0)), (3, .ref (la 1)), (4, .ref (la 2)), (5, .ref (la 3)), (6, .ref (la 4)), (7, .ref (la 5)), (8, .ref (la 6)), (9, .ref (la 7)), (10, .ref (la 8)), (11, .ref (la 9)), (12, .ref (la 10)), (13, .ref (la 11)), (14, .ref (la 12)), (1, .ref ho), (0, .ref b)]) hx hb dL_law_1465 hl (by decide) rfl (fun ls hl => ?_)
          have L1467 : ∀ (n9 : Nat) (j9 : Nat) (H : Heap) (locs : List Loc), 5 ≤ j9 + n9 → (va_S (hk_A E) s.heap H locs ∧ HW E Z (ho, li, rr, ts) G R ((cn, sc, μ)) H ∧ LW E la (va_up V 3 (chA (V 3) (spG (V 3) (ma - 2 ^ st9) st9) j9)) H ∧ b4 ≤ H.size ∧ j9 ≤ 4) → ∀ (ls : Array Slot), lv_has ls 26 [(22, .int (nI j9)), (21, .int (nI (ma - 2 ^ st9))), (20, .int (nI st9)), (19, .int (nI zn)), (16, .int (nI tn)), (15, .int 1), (2, .ref (la 0)), (3, .ref (la 1)), (4, .ref (la 2)), (5, .ref (la 3)), (6, .ref (la 4)), (7, .ref (la 5)), (8, .ref (la 6)), (9, .ref (la 7)), (10, .ref (la 8)), (11, .ref (la 9)), (12, .ref (la 10)), (13, .ref (la 11)), (14, .ref (la 12)), (1, .ref ho), (0, .ref b)] → W p l e room_1 s m #[Value.ref b] below meth c H locs (cells + 12) (slots + 600) (lw_Z below #[Value.ref b] s) (F0 m 1467 ls []) := by
            intro n9
            induction n9 with
            | zero =>
              intro j9 H locs hm9 ⟨hS, hW, hL, hb4, hj9⟩ ls hl
              exact absurd hm9 (by omega)
            | succ n9 ih =>
              intro j9 H locs hm9 ⟨hS, hW, hL, hb4, hj9⟩ ls hl
              refine lv_iload hx hb dL_law_1467 (lv_at hl 0 rfl) ?_
              refine lv_iconst (v := 4) hx hb dL_law_1469 (by decide) ?_
              refine lv_icmp_ge (tgt := 1527) hx hb dL_law_1470 (by decide) (fun c_1470 => ?_) (fun c_1470 => ?_)
              · have hj4 : j9 = 4 := by
                  have := (nI_leI (a := 4) (by omega) (by omega)).mp c_1470
                  omega
                rw [hj4] at hL
                refine lv_goto (tgt := 2061) hx hb dL_law_1527 (by decide) ?_
                refine W.widen (k := cells + 40) (n := slots + 2000) (by show cells + 12 ≤ _; omega) (by show slots + 600 ≤ _; omega) ?_
                have hV9 := lv_spl0 (a := st9) hV hst hma hmA h0
                exact J2061 H _ ⟨G, R, _, _, hI, hV9, hW, LW.mk13 hL.c0 hL.c1 hL.c2 hL.c3 hL.c4 hL.c5 hL.c6 hL.c7 hL.c8 hL.c9 hL.c10 hL.c11 hL.c12, hS, hb4, ⟨fun h => absurd h (by omega), fun _ => h2⟩⟩ _ (lv_sub hl [3, 4, 5, 6, 7, 8, 9, 10, 11, 12, 13, 14, 15, 16, 17, 18, 19, 20] rfl)
              · have hj4 : j9 < 4 := Nat.lt_of_not_le (fun h => c_1470 (nI_le (a := 4) h (by omega)))
                refine lv_aload hx hb dL_law_1473 (lv_at hl 9 rfl) ?_
                refine lv_iconst (v := 4) hx hb dL_law_1475 (by decide) ?_
                refine lv_iload hx hb dL_law_1476 (lv_at hl 0 rfl) ?_
                refine lv_imul hx hb dL_law_1478 ?_
                refine lv_topi (fun z_14 ez_14 => ?_)
                have ez_14 : z_14 = nI (4 * j9) := ez_14.trans (nI_mul 4 j9)
                subst ez_14
                refine lv_iconst (v := 1) hx hb dL_law_1479 (by decide) ?_
                refine lv_iadd hx hb dL_law_1480 ?_
                refine lv_topi (fun z_15 ez_15 => ?_)
                have ez_15 : z_15 = nI ((4 * j9) + 1) := ez_15.trans (nI_add (4 * j9) 1)
                subst ez_15
                refine lv_iload hx hb dL_law_1481 (lv_at hl 1 rfl) ?_
                refine lv_iload hx hb dL_law_1483 (lv_at hl 0 rfl) ?_
                refine lv_ishr hx hb dL_law_1485 ?_
                refine lv_iconst (v := 1) hx hb dL_law_1486 (by decide) ?_
                refine lv_iand hx hb dL_law_1487 ?_
                refine lv_topi (fun bt ebt => ?_)
                rw [l_bit (ma - 2 ^ st9) hsq16 j9 (by omega)] at ebt
                refine lv_iconst (v := 1) hx hb dL_law_1488 (by decide) ?_
                refine lv_icmp_ne (tgt := 1497) hx hb dL_law_1489 (by decide) (fun c_1489 => ?_) (fun c_1489 => ?_)
                · refine lv_iload hx hb dL_law_1497 (lv_at hl 0 rfl) ?_
                  refine lv_iload hx hb dL_law_1499 (lv_at hl 2 rfl) ?_
                  refine lv_icmp_ne (tgt := 1511) hx hb dL_law_1501 (by decide) (fun c_1501 => ?_) (fun c_1501 => ?_)
                  · refine lv_aload hx hb dL_law_1511 (lv_at hl 9 rfl) ?_
                    refine lv_iconst (v := 4) hx hb dL_law_1513 (by decide) ?_
                    refine lv_iload hx hb dL_law_1514 (lv_at hl 0 rfl) ?_
                    refine lv_imul hx hb dL_law_1516 ?_
                    refine lv_topi (fun z_16 ez_16 => ?_)
                    have ez_16 : z_16 = nI (4 * j9) := ez_16.trans (nI_mul 4 j9)
                    subst ez_16
                    refine lv_iconst (v := 1) hx hb dL_law_1517 (by decide) ?_
                    refine lv_iadd hx hb dL_law_1518 ?_
                    refine lv_topi (fun z_17 ez_17 => ?_)
                    have ez_17 : z_17 = nI ((4 * j9) + 1) := ez_17.trans (nI_add (4 * j9) 1)
                    subst ez_17
                    refine hk_ild (f := (chA (V 3) (spG (V 3) (ma - 2 ^ st9) st9) j9)) X K hL.c3 (vp_in_nI (by omega) (by omega)) dL_law_1519 ?_
                    rw [show (chA (V 3) (spG (V 3) (ma - 2 ^ st9) st9) j9) (nI ((4 * j9) + 1)).toNatClampNeg = V 3 (4 * j9 + 1) from (congrArg _ (nI_clamp (show 4 * j9 + 1 < 2 ^ 31 by omega))).trans chA_rd]
                    refine hk_ist (f := (chA (V 3) (spG (V 3) (ma - 2 ^ st9) st9) j9)) X K hL.c3 hS (hlA 3 (by decide)) (vp_in_nI (by omega) (by omega)) dL_law_1520 (fun H18 locsH18 hIH18 hzH18 hqH18 hS => ?_)
                    rw [nI_clamp (show ((4 * j9) + 1) < 2 ^ 31 by omega)] at hIH18
                    have hL := hL.set hla (j := 3) (by decide) hIH18 hqH18
                    have hW := hW.kept (fun q h1 h2 => hqH18 q (fun g => h2.elim (fun h => hlz 3 (by decide) (by rw [← g]; exact h)) (fun h => h (by rw [g]; exact hlA 3 (by decide)))))
                    have hb4 : b4 ≤ H18.size := by omega
                    have hZn := fun (q : Nat) (h : H18.size ≤ q) => hZn0 q (Nat.le_trans hb4 h)
                    obtain ⟨q1521, eq1521⟩ : ∃ y : Int32, y = (nI j9) + 1 := ⟨_, rfl⟩
                    refine lv_iinc (v := q1521) (lv' := [(22, .int q1521), (21, .int (nI (ma - 2 ^ st9))), (20, .int (nI st9)), (19, .int (nI zn)), (16, .int (nI tn)), (15, .int 1), (2, .ref (la 0)), (3, .ref (la 1)), (4, .ref (la 2)), (5, .ref (la 3)), (6, .ref (la 4)), (7, .ref (la 5)), (8, .ref (la 6)), (9, .ref (la 7)), (10, .ref (la 8)), (11, .ref (la 9)), (12, .ref (la 10)), (13, .ref (la 11)), (14, .ref (la 12)), (1, .ref ho), (0, .ref b)]) hx hb dL_law_1521 hl (k := 0) rfl (by rw [eq1521]; rfl) (by decide) rfl (fun ls hl => ?_)
                    rw [nI_1] at eq1521
                    subst eq1521
                    refine lv_goto (tgt := 1467) hx hb dL_law_1524 (by decide) ?_
                    have hL3 : hk_I E 0 (la 3) 16 (chA (V 3) (spG (V 3) (ma - 2 ^ st9) st9) (j9 + 1)) H18 := by
                      have h := hL.c3
                      rw [← chA_step (j := j9) (show V 3 (4 * j9 + 1) = spG (V 3) (ma - 2 ^ st9) st9 j9 from ((if_neg (bit_n1 ebt c_1489)).trans (if_neg (fun h => c_1501 (by rw [h])))).symm)]
                      exact h
                    have hLn : LW E la (va_up V 3 (chA (V 3) (spG (V 3) (ma - 2 ^ st9) st9) (j9 + 1))) H18 := LW.mk13 hL.c0 hL.c1 hL.c2 hL3 hL.c4 hL.c5 hL.c6 hL.c7 hL.c8 hL.c9 hL.c10 hL.c11 hL.c12
                    exact ih (j9 + 1) _ _ (by omega) ⟨hS, hW, hLn, hb4, by omega⟩ _ (lv_sub hl [0, 1, 2, 3, 4, 5, 6, 7, 8, 9, 10, 11, 12, 13, 14, 15, 16, 17, 18, 19, 20] rfl)
                  · refine lv_iconst (v := 1) hx hb dL_law_1504 (by decide) ?_
                    refine lv_iload hx hb dL_law_1505 (lv_at hl 2 rfl) ?_
                    refine lv_ishl hx hb dL_law_1507 ?_
                    refine lv_topi (fun q1507 eq1507 => ?_)
                    rw [l_shl st9 (by omega)] at eq1507
                    subst eq1507
                    refine lv_goto (tgt := 1520) hx hb dL_law_1508 (by decide) ?_
                    refine hk_ist (f := (chA (V 3) (spG (V 3) (ma - 2 ^ st9) st9) j9)) X K hL.c3 hS (hlA 3 (by decide)) (vp_in_nI (by omega) (by omega)) dL_law_1520 (fun H19 locsH19 hIH19 hzH19 hqH19 hS => ?_)
                    rw [nI_clamp (show ((4 * j9) + 1) < 2 ^ 31 by omega)] at hIH19
                    have hL := hL.set hla (j := 3) (by decide) hIH19 hqH19
                    have hW := hW.kept (fun q h1 h2 => hqH19 q (fun g => h2.elim (fun h => hlz 3 (by decide) (by rw [← g]; exact h)) (fun h => h (by rw [g]; exact hlA 3 (by decide)))))
                    have hb4 : b4 ≤ H19.size := by omega
                    have hZn := fun (q : Nat) (h : H19.size ≤ q) => hZn0 q (Nat.le_trans hb4 h)
                    obtain ⟨q1521, eq1521⟩ : ∃ y : Int32, y = (nI j9) + 1 := ⟨_, rfl⟩
                    refine lv_iinc (v := q1521) (lv' := [(22, .int q1521), (21, .int (nI (ma - 2 ^ st9))), (20, .int (nI st9)), (19, .int (nI zn)), (16, .int (nI tn)), (15, .int 1), (2, .ref (la 0)), (3, .ref (la 1)), (4, .ref (la 2)), (5, .ref (la 3)), (6, .ref (la 4)), (7, .ref (la 5)), (8, .ref (la 6)), (9, .ref (la 7)), (10, .ref (la 8)), (11, .ref (la 9)), (12, .ref (la 10)), (13, .ref (la 11)), (14, .ref (la 12)), (1, .ref ho), (0, .ref b)]) hx hb dL_law_1521 hl (k := 0) rfl (by rw [eq1521]; rfl) (by decide) rfl (fun ls hl => ?_)
                    rw [nI_1] at eq1521
                    subst eq1521
                    refine lv_goto (tgt := 1467) hx hb dL_law_1524 (by decide) ?_
                    have hL3 : hk_I E 0 (la 3) 16 (chA (V 3) (spG (V 3) (ma - 2 ^ st9) st9) (j9 + 1)) H19 := by
                      have h := hL.c3
                      rw [← chA_step (j := j9) (show nI (2 ^ st9) = spG (V 3) (ma - 2 ^ st9) st9 j9 from ((if_neg (bit_n1 ebt c_1489)).trans (if_pos ((nI_eq (by omega) (by omega)).mp c_1501))).symm)]
                      exact h
                    have hLn : LW E la (va_up V 3 (chA (V 3) (spG (V 3) (ma - 2 ^ st9) st9) (j9 + 1))) H19 := LW.mk13 hL.c0 hL.c1 hL.c2 hL3 hL.c4 hL.c5 hL.c6 hL.c7 hL.c8 hL.c9 hL.c10 hL.c11 hL.c12
                    exact ih (j9 + 1) _ _ (by omega) ⟨hS, hW, hLn, hb4, by omega⟩ _ (lv_sub hl [0, 1, 2, 3, 4, 5, 6, 7, 8, 9, 10, 11, 12, 13, 14, 15, 16, 17, 18, 19, 20] rfl)
                · refine lv_iload hx hb dL_law_1492 (lv_at hl 1 rfl) ?_
                  refine lv_goto (tgt := 1520) hx hb dL_law_1494 (by decide) ?_
                  refine hk_ist (f := (chA (V 3) (spG (V 3) (ma - 2 ^ st9) st9) j9)) X K hL.c3 hS (hlA 3 (by decide)) (vp_in_nI (by omega) (by omega)) dL_law_1520 (fun H20 locsH20 hIH20 hzH20 hqH20 hS => ?_)
                  rw [nI_clamp (show ((4 * j9) + 1) < 2 ^ 31 by omega)] at hIH20
                  have hL := hL.set hla (j := 3) (by decide) hIH20 hqH20
                  have hW := hW.kept (fun q h1 h2 => hqH20 q (fun g => h2.elim (fun h => hlz 3 (by decide) (by rw [← g]; exact h)) (fun h => h (by rw [g]; exact hlA 3 (by decide)))))
                  have hb4 : b4 ≤ H20.size := by omega
                  have hZn := fun (q : Nat) (h : H20.size ≤ q) => hZn0 q (Nat.le_trans hb4 h)
                  obtain ⟨q1521, eq1521⟩ : ∃ y : Int32, y = (nI j9) + 1 := ⟨_, rfl⟩
                  refine lv_iinc (v := q1521) (lv' := [(22, .int q1521), (21, .int (nI (ma - 2 ^ st9))), (20, .int (nI st9)), (19, .int (nI zn)), (16, .int (nI tn)), (15, .int 1), (2, .ref (la 0)), (3, .ref (la 1)), (4, .ref (la 2)), (5, .ref (la 3)), (6, .ref (la 4)), (7, .ref (la 5)), (8, .ref (la 6)), (9, .ref (la 7)), (10, .ref (la 8)), (11, .ref (la 9)), (12, .ref (la 10)), (13, .ref (la 11)), (14, .ref (la 12)), (1, .ref ho), (0, .ref b)]) hx hb dL_law_1521 hl (k := 0) rfl (by rw [eq1521]; rfl) (by decide) rfl (fun ls hl => ?_)
                  rw [nI_1] at eq1521
                  subst eq1521
                  refine lv_goto (tgt := 1467) hx hb dL_law_1524 (by decide) ?_
                  have hL3 : hk_I E 0 (la 3) 16 (chA (V 3) (spG (V 3) (ma - 2 ^ st9) st9) (j9 + 1)) H20 := by
                    have h := hL.c3
                    rw [← chA_step (j := j9) (show nI (ma - 2 ^ st9) = spG (V 3) (ma - 2 ^ st9) st9 j9 from (if_pos (bit_y1 ebt c_1489)).symm)]
                    exact h
                  have hLn : LW E la (va_up V 3 (chA (V 3) (spG (V 3) (ma - 2 ^ st9) st9) (j9 + 1))) H20 := LW.mk13 hL.c0 hL.c1 hL.c2 hL3 hL.c4 hL.c5 hL.c6 hL.c7 hL.c8 hL.c9 hL.c10 hL.c11 hL.c12
                  exact ih (j9 + 1) _ _ (by omega) ⟨hS, hW, hLn, hb4, by omega⟩ _ (lv_sub hl [0, 1, 2, 3, 4, 5, 6, 7, 8, 9, 10, 11, 12, 13, 14, 15, 16, 17, 18, 19, 20] rfl)
          exact L1467 5 0 _ _ (by omega) ⟨hS, hW, by rw [chA_0, va_same]; exact hL, hb4, by omega⟩ _ (lv_sub hl [0, 2, 3, 4, 6, 1, 7, 8, 9, 10, 11, 12, 13, 14, 15, 16, 17, 18, 19, 20, 21] rfl)

set_option maxHeartbeats 4000000 in
set_option maxRecDepth 100000 in
theorem k_1240 {p : Program} {l : Launch} {e : Env} {s : State} {m : MethodId} {below : List Frame} {meth : Method} {c : Code} {b L : Nat} {xs : Nat → Int32} {E : hk_E} {Z : Nat → Prop} {ho ts b4 : Nat} {li : Nat → Nat} {rr : Nat → Nat → Nat} {la : Nat → Nat} (G0 : lw_G p l s m meth c b L xs E Z la b4) {H : Heap} {locs : List Loc} {cells slots tn zn st9 : Nat} {kd : Int32} (hJ0 : lw_J E Z ho ts li rr la b4 s (fun S => 2 ≤ S.1 1 ∧ st9 < S.1 1) H locs) (hz31 : zn < 2 ^ 31) (ht2 : 2 ≤ tn) (hce : cells + 40 ≤ 664990) (hsl : slots + 2000 ≤ 7106859) {ls : Array Slot} (hl : lv_has ls 26 [(20, .int (nI st9)), (19, .int (nI zn)), (18, .int kd), (16, .int (nI tn)), (15, .int 1), (2, .ref (la 0)), (3, .ref (la 1)), (4, .ref (la 2)), (5, .ref (la 3)), (6, .ref (la 4)), (7, .ref (la 5)), (8, .ref (la 6)), (9, .ref (la 7)), (10, .ref (la 8)), (11, .ref (la 9)), (12, .ref (la 10)), (13, .ref (la 11)), (14, .ref (la 12)), (1, .ref ho), (0, .ref b)])
  (J2061 : ∀ (H1 : Heap) (locs1 : List Loc), lw_J E Z ho ts li rr la b4 s (fun S => tI (tn + 1) (S.1 1)) H1 locs1 → ∀ (ls : Array Slot), lv_has ls 26 [(19, .int (nI zn)), (16, .int (nI tn)), (15, .int 1), (2, .ref (la 0)), (3, .ref (la 1)), (4, .ref (la 2)), (5, .ref (la 3)), (6, .ref (la 4)), (7, .ref (la 5)), (8, .ref (la 6)), (9, .ref (la 7)), (10, .ref (la 8)), (11, .ref (la 9)), (12, .ref (la 10)), (13, .ref (la 11)), (14, .ref (la 12)), (1, .ref ho), (0, .ref b)] → W p l e room_1 s m #[Value.ref b] below meth c H1 locs1 (cells + 40) (slots + 2000) (lw_Z below #[Value.ref b] s) (F0 m 2061 ls [])) : W p l e room_1 s m #[Value.ref b] below meth c H locs cells slots (lw_Z below #[Value.ref b] s) (F0 m 1240 ls []) := by
  obtain ⟨hl9, hLL, C0, X, K, hE, hZn0, hlz, hla, hlA⟩ := id G0
  obtain ⟨G, R, V, ⟨cn, sc, μ⟩, hI, hV, hW, hL, hS, hb4, ⟨h2, hst⟩⟩ := hJ0
  obtain ⟨hx, hb, hr, hml, hown, hts, hXs, hbl, hlocks, -⟩ := id C0
  have hAE : ∀ q, hk_A E q → hk_A E q := fun _ h => h
  have hZA : ∀ q, Z q → hk_A E q := hW.2.2.2.2.2.2.2.2.2.2.2.2
  have hZn : ∀ q, H.size ≤ q → Z q := fun q h => hZn0 q (Nat.le_trans hb4 h)
  have hn1 : cn 1 ≤ 4 := hV.n1
  have hn8 : cn 8 ≤ 3 := hV.n8
  have hn12 : cn 12 ≤ 24 := hV.n12
  have hn22 : cn 22 ≤ 4 := hV.n22
  have hn29 : cn 29 ≤ 8 := hV.n29
  have h2 : 2 ≤ cn 1 := h2
  have hst : st9 < cn 1 := hst
  refine lv_iload hx hb dL_law_1240 (lv_at hl 2 rfl) ?_
  refine lv_bipush (v := 17) hx hb dL_law_1242 (by decide) ?_
  refine lv_icmp_ne (tgt := 1396) hx hb dL_law_1244 (by decide) (fun c_1244 => ?_) (fun c_1244 => ?_)
  · exact k_1396 G0 ⟨G, R, V, (cn, sc, μ), hI, hV, hW, hL, hS, hb4, ⟨h2, hst⟩⟩ hz31 ht2 hce hsl hl J2061
  · obtain ⟨ot9, eot⟩ : ∃ y, y = zn / 4 % cn 1 := ⟨_, rfl⟩
    have hot : ot9 < cn 1 := by rw [eot]; exact Nat.mod_lt _ (by omega)
    obtain ⟨ma, hma, hmA⟩ := hV.a1 hst
    obtain ⟨mb, hmb, hmB⟩ := hV.a1 hot
    have hmA : mskR (cn 1) (μ 3) ma (μ 3 st9) (-1) := hmA
    have hmB : mskR (cn 1) (μ 3) mb (μ 3 ot9) (-1) := hmB
    have hmu : mskR (cn 1) (μ 3) (ma ||| mb) (μ 3 st9) (μ 3 ot9) := msk_or (ent_ne hI hn1) hmA hmB
    obtain ⟨sq, esq⟩ : ∃ y, y = ma ||| mb := ⟨_, rfl⟩
    rw [← esq] at hmu
    refine lv_iload hx hb dL_law_1247 (lv_at hl 1 rfl) ?_
    refine lv_iconst (v := 4) hx hb dL_law_1249 (by decide) ?_
    refine lv_idiv hx hb dL_law_1250 (by decide) ?_
    refine lv_topi (fun z_1 ez_1 => ?_)
    have ez_1 : z_1 = nI (zn / 4) := ez_1.trans (pk_div (a := zn) (d := 4) (by omega) (by omega) (by omega))
    subst ez_1
    refine lv_aload hx hb dL_law_1251 (lv_at hl 15 rfl) ?_
    refine lv_iconst (v := 0) hx hb dL_law_1253 (by decide) ?_
    refine hk_ild (f := (V 10)) X K hL.c10 (show vp_in (nI 0) 6 from vp_in_nI (by decide) (by decide)) dL_law_1254 ?_
    rw [show (V 10) (0 : Int32).toNatClampNeg = nI (cn 1) from hV.g0]
    refine lv_irem hx hb dL_law_1255 (nI_ne0 (by omega) (by omega)) ?_
    refine lv_topi (fun z_2 ez_2 => ?_)
    have ez_2 : z_2 = nI ot9 := ez_2.trans ((pk_rem (a := (zn / 4)) (d := (cn 1)) (by omega) (by omega) (by omega)).trans (congrArg nI (show (zn / 4) % (cn 1) = ot9 by omega)))
    subst ez_2
    refine lv_istore (lv' := [(21, .int (nI ot9)), (20, .int (nI st9)), (19, .int (nI zn)), (18, .int kd), (16, .int (nI tn)), (15, .int 1), (2, .ref (la 0)), (3, .ref (la 1)), (4, .ref (la 2)), (5, .ref (la 3)), (6, .ref (la 4)), (7, .ref (la 5)), (8, .ref (la 6)), (9, .ref (la 7)), (10, .ref (la 8)), (11, .ref (la 9)), (12, .ref (la 10)), (13, .ref (la 11)), (14, .ref (la 12)), (1, .ref ho), (0, .ref b)]) hx hb dL_law_1256 hl (by decide) rfl (fun ls hl => ?_)
    refine lv_aload hx hb dL_law_1258 (lv_at hl 9 rfl) ?_
    refine lv_iconst (v := 4) hx hb dL_law_1260 (by decide) ?_
    refine lv_iload hx hb dL_law_1261 (lv_at hl 1 rfl) ?_
    refine lv_imul hx hb dL_law_1263 ?_
    refine lv_topi (fun z_3 ez_3 => ?_)
    have ez_3 : z_3 = nI (4 * st9) := ez_3.trans (nI_mul 4 st9)
    subst ez_3
    refine lv_iconst (v := 1) hx hb dL_law_1264 (by decide) ?_
    refine lv_iadd hx hb dL_law_1265 ?_
    refine lv_topi (fun z_4 ez_4 => ?_)
    have ez_4 : z_4 = nI ((4 * st9) + 1) := ez_4.trans (nI_add (4 * st9) 1)
    subst ez_4
    refine hk_ild (f := (V 3)) X K hL.c3 (vp_in_nI (by omega) (by omega)) dL_law_1266 ?_
    rw [show (V 3) (nI ((4 * st9) + 1)).toNatClampNeg = nI ma from (congrArg (V 3) (nI_clamp (show 4 * st9 + 1 < 2 ^ 31 by omega))).trans hma]
    refine lv_aload hx hb dL_law_1267 (lv_at hl 9 rfl) ?_
    refine lv_iconst (v := 4) hx hb dL_law_1269 (by decide) ?_
    refine lv_iload hx hb dL_law_1270 (lv_at hl 0 rfl) ?_
    refine lv_imul hx hb dL_law_1272 ?_
    refine lv_topi (fun z_5 ez_5 => ?_)
    have ez_5 : z_5 = nI (4 * ot9) := ez_5.trans (nI_mul 4 ot9)
    subst ez_5
    refine lv_iconst (v := 1) hx hb dL_law_1273 (by decide) ?_
    refine lv_iadd hx hb dL_law_1274 ?_
    refine lv_topi (fun z_6 ez_6 => ?_)
    have ez_6 : z_6 = nI ((4 * ot9) + 1) := ez_6.trans (nI_add (4 * ot9) 1)
    subst ez_6
    refine hk_ild (f := (V 3)) X K hL.c3 (vp_in_nI (by omega) (by omega)) dL_law_1275 ?_
    rw [show (V 3) (nI ((4 * ot9) + 1)).toNatClampNeg = nI mb from (congrArg (V 3) (nI_clamp (show 4 * ot9 + 1 < 2 ^ 31 by omega))).trans hmb]
    refine lv_ior hx hb dL_law_1276 ?_
    refine lv_topi (fun q1276 eq1276 => ?_)
    rw [(l_or ma hmA.1 mb hmB.1).trans (congrArg nI esq.symm)] at eq1276
    subst eq1276
    refine lv_istore (lv' := [(22, .int (nI sq)), (21, .int (nI ot9)), (20, .int (nI st9)), (19, .int (nI zn)), (18, .int kd), (16, .int (nI tn)), (15, .int 1), (2, .ref (la 0)), (3, .ref (la 1)), (4, .ref (la 2)), (5, .ref (la 3)), (6, .ref (la 4)), (7, .ref (la 5)), (8, .ref (la 6)), (9, .ref (la 7)), (10, .ref (la 8)), (11, .ref (la 9)), (12, .ref (la 10)), (13, .ref (la 11)), (14, .ref (la 12)), (1, .ref ho), (0, .ref b)]) hx hb dL_law_1277 hl (by decide) rfl (fun ls hl => ?_)
    refine lv_aload hx hb dL_law_1279 (lv_at hl 10 rfl) ?_
    refine lv_iconst (v := 4) hx hb dL_law_1281 (by decide) ?_
    refine lv_iload hx hb dL_law_1282 (lv_at hl 2 rfl) ?_
    refine lv_imul hx hb dL_law_1284 ?_
    refine lv_topi (fun z_7 ez_7 => ?_)
    have ez_7 : z_7 = nI (4 * st9) := ez_7.trans (nI_mul 4 st9)
    subst ez_7
    refine lv_iconst (v := 1) hx hb dL_law_1285 (by decide) ?_
    refine lv_iadd hx hb dL_law_1286 ?_
    refine lv_topi (fun z_8 ez_8 => ?_)
    have ez_8 : z_8 = nI ((4 * st9) + 1) := ez_8.trans (nI_add (4 * st9) 1)
    subst ez_8
    refine hk_ild (f := (V 3)) X K hL.c3 (vp_in_nI (by omega) (by omega)) dL_law_1287 ?_
    rw [show (V 3) (nI ((4 * st9) + 1)).toNatClampNeg = nI ma from (congrArg (V 3) (nI_clamp (show 4 * st9 + 1 < 2 ^ 31 by omega))).trans hma]
    refine lv_aload hx hb dL_law_1288 (lv_at hl 10 rfl) ?_
    refine lv_iconst (v := 4) hx hb dL_law_1290 (by decide) ?_
    refine lv_iload hx hb dL_law_1291 (lv_at hl 1 rfl) ?_
    refine lv_imul hx hb dL_law_1293 ?_
    refine lv_topi (fun z_9 ez_9 => ?_)
    have ez_9 : z_9 = nI (4 * ot9) := ez_9.trans (nI_mul 4 ot9)
    subst ez_9
    refine lv_iconst (v := 1) hx hb dL_law_1294 (by decide) ?_
    refine lv_iadd hx hb dL_law_1295 ?_
    refine lv_topi (fun z_10 ez_10 => ?_)
    have ez_10 : z_10 = nI ((4 * ot9) + 1) := ez_10.trans (nI_add (4 * ot9) 1)
    subst ez_10
    refine hk_ild (f := (V 3)) X K hL.c3 (vp_in_nI (by omega) (by omega)) dL_law_1296 ?_
    rw [show (V 3) (nI ((4 * ot9) + 1)).toNatClampNeg = nI mb from (congrArg (V 3) (nI_clamp (show 4 * ot9 + 1 < 2 ^ 31 by omega))).trans hmb]
    refine lv_icmp_eq (tgt := 1304) hx hb dL_law_1297 (by decide) (fun c_1297 => ?_) (fun c_1297 => ?_)
    · have hab : ma = mb := (nI_eq (by have := hmA.1; omega) (by have := hmB.1; omega)).mp c_1297
      have hfe : μ 3 st9 = μ 3 ot9 := by
        have h1 := (hmA.2 st9 (by omega)).mpr ⟨hst, Or.inl rfl⟩
        rw [hab] at h1
        exact ((hmB.2 st9 (by omega)).mp h1).2.resolve_right (ent_ne hI hn1 st9 hst)
      have hcd0 : cd_merge (nI st9) (nI ot9) (cn, sc, μ) = 2 := merge_0 hn1 hst hot hfe
      refine lv_iconst (v := 0) hx hb dL_law_1304 (by decide) ?_
      refine lv_istore (lv' := [(23, .int 0), (22, .int (nI sq)), (21, .int (nI ot9)), (20, .int (nI st9)), (19, .int (nI zn)), (18, .int kd), (16, .int (nI tn)), (15, .int 1), (2, .ref (la 0)), (3, .ref (la 1)), (4, .ref (la 2)), (5, .ref (la 3)), (6, .ref (la 4)), (7, .ref (la 5)), (8, .ref (la 6)), (9, .ref (la 7)), (10, .ref (la 8)), (11, .ref (la 9)), (12, .ref (la 10)), (13, .ref (la 11)), (14, .ref (la 12)), (1, .ref ho), (0, .ref b)]) hx hb dL_law_1305 hl (by decide) rfl (fun ls hl => ?_)
      refine lv_aload_n hx hb dL_law_1307 rfl (lv_at hl 21 rfl) ?_
      refine lv_iconst (v := 0) hx hb dL_law_1308 (by decide) ?_
      refine lv_iload hx hb dL_law_1309 (lv_at hl 3 rfl) ?_
      refine lv_iload hx hb dL_law_1311 (lv_at hl 2 rfl) ?_
      refine lv_iconst (v := 0) hx hb dL_law_1313 (by decide) ?_
      refine lv_iconst (v := 0) hx hb dL_law_1314 (by decide) ?_
      refine lv_iconst (v := 0) hx hb dL_law_1315 (by decide) ?_
      refine hk_callSxW 7 (As := [.ref ho, .int 0, .int (nI st9), .int (nI ot9), .int 0, .int 0, .int 0]) (rest := []) X K hAE hS hl.1 (c_L_does_merge E l hl9 H hW hI hZn (p0 := nI st9) (p1 := nI ot9) (p2 := 0) (p3 := 0) (p4 := 0)) hZA gL_law_L_does rfl hd_L_does rfl ⟨⟨(Nat.le_of_ble_eq_true rfl), (Nat.le_of_ble_eq_true rfl)⟩, (by show cells + 12 ≤ 664990; omega), (by show slots + 600 ≤ 7106859; omega)⟩ rfl (Nat.le_of_ble_eq_true rfl) dL_law_1316 (fun _ _ _ _ _ hp _ _ _ _ _ _ => False.elim hp) (fun v9 H11 locsH11 hp hS hzH11 hkH11 => ?_)
      obtain ⟨hv, G, R, hW⟩ := hp
      subst hv
      have hL := hL.kept (fun k hk => hkH11 (la k) (hL.lt hk) (hlz k hk))
      have hb4 := Nat.le_trans hb4 hzH11
      have hZn := fun (q : Nat) (h : H11.size ≤ q) => hZn0 q (Nat.le_trans hb4 h)
      refine lv_iload hx hb dL_law_1319 (lv_at hl 0 rfl) ?_
      refine lv_if_eq (tgt := 1332) hx hb dL_law_1321 (by decide) (fun c_1321 => ?_) (fun c_1321 => ?_)
      · refine lv_ldc hx hb hown (hts (.constant RL 96 (-1111113)) (by decide +kernel)) dL_law_1332 ?_
        refine lv_icmp_ne (tgt := 1341) hx hb dL_law_1334 (by decide) (fun c_1334 => ?_) (fun c_1334 => ?_)
        · exact (c_1334 (dv_2 hcd0)).elim
        · refine lv_iconst (v := 1) hx hb dL_law_1337 (by decide) ?_
          refine lv_goto (tgt := 1342) hx hb dL_law_1338 (by decide) ?_
          refine lv_istore (lv' := [(15, .int 1), (23, .int 0), (22, .int (nI sq)), (21, .int (nI ot9)), (20, .int (nI st9)), (19, .int (nI zn)), (18, .int kd), (16, .int (nI tn)), (2, .ref (la 0)), (3, .ref (la 1)), (4, .ref (la 2)), (5, .ref (la 3)), (6, .ref (la 4)), (7, .ref (la 5)), (8, .ref (la 6)), (9, .ref (la 7)), (10, .ref (la 8)), (11, .ref (la 9)), (12, .ref (la 10)), (13, .ref (la 11)), (14, .ref (la 12)), (1, .ref ho), (0, .ref b)]) hx hb dL_law_1342 hl (by decide) rfl (fun ls hl => ?_)
          rw [if_neg (by rw [hcd0]; decide)] at hW
          refine lv_iconst (v := 0) hx hb dL_law_1344 (by decide) ?_
          refine lv_istore (lv' := [(24, .int 0), (15, .int 1), (23, .int 0), (22, .int (nI sq)), (21, .int (nI ot9)), (20, .int (nI st9)), (19, .int (nI zn)), (18, .int kd), (16, .int (nI tn)), (2, .ref (la 0)), (3, .ref (la 1)), (4, .ref (la 2)), (5, .ref (la 3)), (6, .ref (la 4)), (7, .ref (la 5)), (8, .ref (la 6)), (9, .ref (la 7)), (10, .ref (la 8)), (11, .ref (la 9)), (12, .ref (la 10)), (13, .ref (la 11)), (14, .ref (la 12)), (1, .ref ho), (0, .ref b)]) hx hb dL_law_1345 hl (by decide) rfl (fun ls hl => ?_)
          have L1347 : ∀ (n9 : Nat) (j9 : Nat) (H : Heap) (locs : List Loc), 5 ≤ j9 + n9 → (va_S (hk_A E) s.heap H locs ∧ HW E Z (ho, li, rr, ts) G R ((cn, sc, μ)) H ∧ LW E la (va_up V 3 (chA (V 3) (mgG (V 3) sq) j9)) H ∧ b4 ≤ H.size ∧ j9 ≤ 4) → ∀ (ls : Array Slot), lv_has ls 26 [(24, .int (nI j9)), (22, .int (nI sq)), (19, .int (nI zn)), (16, .int (nI tn)), (15, .int 1), (2, .ref (la 0)), (3, .ref (la 1)), (4, .ref (la 2)), (5, .ref (la 3)), (6, .ref (la 4)), (7, .ref (la 5)), (8, .ref (la 6)), (9, .ref (la 7)), (10, .ref (la 8)), (11, .ref (la 9)), (12, .ref (la 10)), (13, .ref (la 11)), (14, .ref (la 12)), (1, .ref ho), (0, .ref b)] → W p l e room_1 s m #[Value.ref b] below meth c H locs (cells + 12) (slots + 600) (lw_Z below #[Value.ref b] s) (F0 m 1347 ls []) := by
            intro n9
            induction n9 with
            | zero =>
              intro j9 H locs hm9 ⟨hS, hW, hL, hb4, hj9⟩ ls hl
              exact absurd hm9 (by omega)
            | succ n9 ih =>
              intro j9 H locs hm9 ⟨hS, hW, hL, hb4, hj9⟩ ls hl
              refine lv_iload hx hb dL_law_1347 (lv_at hl 0 rfl) ?_
              refine lv_iconst (v := 4) hx hb dL_law_1349 (by decide) ?_
              refine lv_icmp_ge (tgt := 1393) hx hb dL_law_1350 (by decide) (fun c_1350 => ?_) (fun c_1350 => ?_)
              · have hj4 : j9 = 4 := by
                  have := (nI_leI (a := 4) (by omega) (by omega)).mp c_1350
                  omega
                rw [hj4] at hL
                refine lv_goto (tgt := 2061) hx hb dL_law_1393 (by decide) ?_
                refine W.widen (k := cells + 40) (n := slots + 2000) (by show cells + 12 ≤ _; omega) (by show slots + 600 ≤ _; omega) ?_
                have hV9 := lv_mrg0 (a := st9) (b := st9) hV hI hst hmA esq hab
                exact J2061 H _ ⟨G, R, _, _, hI, hV9, hW, LW.mk13 hL.c0 hL.c1 hL.c2 hL.c3 hL.c4 hL.c5 hL.c6 hL.c7 hL.c8 hL.c9 hL.c10 hL.c11 hL.c12, hS, hb4, ⟨fun h => absurd h (by omega), fun _ => h2⟩⟩ _ (lv_sub hl [2, 3, 4, 5, 6, 7, 8, 9, 10, 11, 12, 13, 14, 15, 16, 17, 18, 19] rfl)
              · have hj4 : j9 < 4 := Nat.lt_of_not_le (fun h => c_1350 (nI_le (a := 4) h (by omega)))
                refine lv_aload hx hb dL_law_1353 (lv_at hl 8 rfl) ?_
                refine lv_iconst (v := 4) hx hb dL_law_1355 (by decide) ?_
                refine lv_iload hx hb dL_law_1356 (lv_at hl 0 rfl) ?_
                refine lv_imul hx hb dL_law_1358 ?_
                refine lv_topi (fun z_12 ez_12 => ?_)
                have ez_12 : z_12 = nI (4 * j9) := ez_12.trans (nI_mul 4 j9)
                subst ez_12
                refine lv_iconst (v := 1) hx hb dL_law_1359 (by decide) ?_
                refine lv_iadd hx hb dL_law_1360 ?_
                refine lv_topi (fun z_13 ez_13 => ?_)
                have ez_13 : z_13 = nI ((4 * j9) + 1) := ez_13.trans (nI_add (4 * j9) 1)
                subst ez_13
                refine lv_iload hx hb dL_law_1361 (lv_at hl 1 rfl) ?_
                refine lv_iload hx hb dL_law_1363 (lv_at hl 0 rfl) ?_
                refine lv_ishr hx hb dL_law_1365 ?_
                refine lv_iconst (v := 1) hx hb dL_law_1366 (by decide) ?_
                refine lv_iand hx hb dL_law_1367 ?_
                refine lv_topi (fun bt ebt => ?_)
                rw [l_bit sq hmu.1 j9 (by omega)] at ebt
                refine lv_iconst (v := 1) hx hb dL_law_1368 (by decide) ?_
                refine lv_icmp_ne (tgt := 1377) hx hb dL_law_1369 (by decide) (fun c_1369 => ?_) (fun c_1369 => ?_)
                · refine lv_aload hx hb dL_law_1377 (lv_at hl 8 rfl) ?_
                  refine lv_iconst (v := 4) hx hb dL_law_1379 (by decide) ?_
                  refine lv_iload hx hb dL_law_1380 (lv_at hl 0 rfl) ?_
                  refine lv_imul hx hb dL_law_1382 ?_
                  refine lv_topi (fun z_14 ez_14 => ?_)
                  have ez_14 : z_14 = nI (4 * j9) := ez_14.trans (nI_mul 4 j9)
                  subst ez_14
                  refine lv_iconst (v := 1) hx hb dL_law_1383 (by decide) ?_
                  refine lv_iadd hx hb dL_law_1384 ?_
                  refine lv_topi (fun z_15 ez_15 => ?_)
                  have ez_15 : z_15 = nI ((4 * j9) + 1) := ez_15.trans (nI_add (4 * j9) 1)
                  subst ez_15
                  refine hk_ild (f := (chA (V 3) (mgG (V 3) sq) j9)) X K hL.c3 (vp_in_nI (by omega) (by omega)) dL_law_1385 ?_
                  rw [show (chA (V 3) (mgG (V 3) sq) j9) (nI ((4 * j9) + 1)).toNatClampNeg = V 3 (4 * j9 + 1) from (congrArg _ (nI_clamp (show 4 * j9 + 1 < 2 ^ 31 by omega))).trans chA_rd]
                  refine hk_ist (f := (chA (V 3) (mgG (V 3) sq) j9)) X K hL.c3 hS (hlA 3 (by decide)) (vp_in_nI (by omega) (by omega)) dL_law_1386 (fun H16 locsH16 hIH16 hzH16 hqH16 hS => ?_)
                  rw [nI_clamp (show ((4 * j9) + 1) < 2 ^ 31 by omega)] at hIH16
                  have hL := hL.set hla (j := 3) (by decide) hIH16 hqH16
                  have hW := hW.kept (fun q h1 h2 => hqH16 q (fun g => h2.elim (fun h => hlz 3 (by decide) (by rw [← g]; exact h)) (fun h => h (by rw [g]; exact hlA 3 (by decide)))))
                  have hb4 : b4 ≤ H16.size := by omega
                  have hZn := fun (q : Nat) (h : H16.size ≤ q) => hZn0 q (Nat.le_trans hb4 h)
                  obtain ⟨q1387, eq1387⟩ : ∃ y : Int32, y = (nI j9) + 1 := ⟨_, rfl⟩
                  refine lv_iinc (v := q1387) (lv' := [(24, .int q1387), (22, .int (nI sq)), (19, .int (nI zn)), (16, .int (nI tn)), (15, .int 1), (2, .ref (la 0)), (3, .ref (la 1)), (4, .ref (la 2)), (5, .ref (la 3)), (6, .ref (la 4)), (7, .ref (la 5)), (8, .ref (la 6)), (9, .ref (la 7)), (10, .ref (la 8)), (11, .ref (la 9)), (12, .ref (la 10)), (13, .ref (la 11)), (14, .ref (la 12)), (1, .ref ho), (0, .ref b)]) hx hb dL_law_1387 hl (k := 0) rfl (by rw [eq1387]; rfl) (by decide) rfl (fun ls hl => ?_)
                  rw [nI_1] at eq1387
                  subst eq1387
                  refine lv_goto (tgt := 1347) hx hb dL_law_1390 (by decide) ?_
                  have hL3 : hk_I E 0 (la 3) 16 (chA (V 3) (mgG (V 3) sq) (j9 + 1)) H16 := by
                    have h := hL.c3
                    rw [← chA_step (j := j9) (show V 3 (4 * j9 + 1) = mgG (V 3) sq j9 from (if_neg (bit_n1 ebt c_1369)).symm)]
                    exact h
                  have hLn : LW E la (va_up V 3 (chA (V 3) (mgG (V 3) sq) (j9 + 1))) H16 := LW.mk13 hL.c0 hL.c1 hL.c2 hL3 hL.c4 hL.c5 hL.c6 hL.c7 hL.c8 hL.c9 hL.c10 hL.c11 hL.c12
                  exact ih (j9 + 1) _ _ (by omega) ⟨hS, hW, hLn, hb4, by omega⟩ _ (lv_sub hl [0, 1, 2, 3, 4, 5, 6, 7, 8, 9, 10, 11, 12, 13, 14, 15, 16, 17, 18, 19] rfl)
                · refine lv_iload hx hb dL_law_1372 (lv_at hl 1 rfl) ?_
                  refine lv_goto (tgt := 1386) hx hb dL_law_1374 (by decide) ?_
                  refine hk_ist (f := (chA (V 3) (mgG (V 3) sq) j9)) X K hL.c3 hS (hlA 3 (by decide)) (vp_in_nI (by omega) (by omega)) dL_law_1386 (fun H17 locsH17 hIH17 hzH17 hqH17 hS => ?_)
                  rw [nI_clamp (show ((4 * j9) + 1) < 2 ^ 31 by omega)] at hIH17
                  have hL := hL.set hla (j := 3) (by decide) hIH17 hqH17
                  have hW := hW.kept (fun q h1 h2 => hqH17 q (fun g => h2.elim (fun h => hlz 3 (by decide) (by rw [← g]; exact h)) (fun h => h (by rw [g]; exact hlA 3 (by decide)))))
                  have hb4 : b4 ≤ H17.size := by omega
                  have hZn := fun (q : Nat) (h : H17.size ≤ q) => hZn0 q (Nat.le_trans hb4 h)
                  obtain ⟨q1387, eq1387⟩ : ∃ y : Int32, y = (nI j9) + 1 := ⟨_, rfl⟩
                  refine lv_iinc (v := q1387) (lv' := [(24, .int q1387), (22, .int (nI sq)), (19, .int (nI zn)), (16, .int (nI tn)), (15, .int 1), (2, .ref (la 0)), (3, .ref (la 1)), (4, .ref (la 2)), (5, .ref (la 3)), (6, .ref (la 4)), (7, .ref (la 5)), (8, .ref (la 6)), (9, .ref (la 7)), (10, .ref (la 8)), (11, .ref (la 9)), (12, .ref (la 10)), (13, .ref (la 11)), (14, .ref (la 12)), (1, .ref ho), (0, .ref b)]) hx hb dL_law_1387 hl (k := 0) rfl (by rw [eq1387]; rfl) (by decide) rfl (fun ls hl => ?_)
                  rw [nI_1] at eq1387
                  subst eq1387
                  refine lv_goto (tgt := 1347) hx hb dL_law_1390 (by decide) ?_
                  have hL3 : hk_I E 0 (la 3) 16 (chA (V 3) (mgG (V 3) sq) (j9 + 1)) H17 := by
                    have h := hL.c3
                    rw [← chA_step (j := j9) (show nI sq = mgG (V 3) sq j9 from (if_pos (bit_y1 ebt c_1369)).symm)]
                    exact h
                  have hLn : LW E la (va_up V 3 (chA (V 3) (mgG (V 3) sq) (j9 + 1))) H17 := LW.mk13 hL.c0 hL.c1 hL.c2 hL3 hL.c4 hL.c5 hL.c6 hL.c7 hL.c8 hL.c9 hL.c10 hL.c11 hL.c12
                  exact ih (j9 + 1) _ _ (by omega) ⟨hS, hW, hLn, hb4, by omega⟩ _ (lv_sub hl [0, 1, 2, 3, 4, 5, 6, 7, 8, 9, 10, 11, 12, 13, 14, 15, 16, 17, 18, 19] rfl)
          exact L1347 5 0 _ _ (by omega) ⟨hS, hW, by rw [chA_0, va_same]; exact hL, hb4, by omega⟩ _ (lv_sub hl [0, 3, 6, 8, 1, 9, 10, 11, 12, 13, 14, 15, 16, 17, 18, 19, 20, 21, 22, 23] rfl)
      · exact absurd (by decide) c_1321
    · have hfe : ¬ μ 3 st9 = μ 3 ot9 := fun h => c_1297 (by rw [show ma = mb from msk_eq hmA (by rw [h]; exact hmB)])
      have hcd0 : cd_merge (nI st9) (nI ot9) (cn, sc, μ) = 0 := merge_1 hn1 hst hot hfe
      obtain ⟨hman, hsq0⟩ := merge_a (S := (cn, sc, μ)) hI hn1 hst hot hfe hmu
      refine lv_iconst (v := 1) hx hb dL_law_1300 (by decide) ?_
      refine lv_goto (tgt := 1305) hx hb dL_law_1301 (by decide) ?_
      refine lv_istore (lv' := [(23, .int 1), (22, .int (nI sq)), (21, .int (nI ot9)), (20, .int (nI st9)), (19, .int (nI zn)), (18, .int kd), (16, .int (nI tn)), (15, .int 1), (2, .ref (la 0)), (3, .ref (la 1)), (4, .ref (la 2)), (5, .ref (la 3)), (6, .ref (la 4)), (7, .ref (la 5)), (8, .ref (la 6)), (9, .ref (la 7)), (10, .ref (la 8)), (11, .ref (la 9)), (12, .ref (la 10)), (13, .ref (la 11)), (14, .ref (la 12)), (1, .ref ho), (0, .ref b)]) hx hb dL_law_1305 hl (by decide) rfl (fun ls hl => ?_)
      refine lv_aload_n hx hb dL_law_1307 rfl (lv_at hl 21 rfl) ?_
      refine lv_iconst (v := 0) hx hb dL_law_1308 (by decide) ?_
      refine lv_iload hx hb dL_law_1309 (lv_at hl 3 rfl) ?_
      refine lv_iload hx hb dL_law_1311 (lv_at hl 2 rfl) ?_
      refine lv_iconst (v := 0) hx hb dL_law_1313 (by decide) ?_
      refine lv_iconst (v := 0) hx hb dL_law_1314 (by decide) ?_
      refine lv_iconst (v := 0) hx hb dL_law_1315 (by decide) ?_
      refine hk_callSxW 7 (As := [.ref ho, .int 0, .int (nI st9), .int (nI ot9), .int 0, .int 0, .int 0]) (rest := []) X K hAE hS hl.1 (c_L_does_merge E l hl9 H hW hI hZn (p0 := nI st9) (p1 := nI ot9) (p2 := 0) (p3 := 0) (p4 := 0)) hZA gL_law_L_does rfl hd_L_does rfl ⟨⟨(Nat.le_of_ble_eq_true rfl), (Nat.le_of_ble_eq_true rfl)⟩, (by show cells + 12 ≤ 664990; omega), (by show slots + 600 ≤ 7106859; omega)⟩ rfl (Nat.le_of_ble_eq_true rfl) dL_law_1316 (fun _ _ _ _ _ hp _ _ _ _ _ _ => False.elim hp) (fun v9 H18 locsH18 hp hS hzH18 hkH18 => ?_)
      obtain ⟨hv, G, R, hW⟩ := hp
      subst hv
      have hL := hL.kept (fun k hk => hkH18 (la k) (hL.lt hk) (hlz k hk))
      have hb4 := Nat.le_trans hb4 hzH18
      have hZn := fun (q : Nat) (h : H18.size ≤ q) => hZn0 q (Nat.le_trans hb4 h)
      refine lv_iload hx hb dL_law_1319 (lv_at hl 0 rfl) ?_
      refine lv_if_eq (tgt := 1332) hx hb dL_law_1321 (by decide) (fun c_1321 => ?_) (fun c_1321 => ?_)
      · exact absurd c_1321 (by decide)
      · refine lv_iload hx hb dL_law_1324 (lv_at hl 1 rfl) ?_
        refine hk_callS 1 (As := [.int (nI sq)]) (rest := [.int (dv (cd_merge (nI st9) (nI ot9) (cn, sc, μ)) (an_merge (nI st9) (nI ot9) (cn, sc, μ)) (-1111111) (-1111113) 0)]) X K hAE hS hl.1 (c_L_lowest E l H18 hmu.1 hsq0) (fun _ h => h.elim) gL_law_L_lowest rfl hd_L_lowest rfl ⟨⟨(Nat.le_of_ble_eq_true rfl), (Nat.le_of_ble_eq_true rfl)⟩, (by show cells + 12 + 0 ≤ 664990; omega), (by show slots + 600 + 0 ≤ 7106859; omega)⟩ rfl (Nat.le_of_ble_eq_true rfl) dL_law_1326 (fun v9 H19 locsH19 hp hS hzH19 hkH19 => ?_)
        obtain ⟨hv, hh⟩ := hp
        subst hv; subst hh
        refine lv_goto (tgt := 1334) hx hb dL_law_1329 (by decide) ?_
        refine lv_icmp_ne (tgt := 1341) hx hb dL_law_1334 (by decide) (fun c_1334 => ?_) (fun c_1334 => ?_)
        · exact (c_1334 ((dv_0 hcd0).trans hman)).elim
        · refine lv_iconst (v := 1) hx hb dL_law_1337 (by decide) ?_
          refine lv_goto (tgt := 1342) hx hb dL_law_1338 (by decide) ?_
          refine lv_istore (lv' := [(15, .int 1), (23, .int 1), (22, .int (nI sq)), (21, .int (nI ot9)), (20, .int (nI st9)), (19, .int (nI zn)), (18, .int kd), (16, .int (nI tn)), (2, .ref (la 0)), (3, .ref (la 1)), (4, .ref (la 2)), (5, .ref (la 3)), (6, .ref (la 4)), (7, .ref (la 5)), (8, .ref (la 6)), (9, .ref (la 7)), (10, .ref (la 8)), (11, .ref (la 9)), (12, .ref (la 10)), (13, .ref (la 11)), (14, .ref (la 12)), (1, .ref ho), (0, .ref b)]) hx hb dL_law_1342 hl (by decide) rfl (fun ls hl => ?_)
          rw [if_pos hcd0] at hW
          refine lv_iconst (v := 0) hx hb dL_law_1344 (by decide) ?_
          refine lv_istore (lv' := [(24, .int 0), (15, .int 1), (23, .int 1), (22, .int (nI sq)), (21, .int (nI ot9)), (20, .int (nI st9)), (19, .int (nI zn)), (18, .int kd), (16, .int (nI tn)), (2, .ref (la 0)), (3, .ref (la 1)), (4, .ref (la 2)), (5, .ref (la 3)), (6, .ref (la 4)), (7, .ref (la 5)), (8, .ref (la 6)), (9, .ref (la 7)), (10, .ref (la 8)), (11, .ref (la 9)), (12, .ref (la 10)), (13, .ref (la 11)), (14, .ref (la 12)), (1, .ref ho), (0, .ref b)]) hx hb dL_law_1345 hl (by decide) rfl (fun ls hl => ?_)
          have L1347 : ∀ (n9 : Nat) (j9 : Nat) (H : Heap) (locs : List Loc), 5 ≤ j9 + n9 → (va_S (hk_A E) s.heap H locs ∧ HW E Z (ho, li, rr, ts) G R (st_merge (nI st9) (nI ot9) (cn, sc, μ)) H ∧ LW E la (va_up V 3 (chA (V 3) (mgG (V 3) sq) j9)) H ∧ b4 ≤ H.size ∧ j9 ≤ 4) → ∀ (ls : Array Slot), lv_has ls 26 [(24, .int (nI j9)), (22, .int (nI sq)), (19, .int (nI zn)), (16, .int (nI tn)), (15, .int 1), (2, .ref (la 0)), (3, .ref (la 1)), (4, .ref (la 2)), (5, .ref (la 3)), (6, .ref (la 4)), (7, .ref (la 5)), (8, .ref (la 6)), (9, .ref (la 7)), (10, .ref (la 8)), (11, .ref (la 9)), (12, .ref (la 10)), (13, .ref (la 11)), (14, .ref (la 12)), (1, .ref ho), (0, .ref b)] → W p l e room_1 s m #[Value.ref b] below meth c H locs (cells + 12) (slots + 600) (lw_Z below #[Value.ref b] s) (F0 m 1347 ls []) := by
            intro n9
            induction n9 with
            | zero =>
              intro j9 H locs hm9 ⟨hS, hW, hL, hb4, hj9⟩ ls hl
              exact absurd hm9 (by omega)
            | succ n9 ih =>
              intro j9 H locs hm9 ⟨hS, hW, hL, hb4, hj9⟩ ls hl
              refine lv_iload hx hb dL_law_1347 (lv_at hl 0 rfl) ?_
              refine lv_iconst (v := 4) hx hb dL_law_1349 (by decide) ?_
              refine lv_icmp_ge (tgt := 1393) hx hb dL_law_1350 (by decide) (fun c_1350 => ?_) (fun c_1350 => ?_)
              · have hj4 : j9 = 4 := by
                  have := (nI_leI (a := 4) (by omega) (by omega)).mp c_1350
                  omega
                rw [hj4] at hL
                refine lv_goto (tgt := 2061) hx hb dL_law_1393 (by decide) ?_
                refine W.widen (k := cells + 40) (n := slots + 2000) (by show cells + 12 ≤ _; omega) (by show slots + 600 ≤ _; omega) ?_
                have hV9 := lv_mrg1 (a := st9) (b := ot9) hV hI hst hot hfe hmu
                exact J2061 H _ ⟨G, R, _, _, invF_merge hI hcd0, hV9, hW, LW.mk13 hL.c0 hL.c1 hL.c2 hL.c3 hL.c4 hL.c5 hL.c6 hL.c7 hL.c8 hL.c9 hL.c10 hL.c11 hL.c12, hS, hb4, ⟨fun h => absurd h (by omega), fun _ => h2⟩⟩ _ (lv_sub hl [2, 3, 4, 5, 6, 7, 8, 9, 10, 11, 12, 13, 14, 15, 16, 17, 18, 19] rfl)
              · have hj4 : j9 < 4 := Nat.lt_of_not_le (fun h => c_1350 (nI_le (a := 4) h (by omega)))
                refine lv_aload hx hb dL_law_1353 (lv_at hl 8 rfl) ?_
                refine lv_iconst (v := 4) hx hb dL_law_1355 (by decide) ?_
                refine lv_iload hx hb dL_law_1356 (lv_at hl 0 rfl) ?_
                refine lv_imul hx hb dL_law_1358 ?_
                refine lv_topi (fun z_20 ez_20 => ?_)
                have ez_20 : z_20 = nI (4 * j9) := ez_20.trans (nI_mul 4 j9)
                subst ez_20
                refine lv_iconst (v := 1) hx hb dL_law_1359 (by decide) ?_
                refine lv_iadd hx hb dL_law_1360 ?_
                refine lv_topi (fun z_21 ez_21 => ?_)
                have ez_21 : z_21 = nI ((4 * j9) + 1) := ez_21.trans (nI_add (4 * j9) 1)
                subst ez_21
                refine lv_iload hx hb dL_law_1361 (lv_at hl 1 rfl) ?_
                refine lv_iload hx hb dL_law_1363 (lv_at hl 0 rfl) ?_
                refine lv_ishr hx hb dL_law_1365 ?_
                refine lv_iconst (v := 1) hx hb dL_law_1366 (by decide) ?_
                refine lv_iand hx hb dL_law_1367 ?_
                refine lv_topi (fun bt ebt => ?_)
                rw [l_bit sq hmu.1 j9 (by omega)] at ebt
                refine lv_iconst (v := 1) hx hb dL_law_1368 (by decide) ?_
                refine lv_icmp_ne (tgt := 1377) hx hb dL_law_1369 (by decide) (fun c_1369 => ?_) (fun c_1369 => ?_)
                · refine lv_aload hx hb dL_law_1377 (lv_at hl 8 rfl) ?_
                  refine lv_iconst (v := 4) hx hb dL_law_1379 (by decide) ?_
                  refine lv_iload hx hb dL_law_1380 (lv_at hl 0 rfl) ?_
                  refine lv_imul hx hb dL_law_1382 ?_
                  refine lv_topi (fun z_22 ez_22 => ?_)
                  have ez_22 : z_22 = nI (4 * j9) := ez_22.trans (nI_mul 4 j9)
                  subst ez_22
                  refine lv_iconst (v := 1) hx hb dL_law_1383 (by decide) ?_
                  refine lv_iadd hx hb dL_law_1384 ?_
                  refine lv_topi (fun z_23 ez_23 => ?_)
                  have ez_23 : z_23 = nI ((4 * j9) + 1) := ez_23.trans (nI_add (4 * j9) 1)
                  subst ez_23
                  refine hk_ild (f := (chA (V 3) (mgG (V 3) sq) j9)) X K hL.c3 (vp_in_nI (by omega) (by omega)) dL_law_1385 ?_
                  rw [show (chA (V 3) (mgG (V 3) sq) j9) (nI ((4 * j9) + 1)).toNatClampNeg = V 3 (4 * j9 + 1) from (congrArg _ (nI_clamp (show 4 * j9 + 1 < 2 ^ 31 by omega))).trans chA_rd]
                  refine hk_ist (f := (chA (V 3) (mgG (V 3) sq) j9)) X K hL.c3 hS (hlA 3 (by decide)) (vp_in_nI (by omega) (by omega)) dL_law_1386 (fun H24 locsH24 hIH24 hzH24 hqH24 hS => ?_)
                  rw [nI_clamp (show ((4 * j9) + 1) < 2 ^ 31 by omega)] at hIH24
                  have hL := hL.set hla (j := 3) (by decide) hIH24 hqH24
                  have hW := hW.kept (fun q h1 h2 => hqH24 q (fun g => h2.elim (fun h => hlz 3 (by decide) (by rw [← g]; exact h)) (fun h => h (by rw [g]; exact hlA 3 (by decide)))))
                  have hb4 : b4 ≤ H24.size := by omega
                  have hZn := fun (q : Nat) (h : H24.size ≤ q) => hZn0 q (Nat.le_trans hb4 h)
                  obtain ⟨q1387, eq1387⟩ : ∃ y : Int32, y = (nI j9) + 1 := ⟨_, rfl⟩
                  refine lv_iinc (v := q1387) (lv' := [(24, .int q1387), (22, .int (nI sq)), (19, .int (nI zn)), (16, .int (nI tn)), (15, .int 1), (2, .ref (la 0)), (3, .ref (la 1)), (4, .ref (la 2)), (5, .ref (la 3)), (6, .ref (la 4)), (7, .ref (la 5)), (8, .ref (la 6)), (9, .ref (la 7)), (10, .ref (la 8)), (11, .ref (la 9)), (12, .ref (la 10)), (13, .ref (la 11)), (14, .ref (la 12)), (1, .ref ho), (0, .ref b)]) hx hb dL_law_1387 hl (k := 0) rfl (by rw [eq1387]; rfl) (by decide) rfl (fun ls hl => ?_)
                  rw [nI_1] at eq1387
                  subst eq1387
                  refine lv_goto (tgt := 1347) hx hb dL_law_1390 (by decide) ?_
                  have hL3 : hk_I E 0 (la 3) 16 (chA (V 3) (mgG (V 3) sq) (j9 + 1)) H24 := by
                    have h := hL.c3
                    rw [← chA_step (j := j9) (show V 3 (4 * j9 + 1) = mgG (V 3) sq j9 from (if_neg (bit_n1 ebt c_1369)).symm)]
                    exact h
                  have hLn : LW E la (va_up V 3 (chA (V 3) (mgG (V 3) sq) (j9 + 1))) H24 := LW.mk13 hL.c0 hL.c1 hL.c2 hL3 hL.c4 hL.c5 hL.c6 hL.c7 hL.c8 hL.c9 hL.c10 hL.c11 hL.c12
                  exact ih (j9 + 1) _ _ (by omega) ⟨hS, hW, hLn, hb4, by omega⟩ _ (lv_sub hl [0, 1, 2, 3, 4, 5, 6, 7, 8, 9, 10, 11, 12, 13, 14, 15, 16, 17, 18, 19] rfl)
                · refine lv_iload hx hb dL_law_1372 (lv_at hl 1 rfl) ?_
                  refine lv_goto (tgt := 1386) hx hb dL_law_1374 (by decide) ?_
                  refine hk_ist (f := (chA (V 3) (mgG (V 3) sq) j9)) X K hL.c3 hS (hlA 3 (by decide)) (vp_in_nI (by omega) (by omega)) dL_law_1386 (fun H25 locsH25 hIH25 hzH25 hqH25 hS => ?_)
                  rw [nI_clamp (show ((4 * j9) + 1) < 2 ^ 31 by omega)] at hIH25
                  have hL := hL.set hla (j := 3) (by decide) hIH25 hqH25
                  have hW := hW.kept (fun q h1 h2 => hqH25 q (fun g => h2.elim (fun h => hlz 3 (by decide) (by rw [← g]; exact h)) (fun h => h (by rw [g]; exact hlA 3 (by decide)))))
                  have hb4 : b4 ≤ H25.size := by omega
                  have hZn := fun (q : Nat) (h : H25.size ≤ q) => hZn0 q (Nat.le_trans hb4 h)
                  obtain ⟨q1387, eq1387⟩ : ∃ y : Int32, y = (nI j9) + 1 := ⟨_, rfl⟩
                  refine lv_iinc (v := q1387) (lv' := [(24, .int q1387), (22, .int (nI sq)), (19, .int (nI zn)), (16, .int (nI tn)), (15, .int 1), (2, .ref (la 0)), (3, .ref (la 1)), (4, .ref (la 2)), (5, .ref (la 3)), (6, .ref (la 4)), (7, .ref (la 5)), (8, .ref (la 6)), (9, .ref (la 7)), (10, .ref (la 8)), (11, .ref (la 9)), (12, .ref (la 10)), (13, .ref (la 11)), (14, .ref (la 12)), (1, .ref ho), (0, .ref b)]) hx hb dL_law_1387 hl (k := 0) rfl (by rw [eq1387]; rfl) (by decide) rfl (fun ls hl => ?_)
                  rw [nI_1] at eq1387
                  subst eq1387
                  refine lv_goto (tgt := 1347) hx hb dL_law_1390 (by decide) ?_
                  have hL3 : hk_I E 0 (la 3) 16 (chA (V 3) (mgG (V 3) sq) (j9 + 1)) H25 := by
                    have h := hL.c3
                    rw [← chA_step (j := j9) (show nI sq = mgG (V 3) sq j9 from (if_pos (bit_y1 ebt c_1369)).symm)]
                    exact h
                  have hLn : LW E la (va_up V 3 (chA (V 3) (mgG (V 3) sq) (j9 + 1))) H25 := LW.mk13 hL.c0 hL.c1 hL.c2 hL3 hL.c4 hL.c5 hL.c6 hL.c7 hL.c8 hL.c9 hL.c10 hL.c11 hL.c12
                  exact ih (j9 + 1) _ _ (by omega) ⟨hS, hW, hLn, hb4, by omega⟩ _ (lv_sub hl [0, 1, 2, 3, 4, 5, 6, 7, 8, 9, 10, 11, 12, 13, 14, 15, 16, 17, 18, 19] rfl)
          exact L1347 5 0 _ _ (by omega) ⟨hS, hW, by rw [chA_0, va_same]; exact hL, hb4, by omega⟩ _ (lv_sub hl [0, 3, 6, 8, 1, 9, 10, 11, 12, 13, 14, 15, 16, 17, 18, 19, 20, 21, 22, 23] rfl)
