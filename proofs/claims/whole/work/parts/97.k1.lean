set_option maxHeartbeats 4000000 in
set_option maxRecDepth 100000 in
theorem k_doubt {p : Program} {l : Launch} {e : Env} {s : State} {m : MethodId} {below : List Frame} {meth : Method} {c : Code} {b L : Nat} {xs : Nat → Int32} {E : hk_E} {Zh Zm : Nat → Prop} {ho ts mo o9 b4 : Nat} {li am : Nat → Nat} {rr : Nat → Nat → Nat} (G0 : lw_G p l s m meth c b L xs E Zh Zm o9 b4) {H : Heap} {locs : List Loc} {cells slots : Nat} (hJ0 : lw_J E Zh Zm ho ts mo o9 b4 li am rr s H locs) {i : Nat} (hi : i + 8 ≤ L) (hce : cells + 12 ≤ 601024) (hsl : slots + 700 ≤ 7293034) {ls : Array Slot} (hl : lv_has ls 7 [(4, .int (nI i)), (3, .ref o9), (2, .ref mo), (1, .ref ho), (0, .ref b)])
  (J2534 : ∀ (H1 : Heap) (locs1 : List Loc), lw_J E Zh Zm ho ts mo o9 b4 li am rr s H1 locs1 → ∀ (ls : Array Slot), lv_has ls 7 [(4, .int (nI i)), (3, .ref o9), (2, .ref mo), (1, .ref ho), (0, .ref b)] → W p l e room_1 s m #[Value.ref b] below meth c H1 locs1 (cells + 12) (slots + 700) (lw_Z below #[Value.ref b] s) (F0 m 2534 ls [])) : W p l e room_1 s m #[Value.ref b] below meth c H locs cells slots (lw_Z below #[Value.ref b] s) (F0 m 804 ls []) := by
  obtain ⟨hl9, hLL, C0, X, K, hE, hZn0, hoZ, hoA, hZm⟩ := G0
  obtain ⟨G, R, ⟨cn, sc, μ⟩, ⟨cn1, sc1, μ1⟩, f0, hI, hW, hM, hag, hL, hS, hb4⟩ := hJ0
  obtain ⟨hx, hb, hr, hml, hown, -, hXs, hbl, hlocks, -⟩ := id C0
  have hAE : ∀ q, hk_A E q → hk_A E q := fun _ h => h
  have hZA : ∀ q, Zh q → hk_A E q := hW.2.2.2.2.2.2.2.2.2.2.2.2
  have hAz : ∀ q, (Zh q ∨ q = o9) → hk_A E q := fun q h => h.elim (fun h => hZA q h) (fun h => by rw [h]; exact hoA)
  have hmA : ∀ q, Zm q → hk_A E q := fun q h => (hZm q h).2.2.2
  have hZn : ∀ q, H.size ≤ q → Zh q := fun q h => hZn0 q (Nat.le_trans hb4 h)
  have hbA : ¬ hk_A E b := fun g => absurd hbl (Nat.not_lt.mpr (by rw [← hE]; exact g))
  have hJ : Inv (cn1, sc1, μ1) := inv_agr hI.1 hag
  refine lv_aload_n hx hb dL_law_804 rfl (lv_at hl 3 rfl) ?_
  refine lv_aload_n hx hb dL_law_805 rfl (lv_at hl 4 rfl) ?_
  refine lv_iload hx hb dL_law_806 (lv_at hl 0 rfl) ?_
  refine lv_iconst (v := 1) hx hb dL_law_808 (by decide) ?_
  refine lv_iadd hx hb dL_law_809 ?_
  refine lv_topi (fun z_1 ez_1 => ?_)
  have ez_1 : z_1 = nI (i + 1) := ez_1.trans (nI_add i 1)
  subst ez_1
  refine va_sld hx hb hXs hbl hbA hS (vp_in_nI (show i + 1 < L by omega) (by omega)) dL_law_810 ?_
  rw [show xs (nI (i + 1)).toNatClampNeg = xs (i + 1) from congrArg xs (nI_clamp (by omega))]
  refine lv_aload_n hx hb dL_law_811 rfl (lv_at hl 4 rfl) ?_
  refine lv_iload hx hb dL_law_812 (lv_at hl 0 rfl) ?_
  refine lv_iconst (v := 2) hx hb dL_law_814 (by decide) ?_
  refine lv_iadd hx hb dL_law_815 ?_
  refine lv_topi (fun z_2 ez_2 => ?_)
  have ez_2 : z_2 = nI (i + 2) := ez_2.trans (nI_add i 2)
  subst ez_2
  refine va_sld hx hb hXs hbl hbA hS (vp_in_nI (show i + 2 < L by omega) (by omega)) dL_law_816 ?_
  rw [show xs (nI (i + 2)).toNatClampNeg = xs (i + 2) from congrArg xs (nI_clamp (by omega))]
  refine lv_if_eq (tgt := 824) hx hb dL_law_817 (by decide) (fun c_817 => ?_) (fun c_817 => ?_)
  · skip
    refine lv_iconst (v := 0) hx hb dL_law_824 (by decide) ?_
    refine lv_aload_n hx hb dL_law_825 rfl (lv_at hl 1 rfl) ?_
    refine hk_callSxW 4 (As := [.ref ho, .int (xs (i + 1)), .int 0, .ref o9]) (rest := []) X K hAE hS hl.1 (c_L_doubt E l hl9 H hW hI hZn hL hoZ hoA (by decide) (p0 := xs (i + 1)) (p1 := 0)) hAz gL_law_L_doubt rfl hd_L_doubt rfl ⟨⟨(Nat.le_of_ble_eq_true rfl), (Nat.le_of_ble_eq_true rfl)⟩, hce, hsl⟩ rfl (Nat.le_of_ble_eq_true rfl) dL_law_826 (fun _ _ _ _ _ hp _ _ _ _ _ _ => False.elim hp) (fun v9 H1 locs1 hp hS hz1 hk1 => ?_)
    obtain ⟨hz, G1, R1, f1, hW1, hL1, hf1⟩ := hp
    subst hz
    have hM1 := MW.kept hM (fun q hq => hk1 q (Nat.lt_of_lt_of_le (hZm q hq).1 hb4) (fun g => g.elim (hZm q hq).2.1 (hZm q hq).2.2.1))
    refine lv_topi (fun k ek => ?_)
    refine lv_istore (lv' := [(5, .int k), (4, .int (nI i)), (3, .ref o9), (2, .ref mo), (1, .ref ho), (0, .ref b)]) hx hb dL_law_829 hl (by decide) rfl (fun ls hl => ?_)
    rw [← ek] at hW1 hf1
    have hcT : cd_doubt (xs (i + 1)) 0 (cn1, sc1, μ1) = k := (cd_doubt_agr hag).symm.trans ek.symm
    obtain ⟨w, ew⟩ : ∃ w : Int32, w = an_doubt (xs (i + 1)) 0 (cn, sc, μ) := ⟨_, rfl⟩
    rw [← ew] at hf1
    have haT : an_doubt (xs (i + 1)) 0 (cn1, sc1, μ1) = w := (an_doubt_agr hag).symm.trans ew.symm
    refine lv_aload_n hx hb dL_law_831 rfl (lv_at hl 3 rfl) ?_
    refine lv_aload_n hx hb dL_law_832 rfl (lv_at hl 5 rfl) ?_
    refine lv_iload hx hb dL_law_833 (lv_at hl 1 rfl) ?_
    refine lv_iconst (v := 1) hx hb dL_law_835 (by decide) ?_
    refine lv_iadd hx hb dL_law_836 ?_
    refine lv_topi (fun z_3 ez_3 => ?_)
    have ez_3 : z_3 = nI (i + 1) := ez_3.trans (nI_add i 1)
    subst ez_3
    refine va_sld hx hb hXs hbl hbA hS (vp_in_nI (show i + 1 < L by omega) (by omega)) dL_law_837 ?_
    rw [show xs (nI (i + 1)).toNatClampNeg = xs (i + 1) from congrArg xs (nI_clamp (by omega))]
    refine lv_aload_n hx hb dL_law_838 rfl (lv_at hl 5 rfl) ?_
    refine lv_iload hx hb dL_law_839 (lv_at hl 1 rfl) ?_
    refine lv_iconst (v := 2) hx hb dL_law_841 (by decide) ?_
    refine lv_iadd hx hb dL_law_842 ?_
    refine lv_topi (fun z_4 ez_4 => ?_)
    have ez_4 : z_4 = nI (i + 2) := ez_4.trans (nI_add i 2)
    subst ez_4
    refine va_sld hx hb hXs hbl hbA hS (vp_in_nI (show i + 2 < L by omega) (by omega)) dL_law_843 ?_
    rw [show xs (nI (i + 2)).toNatClampNeg = xs (i + 2) from congrArg xs (nI_clamp (by omega))]
    refine lv_if_eq (tgt := 851) hx hb dL_law_844 (by decide) (fun c_844 => ?_) (fun c_844 => ?_)
    · refine lv_iconst (v := 0) hx hb dL_law_851 (by decide) ?_
      refine hk_callV 2 (As := [.int (xs (i + 1)), .int 0]) (rest := []) X K hAE hS hl.1 hM1.1 rfl (c_X11_doubt E l H1 hM1 hmA hJ.1.2.2.1 (fun j hj => (hJ.2.2.2.2.2.1 j hj).2.1) (by decide) (p0 := xs (i + 1)) (p1 := 0)) hmA gL_law_X11_doubt rfl ⟨rfl, hd_X11_doubt⟩ rfl ⟨⟨(Nat.le_of_ble_eq_true rfl), (Nat.le_of_ble_eq_true rfl)⟩, (by show cells + 12 + 0 ≤ 601024; omega), (by show slots + 700 + 0 ≤ 7293034; omega)⟩ rfl (Nat.le_of_ble_eq_true rfl) dL_law_852 (fun v9 H2 locs2 hp hS hz2 hk2 => ?_)
      obtain ⟨cn2, sc2, μ2, hM2, h33, hz, ha⟩ := hp
      subst hz
      rw [hcT] at h33 ha
      have hW2 := HW.kept hW1 (fun q h1 h2 => hk2 q h1 (fun g => h2.elim (hZm q g).2.1 (fun h => h (hZm q g).2.2.2)))
      have hL2 : hk_L E o9 1 f1 H2 := (hk2 _ (ar_lt hL1) (fun g => (hZm _ g).2.2.1 rfl)).trans hL1
      have hb9 : b4 ≤ H2.size := Nat.le_trans (Nat.le_trans hb4 hz1) hz2
      rw [hcT, haT]
      refine lv_topi (fun v ev => ?_)
      refine lv_istore (lv' := [(6, .int v), (5, .int k), (4, .int (nI i)), (3, .ref o9), (2, .ref mo), (1, .ref ho), (0, .ref b)]) hx hb dL_law_855 hl (by decide) rfl (fun ls hl => ?_)
      refine lv_aload_n hx hb dL_law_857 rfl (lv_at hl 4 rfl) ?_
      refine hk_callV 0 (As := []) (rest := []) X K hAE hS hl.1 hM2.1 rfl (c_X11_thrown E l H2 hM2) (fun _ h => False.elim h) gL_law_X11_thrown rfl ⟨rfl, hd_X11_thrown⟩ rfl ⟨⟨(Nat.le_of_ble_eq_true rfl), (Nat.le_of_ble_eq_true rfl)⟩, (by show cells + 12 + 0 + 0 ≤ 601024; omega), (by show slots + 700 + 0 + 0 ≤ 7293034; omega)⟩ rfl (Nat.le_of_ble_eq_true rfl) dL_law_858 (fun v9 H3 locs3 hp hS hz3 hk3 => ?_)
      obtain ⟨hz, hh⟩ := hp
      subst hz; subst hh
      refine lv_iload hx hb dL_law_861 (lv_at hl 1 rfl) ?_
      refine lv_icmp_eq (tgt := 868) hx hb dL_law_863 (by decide) (fun c_863 => ?_) (fun c_863 => ?_)
      · refine lv_iload hx hb dL_law_868 (lv_at hl 1 rfl) ?_
        refine lv_if_ne (tgt := 892) hx hb dL_law_870 (by decide) (fun c_870 => ?_) (fun c_870 => ?_)
        · rw [if_neg c_870] at hW2 ha
          refine lv_goto (tgt := 2534) hx hb dL_law_892 (by decide) ?_
          exact J2534 H2 _ ⟨G1, R1, _, (cn2, sc2, μ2), f1, hI, hW2, hM2, hag.trans ha, hL2, hS, hb9⟩ _ (lv_sub hl [2, 3, 4, 5, 6] rfl)
        · have ckz := c_870
          have hw1 : w = 0 ∨ w = 1 := by rw [ew]; exact bo_doubt hI (ek.symm.trans c_870)
          refine lv_aload_n hx hb dL_law_873 rfl (lv_at hl 3 rfl) ?_
          refine lv_iconst (v := 0) hx hb dL_law_874 (by decide) ?_
          refine hk_lld X K hL2 (show vp_in (0 : Int32) 1 from vp_in_nI (n := 0) (by decide) (by decide)) dL_law_875 ?_
          rw [show f1 (0 : Int32).toNatClampNeg = w.toInt64 from (congrArg f1 hk_c0).trans (hf1 c_870)]
          have ev : v = w := ev.trans (if_pos c_870)
          rw [if_pos c_870] at hW2 ha
          refine lv_iload hx hb dL_law_876 (lv_at hl 0 rfl) ?_
          refine lv_if_eq (tgt := 885) hx hb dL_law_878 (by decide) (fun c_878 => ?_) (fun c_878 => ?_)
          · skip
            refine lv_lconst (v := 0) hx hb dL_law_885 (by decide) ?_
            refine lv_lcmp hx hb dL_law_886 ?_
            rw [show lcv (w.toInt64) 0 = 0 from by rw [show w = 0 from ev.symm.trans c_878]; exact lcv_self]
            refine lv_if_eq (tgt := 892) hx hb dL_law_887 (by decide) (fun c_887 => ?_) (fun c_887 => ?_)
            · refine lv_goto (tgt := 2534) hx hb dL_law_892 (by decide) ?_
              exact J2534 H2 _ ⟨G1, R1, _, (cn2, sc2, μ2), f1, invF_doubt hI (by decide), hW2, hM2, (st_doubt_agr hag).trans ha, hL2, hS, hb9⟩ _ (lv_sub hl [2, 3, 4, 5, 6] rfl)
            · exact absurd (by decide) c_887
          · skip
            refine lv_lconst (v := 1) hx hb dL_law_881 (by decide) ?_
            refine lv_goto (tgt := 886) hx hb dL_law_882 (by decide) ?_
            refine lv_lcmp hx hb dL_law_886 ?_
            rw [show lcv (w.toInt64) 1 = 0 from by rw [show w = 1 from hw1.resolve_left (fun g => c_878 (ev.trans g))]; exact lcv_self]
            refine lv_if_eq (tgt := 892) hx hb dL_law_887 (by decide) (fun c_887 => ?_) (fun c_887 => ?_)
            · refine lv_goto (tgt := 2534) hx hb dL_law_892 (by decide) ?_
              exact J2534 H2 _ ⟨G1, R1, _, (cn2, sc2, μ2), f1, invF_doubt hI (by decide), hW2, hM2, (st_doubt_agr hag).trans ha, hL2, hS, hb9⟩ _ (lv_sub hl [2, 3, 4, 5, 6] rfl)
            · exact absurd (by decide) c_887
      · exact absurd c_863 (fun h => h h33)
    · exact absurd c_817 c_844
  · skip
    refine lv_iconst (v := 1) hx hb dL_law_820 (by decide) ?_
    refine lv_goto (tgt := 825) hx hb dL_law_821 (by decide) ?_
    refine lv_aload_n hx hb dL_law_825 rfl (lv_at hl 1 rfl) ?_
    refine hk_callSxW 4 (As := [.ref ho, .int (xs (i + 1)), .int 1, .ref o9]) (rest := []) X K hAE hS hl.1 (c_L_doubt E l hl9 H hW hI hZn hL hoZ hoA (by decide) (p0 := xs (i + 1)) (p1 := 1)) hAz gL_law_L_doubt rfl hd_L_doubt rfl ⟨⟨(Nat.le_of_ble_eq_true rfl), (Nat.le_of_ble_eq_true rfl)⟩, hce, hsl⟩ rfl (Nat.le_of_ble_eq_true rfl) dL_law_826 (fun _ _ _ _ _ hp _ _ _ _ _ _ => False.elim hp) (fun v9 H1 locs1 hp hS hz1 hk1 => ?_)
    obtain ⟨hz, G1, R1, f1, hW1, hL1, hf1⟩ := hp
    subst hz
    have hM1 := MW.kept hM (fun q hq => hk1 q (Nat.lt_of_lt_of_le (hZm q hq).1 hb4) (fun g => g.elim (hZm q hq).2.1 (hZm q hq).2.2.1))
    refine lv_topi (fun k ek => ?_)
    refine lv_istore (lv' := [(5, .int k), (4, .int (nI i)), (3, .ref o9), (2, .ref mo), (1, .ref ho), (0, .ref b)]) hx hb dL_law_829 hl (by decide) rfl (fun ls hl => ?_)
    rw [← ek] at hW1 hf1
    have hcT : cd_doubt (xs (i + 1)) 1 (cn1, sc1, μ1) = k := (cd_doubt_agr hag).symm.trans ek.symm
    obtain ⟨w, ew⟩ : ∃ w : Int32, w = an_doubt (xs (i + 1)) 1 (cn, sc, μ) := ⟨_, rfl⟩
    rw [← ew] at hf1
    have haT : an_doubt (xs (i + 1)) 1 (cn1, sc1, μ1) = w := (an_doubt_agr hag).symm.trans ew.symm
    refine lv_aload_n hx hb dL_law_831 rfl (lv_at hl 3 rfl) ?_
    refine lv_aload_n hx hb dL_law_832 rfl (lv_at hl 5 rfl) ?_
    refine lv_iload hx hb dL_law_833 (lv_at hl 1 rfl) ?_
    refine lv_iconst (v := 1) hx hb dL_law_835 (by decide) ?_
    refine lv_iadd hx hb dL_law_836 ?_
    refine lv_topi (fun z_5 ez_5 => ?_)
    have ez_5 : z_5 = nI (i + 1) := ez_5.trans (nI_add i 1)
    subst ez_5
    refine va_sld hx hb hXs hbl hbA hS (vp_in_nI (show i + 1 < L by omega) (by omega)) dL_law_837 ?_
    rw [show xs (nI (i + 1)).toNatClampNeg = xs (i + 1) from congrArg xs (nI_clamp (by omega))]
    refine lv_aload_n hx hb dL_law_838 rfl (lv_at hl 5 rfl) ?_
    refine lv_iload hx hb dL_law_839 (lv_at hl 1 rfl) ?_
    refine lv_iconst (v := 2) hx hb dL_law_841 (by decide) ?_
    refine lv_iadd hx hb dL_law_842 ?_
    refine lv_topi (fun z_6 ez_6 => ?_)
    have ez_6 : z_6 = nI (i + 2) := ez_6.trans (nI_add i 2)
    subst ez_6
    refine va_sld hx hb hXs hbl hbA hS (vp_in_nI (show i + 2 < L by omega) (by omega)) dL_law_843 ?_
    rw [show xs (nI (i + 2)).toNatClampNeg = xs (i + 2) from congrArg xs (nI_clamp (by omega))]
    refine lv_if_eq (tgt := 851) hx hb dL_law_844 (by decide) (fun c_844 => ?_) (fun c_844 => ?_)
    · exact absurd c_844 c_817
    · refine lv_iconst (v := 1) hx hb dL_law_847 (by decide) ?_
      refine lv_goto (tgt := 852) hx hb dL_law_848 (by decide) ?_
      refine hk_callV 2 (As := [.int (xs (i + 1)), .int 1]) (rest := []) X K hAE hS hl.1 hM1.1 rfl (c_X11_doubt E l H1 hM1 hmA hJ.1.2.2.1 (fun j hj => (hJ.2.2.2.2.2.1 j hj).2.1) (by decide) (p0 := xs (i + 1)) (p1 := 1)) hmA gL_law_X11_doubt rfl ⟨rfl, hd_X11_doubt⟩ rfl ⟨⟨(Nat.le_of_ble_eq_true rfl), (Nat.le_of_ble_eq_true rfl)⟩, (by show cells + 12 + 0 ≤ 601024; omega), (by show slots + 700 + 0 ≤ 7293034; omega)⟩ rfl (Nat.le_of_ble_eq_true rfl) dL_law_852 (fun v9 H2 locs2 hp hS hz2 hk2 => ?_)
      obtain ⟨cn2, sc2, μ2, hM2, h33, hz, ha⟩ := hp
      subst hz
      rw [hcT] at h33 ha
      have hW2 := HW.kept hW1 (fun q h1 h2 => hk2 q h1 (fun g => h2.elim (hZm q g).2.1 (fun h => h (hZm q g).2.2.2)))
      have hL2 : hk_L E o9 1 f1 H2 := (hk2 _ (ar_lt hL1) (fun g => (hZm _ g).2.2.1 rfl)).trans hL1
      have hb9 : b4 ≤ H2.size := Nat.le_trans (Nat.le_trans hb4 hz1) hz2
      rw [hcT, haT]
      refine lv_topi (fun v ev => ?_)
      refine lv_istore (lv' := [(6, .int v), (5, .int k), (4, .int (nI i)), (3, .ref o9), (2, .ref mo), (1, .ref ho), (0, .ref b)]) hx hb dL_law_855 hl (by decide) rfl (fun ls hl => ?_)
      refine lv_aload_n hx hb dL_law_857 rfl (lv_at hl 4 rfl) ?_
      refine hk_callV 0 (As := []) (rest := []) X K hAE hS hl.1 hM2.1 rfl (c_X11_thrown E l H2 hM2) (fun _ h => False.elim h) gL_law_X11_thrown rfl ⟨rfl, hd_X11_thrown⟩ rfl ⟨⟨(Nat.le_of_ble_eq_true rfl), (Nat.le_of_ble_eq_true rfl)⟩, (by show cells + 12 + 0 + 0 ≤ 601024; omega), (by show slots + 700 + 0 + 0 ≤ 7293034; omega)⟩ rfl (Nat.le_of_ble_eq_true rfl) dL_law_858 (fun v9 H3 locs3 hp hS hz3 hk3 => ?_)
      obtain ⟨hz, hh⟩ := hp
      subst hz; subst hh
      refine lv_iload hx hb dL_law_861 (lv_at hl 1 rfl) ?_
      refine lv_icmp_eq (tgt := 868) hx hb dL_law_863 (by decide) (fun c_863 => ?_) (fun c_863 => ?_)
      · refine lv_iload hx hb dL_law_868 (lv_at hl 1 rfl) ?_
        refine lv_if_ne (tgt := 892) hx hb dL_law_870 (by decide) (fun c_870 => ?_) (fun c_870 => ?_)
        · rw [if_neg c_870] at hW2 ha
          refine lv_goto (tgt := 2534) hx hb dL_law_892 (by decide) ?_
          exact J2534 H2 _ ⟨G1, R1, _, (cn2, sc2, μ2), f1, hI, hW2, hM2, hag.trans ha, hL2, hS, hb9⟩ _ (lv_sub hl [2, 3, 4, 5, 6] rfl)
        · have ckz := c_870
          have hw1 : w = 0 ∨ w = 1 := by rw [ew]; exact bo_doubt hI (ek.symm.trans c_870)
          refine lv_aload_n hx hb dL_law_873 rfl (lv_at hl 3 rfl) ?_
          refine lv_iconst (v := 0) hx hb dL_law_874 (by decide) ?_
          refine hk_lld X K hL2 (show vp_in (0 : Int32) 1 from vp_in_nI (n := 0) (by decide) (by decide)) dL_law_875 ?_
          rw [show f1 (0 : Int32).toNatClampNeg = w.toInt64 from (congrArg f1 hk_c0).trans (hf1 c_870)]
          have ev : v = w := ev.trans (if_pos c_870)
          rw [if_pos c_870] at hW2 ha
          refine lv_iload hx hb dL_law_876 (lv_at hl 0 rfl) ?_
          refine lv_if_eq (tgt := 885) hx hb dL_law_878 (by decide) (fun c_878 => ?_) (fun c_878 => ?_)
          · skip
            refine lv_lconst (v := 0) hx hb dL_law_885 (by decide) ?_
            refine lv_lcmp hx hb dL_law_886 ?_
            rw [show lcv (w.toInt64) 0 = 0 from by rw [show w = 0 from ev.symm.trans c_878]; exact lcv_self]
            refine lv_if_eq (tgt := 892) hx hb dL_law_887 (by decide) (fun c_887 => ?_) (fun c_887 => ?_)
            · refine lv_goto (tgt := 2534) hx hb dL_law_892 (by decide) ?_
              exact J2534 H2 _ ⟨G1, R1, _, (cn2, sc2, μ2), f1, invF_doubt hI (by decide), hW2, hM2, (st_doubt_agr hag).trans ha, hL2, hS, hb9⟩ _ (lv_sub hl [2, 3, 4, 5, 6] rfl)
            · exact absurd (by decide) c_887
          · skip
            refine lv_lconst (v := 1) hx hb dL_law_881 (by decide) ?_
            refine lv_goto (tgt := 886) hx hb dL_law_882 (by decide) ?_
            refine lv_lcmp hx hb dL_law_886 ?_
            rw [show lcv (w.toInt64) 1 = 0 from by rw [show w = 1 from hw1.resolve_left (fun g => c_878 (ev.trans g))]; exact lcv_self]
            refine lv_if_eq (tgt := 892) hx hb dL_law_887 (by decide) (fun c_887 => ?_) (fun c_887 => ?_)
            · refine lv_goto (tgt := 2534) hx hb dL_law_892 (by decide) ?_
              exact J2534 H2 _ ⟨G1, R1, _, (cn2, sc2, μ2), f1, invF_doubt hI (by decide), hW2, hM2, (st_doubt_agr hag).trans ha, hL2, hS, hb9⟩ _ (lv_sub hl [2, 3, 4, 5, 6] rfl)
            · exact absurd (by decide) c_887
      · exact absurd c_863 (fun h => h h33)
set_option maxHeartbeats 4000000 in
set_option maxRecDepth 100000 in
theorem k_minimum {p : Program} {l : Launch} {e : Env} {s : State} {m : MethodId} {below : List Frame} {meth : Method} {c : Code} {b L : Nat} {xs : Nat → Int32} {E : hk_E} {Zh Zm : Nat → Prop} {ho ts mo o9 b4 : Nat} {li am : Nat → Nat} {rr : Nat → Nat → Nat} (G0 : lw_G p l s m meth c b L xs E Zh Zm o9 b4) {H : Heap} {locs : List Loc} {cells slots : Nat} (hJ0 : lw_J E Zh Zm ho ts mo o9 b4 li am rr s H locs) {i : Nat} (hi : i + 8 ≤ L) (hce : cells + 12 ≤ 601024) (hsl : slots + 700 ≤ 7293034) {ls : Array Slot} (hl : lv_has ls 7 [(4, .int (nI i)), (3, .ref o9), (2, .ref mo), (1, .ref ho), (0, .ref b)])
  (J2534 : ∀ (H1 : Heap) (locs1 : List Loc), lw_J E Zh Zm ho ts mo o9 b4 li am rr s H1 locs1 → ∀ (ls : Array Slot), lv_has ls 7 [(4, .int (nI i)), (3, .ref o9), (2, .ref mo), (1, .ref ho), (0, .ref b)] → W p l e room_1 s m #[Value.ref b] below meth c H1 locs1 (cells + 12) (slots + 700) (lw_Z below #[Value.ref b] s) (F0 m 2534 ls [])) : W p l e room_1 s m #[Value.ref b] below meth c H locs cells slots (lw_Z below #[Value.ref b] s) (F0 m 895 ls []) := by
  obtain ⟨hl9, hLL, C0, X, K, hE, hZn0, hoZ, hoA, hZm⟩ := G0
  obtain ⟨G, R, ⟨cn, sc, μ⟩, ⟨cn1, sc1, μ1⟩, f0, hI, hW, hM, hag, hL, hS, hb4⟩ := hJ0
  obtain ⟨hx, hb, hr, hml, hown, -, hXs, hbl, hlocks, -⟩ := id C0
  have hAE : ∀ q, hk_A E q → hk_A E q := fun _ h => h
  have hZA : ∀ q, Zh q → hk_A E q := hW.2.2.2.2.2.2.2.2.2.2.2.2
  have hAz : ∀ q, (Zh q ∨ q = o9) → hk_A E q := fun q h => h.elim (fun h => hZA q h) (fun h => by rw [h]; exact hoA)
  have hmA : ∀ q, Zm q → hk_A E q := fun q h => (hZm q h).2.2.2
  have hZn : ∀ q, H.size ≤ q → Zh q := fun q h => hZn0 q (Nat.le_trans hb4 h)
  have hbA : ¬ hk_A E b := fun g => absurd hbl (Nat.not_lt.mpr (by rw [← hE]; exact g))
  have hJ : Inv (cn1, sc1, μ1) := inv_agr hI.1 hag
  refine lv_aload_n hx hb dL_law_895 rfl (lv_at hl 3 rfl) ?_
  refine lv_aload_n hx hb dL_law_896 rfl (lv_at hl 4 rfl) ?_
  refine lv_iload hx hb dL_law_897 (lv_at hl 0 rfl) ?_
  refine lv_iconst (v := 1) hx hb dL_law_899 (by decide) ?_
  refine lv_iadd hx hb dL_law_900 ?_
  refine lv_topi (fun z_1 ez_1 => ?_)
  have ez_1 : z_1 = nI (i + 1) := ez_1.trans (nI_add i 1)
  subst ez_1
  refine va_sld hx hb hXs hbl hbA hS (vp_in_nI (show i + 1 < L by omega) (by omega)) dL_law_901 ?_
  rw [show xs (nI (i + 1)).toNatClampNeg = xs (i + 1) from congrArg xs (nI_clamp (by omega))]
  refine lv_aload_n hx hb dL_law_902 rfl (lv_at hl 4 rfl) ?_
  refine lv_iload hx hb dL_law_903 (lv_at hl 0 rfl) ?_
  refine lv_iconst (v := 2) hx hb dL_law_905 (by decide) ?_
  refine lv_iadd hx hb dL_law_906 ?_
  refine lv_topi (fun z_2 ez_2 => ?_)
  have ez_2 : z_2 = nI (i + 2) := ez_2.trans (nI_add i 2)
  subst ez_2
  refine va_sld hx hb hXs hbl hbA hS (vp_in_nI (show i + 2 < L by omega) (by omega)) dL_law_907 ?_
  rw [show xs (nI (i + 2)).toNatClampNeg = xs (i + 2) from congrArg xs (nI_clamp (by omega))]
  refine lv_aload_n hx hb dL_law_908 rfl (lv_at hl 1 rfl) ?_
  refine hk_callSxW 4 (As := [.ref ho, .int (xs (i + 1)), .int (xs (i + 2)), .ref o9]) (rest := []) X K hAE hS hl.1 (c_L_minimum E l hl9 H hW hI hZn hL hoZ hoA (p0 := xs (i + 1)) (p1 := xs (i + 2))) hAz gL_law_L_minimum rfl hd_L_minimum rfl ⟨⟨(Nat.le_of_ble_eq_true rfl), (Nat.le_of_ble_eq_true rfl)⟩, hce, hsl⟩ rfl (Nat.le_of_ble_eq_true rfl) dL_law_909 (fun _ _ _ _ _ hp _ _ _ _ _ _ => False.elim hp) (fun v9 H1 locs1 hp hS hz1 hk1 => ?_)
  obtain ⟨hz, G1, R1, f1, hW1, hL1, hf1⟩ := hp
  subst hz
  have hM1 := MW.kept hM (fun q hq => hk1 q (Nat.lt_of_lt_of_le (hZm q hq).1 hb4) (fun g => g.elim (hZm q hq).2.1 (hZm q hq).2.2.1))
  refine lv_topi (fun k ek => ?_)
  refine lv_istore (lv' := [(5, .int k), (4, .int (nI i)), (3, .ref o9), (2, .ref mo), (1, .ref ho), (0, .ref b)]) hx hb dL_law_912 hl (by decide) rfl (fun ls hl => ?_)
  rw [← ek] at hW1 hf1
  have hcT : cd_minimum (xs (i + 1)) (xs (i + 2)) (cn1, sc1, μ1) = k := (cd_minimum_agr hag).symm.trans ek.symm
  obtain ⟨w, ew⟩ : ∃ w : Int32, w = an_minimum (xs (i + 1)) (xs (i + 2)) (cn, sc, μ) := ⟨_, rfl⟩
  rw [← ew] at hf1
  have haT : an_minimum (xs (i + 1)) (xs (i + 2)) (cn1, sc1, μ1) = w := (an_minimum_agr hag).symm.trans ew.symm
  refine lv_aload_n hx hb dL_law_914 rfl (lv_at hl 3 rfl) ?_
  refine lv_aload_n hx hb dL_law_915 rfl (lv_at hl 5 rfl) ?_
  refine lv_iload hx hb dL_law_916 (lv_at hl 1 rfl) ?_
  refine lv_iconst (v := 1) hx hb dL_law_918 (by decide) ?_
  refine lv_iadd hx hb dL_law_919 ?_
  refine lv_topi (fun z_3 ez_3 => ?_)
  have ez_3 : z_3 = nI (i + 1) := ez_3.trans (nI_add i 1)
  subst ez_3
  refine va_sld hx hb hXs hbl hbA hS (vp_in_nI (show i + 1 < L by omega) (by omega)) dL_law_920 ?_
  rw [show xs (nI (i + 1)).toNatClampNeg = xs (i + 1) from congrArg xs (nI_clamp (by omega))]
  refine lv_aload_n hx hb dL_law_921 rfl (lv_at hl 5 rfl) ?_
  refine lv_iload hx hb dL_law_922 (lv_at hl 1 rfl) ?_
  refine lv_iconst (v := 2) hx hb dL_law_924 (by decide) ?_
  refine lv_iadd hx hb dL_law_925 ?_
  refine lv_topi (fun z_4 ez_4 => ?_)
  have ez_4 : z_4 = nI (i + 2) := ez_4.trans (nI_add i 2)
  subst ez_4
  refine va_sld hx hb hXs hbl hbA hS (vp_in_nI (show i + 2 < L by omega) (by omega)) dL_law_926 ?_
  rw [show xs (nI (i + 2)).toNatClampNeg = xs (i + 2) from congrArg xs (nI_clamp (by omega))]
  refine hk_callV 2 (As := [.int (xs (i + 1)), .int (xs (i + 2))]) (rest := []) X K hAE hS hl.1 hM1.1 rfl (c_X11_minimum E l H1 hM1 hmA hJ.1.1 hJ.1.2.2.2.2 (p0 := xs (i + 1)) (p1 := xs (i + 2))) hmA gL_law_X11_minimum rfl ⟨rfl, hd_X11_minimum⟩ rfl ⟨⟨(Nat.le_of_ble_eq_true rfl), (Nat.le_of_ble_eq_true rfl)⟩, (by show cells + 12 + 0 ≤ 601024; omega), (by show slots + 700 + 0 ≤ 7293034; omega)⟩ rfl (Nat.le_of_ble_eq_true rfl) dL_law_927 (fun v9 H2 locs2 hp hS hz2 hk2 => ?_)
  obtain ⟨cn2, sc2, μ2, hM2, h33, hz, ha⟩ := hp
  subst hz
  rw [hcT] at h33 ha
  have hW2 := HW.kept hW1 (fun q h1 h2 => hk2 q h1 (fun g => h2.elim (hZm q g).2.1 (fun h => h (hZm q g).2.2.2)))
  have hL2 : hk_L E o9 1 f1 H2 := (hk2 _ (ar_lt hL1) (fun g => (hZm _ g).2.2.1 rfl)).trans hL1
  have hb9 : b4 ≤ H2.size := Nat.le_trans (Nat.le_trans hb4 hz1) hz2
  rw [hcT, haT]
  refine lv_topi (fun v ev => ?_)
  refine lv_istore (lv' := [(6, .int v), (5, .int k), (4, .int (nI i)), (3, .ref o9), (2, .ref mo), (1, .ref ho), (0, .ref b)]) hx hb dL_law_930 hl (by decide) rfl (fun ls hl => ?_)
  refine lv_aload_n hx hb dL_law_932 rfl (lv_at hl 4 rfl) ?_
  refine hk_callV 0 (As := []) (rest := []) X K hAE hS hl.1 hM2.1 rfl (c_X11_thrown E l H2 hM2) (fun _ h => False.elim h) gL_law_X11_thrown rfl ⟨rfl, hd_X11_thrown⟩ rfl ⟨⟨(Nat.le_of_ble_eq_true rfl), (Nat.le_of_ble_eq_true rfl)⟩, (by show cells + 12 + 0 + 0 ≤ 601024; omega), (by show slots + 700 + 0 + 0 ≤ 7293034; omega)⟩ rfl (Nat.le_of_ble_eq_true rfl) dL_law_933 (fun v9 H3 locs3 hp hS hz3 hk3 => ?_)
  obtain ⟨hz, hh⟩ := hp
  subst hz; subst hh
  refine lv_iload hx hb dL_law_936 (lv_at hl 1 rfl) ?_
  refine lv_icmp_eq (tgt := 943) hx hb dL_law_938 (by decide) (fun c_938 => ?_) (fun c_938 => ?_)
  · refine lv_iload hx hb dL_law_943 (lv_at hl 1 rfl) ?_
    refine lv_if_ne (tgt := 960) hx hb dL_law_945 (by decide) (fun c_945 => ?_) (fun c_945 => ?_)
    · rw [if_neg c_945] at hW2 ha
      refine lv_goto (tgt := 2534) hx hb dL_law_960 (by decide) ?_
      exact J2534 H2 _ ⟨G1, R1, _, (cn2, sc2, μ2), f1, hI, hW2, hM2, hag.trans ha, hL2, hS, hb9⟩ _ (lv_sub hl [2, 3, 4, 5, 6] rfl)
    · have ckz := c_945
      refine lv_aload_n hx hb dL_law_948 rfl (lv_at hl 3 rfl) ?_
      refine lv_iconst (v := 0) hx hb dL_law_949 (by decide) ?_
      refine hk_lld X K hL2 (show vp_in (0 : Int32) 1 from vp_in_nI (n := 0) (by decide) (by decide)) dL_law_950 ?_
      rw [show f1 (0 : Int32).toNatClampNeg = w.toInt64 from (congrArg f1 hk_c0).trans (hf1 c_945)]
      have ev : v = w := ev.trans (if_pos c_945)
      rw [if_pos c_945] at hW2 ha
      refine lv_iload hx hb dL_law_951 (lv_at hl 0 rfl) ?_
      refine lv_i2l hx hb dL_law_953 rfl ?_
      refine lv_lcmp hx hb dL_law_954 ?_
      rw [show lcv (w.toInt64) v.toInt64 = 0 from by rw [ev]; exact lcv_self]
      refine lv_if_eq (tgt := 960) hx hb dL_law_955 (by decide) (fun c_955 => ?_) (fun c_955 => ?_)
      · refine lv_goto (tgt := 2534) hx hb dL_law_960 (by decide) ?_
        exact J2534 H2 _ ⟨G1, R1, _, (cn2, sc2, μ2), f1, invF_minimum hI (ek.symm.trans ckz), hW2, hM2, (st_minimum_agr hag).trans ha, hL2, hS, hb9⟩ _ (lv_sub hl [2, 3, 4, 5, 6] rfl)
      · exact absurd (by decide) c_955
  · exact absurd c_938 (fun h => h h33)
set_option maxHeartbeats 4000000 in
set_option maxRecDepth 100000 in
theorem k_merge {p : Program} {l : Launch} {e : Env} {s : State} {m : MethodId} {below : List Frame} {meth : Method} {c : Code} {b L : Nat} {xs : Nat → Int32} {E : hk_E} {Zh Zm : Nat → Prop} {ho ts mo o9 b4 : Nat} {li am : Nat → Nat} {rr : Nat → Nat → Nat} (G0 : lw_G p l s m meth c b L xs E Zh Zm o9 b4) {H : Heap} {locs : List Loc} {cells slots : Nat} (hJ0 : lw_J E Zh Zm ho ts mo o9 b4 li am rr s H locs) {i : Nat} (hi : i + 8 ≤ L) (hce : cells + 12 ≤ 601024) (hsl : slots + 700 ≤ 7293034) {ls : Array Slot} (hl : lv_has ls 7 [(4, .int (nI i)), (3, .ref o9), (2, .ref mo), (1, .ref ho), (0, .ref b)])
  (J2534 : ∀ (H1 : Heap) (locs1 : List Loc), lw_J E Zh Zm ho ts mo o9 b4 li am rr s H1 locs1 → ∀ (ls : Array Slot), lv_has ls 7 [(4, .int (nI i)), (3, .ref o9), (2, .ref mo), (1, .ref ho), (0, .ref b)] → W p l e room_1 s m #[Value.ref b] below meth c H1 locs1 (cells + 12) (slots + 700) (lw_Z below #[Value.ref b] s) (F0 m 2534 ls [])) : W p l e room_1 s m #[Value.ref b] below meth c H locs cells slots (lw_Z below #[Value.ref b] s) (F0 m 963 ls []) := by
  obtain ⟨hl9, hLL, C0, X, K, hE, hZn0, hoZ, hoA, hZm⟩ := G0
  obtain ⟨G, R, ⟨cn, sc, μ⟩, ⟨cn1, sc1, μ1⟩, f0, hI, hW, hM, hag, hL, hS, hb4⟩ := hJ0
  obtain ⟨hx, hb, hr, hml, hown, -, hXs, hbl, hlocks, -⟩ := id C0
  have hAE : ∀ q, hk_A E q → hk_A E q := fun _ h => h
  have hZA : ∀ q, Zh q → hk_A E q := hW.2.2.2.2.2.2.2.2.2.2.2.2
  have hAz : ∀ q, (Zh q ∨ q = o9) → hk_A E q := fun q h => h.elim (fun h => hZA q h) (fun h => by rw [h]; exact hoA)
  have hmA : ∀ q, Zm q → hk_A E q := fun q h => (hZm q h).2.2.2
  have hZn : ∀ q, H.size ≤ q → Zh q := fun q h => hZn0 q (Nat.le_trans hb4 h)
  have hbA : ¬ hk_A E b := fun g => absurd hbl (Nat.not_lt.mpr (by rw [← hE]; exact g))
  have hJ : Inv (cn1, sc1, μ1) := inv_agr hI.1 hag
  refine lv_aload_n hx hb dL_law_963 rfl (lv_at hl 3 rfl) ?_
  refine lv_aload_n hx hb dL_law_964 rfl (lv_at hl 4 rfl) ?_
  refine lv_iload hx hb dL_law_965 (lv_at hl 0 rfl) ?_
  refine lv_iconst (v := 1) hx hb dL_law_967 (by decide) ?_
  refine lv_iadd hx hb dL_law_968 ?_
  refine lv_topi (fun z_1 ez_1 => ?_)
  have ez_1 : z_1 = nI (i + 1) := ez_1.trans (nI_add i 1)
  subst ez_1
  refine va_sld hx hb hXs hbl hbA hS (vp_in_nI (show i + 1 < L by omega) (by omega)) dL_law_969 ?_
  rw [show xs (nI (i + 1)).toNatClampNeg = xs (i + 1) from congrArg xs (nI_clamp (by omega))]
  refine lv_aload_n hx hb dL_law_970 rfl (lv_at hl 4 rfl) ?_
  refine lv_iload hx hb dL_law_971 (lv_at hl 0 rfl) ?_
  refine lv_iconst (v := 2) hx hb dL_law_973 (by decide) ?_
  refine lv_iadd hx hb dL_law_974 ?_
  refine lv_topi (fun z_2 ez_2 => ?_)
  have ez_2 : z_2 = nI (i + 2) := ez_2.trans (nI_add i 2)
  subst ez_2
  refine va_sld hx hb hXs hbl hbA hS (vp_in_nI (show i + 2 < L by omega) (by omega)) dL_law_975 ?_
  rw [show xs (nI (i + 2)).toNatClampNeg = xs (i + 2) from congrArg xs (nI_clamp (by omega))]
  refine lv_aload_n hx hb dL_law_976 rfl (lv_at hl 1 rfl) ?_
  refine hk_callSxW 4 (As := [.ref ho, .int (xs (i + 1)), .int (xs (i + 2)), .ref o9]) (rest := []) X K hAE hS hl.1 (c_L_merge E l hl9 H hW hI hZn hL hoZ hoA (p0 := xs (i + 1)) (p1 := xs (i + 2))) hAz gL_law_L_merge rfl hd_L_merge rfl ⟨⟨(Nat.le_of_ble_eq_true rfl), (Nat.le_of_ble_eq_true rfl)⟩, hce, hsl⟩ rfl (Nat.le_of_ble_eq_true rfl) dL_law_977 (fun _ _ _ _ _ hp _ _ _ _ _ _ => False.elim hp) (fun v9 H1 locs1 hp hS hz1 hk1 => ?_)
  obtain ⟨hz, G1, R1, f1, hW1, hL1, hf1⟩ := hp
  subst hz
  have hM1 := MW.kept hM (fun q hq => hk1 q (Nat.lt_of_lt_of_le (hZm q hq).1 hb4) (fun g => g.elim (hZm q hq).2.1 (hZm q hq).2.2.1))
  refine lv_topi (fun k ek => ?_)
  refine lv_istore (lv' := [(5, .int k), (4, .int (nI i)), (3, .ref o9), (2, .ref mo), (1, .ref ho), (0, .ref b)]) hx hb dL_law_980 hl (by decide) rfl (fun ls hl => ?_)
  rw [← ek] at hW1 hf1
  have hcT : cd_merge (xs (i + 1)) (xs (i + 2)) (cn1, sc1, μ1) = k := (cd_merge_agr hag).symm.trans ek.symm
  obtain ⟨w, ew⟩ : ∃ w : Int32, w = an_merge (xs (i + 1)) (xs (i + 2)) (cn, sc, μ) := ⟨_, rfl⟩
  rw [← ew] at hf1
  have haT : an_merge (xs (i + 1)) (xs (i + 2)) (cn1, sc1, μ1) = w := (an_merge_agr hag).symm.trans ew.symm
  refine lv_aload_n hx hb dL_law_982 rfl (lv_at hl 3 rfl) ?_
  refine lv_aload_n hx hb dL_law_983 rfl (lv_at hl 5 rfl) ?_
  refine lv_iload hx hb dL_law_984 (lv_at hl 1 rfl) ?_
  refine lv_iconst (v := 1) hx hb dL_law_986 (by decide) ?_
  refine lv_iadd hx hb dL_law_987 ?_
  refine lv_topi (fun z_3 ez_3 => ?_)
  have ez_3 : z_3 = nI (i + 1) := ez_3.trans (nI_add i 1)
  subst ez_3
  refine va_sld hx hb hXs hbl hbA hS (vp_in_nI (show i + 1 < L by omega) (by omega)) dL_law_988 ?_
  rw [show xs (nI (i + 1)).toNatClampNeg = xs (i + 1) from congrArg xs (nI_clamp (by omega))]
  refine lv_aload_n hx hb dL_law_989 rfl (lv_at hl 5 rfl) ?_
  refine lv_iload hx hb dL_law_990 (lv_at hl 1 rfl) ?_
  refine lv_iconst (v := 2) hx hb dL_law_992 (by decide) ?_
  refine lv_iadd hx hb dL_law_993 ?_
  refine lv_topi (fun z_4 ez_4 => ?_)
  have ez_4 : z_4 = nI (i + 2) := ez_4.trans (nI_add i 2)
  subst ez_4
  refine va_sld hx hb hXs hbl hbA hS (vp_in_nI (show i + 2 < L by omega) (by omega)) dL_law_994 ?_
  rw [show xs (nI (i + 2)).toNatClampNeg = xs (i + 2) from congrArg xs (nI_clamp (by omega))]
  refine hk_callV 2 (As := [.int (xs (i + 1)), .int (xs (i + 2))]) (rest := []) X K hAE hS hl.1 hM1.1 rfl (c_X11_merge E l H1 hM1 hmA hJ.1.1 (p0 := xs (i + 1)) (p1 := xs (i + 2))) hmA gL_law_X11_merge rfl ⟨rfl, hd_X11_merge⟩ rfl ⟨⟨(Nat.le_of_ble_eq_true rfl), (Nat.le_of_ble_eq_true rfl)⟩, (by show cells + 12 + 0 ≤ 601024; omega), (by show slots + 700 + 0 ≤ 7293034; omega)⟩ rfl (Nat.le_of_ble_eq_true rfl) dL_law_995 (fun v9 H2 locs2 hp hS hz2 hk2 => ?_)
  obtain ⟨cn2, sc2, μ2, hM2, h33, hz, ha⟩ := hp
  subst hz
  rw [hcT] at h33 ha
  have hW2 := HW.kept hW1 (fun q h1 h2 => hk2 q h1 (fun g => h2.elim (hZm q g).2.1 (fun h => h (hZm q g).2.2.2)))
  have hL2 : hk_L E o9 1 f1 H2 := (hk2 _ (ar_lt hL1) (fun g => (hZm _ g).2.2.1 rfl)).trans hL1
  have hb9 : b4 ≤ H2.size := Nat.le_trans (Nat.le_trans hb4 hz1) hz2
  rw [hcT, haT]
  refine lv_topi (fun v ev => ?_)
  refine lv_istore (lv' := [(6, .int v), (5, .int k), (4, .int (nI i)), (3, .ref o9), (2, .ref mo), (1, .ref ho), (0, .ref b)]) hx hb dL_law_998 hl (by decide) rfl (fun ls hl => ?_)
  refine lv_aload_n hx hb dL_law_1000 rfl (lv_at hl 4 rfl) ?_
  refine hk_callV 0 (As := []) (rest := []) X K hAE hS hl.1 hM2.1 rfl (c_X11_thrown E l H2 hM2) (fun _ h => False.elim h) gL_law_X11_thrown rfl ⟨rfl, hd_X11_thrown⟩ rfl ⟨⟨(Nat.le_of_ble_eq_true rfl), (Nat.le_of_ble_eq_true rfl)⟩, (by show cells + 12 + 0 + 0 ≤ 601024; omega), (by show slots + 700 + 0 + 0 ≤ 7293034; omega)⟩ rfl (Nat.le_of_ble_eq_true rfl) dL_law_1001 (fun v9 H3 locs3 hp hS hz3 hk3 => ?_)
  obtain ⟨hz, hh⟩ := hp
  subst hz; subst hh
  refine lv_iload hx hb dL_law_1004 (lv_at hl 1 rfl) ?_
  refine lv_icmp_eq (tgt := 1011) hx hb dL_law_1006 (by decide) (fun c_1006 => ?_) (fun c_1006 => ?_)
  · refine lv_iload hx hb dL_law_1011 (lv_at hl 1 rfl) ?_
    refine lv_if_ne (tgt := 1028) hx hb dL_law_1013 (by decide) (fun c_1013 => ?_) (fun c_1013 => ?_)
    · rw [if_neg c_1013] at hW2 ha
      refine lv_goto (tgt := 2534) hx hb dL_law_1028 (by decide) ?_
      exact J2534 H2 _ ⟨G1, R1, _, (cn2, sc2, μ2), f1, hI, hW2, hM2, hag.trans ha, hL2, hS, hb9⟩ _ (lv_sub hl [2, 3, 4, 5, 6] rfl)
    · have ckz := c_1013
      refine lv_aload_n hx hb dL_law_1016 rfl (lv_at hl 3 rfl) ?_
      refine lv_iconst (v := 0) hx hb dL_law_1017 (by decide) ?_
      refine hk_lld X K hL2 (show vp_in (0 : Int32) 1 from vp_in_nI (n := 0) (by decide) (by decide)) dL_law_1018 ?_
      rw [show f1 (0 : Int32).toNatClampNeg = w.toInt64 from (congrArg f1 hk_c0).trans (hf1 c_1013)]
      have ev : v = w := ev.trans (if_pos c_1013)
      rw [if_pos c_1013] at hW2 ha
      refine lv_iload hx hb dL_law_1019 (lv_at hl 0 rfl) ?_
      refine lv_i2l hx hb dL_law_1021 rfl ?_
      refine lv_lcmp hx hb dL_law_1022 ?_
      rw [show lcv (w.toInt64) v.toInt64 = 0 from by rw [ev]; exact lcv_self]
      refine lv_if_eq (tgt := 1028) hx hb dL_law_1023 (by decide) (fun c_1023 => ?_) (fun c_1023 => ?_)
      · refine lv_goto (tgt := 2534) hx hb dL_law_1028 (by decide) ?_
        exact J2534 H2 _ ⟨G1, R1, _, (cn2, sc2, μ2), f1, invF_merge hI (ek.symm.trans ckz), hW2, hM2, (st_merge_agr hag).trans ha, hL2, hS, hb9⟩ _ (lv_sub hl [2, 3, 4, 5, 6] rfl)
      · exact absurd (by decide) c_1023
  · exact absurd c_1006 (fun h => h h33)
set_option maxHeartbeats 4000000 in
set_option maxRecDepth 100000 in
theorem k_split {p : Program} {l : Launch} {e : Env} {s : State} {m : MethodId} {below : List Frame} {meth : Method} {c : Code} {b L : Nat} {xs : Nat → Int32} {E : hk_E} {Zh Zm : Nat → Prop} {ho ts mo o9 b4 : Nat} {li am : Nat → Nat} {rr : Nat → Nat → Nat} (G0 : lw_G p l s m meth c b L xs E Zh Zm o9 b4) {H : Heap} {locs : List Loc} {cells slots : Nat} (hJ0 : lw_J E Zh Zm ho ts mo o9 b4 li am rr s H locs) {i : Nat} (hi : i + 8 ≤ L) (hce : cells + 12 ≤ 601024) (hsl : slots + 700 ≤ 7293034) {ls : Array Slot} (hl : lv_has ls 7 [(4, .int (nI i)), (3, .ref o9), (2, .ref mo), (1, .ref ho), (0, .ref b)])
  (J2534 : ∀ (H1 : Heap) (locs1 : List Loc), lw_J E Zh Zm ho ts mo o9 b4 li am rr s H1 locs1 → ∀ (ls : Array Slot), lv_has ls 7 [(4, .int (nI i)), (3, .ref o9), (2, .ref mo), (1, .ref ho), (0, .ref b)] → W p l e room_1 s m #[Value.ref b] below meth c H1 locs1 (cells + 12) (slots + 700) (lw_Z below #[Value.ref b] s) (F0 m 2534 ls [])) : W p l e room_1 s m #[Value.ref b] below meth c H locs cells slots (lw_Z below #[Value.ref b] s) (F0 m 1031 ls []) := by
  obtain ⟨hl9, hLL, C0, X, K, hE, hZn0, hoZ, hoA, hZm⟩ := G0
  obtain ⟨G, R, ⟨cn, sc, μ⟩, ⟨cn1, sc1, μ1⟩, f0, hI, hW, hM, hag, hL, hS, hb4⟩ := hJ0
  obtain ⟨hx, hb, hr, hml, hown, -, hXs, hbl, hlocks, -⟩ := id C0
  have hAE : ∀ q, hk_A E q → hk_A E q := fun _ h => h
  have hZA : ∀ q, Zh q → hk_A E q := hW.2.2.2.2.2.2.2.2.2.2.2.2
  have hAz : ∀ q, (Zh q ∨ q = o9) → hk_A E q := fun q h => h.elim (fun h => hZA q h) (fun h => by rw [h]; exact hoA)
  have hmA : ∀ q, Zm q → hk_A E q := fun q h => (hZm q h).2.2.2
  have hZn : ∀ q, H.size ≤ q → Zh q := fun q h => hZn0 q (Nat.le_trans hb4 h)
  have hbA : ¬ hk_A E b := fun g => absurd hbl (Nat.not_lt.mpr (by rw [← hE]; exact g))
  have hJ : Inv (cn1, sc1, μ1) := inv_agr hI.1 hag
  refine lv_aload_n hx hb dL_law_1031 rfl (lv_at hl 3 rfl) ?_
  refine lv_aload_n hx hb dL_law_1032 rfl (lv_at hl 4 rfl) ?_
  refine lv_iload hx hb dL_law_1033 (lv_at hl 0 rfl) ?_
  refine lv_iconst (v := 1) hx hb dL_law_1035 (by decide) ?_
  refine lv_iadd hx hb dL_law_1036 ?_
  refine lv_topi (fun z_1 ez_1 => ?_)
  have ez_1 : z_1 = nI (i + 1) := ez_1.trans (nI_add i 1)
  subst ez_1
  refine va_sld hx hb hXs hbl hbA hS (vp_in_nI (show i + 1 < L by omega) (by omega)) dL_law_1037 ?_
  rw [show xs (nI (i + 1)).toNatClampNeg = xs (i + 1) from congrArg xs (nI_clamp (by omega))]
  refine lv_aload_n hx hb dL_law_1038 rfl (lv_at hl 1 rfl) ?_
  refine hk_callSxW 3 (As := [.ref ho, .int (xs (i + 1)), .ref o9]) (rest := []) X K hAE hS hl.1 (c_L_split E l hl9 H hW hI hZn hL hoZ hoA (p0 := xs (i + 1))) hAz gL_law_L_split rfl hd_L_split rfl ⟨⟨(Nat.le_of_ble_eq_true rfl), (Nat.le_of_ble_eq_true rfl)⟩, hce, hsl⟩ rfl (Nat.le_of_ble_eq_true rfl) dL_law_1039 (fun _ _ _ _ _ hp _ _ _ _ _ _ => False.elim hp) (fun v9 H1 locs1 hp hS hz1 hk1 => ?_)
  obtain ⟨hz, G1, R1, f1, hW1, hL1, hf1⟩ := hp
  subst hz
  have hM1 := MW.kept hM (fun q hq => hk1 q (Nat.lt_of_lt_of_le (hZm q hq).1 hb4) (fun g => g.elim (hZm q hq).2.1 (hZm q hq).2.2.1))
  refine lv_topi (fun k ek => ?_)
  refine lv_istore (lv' := [(5, .int k), (4, .int (nI i)), (3, .ref o9), (2, .ref mo), (1, .ref ho), (0, .ref b)]) hx hb dL_law_1042 hl (by decide) rfl (fun ls hl => ?_)
  rw [← ek] at hW1 hf1
  have hcT : cd_split (xs (i + 1)) (cn1, sc1, μ1) = k := (cd_split_agr hag).symm.trans ek.symm
  obtain ⟨w, ew⟩ : ∃ w : Int32, w = an_split (xs (i + 1)) (cn, sc, μ) := ⟨_, rfl⟩
  rw [← ew] at hf1
  have haT : an_split (xs (i + 1)) (cn1, sc1, μ1) = w := (an_split_agr hag).symm.trans ew.symm
  refine lv_aload_n hx hb dL_law_1044 rfl (lv_at hl 3 rfl) ?_
  refine lv_aload_n hx hb dL_law_1045 rfl (lv_at hl 5 rfl) ?_
  refine lv_iload hx hb dL_law_1046 (lv_at hl 1 rfl) ?_
  refine lv_iconst (v := 1) hx hb dL_law_1048 (by decide) ?_
  refine lv_iadd hx hb dL_law_1049 ?_
  refine lv_topi (fun z_2 ez_2 => ?_)
  have ez_2 : z_2 = nI (i + 1) := ez_2.trans (nI_add i 1)
  subst ez_2
  refine va_sld hx hb hXs hbl hbA hS (vp_in_nI (show i + 1 < L by omega) (by omega)) dL_law_1050 ?_
  rw [show xs (nI (i + 1)).toNatClampNeg = xs (i + 1) from congrArg xs (nI_clamp (by omega))]
  refine hk_callV 1 (As := [.int (xs (i + 1))]) (rest := []) X K hAE hS hl.1 hM1.1 rfl (c_X11_split E l H1 hM1 hmA hJ.1.1 (p0 := xs (i + 1))) hmA gL_law_X11_split rfl ⟨rfl, hd_X11_split⟩ rfl ⟨⟨(Nat.le_of_ble_eq_true rfl), (Nat.le_of_ble_eq_true rfl)⟩, (by show cells + 12 + 0 ≤ 601024; omega), (by show slots + 700 + 0 ≤ 7293034; omega)⟩ rfl (Nat.le_of_ble_eq_true rfl) dL_law_1051 (fun v9 H2 locs2 hp hS hz2 hk2 => ?_)
  obtain ⟨cn2, sc2, μ2, hM2, h33, hz, ha⟩ := hp
  subst hz
  rw [hcT] at h33 ha
  have hW2 := HW.kept hW1 (fun q h1 h2 => hk2 q h1 (fun g => h2.elim (hZm q g).2.1 (fun h => h (hZm q g).2.2.2)))
  have hL2 : hk_L E o9 1 f1 H2 := (hk2 _ (ar_lt hL1) (fun g => (hZm _ g).2.2.1 rfl)).trans hL1
  have hb9 : b4 ≤ H2.size := Nat.le_trans (Nat.le_trans hb4 hz1) hz2
  rw [hcT, haT]
  refine lv_topi (fun v ev => ?_)
  refine lv_istore (lv' := [(6, .int v), (5, .int k), (4, .int (nI i)), (3, .ref o9), (2, .ref mo), (1, .ref ho), (0, .ref b)]) hx hb dL_law_1054 hl (by decide) rfl (fun ls hl => ?_)
  refine lv_aload_n hx hb dL_law_1056 rfl (lv_at hl 4 rfl) ?_
  refine hk_callV 0 (As := []) (rest := []) X K hAE hS hl.1 hM2.1 rfl (c_X11_thrown E l H2 hM2) (fun _ h => False.elim h) gL_law_X11_thrown rfl ⟨rfl, hd_X11_thrown⟩ rfl ⟨⟨(Nat.le_of_ble_eq_true rfl), (Nat.le_of_ble_eq_true rfl)⟩, (by show cells + 12 + 0 + 0 ≤ 601024; omega), (by show slots + 700 + 0 + 0 ≤ 7293034; omega)⟩ rfl (Nat.le_of_ble_eq_true rfl) dL_law_1057 (fun v9 H3 locs3 hp hS hz3 hk3 => ?_)
  obtain ⟨hz, hh⟩ := hp
  subst hz; subst hh
  refine lv_iload hx hb dL_law_1060 (lv_at hl 1 rfl) ?_
  refine lv_icmp_eq (tgt := 1067) hx hb dL_law_1062 (by decide) (fun c_1062 => ?_) (fun c_1062 => ?_)
  · refine lv_iload hx hb dL_law_1067 (lv_at hl 1 rfl) ?_
    refine lv_if_ne (tgt := 1084) hx hb dL_law_1069 (by decide) (fun c_1069 => ?_) (fun c_1069 => ?_)
    · rw [if_neg c_1069] at hW2 ha
      refine lv_goto (tgt := 2534) hx hb dL_law_1084 (by decide) ?_
      exact J2534 H2 _ ⟨G1, R1, _, (cn2, sc2, μ2), f1, hI, hW2, hM2, hag.trans ha, hL2, hS, hb9⟩ _ (lv_sub hl [2, 3, 4, 5, 6] rfl)
    · have ckz := c_1069
      refine lv_aload_n hx hb dL_law_1072 rfl (lv_at hl 3 rfl) ?_
      refine lv_iconst (v := 0) hx hb dL_law_1073 (by decide) ?_
      refine hk_lld X K hL2 (show vp_in (0 : Int32) 1 from vp_in_nI (n := 0) (by decide) (by decide)) dL_law_1074 ?_
      rw [show f1 (0 : Int32).toNatClampNeg = w.toInt64 from (congrArg f1 hk_c0).trans (hf1 c_1069)]
      have ev : v = w := ev.trans (if_pos c_1069)
      rw [if_pos c_1069] at hW2 ha
      refine lv_iload hx hb dL_law_1075 (lv_at hl 0 rfl) ?_
      refine lv_i2l hx hb dL_law_1077 rfl ?_
      refine lv_lcmp hx hb dL_law_1078 ?_
      rw [show lcv (w.toInt64) v.toInt64 = 0 from by rw [ev]; exact lcv_self]
      refine lv_if_eq (tgt := 1084) hx hb dL_law_1079 (by decide) (fun c_1079 => ?_) (fun c_1079 => ?_)
      · refine lv_goto (tgt := 2534) hx hb dL_law_1084 (by decide) ?_
        exact J2534 H2 _ ⟨G1, R1, _, (cn2, sc2, μ2), f1, invF_split hI (ek.symm.trans ckz), hW2, hM2, (st_split_agr hag).trans ha, hL2, hS, hb9⟩ _ (lv_sub hl [2, 3, 4, 5, 6] rfl)
      · exact absurd (by decide) c_1079
  · exact absurd c_1062 (fun h => h h33)
set_option maxHeartbeats 4000000 in
set_option maxRecDepth 100000 in
theorem k_entry {p : Program} {l : Launch} {e : Env} {s : State} {m : MethodId} {below : List Frame} {meth : Method} {c : Code} {b L : Nat} {xs : Nat → Int32} {E : hk_E} {Zh Zm : Nat → Prop} {ho ts mo o9 b4 : Nat} {li am : Nat → Nat} {rr : Nat → Nat → Nat} (G0 : lw_G p l s m meth c b L xs E Zh Zm o9 b4) {H : Heap} {locs : List Loc} {cells slots : Nat} (hJ0 : lw_J E Zh Zm ho ts mo o9 b4 li am rr s H locs) {i : Nat} (hi : i + 8 ≤ L) (hce : cells + 12 ≤ 601024) (hsl : slots + 700 ≤ 7293034) {ls : Array Slot} (hl : lv_has ls 7 [(4, .int (nI i)), (3, .ref o9), (2, .ref mo), (1, .ref ho), (0, .ref b)])
  (J2534 : ∀ (H1 : Heap) (locs1 : List Loc), lw_J E Zh Zm ho ts mo o9 b4 li am rr s H1 locs1 → ∀ (ls : Array Slot), lv_has ls 7 [(4, .int (nI i)), (3, .ref o9), (2, .ref mo), (1, .ref ho), (0, .ref b)] → W p l e room_1 s m #[Value.ref b] below meth c H1 locs1 (cells + 12) (slots + 700) (lw_Z below #[Value.ref b] s) (F0 m 2534 ls [])) : W p l e room_1 s m #[Value.ref b] below meth c H locs cells slots (lw_Z below #[Value.ref b] s) (F0 m 1087 ls []) := by
  obtain ⟨hl9, hLL, C0, X, K, hE, hZn0, hoZ, hoA, hZm⟩ := G0
  obtain ⟨G, R, ⟨cn, sc, μ⟩, ⟨cn1, sc1, μ1⟩, f0, hI, hW, hM, hag, hL, hS, hb4⟩ := hJ0
  obtain ⟨hx, hb, hr, hml, hown, -, hXs, hbl, hlocks, -⟩ := id C0
  have hAE : ∀ q, hk_A E q → hk_A E q := fun _ h => h
  have hZA : ∀ q, Zh q → hk_A E q := hW.2.2.2.2.2.2.2.2.2.2.2.2
  have hAz : ∀ q, (Zh q ∨ q = o9) → hk_A E q := fun q h => h.elim (fun h => hZA q h) (fun h => by rw [h]; exact hoA)
  have hmA : ∀ q, Zm q → hk_A E q := fun q h => (hZm q h).2.2.2
  have hZn : ∀ q, H.size ≤ q → Zh q := fun q h => hZn0 q (Nat.le_trans hb4 h)
  have hbA : ¬ hk_A E b := fun g => absurd hbl (Nat.not_lt.mpr (by rw [← hE]; exact g))
  have hJ : Inv (cn1, sc1, μ1) := inv_agr hI.1 hag
  refine lv_aload_n hx hb dL_law_1087 rfl (lv_at hl 3 rfl) ?_
  refine lv_aload_n hx hb dL_law_1088 rfl (lv_at hl 4 rfl) ?_
  refine lv_iload hx hb dL_law_1089 (lv_at hl 0 rfl) ?_
  refine lv_iconst (v := 1) hx hb dL_law_1091 (by decide) ?_
  refine lv_iadd hx hb dL_law_1092 ?_
  refine lv_topi (fun z_1 ez_1 => ?_)
  have ez_1 : z_1 = nI (i + 1) := ez_1.trans (nI_add i 1)
  subst ez_1
  refine va_sld hx hb hXs hbl hbA hS (vp_in_nI (show i + 1 < L by omega) (by omega)) dL_law_1093 ?_
  rw [show xs (nI (i + 1)).toNatClampNeg = xs (i + 1) from congrArg xs (nI_clamp (by omega))]
  refine lv_aload_n hx hb dL_law_1094 rfl (lv_at hl 1 rfl) ?_
  refine hk_callSxW 3 (As := [.ref ho, .int (xs (i + 1)), .ref o9]) (rest := []) X K hAE hS hl.1 (c_L_entry E l hl9 H hW hI hZn hL hoZ hoA (p0 := xs (i + 1))) hAz gL_law_L_entry rfl hd_L_entry rfl ⟨⟨(Nat.le_of_ble_eq_true rfl), (Nat.le_of_ble_eq_true rfl)⟩, hce, hsl⟩ rfl (Nat.le_of_ble_eq_true rfl) dL_law_1095 (fun _ _ _ _ _ hp _ _ _ _ _ _ => False.elim hp) (fun v9 H1 locs1 hp hS hz1 hk1 => ?_)
  obtain ⟨hz, G1, R1, f1, hW1, hL1, hf1⟩ := hp
  subst hz
  have hM1 := MW.kept hM (fun q hq => hk1 q (Nat.lt_of_lt_of_le (hZm q hq).1 hb4) (fun g => g.elim (hZm q hq).2.1 (hZm q hq).2.2.1))
  refine lv_topi (fun k ek => ?_)
  refine lv_istore (lv' := [(5, .int k), (4, .int (nI i)), (3, .ref o9), (2, .ref mo), (1, .ref ho), (0, .ref b)]) hx hb dL_law_1098 hl (by decide) rfl (fun ls hl => ?_)
  rw [← ek] at hW1 hf1
  have hcT : cd_entry (xs (i + 1)) (cn1, sc1, μ1) = k := (cd_entry_agr hag).symm.trans ek.symm
  obtain ⟨w, ew⟩ : ∃ w : Int32, w = an_entry (xs (i + 1)) (cn, sc, μ) := ⟨_, rfl⟩
  rw [← ew] at hf1
  have haT : an_entry (xs (i + 1)) (cn1, sc1, μ1) = w := (an_entry_agr hag).symm.trans ew.symm
  refine lv_aload_n hx hb dL_law_1100 rfl (lv_at hl 3 rfl) ?_
  refine lv_aload_n hx hb dL_law_1101 rfl (lv_at hl 5 rfl) ?_
  refine lv_iload hx hb dL_law_1102 (lv_at hl 1 rfl) ?_
  refine lv_iconst (v := 1) hx hb dL_law_1104 (by decide) ?_
  refine lv_iadd hx hb dL_law_1105 ?_
  refine lv_topi (fun z_2 ez_2 => ?_)
  have ez_2 : z_2 = nI (i + 1) := ez_2.trans (nI_add i 1)
  subst ez_2
  refine va_sld hx hb hXs hbl hbA hS (vp_in_nI (show i + 1 < L by omega) (by omega)) dL_law_1106 ?_
  rw [show xs (nI (i + 1)).toNatClampNeg = xs (i + 1) from congrArg xs (nI_clamp (by omega))]
  refine hk_callV 1 (As := [.int (xs (i + 1))]) (rest := []) X K hAE hS hl.1 hM1.1 rfl (c_X11_entry E l H1 hM1 hmA hJ.1.1 (p0 := xs (i + 1))) hmA gL_law_X11_entry rfl ⟨rfl, hd_X11_entry⟩ rfl ⟨⟨(Nat.le_of_ble_eq_true rfl), (Nat.le_of_ble_eq_true rfl)⟩, (by show cells + 12 + 0 ≤ 601024; omega), (by show slots + 700 + 0 ≤ 7293034; omega)⟩ rfl (Nat.le_of_ble_eq_true rfl) dL_law_1107 (fun v9 H2 locs2 hp hS hz2 hk2 => ?_)
  obtain ⟨cn2, sc2, μ2, hM2, h33, hz, ha⟩ := hp
  subst hz
  rw [hcT] at h33 ha
  have hW2 := HW.kept hW1 (fun q h1 h2 => hk2 q h1 (fun g => h2.elim (hZm q g).2.1 (fun h => h (hZm q g).2.2.2)))
  have hL2 : hk_L E o9 1 f1 H2 := (hk2 _ (ar_lt hL1) (fun g => (hZm _ g).2.2.1 rfl)).trans hL1
  have hb9 : b4 ≤ H2.size := Nat.le_trans (Nat.le_trans hb4 hz1) hz2
  rw [hcT, haT]
  refine lv_topi (fun v ev => ?_)
  refine lv_istore (lv' := [(6, .int v), (5, .int k), (4, .int (nI i)), (3, .ref o9), (2, .ref mo), (1, .ref ho), (0, .ref b)]) hx hb dL_law_1110 hl (by decide) rfl (fun ls hl => ?_)
  refine lv_aload_n hx hb dL_law_1112 rfl (lv_at hl 4 rfl) ?_
  refine hk_callV 0 (As := []) (rest := []) X K hAE hS hl.1 hM2.1 rfl (c_X11_thrown E l H2 hM2) (fun _ h => False.elim h) gL_law_X11_thrown rfl ⟨rfl, hd_X11_thrown⟩ rfl ⟨⟨(Nat.le_of_ble_eq_true rfl), (Nat.le_of_ble_eq_true rfl)⟩, (by show cells + 12 + 0 + 0 ≤ 601024; omega), (by show slots + 700 + 0 + 0 ≤ 7293034; omega)⟩ rfl (Nat.le_of_ble_eq_true rfl) dL_law_1113 (fun v9 H3 locs3 hp hS hz3 hk3 => ?_)
  obtain ⟨hz, hh⟩ := hp
  subst hz; subst hh
  refine lv_iload hx hb dL_law_1116 (lv_at hl 1 rfl) ?_
  refine lv_icmp_eq (tgt := 1123) hx hb dL_law_1118 (by decide) (fun c_1118 => ?_) (fun c_1118 => ?_)
  · refine lv_iload hx hb dL_law_1123 (lv_at hl 1 rfl) ?_
    refine lv_if_ne (tgt := 1140) hx hb dL_law_1125 (by decide) (fun c_1125 => ?_) (fun c_1125 => ?_)
    · rw [if_neg c_1125] at hW2 ha
      refine lv_goto (tgt := 2534) hx hb dL_law_1140 (by decide) ?_
      exact J2534 H2 _ ⟨G1, R1, _, (cn2, sc2, μ2), f1, hI, hW2, hM2, hag.trans ha, hL2, hS, hb9⟩ _ (lv_sub hl [2, 3, 4, 5, 6] rfl)
    · have ckz := c_1125
      refine lv_aload_n hx hb dL_law_1128 rfl (lv_at hl 3 rfl) ?_
      refine lv_iconst (v := 0) hx hb dL_law_1129 (by decide) ?_
      refine hk_lld X K hL2 (show vp_in (0 : Int32) 1 from vp_in_nI (n := 0) (by decide) (by decide)) dL_law_1130 ?_
      rw [show f1 (0 : Int32).toNatClampNeg = w.toInt64 from (congrArg f1 hk_c0).trans (hf1 c_1125)]
      have ev : v = w := ev.trans (if_pos c_1125)
      rw [if_pos c_1125] at hW2 ha
      refine lv_iload hx hb dL_law_1131 (lv_at hl 0 rfl) ?_
      refine lv_i2l hx hb dL_law_1133 rfl ?_
      refine lv_lcmp hx hb dL_law_1134 ?_
      rw [show lcv (w.toInt64) v.toInt64 = 0 from by rw [ev]; exact lcv_self]
      refine lv_if_eq (tgt := 1140) hx hb dL_law_1135 (by decide) (fun c_1135 => ?_) (fun c_1135 => ?_)
      · refine lv_goto (tgt := 2534) hx hb dL_law_1140 (by decide) ?_
        exact J2534 H2 _ ⟨G1, R1, _, (cn2, sc2, μ2), f1, hI, hW2, hM2, (st_entry_agr hag).trans ha, hL2, hS, hb9⟩ _ (lv_sub hl [2, 3, 4, 5, 6] rfl)
      · exact absurd (by decide) c_1135
  · exact absurd c_1118 (fun h => h h33)
set_option maxHeartbeats 4000000 in
set_option maxRecDepth 100000 in
theorem k_entries {p : Program} {l : Launch} {e : Env} {s : State} {m : MethodId} {below : List Frame} {meth : Method} {c : Code} {b L : Nat} {xs : Nat → Int32} {E : hk_E} {Zh Zm : Nat → Prop} {ho ts mo o9 b4 : Nat} {li am : Nat → Nat} {rr : Nat → Nat → Nat} (G0 : lw_G p l s m meth c b L xs E Zh Zm o9 b4) {H : Heap} {locs : List Loc} {cells slots : Nat} (hJ0 : lw_J E Zh Zm ho ts mo o9 b4 li am rr s H locs) {i : Nat} (hi : i + 8 ≤ L) (hce : cells + 12 ≤ 601024) (hsl : slots + 700 ≤ 7293034) {ls : Array Slot} (hl : lv_has ls 7 [(4, .int (nI i)), (3, .ref o9), (2, .ref mo), (1, .ref ho), (0, .ref b)])
  (J2534 : ∀ (H1 : Heap) (locs1 : List Loc), lw_J E Zh Zm ho ts mo o9 b4 li am rr s H1 locs1 → ∀ (ls : Array Slot), lv_has ls 7 [(4, .int (nI i)), (3, .ref o9), (2, .ref mo), (1, .ref ho), (0, .ref b)] → W p l e room_1 s m #[Value.ref b] below meth c H1 locs1 (cells + 12) (slots + 700) (lw_Z below #[Value.ref b] s) (F0 m 2534 ls [])) : W p l e room_1 s m #[Value.ref b] below meth c H locs cells slots (lw_Z below #[Value.ref b] s) (F0 m 1143 ls []) := by
  obtain ⟨hl9, hLL, C0, X, K, hE, hZn0, hoZ, hoA, hZm⟩ := G0
  obtain ⟨G, R, ⟨cn, sc, μ⟩, ⟨cn1, sc1, μ1⟩, f0, hI, hW, hM, hag, hL, hS, hb4⟩ := hJ0
  obtain ⟨hx, hb, hr, hml, hown, -, hXs, hbl, hlocks, -⟩ := id C0
  have hAE : ∀ q, hk_A E q → hk_A E q := fun _ h => h
  have hZA : ∀ q, Zh q → hk_A E q := hW.2.2.2.2.2.2.2.2.2.2.2.2
  have hAz : ∀ q, (Zh q ∨ q = o9) → hk_A E q := fun q h => h.elim (fun h => hZA q h) (fun h => by rw [h]; exact hoA)
  have hmA : ∀ q, Zm q → hk_A E q := fun q h => (hZm q h).2.2.2
  have hZn : ∀ q, H.size ≤ q → Zh q := fun q h => hZn0 q (Nat.le_trans hb4 h)
  have hbA : ¬ hk_A E b := fun g => absurd hbl (Nat.not_lt.mpr (by rw [← hE]; exact g))
  have hJ : Inv (cn1, sc1, μ1) := inv_agr hI.1 hag
  refine lv_aload_n hx hb dL_law_1143 rfl (lv_at hl 3 rfl) ?_
  refine lv_aload_n hx hb dL_law_1144 rfl (lv_at hl 4 rfl) ?_
  refine lv_iload hx hb dL_law_1145 (lv_at hl 0 rfl) ?_
  refine lv_iconst (v := 1) hx hb dL_law_1147 (by decide) ?_
  refine lv_iadd hx hb dL_law_1148 ?_
  refine lv_topi (fun z_1 ez_1 => ?_)
  have ez_1 : z_1 = nI (i + 1) := ez_1.trans (nI_add i 1)
  subst ez_1
  refine va_sld hx hb hXs hbl hbA hS (vp_in_nI (show i + 1 < L by omega) (by omega)) dL_law_1149 ?_
  rw [show xs (nI (i + 1)).toNatClampNeg = xs (i + 1) from congrArg xs (nI_clamp (by omega))]
  refine lv_aload_n hx hb dL_law_1150 rfl (lv_at hl 1 rfl) ?_
  refine hk_callSxW 3 (As := [.ref ho, .int (xs (i + 1)), .ref o9]) (rest := []) X K hAE hS hl.1 (c_L_entries E l hl9 H hW hI hZn hL hoZ hoA (p0 := xs (i + 1))) hAz gL_law_L_entries rfl hd_L_entries rfl ⟨⟨(Nat.le_of_ble_eq_true rfl), (Nat.le_of_ble_eq_true rfl)⟩, hce, hsl⟩ rfl (Nat.le_of_ble_eq_true rfl) dL_law_1151 (fun _ _ _ _ _ hp _ _ _ _ _ _ => False.elim hp) (fun v9 H1 locs1 hp hS hz1 hk1 => ?_)
  obtain ⟨hz, G1, R1, f1, hW1, hL1, hf1⟩ := hp
  subst hz
  have hM1 := MW.kept hM (fun q hq => hk1 q (Nat.lt_of_lt_of_le (hZm q hq).1 hb4) (fun g => g.elim (hZm q hq).2.1 (hZm q hq).2.2.1))
  refine lv_topi (fun k ek => ?_)
  refine lv_istore (lv' := [(5, .int k), (4, .int (nI i)), (3, .ref o9), (2, .ref mo), (1, .ref ho), (0, .ref b)]) hx hb dL_law_1154 hl (by decide) rfl (fun ls hl => ?_)
  rw [← ek] at hW1 hf1
  have hcT : cd_entries (xs (i + 1)) (cn1, sc1, μ1) = k := (cd_entries_agr hag).symm.trans ek.symm
  obtain ⟨w, ew⟩ : ∃ w : Int32, w = an_entries (xs (i + 1)) (cn, sc, μ) := ⟨_, rfl⟩
  rw [← ew] at hf1
  have haT : an_entries (xs (i + 1)) (cn1, sc1, μ1) = w := (an_entries_agr hag).symm.trans ew.symm
  refine lv_aload_n hx hb dL_law_1156 rfl (lv_at hl 3 rfl) ?_
  refine lv_aload_n hx hb dL_law_1157 rfl (lv_at hl 5 rfl) ?_
  refine lv_iload hx hb dL_law_1158 (lv_at hl 1 rfl) ?_
  refine lv_iconst (v := 1) hx hb dL_law_1160 (by decide) ?_
  refine lv_iadd hx hb dL_law_1161 ?_
  refine lv_topi (fun z_2 ez_2 => ?_)
  have ez_2 : z_2 = nI (i + 1) := ez_2.trans (nI_add i 1)
  subst ez_2
  refine va_sld hx hb hXs hbl hbA hS (vp_in_nI (show i + 1 < L by omega) (by omega)) dL_law_1162 ?_
  rw [show xs (nI (i + 1)).toNatClampNeg = xs (i + 1) from congrArg xs (nI_clamp (by omega))]
  refine hk_callV 1 (As := [.int (xs (i + 1))]) (rest := []) X K hAE hS hl.1 hM1.1 rfl (c_X11_entries E l H1 hM1 hmA hJ.1.1 (p0 := xs (i + 1))) hmA gL_law_X11_entries rfl ⟨rfl, hd_X11_entries⟩ rfl ⟨⟨(Nat.le_of_ble_eq_true rfl), (Nat.le_of_ble_eq_true rfl)⟩, (by show cells + 12 + 0 ≤ 601024; omega), (by show slots + 700 + 0 ≤ 7293034; omega)⟩ rfl (Nat.le_of_ble_eq_true rfl) dL_law_1163 (fun v9 H2 locs2 hp hS hz2 hk2 => ?_)
  obtain ⟨cn2, sc2, μ2, hM2, h33, hz, ha⟩ := hp
  subst hz
  rw [hcT] at h33 ha
  have hW2 := HW.kept hW1 (fun q h1 h2 => hk2 q h1 (fun g => h2.elim (hZm q g).2.1 (fun h => h (hZm q g).2.2.2)))
  have hL2 : hk_L E o9 1 f1 H2 := (hk2 _ (ar_lt hL1) (fun g => (hZm _ g).2.2.1 rfl)).trans hL1
  have hb9 : b4 ≤ H2.size := Nat.le_trans (Nat.le_trans hb4 hz1) hz2
  rw [hcT, haT]
  refine lv_topi (fun v ev => ?_)
  refine lv_istore (lv' := [(6, .int v), (5, .int k), (4, .int (nI i)), (3, .ref o9), (2, .ref mo), (1, .ref ho), (0, .ref b)]) hx hb dL_law_1166 hl (by decide) rfl (fun ls hl => ?_)
  refine lv_aload_n hx hb dL_law_1168 rfl (lv_at hl 4 rfl) ?_
  refine hk_callV 0 (As := []) (rest := []) X K hAE hS hl.1 hM2.1 rfl (c_X11_thrown E l H2 hM2) (fun _ h => False.elim h) gL_law_X11_thrown rfl ⟨rfl, hd_X11_thrown⟩ rfl ⟨⟨(Nat.le_of_ble_eq_true rfl), (Nat.le_of_ble_eq_true rfl)⟩, (by show cells + 12 + 0 + 0 ≤ 601024; omega), (by show slots + 700 + 0 + 0 ≤ 7293034; omega)⟩ rfl (Nat.le_of_ble_eq_true rfl) dL_law_1169 (fun v9 H3 locs3 hp hS hz3 hk3 => ?_)
  obtain ⟨hz, hh⟩ := hp
  subst hz; subst hh
  refine lv_iload hx hb dL_law_1172 (lv_at hl 1 rfl) ?_
  refine lv_icmp_eq (tgt := 1179) hx hb dL_law_1174 (by decide) (fun c_1174 => ?_) (fun c_1174 => ?_)
  · refine lv_iload hx hb dL_law_1179 (lv_at hl 1 rfl) ?_
    refine lv_if_ne (tgt := 1196) hx hb dL_law_1181 (by decide) (fun c_1181 => ?_) (fun c_1181 => ?_)
    · rw [if_neg c_1181] at hW2 ha
      refine lv_goto (tgt := 2534) hx hb dL_law_1196 (by decide) ?_
      exact J2534 H2 _ ⟨G1, R1, _, (cn2, sc2, μ2), f1, hI, hW2, hM2, hag.trans ha, hL2, hS, hb9⟩ _ (lv_sub hl [2, 3, 4, 5, 6] rfl)
    · have ckz := c_1181
      refine lv_aload_n hx hb dL_law_1184 rfl (lv_at hl 3 rfl) ?_
      refine lv_iconst (v := 0) hx hb dL_law_1185 (by decide) ?_
      refine hk_lld X K hL2 (show vp_in (0 : Int32) 1 from vp_in_nI (n := 0) (by decide) (by decide)) dL_law_1186 ?_
      rw [show f1 (0 : Int32).toNatClampNeg = w.toInt64 from (congrArg f1 hk_c0).trans (hf1 c_1181)]
      have ev : v = w := ev.trans (if_pos c_1181)
      rw [if_pos c_1181] at hW2 ha
      refine lv_iload hx hb dL_law_1187 (lv_at hl 0 rfl) ?_
      refine lv_i2l hx hb dL_law_1189 rfl ?_
      refine lv_lcmp hx hb dL_law_1190 ?_
      rw [show lcv (w.toInt64) v.toInt64 = 0 from by rw [ev]; exact lcv_self]
      refine lv_if_eq (tgt := 1196) hx hb dL_law_1191 (by decide) (fun c_1191 => ?_) (fun c_1191 => ?_)
      · refine lv_goto (tgt := 2534) hx hb dL_law_1196 (by decide) ?_
        exact J2534 H2 _ ⟨G1, R1, _, (cn2, sc2, μ2), f1, hI, hW2, hM2, (st_entries_agr hag).trans ha, hL2, hS, hb9⟩ _ (lv_sub hl [2, 3, 4, 5, 6] rfl)
      · exact absurd (by decide) c_1191
  · exact absurd c_1174 (fun h => h h33)
set_option maxHeartbeats 4000000 in
set_option maxRecDepth 100000 in
theorem k_look {p : Program} {l : Launch} {e : Env} {s : State} {m : MethodId} {below : List Frame} {meth : Method} {c : Code} {b L : Nat} {xs : Nat → Int32} {E : hk_E} {Zh Zm : Nat → Prop} {ho ts mo o9 b4 : Nat} {li am : Nat → Nat} {rr : Nat → Nat → Nat} (G0 : lw_G p l s m meth c b L xs E Zh Zm o9 b4) {H : Heap} {locs : List Loc} {cells slots : Nat} (hJ0 : lw_J E Zh Zm ho ts mo o9 b4 li am rr s H locs) {i : Nat} (hi : i + 8 ≤ L) (hce : cells + 12 ≤ 601024) (hsl : slots + 700 ≤ 7293034) {ls : Array Slot} (hl : lv_has ls 7 [(4, .int (nI i)), (3, .ref o9), (2, .ref mo), (1, .ref ho), (0, .ref b)])
  (J2534 : ∀ (H1 : Heap) (locs1 : List Loc), lw_J E Zh Zm ho ts mo o9 b4 li am rr s H1 locs1 → ∀ (ls : Array Slot), lv_has ls 7 [(4, .int (nI i)), (3, .ref o9), (2, .ref mo), (1, .ref ho), (0, .ref b)] → W p l e room_1 s m #[Value.ref b] below meth c H1 locs1 (cells + 12) (slots + 700) (lw_Z below #[Value.ref b] s) (F0 m 2534 ls [])) : W p l e room_1 s m #[Value.ref b] below meth c H locs cells slots (lw_Z below #[Value.ref b] s) (F0 m 1199 ls []) := by
  obtain ⟨hl9, hLL, C0, X, K, hE, hZn0, hoZ, hoA, hZm⟩ := G0
  obtain ⟨G, R, ⟨cn, sc, μ⟩, ⟨cn1, sc1, μ1⟩, f0, hI, hW, hM, hag, hL, hS, hb4⟩ := hJ0
  obtain ⟨hx, hb, hr, hml, hown, -, hXs, hbl, hlocks, -⟩ := id C0
  have hAE : ∀ q, hk_A E q → hk_A E q := fun _ h => h
  have hZA : ∀ q, Zh q → hk_A E q := hW.2.2.2.2.2.2.2.2.2.2.2.2
  have hAz : ∀ q, (Zh q ∨ q = o9) → hk_A E q := fun q h => h.elim (fun h => hZA q h) (fun h => by rw [h]; exact hoA)
  have hmA : ∀ q, Zm q → hk_A E q := fun q h => (hZm q h).2.2.2
  have hZn : ∀ q, H.size ≤ q → Zh q := fun q h => hZn0 q (Nat.le_trans hb4 h)
  have hbA : ¬ hk_A E b := fun g => absurd hbl (Nat.not_lt.mpr (by rw [← hE]; exact g))
  have hJ : Inv (cn1, sc1, μ1) := inv_agr hI.1 hag
  refine lv_aload_n hx hb dL_law_1199 rfl (lv_at hl 3 rfl) ?_
  refine lv_aload_n hx hb dL_law_1200 rfl (lv_at hl 4 rfl) ?_
  refine lv_iload hx hb dL_law_1201 (lv_at hl 0 rfl) ?_
  refine lv_iconst (v := 1) hx hb dL_law_1203 (by decide) ?_
  refine lv_iadd hx hb dL_law_1204 ?_
  refine lv_topi (fun z_1 ez_1 => ?_)
  have ez_1 : z_1 = nI (i + 1) := ez_1.trans (nI_add i 1)
  subst ez_1
  refine va_sld hx hb hXs hbl hbA hS (vp_in_nI (show i + 1 < L by omega) (by omega)) dL_law_1205 ?_
  rw [show xs (nI (i + 1)).toNatClampNeg = xs (i + 1) from congrArg xs (nI_clamp (by omega))]
  refine lv_aload_n hx hb dL_law_1206 rfl (lv_at hl 4 rfl) ?_
  refine lv_iload hx hb dL_law_1207 (lv_at hl 0 rfl) ?_
  refine lv_iconst (v := 2) hx hb dL_law_1209 (by decide) ?_
  refine lv_iadd hx hb dL_law_1210 ?_
  refine lv_topi (fun z_2 ez_2 => ?_)
  have ez_2 : z_2 = nI (i + 2) := ez_2.trans (nI_add i 2)
  subst ez_2
  refine va_sld hx hb hXs hbl hbA hS (vp_in_nI (show i + 2 < L by omega) (by omega)) dL_law_1211 ?_
  rw [show xs (nI (i + 2)).toNatClampNeg = xs (i + 2) from congrArg xs (nI_clamp (by omega))]
  refine lv_aload_n hx hb dL_law_1212 rfl (lv_at hl 1 rfl) ?_
  refine hk_callSxW 4 (As := [.ref ho, .int (xs (i + 1)), .int (xs (i + 2)), .ref o9]) (rest := []) X K hAE hS hl.1 (c_L_look E l hl9 H hW hI hZn hL hoZ hoA (p0 := xs (i + 1)) (p1 := xs (i + 2))) hAz gL_law_L_look rfl hd_L_look rfl ⟨⟨(Nat.le_of_ble_eq_true rfl), (Nat.le_of_ble_eq_true rfl)⟩, hce, hsl⟩ rfl (Nat.le_of_ble_eq_true rfl) dL_law_1213 (fun _ _ _ _ _ hp _ _ _ _ _ _ => False.elim hp) (fun v9 H1 locs1 hp hS hz1 hk1 => ?_)
  obtain ⟨hz, G1, R1, f1, hW1, hL1, hf1⟩ := hp
  subst hz
  have hM1 := MW.kept hM (fun q hq => hk1 q (Nat.lt_of_lt_of_le (hZm q hq).1 hb4) (fun g => g.elim (hZm q hq).2.1 (hZm q hq).2.2.1))
  refine lv_topi (fun k ek => ?_)
  refine lv_istore (lv' := [(5, .int k), (4, .int (nI i)), (3, .ref o9), (2, .ref mo), (1, .ref ho), (0, .ref b)]) hx hb dL_law_1216 hl (by decide) rfl (fun ls hl => ?_)
  rw [← ek] at hW1 hf1
  have hcT : cd_look (xs (i + 1)) (xs (i + 2)) (cn1, sc1, μ1) = k := (cd_look_agr hag).symm.trans ek.symm
  obtain ⟨w, ew⟩ : ∃ w : Int32, w = an_look (xs (i + 1)) (xs (i + 2)) (cn, sc, μ) := ⟨_, rfl⟩
  rw [← ew] at hf1
  have haT : an_look (xs (i + 1)) (xs (i + 2)) (cn1, sc1, μ1) = w := (an_look_agr hag).symm.trans ew.symm
  refine lv_aload_n hx hb dL_law_1218 rfl (lv_at hl 3 rfl) ?_
  refine lv_aload_n hx hb dL_law_1219 rfl (lv_at hl 5 rfl) ?_
  refine lv_iload hx hb dL_law_1220 (lv_at hl 1 rfl) ?_
  refine lv_iconst (v := 1) hx hb dL_law_1222 (by decide) ?_
  refine lv_iadd hx hb dL_law_1223 ?_
  refine lv_topi (fun z_3 ez_3 => ?_)
  have ez_3 : z_3 = nI (i + 1) := ez_3.trans (nI_add i 1)
  subst ez_3
  refine va_sld hx hb hXs hbl hbA hS (vp_in_nI (show i + 1 < L by omega) (by omega)) dL_law_1224 ?_
  rw [show xs (nI (i + 1)).toNatClampNeg = xs (i + 1) from congrArg xs (nI_clamp (by omega))]
  refine lv_aload_n hx hb dL_law_1225 rfl (lv_at hl 5 rfl) ?_
  refine lv_iload hx hb dL_law_1226 (lv_at hl 1 rfl) ?_
  refine lv_iconst (v := 2) hx hb dL_law_1228 (by decide) ?_
  refine lv_iadd hx hb dL_law_1229 ?_
  refine lv_topi (fun z_4 ez_4 => ?_)
  have ez_4 : z_4 = nI (i + 2) := ez_4.trans (nI_add i 2)
  subst ez_4
  refine va_sld hx hb hXs hbl hbA hS (vp_in_nI (show i + 2 < L by omega) (by omega)) dL_law_1230 ?_
  rw [show xs (nI (i + 2)).toNatClampNeg = xs (i + 2) from congrArg xs (nI_clamp (by omega))]
  refine hk_callV 2 (As := [.int (xs (i + 1)), .int (xs (i + 2))]) (rest := []) X K hAE hS hl.1 hM1.1 rfl (c_X11_look E l H1 hM1 hmA hJ (p0 := xs (i + 1)) (p1 := xs (i + 2))) hmA gL_law_X11_look rfl ⟨rfl, hd_X11_look⟩ rfl ⟨⟨(Nat.le_of_ble_eq_true rfl), (Nat.le_of_ble_eq_true rfl)⟩, (by show cells + 12 + 0 ≤ 601024; omega), (by show slots + 700 + 0 ≤ 7293034; omega)⟩ rfl (Nat.le_of_ble_eq_true rfl) dL_law_1231 (fun v9 H2 locs2 hp hS hz2 hk2 => ?_)
  obtain ⟨cn2, sc2, μ2, hM2, h33, hz, ha⟩ := hp
  subst hz
  rw [hcT] at h33 ha
  have hW2 := HW.kept hW1 (fun q h1 h2 => hk2 q h1 (fun g => h2.elim (hZm q g).2.1 (fun h => h (hZm q g).2.2.2)))
  have hL2 : hk_L E o9 1 f1 H2 := (hk2 _ (ar_lt hL1) (fun g => (hZm _ g).2.2.1 rfl)).trans hL1
  have hb9 : b4 ≤ H2.size := Nat.le_trans (Nat.le_trans hb4 hz1) hz2
  rw [hcT, haT]
  refine lv_topi (fun v ev => ?_)
  refine lv_istore (lv' := [(6, .int v), (5, .int k), (4, .int (nI i)), (3, .ref o9), (2, .ref mo), (1, .ref ho), (0, .ref b)]) hx hb dL_law_1234 hl (by decide) rfl (fun ls hl => ?_)
  refine lv_aload_n hx hb dL_law_1236 rfl (lv_at hl 4 rfl) ?_
  refine hk_callV 0 (As := []) (rest := []) X K hAE hS hl.1 hM2.1 rfl (c_X11_thrown E l H2 hM2) (fun _ h => False.elim h) gL_law_X11_thrown rfl ⟨rfl, hd_X11_thrown⟩ rfl ⟨⟨(Nat.le_of_ble_eq_true rfl), (Nat.le_of_ble_eq_true rfl)⟩, (by show cells + 12 + 0 + 0 ≤ 601024; omega), (by show slots + 700 + 0 + 0 ≤ 7293034; omega)⟩ rfl (Nat.le_of_ble_eq_true rfl) dL_law_1237 (fun v9 H3 locs3 hp hS hz3 hk3 => ?_)
  obtain ⟨hz, hh⟩ := hp
  subst hz; subst hh
  refine lv_iload hx hb dL_law_1240 (lv_at hl 1 rfl) ?_
  refine lv_icmp_eq (tgt := 1247) hx hb dL_law_1242 (by decide) (fun c_1242 => ?_) (fun c_1242 => ?_)
  · refine lv_iload hx hb dL_law_1247 (lv_at hl 1 rfl) ?_
    refine lv_if_ne (tgt := 1264) hx hb dL_law_1249 (by decide) (fun c_1249 => ?_) (fun c_1249 => ?_)
    · rw [if_neg c_1249] at hW2 ha
      refine lv_goto (tgt := 2534) hx hb dL_law_1264 (by decide) ?_
      exact J2534 H2 _ ⟨G1, R1, _, (cn2, sc2, μ2), f1, hI, hW2, hM2, hag.trans ha, hL2, hS, hb9⟩ _ (lv_sub hl [2, 3, 4, 5, 6] rfl)
    · have ckz := c_1249
      refine lv_aload_n hx hb dL_law_1252 rfl (lv_at hl 3 rfl) ?_
      refine lv_iconst (v := 0) hx hb dL_law_1253 (by decide) ?_
      refine hk_lld X K hL2 (show vp_in (0 : Int32) 1 from vp_in_nI (n := 0) (by decide) (by decide)) dL_law_1254 ?_
      rw [show f1 (0 : Int32).toNatClampNeg = w.toInt64 from (congrArg f1 hk_c0).trans (hf1 c_1249)]
      have ev : v = w := ev.trans (if_pos c_1249)
      rw [if_pos c_1249] at hW2 ha
      refine lv_iload hx hb dL_law_1255 (lv_at hl 0 rfl) ?_
      refine lv_i2l hx hb dL_law_1257 rfl ?_
      refine lv_lcmp hx hb dL_law_1258 ?_
      rw [show lcv (w.toInt64) v.toInt64 = 0 from by rw [ev]; exact lcv_self]
      refine lv_if_eq (tgt := 1264) hx hb dL_law_1259 (by decide) (fun c_1259 => ?_) (fun c_1259 => ?_)
      · refine lv_goto (tgt := 2534) hx hb dL_law_1264 (by decide) ?_
        exact J2534 H2 _ ⟨G1, R1, _, (cn2, sc2, μ2), f1, hI, hW2, hM2, (st_look_agr hag).trans ha, hL2, hS, hb9⟩ _ (lv_sub hl [2, 3, 4, 5, 6] rfl)
      · exact absurd (by decide) c_1259
  · exact absurd c_1242 (fun h => h h33)
set_option maxHeartbeats 4000000 in
set_option maxRecDepth 100000 in
theorem k_string {p : Program} {l : Launch} {e : Env} {s : State} {m : MethodId} {below : List Frame} {meth : Method} {c : Code} {b L : Nat} {xs : Nat → Int32} {E : hk_E} {Zh Zm : Nat → Prop} {ho ts mo o9 b4 : Nat} {li am : Nat → Nat} {rr : Nat → Nat → Nat} (G0 : lw_G p l s m meth c b L xs E Zh Zm o9 b4) {H : Heap} {locs : List Loc} {cells slots : Nat} (hJ0 : lw_J E Zh Zm ho ts mo o9 b4 li am rr s H locs) {i : Nat} (hi : i + 8 ≤ L) (hce : cells + 12 ≤ 601024) (hsl : slots + 700 ≤ 7293034) {ls : Array Slot} (hl : lv_has ls 7 [(4, .int (nI i)), (3, .ref o9), (2, .ref mo), (1, .ref ho), (0, .ref b)])
  (J2534 : ∀ (H1 : Heap) (locs1 : List Loc), lw_J E Zh Zm ho ts mo o9 b4 li am rr s H1 locs1 → ∀ (ls : Array Slot), lv_has ls 7 [(4, .int (nI i)), (3, .ref o9), (2, .ref mo), (1, .ref ho), (0, .ref b)] → W p l e room_1 s m #[Value.ref b] below meth c H1 locs1 (cells + 12) (slots + 700) (lw_Z below #[Value.ref b] s) (F0 m 2534 ls [])) : W p l e room_1 s m #[Value.ref b] below meth c H locs cells slots (lw_Z below #[Value.ref b] s) (F0 m 1267 ls []) := by
  obtain ⟨hl9, hLL, C0, X, K, hE, hZn0, hoZ, hoA, hZm⟩ := G0
  obtain ⟨G, R, ⟨cn, sc, μ⟩, ⟨cn1, sc1, μ1⟩, f0, hI, hW, hM, hag, hL, hS, hb4⟩ := hJ0
  obtain ⟨hx, hb, hr, hml, hown, -, hXs, hbl, hlocks, -⟩ := id C0
  have hAE : ∀ q, hk_A E q → hk_A E q := fun _ h => h
  have hZA : ∀ q, Zh q → hk_A E q := hW.2.2.2.2.2.2.2.2.2.2.2.2
  have hAz : ∀ q, (Zh q ∨ q = o9) → hk_A E q := fun q h => h.elim (fun h => hZA q h) (fun h => by rw [h]; exact hoA)
  have hmA : ∀ q, Zm q → hk_A E q := fun q h => (hZm q h).2.2.2
  have hZn : ∀ q, H.size ≤ q → Zh q := fun q h => hZn0 q (Nat.le_trans hb4 h)
  have hbA : ¬ hk_A E b := fun g => absurd hbl (Nat.not_lt.mpr (by rw [← hE]; exact g))
  have hJ : Inv (cn1, sc1, μ1) := inv_agr hI.1 hag
  refine lv_aload_n hx hb dL_law_1267 rfl (lv_at hl 3 rfl) ?_
  refine lv_aload_n hx hb dL_law_1268 rfl (lv_at hl 4 rfl) ?_
  refine lv_iload hx hb dL_law_1269 (lv_at hl 0 rfl) ?_
  refine lv_iconst (v := 1) hx hb dL_law_1271 (by decide) ?_
  refine lv_iadd hx hb dL_law_1272 ?_
  refine lv_topi (fun z_1 ez_1 => ?_)
  have ez_1 : z_1 = nI (i + 1) := ez_1.trans (nI_add i 1)
  subst ez_1
  refine va_sld hx hb hXs hbl hbA hS (vp_in_nI (show i + 1 < L by omega) (by omega)) dL_law_1273 ?_
  rw [show xs (nI (i + 1)).toNatClampNeg = xs (i + 1) from congrArg xs (nI_clamp (by omega))]
  refine lv_aload_n hx hb dL_law_1274 rfl (lv_at hl 4 rfl) ?_
  refine lv_iload hx hb dL_law_1275 (lv_at hl 0 rfl) ?_
  refine lv_iconst (v := 2) hx hb dL_law_1277 (by decide) ?_
  refine lv_iadd hx hb dL_law_1278 ?_
  refine lv_topi (fun z_2 ez_2 => ?_)
  have ez_2 : z_2 = nI (i + 2) := ez_2.trans (nI_add i 2)
  subst ez_2
  refine va_sld hx hb hXs hbl hbA hS (vp_in_nI (show i + 2 < L by omega) (by omega)) dL_law_1279 ?_
  rw [show xs (nI (i + 2)).toNatClampNeg = xs (i + 2) from congrArg xs (nI_clamp (by omega))]
  refine lv_aload_n hx hb dL_law_1280 rfl (lv_at hl 1 rfl) ?_
  refine hk_callSxW 4 (As := [.ref ho, .int (xs (i + 1)), .int (xs (i + 2)), .ref o9]) (rest := []) X K hAE hS hl.1 (c_L_string E l hl9 H hW hI hZn hL hoZ hoA (p0 := xs (i + 1)) (p1 := xs (i + 2))) hAz gL_law_L_string rfl hd_L_string rfl ⟨⟨(Nat.le_of_ble_eq_true rfl), (Nat.le_of_ble_eq_true rfl)⟩, hce, hsl⟩ rfl (Nat.le_of_ble_eq_true rfl) dL_law_1281 (fun _ _ _ _ _ hp _ _ _ _ _ _ => False.elim hp) (fun v9 H1 locs1 hp hS hz1 hk1 => ?_)
  obtain ⟨hz, G1, R1, f1, hW1, hL1, hf1⟩ := hp
  subst hz
  have hM1 := MW.kept hM (fun q hq => hk1 q (Nat.lt_of_lt_of_le (hZm q hq).1 hb4) (fun g => g.elim (hZm q hq).2.1 (hZm q hq).2.2.1))
  refine lv_topi (fun k ek => ?_)
  refine lv_istore (lv' := [(5, .int k), (4, .int (nI i)), (3, .ref o9), (2, .ref mo), (1, .ref ho), (0, .ref b)]) hx hb dL_law_1284 hl (by decide) rfl (fun ls hl => ?_)
  rw [← ek] at hW1 hf1
  have hcT : cd_string (xs (i + 1)) (xs (i + 2)) (cn1, sc1, μ1) = k := (cd_string_agr hag).symm.trans ek.symm
  obtain ⟨w, ew⟩ : ∃ w : Int32, w = an_string (xs (i + 1)) (xs (i + 2)) (cn, sc, μ) := ⟨_, rfl⟩
  rw [← ew] at hf1
  have haT : an_string (xs (i + 1)) (xs (i + 2)) (cn1, sc1, μ1) = w := (an_string_agr hag).symm.trans ew.symm
  refine lv_aload_n hx hb dL_law_1286 rfl (lv_at hl 3 rfl) ?_
  refine lv_aload_n hx hb dL_law_1287 rfl (lv_at hl 5 rfl) ?_
  refine lv_iload hx hb dL_law_1288 (lv_at hl 1 rfl) ?_
  refine lv_iconst (v := 1) hx hb dL_law_1290 (by decide) ?_
  refine lv_iadd hx hb dL_law_1291 ?_
  refine lv_topi (fun z_3 ez_3 => ?_)
  have ez_3 : z_3 = nI (i + 1) := ez_3.trans (nI_add i 1)
  subst ez_3
  refine va_sld hx hb hXs hbl hbA hS (vp_in_nI (show i + 1 < L by omega) (by omega)) dL_law_1292 ?_
  rw [show xs (nI (i + 1)).toNatClampNeg = xs (i + 1) from congrArg xs (nI_clamp (by omega))]
  refine lv_aload_n hx hb dL_law_1293 rfl (lv_at hl 5 rfl) ?_
  refine lv_iload hx hb dL_law_1294 (lv_at hl 1 rfl) ?_
  refine lv_iconst (v := 2) hx hb dL_law_1296 (by decide) ?_
  refine lv_iadd hx hb dL_law_1297 ?_
  refine lv_topi (fun z_4 ez_4 => ?_)
  have ez_4 : z_4 = nI (i + 2) := ez_4.trans (nI_add i 2)
  subst ez_4
  refine va_sld hx hb hXs hbl hbA hS (vp_in_nI (show i + 2 < L by omega) (by omega)) dL_law_1298 ?_
  rw [show xs (nI (i + 2)).toNatClampNeg = xs (i + 2) from congrArg xs (nI_clamp (by omega))]
  refine hk_callV 2 (As := [.int (xs (i + 1)), .int (xs (i + 2))]) (rest := []) X K hAE hS hl.1 hM1.1 rfl (c_X11_string E l H1 hM1 hmA hJ (p0 := xs (i + 1)) (p1 := xs (i + 2))) hmA gL_law_X11_string rfl ⟨rfl, hd_X11_string⟩ rfl ⟨⟨(Nat.le_of_ble_eq_true rfl), (Nat.le_of_ble_eq_true rfl)⟩, (by show cells + 12 + 0 ≤ 601024; omega), (by show slots + 700 + 0 ≤ 7293034; omega)⟩ rfl (Nat.le_of_ble_eq_true rfl) dL_law_1299 (fun v9 H2 locs2 hp hS hz2 hk2 => ?_)
  obtain ⟨cn2, sc2, μ2, hM2, h33, hz, ha⟩ := hp
  subst hz
  rw [hcT] at h33 ha
  have hW2 := HW.kept hW1 (fun q h1 h2 => hk2 q h1 (fun g => h2.elim (hZm q g).2.1 (fun h => h (hZm q g).2.2.2)))
  have hL2 : hk_L E o9 1 f1 H2 := (hk2 _ (ar_lt hL1) (fun g => (hZm _ g).2.2.1 rfl)).trans hL1
  have hb9 : b4 ≤ H2.size := Nat.le_trans (Nat.le_trans hb4 hz1) hz2
  rw [hcT, haT]
  refine lv_topi (fun v ev => ?_)
  refine lv_istore (lv' := [(6, .int v), (5, .int k), (4, .int (nI i)), (3, .ref o9), (2, .ref mo), (1, .ref ho), (0, .ref b)]) hx hb dL_law_1302 hl (by decide) rfl (fun ls hl => ?_)
  refine lv_aload_n hx hb dL_law_1304 rfl (lv_at hl 4 rfl) ?_
  refine hk_callV 0 (As := []) (rest := []) X K hAE hS hl.1 hM2.1 rfl (c_X11_thrown E l H2 hM2) (fun _ h => False.elim h) gL_law_X11_thrown rfl ⟨rfl, hd_X11_thrown⟩ rfl ⟨⟨(Nat.le_of_ble_eq_true rfl), (Nat.le_of_ble_eq_true rfl)⟩, (by show cells + 12 + 0 + 0 ≤ 601024; omega), (by show slots + 700 + 0 + 0 ≤ 7293034; omega)⟩ rfl (Nat.le_of_ble_eq_true rfl) dL_law_1305 (fun v9 H3 locs3 hp hS hz3 hk3 => ?_)
  obtain ⟨hz, hh⟩ := hp
  subst hz; subst hh
  refine lv_iload hx hb dL_law_1308 (lv_at hl 1 rfl) ?_
  refine lv_icmp_eq (tgt := 1315) hx hb dL_law_1310 (by decide) (fun c_1310 => ?_) (fun c_1310 => ?_)
  · refine lv_iload hx hb dL_law_1315 (lv_at hl 1 rfl) ?_
    refine lv_if_ne (tgt := 1332) hx hb dL_law_1317 (by decide) (fun c_1317 => ?_) (fun c_1317 => ?_)
    · rw [if_neg c_1317] at hW2 ha
      refine lv_goto (tgt := 2534) hx hb dL_law_1332 (by decide) ?_
      exact J2534 H2 _ ⟨G1, R1, _, (cn2, sc2, μ2), f1, hI, hW2, hM2, hag.trans ha, hL2, hS, hb9⟩ _ (lv_sub hl [2, 3, 4, 5, 6] rfl)
    · have ckz := c_1317
      refine lv_aload_n hx hb dL_law_1320 rfl (lv_at hl 3 rfl) ?_
      refine lv_iconst (v := 0) hx hb dL_law_1321 (by decide) ?_
      refine hk_lld X K hL2 (show vp_in (0 : Int32) 1 from vp_in_nI (n := 0) (by decide) (by decide)) dL_law_1322 ?_
      rw [show f1 (0 : Int32).toNatClampNeg = w.toInt64 from (congrArg f1 hk_c0).trans (hf1 c_1317)]
      have ev : v = w := ev.trans (if_pos c_1317)
      rw [if_pos c_1317] at hW2 ha
      refine lv_iload hx hb dL_law_1323 (lv_at hl 0 rfl) ?_
      refine lv_i2l hx hb dL_law_1325 rfl ?_
      refine lv_lcmp hx hb dL_law_1326 ?_
      rw [show lcv (w.toInt64) v.toInt64 = 0 from by rw [ev]; exact lcv_self]
      refine lv_if_eq (tgt := 1332) hx hb dL_law_1327 (by decide) (fun c_1327 => ?_) (fun c_1327 => ?_)
      · refine lv_goto (tgt := 2534) hx hb dL_law_1332 (by decide) ?_
        exact J2534 H2 _ ⟨G1, R1, _, (cn2, sc2, μ2), f1, hI, hW2, hM2, (st_string_agr hag).trans ha, hL2, hS, hb9⟩ _ (lv_sub hl [2, 3, 4, 5, 6] rfl)
      · exact absurd (by decide) c_1327
  · exact absurd c_1310 (fun h => h h33)
