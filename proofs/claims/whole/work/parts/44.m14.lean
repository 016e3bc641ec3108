/-- how many of the first n trials, the best aside, have a string near the best one's -/
def alA (fr st pc : Int32) (s : Int32 → Int32) (b : Int32) : Nat → Int32
  | 0 => 0
  | i + 1 => alA fr st pc s b i + (if trI fr st i ≠ b ∧ ¬ (100 + pc).toInt64 * (s b).toInt64 < 100 * (s (trI fr st i)).toInt64 then 1 else 0)
def cd_aliases (p0 p1 p2 p3 p4 : Int32) (S : mS) : Int32 := sp_tr S p0 p1 p2 p3 (if inr p4 0 50 then 1 else 0)
def an_aliases (p0 p1 p2 p3 p4 : Int32) (S : mS) : Int32 := alA p1 p3 p4 (sp_str S.2.2 (sp_sel S.2.2 (S.2.2 3 (ix p0)) (-1) (S.1 12))) (bestA p1 p3 (sp_str S.2.2 (sp_sel S.2.2 (S.2.2 3 (ix p0)) (-1) (S.1 12))) (trN p1 p2 p3)).1 (trN p1 p2 p3)
def st_aliases (p0 p1 p2 p3 p4 : Int32) (S : mS) : mS := S
abbrev rmX11_aliases : Room := { frames := 6, cells := 0, slots := 0, locals := 135 }
theorem iX11_aliases_X11 : ∀ w ∈ wsX110, w ∈ wsX11_aliases := by decide +kernel
set_option maxHeartbeats 4000000 in
set_option maxRecDepth 100000 in
theorem c_X11_aliases (E : hk_E) (l : Launch) (H0 : Heap) {mo : Nat} {am : Nat → Nat} {Z : Nat → Prop} {cn : Nat → Nat} {sc : Nat → Int32} {μ : Nat → Nat → Int32} (hM : MW E mo am Z cn sc μ H0) (hZ : ∀ q, Z q → hk_A E q) {p0 p1 p2 p3 p4 : Int32} (hI : Inv (cn, sc, μ))  : hk_M E l yX11_aliases wsX11_aliases rmX11_aliases (Z) [.ref mo, .int p0, .int p1, .int p2, .int p3, .int p4] H0 (mpost E mo am Z (cd_aliases p0 p1 p2 p3 p4 (cn, sc, μ)) (an_aliases p0 p1 p2 p3 p4 (cn, sc, μ)) (cn, sc, μ) (st_aliases p0 p1 p2 p3 p4 (cn, sc, μ))) := by
  refine hk_M.ofW (cc := cX11_aliases) (maxL := 11) (ret := (some .int)) (by decide +kernel) rfl (Nat.le_of_ble_eq_true rfl) ?_
  intro p e s m args below meth c ls Q hQ X hr hlk hnm K hs9 hS hl
  obtain ⟨hx, hb, hml, hown, hts⟩ := id X
  have hAE : ∀ q, (Z) q → hk_A E q := hZ
  have hl : lv_has ls 11 [(0, .ref mo), (1, .int p0), (2, .int p1), (3, .int p2), (4, .int p3), (5, .int p4)] := hl
  have hnl := hI.1.2.2.1
  have hns := hI.1.1
  have hnp := hI.1.2.1
  dsimp only at hnl hns hnp
  refine lv_aload_n hx hb dX11_aliases_0 rfl (lv_at hl 0 rfl) ?_
  refine lv_aload_n hx hb dX11_aliases_1 rfl (lv_at hl 0 rfl) ?_
  refine lv_iload_n hx hb dX11_aliases_2 rfl (lv_at hl 1 rfl) ?_
  refine lv_iload_n hx hb dX11_aliases_3 rfl (lv_at hl 2 rfl) ?_
  refine lv_iload_n hx hb dX11_aliases_4 rfl (lv_at hl 3 rfl) ?_
  refine lv_iload hx hb dX11_aliases_5 (lv_at hl 4 rfl) ?_
  refine lv_iload hx hb dX11_aliases_7 (lv_at hl 5 rfl) ?_
  refine lv_iconst (v := 0) hx hb dX11_aliases_9 (by decide) ?_
  refine lv_bipush (v := 50) hx hb dX11_aliases_10 (by decide) ?_
  refine hk_callS 3 (As := [.int p4, .int 0, .int 50]) (rest := [.int p3, .int p2, .int p1, .int p0, .ref mo, .ref mo]) X K hAE hS hl.1 (c_X11_in E l H0 (a := p4) (lo := 0) (hi := 50)) (fun _ h => h.elim) gX11_aliases_X11_in rfl hd_X11_in rfl ⟨⟨(Nat.le_of_ble_eq_true rfl), (Nat.le_of_ble_eq_true rfl)⟩, (Nat.le_of_ble_eq_true rfl), (Nat.le_of_ble_eq_true rfl)⟩ rfl (Nat.le_of_ble_eq_true rfl) dX11_aliases_12 (fun v9 H1 locsH1 hp hS hzH1 hkH1 => ?_)
  obtain ⟨hv, hh⟩ := hp
  subst hh
  rcases hv with ⟨hv, c_12⟩ | ⟨hv, c_12⟩
  · subst hv
    refine hk_callV 5 (As := [.int p0, .int p1, .int p2, .int p3, .int 1]) (rest := [.ref mo]) X K hAE hS hl.1 hM.1 rfl (c_X11_areTrials E l H0 hM hZ hI (p0 := p0) (fr := p1) (to := p2) (st := p3) (ok := 1)) (fun _ h => h) gX11_aliases_X11_areTrials rfl ⟨rfl, hd_X11_areTrials⟩ rfl ⟨⟨(Nat.le_of_ble_eq_true rfl), (Nat.le_of_ble_eq_true rfl)⟩, (Nat.le_of_ble_eq_true rfl), (Nat.le_of_ble_eq_true rfl)⟩ rfl (Nat.le_of_ble_eq_true rfl) dX11_aliases_15 (fun v9 H2 locsH2 hp hS hzH2 hkH2 => ?_)
    obtain ⟨hv, n9, fL, fT, hM, hz⟩ := hp
    subst hv
    refine hk_put (ref := "LightcurveHouseModel") X K hM.1 rfl iX11_aliases_X11 tyX11 tyX11_ok nmX11 hS hM.2.2.2.2.1 33 (by decide) (by decide +kernel) (fun _ h => h) (by decide +kernel) rfl rfl (Nat.le_of_ble_eq_true rfl) dX11_aliases_18 (fun H3 locsH3 hOH3 hzH3 hqH3 hS => ?_)
    rw [mf_33] at hOH3
    have hM := MW.obj hM hOH3 hqH3
    refine lv_aload_n hx hb dX11_aliases_21 rfl (lv_at hl 0 rfl) ?_
    refine hk_get (ref := "LightcurveHouseModel") (v := .int (sp_tr (cn, sc, μ) p0 p1 p2 p3 1)) X K hM.1 rfl iX11_aliases_X11 33 (by decide) (by decide +kernel) (fun _ h => h) rfl dX11_aliases_22 ?_
    refine lv_if_le (tgt := 30) hx hb dX11_aliases_25 (by decide) (fun c_25 => ?_) (fun c_25 => ?_)
    · obtain ⟨h0, hst, hT, hok⟩ := sp_tr_0 c_25
      obtain ⟨hn9, hg⟩ := hz h0
      subst hn9
      refine lv_aload_n hx hb dX11_aliases_30 rfl (lv_at hl 0 rfl) ?_
      refine lv_iload_n hx hb dX11_aliases_31 rfl (lv_at hl 2 rfl) ?_
      refine lv_iload_n hx hb dX11_aliases_32 rfl (lv_at hl 3 rfl) ?_
      refine lv_iload hx hb dX11_aliases_33 (lv_at hl 4 rfl) ?_
      refine hk_callV 3 (As := [.int p1, .int p2, .int p3]) (rest := []) X K hAE hS hl.1 hM.1 rfl (c_X11_best E l H3 hM hZ (μs := μ) (L := (sp_sel μ (μ 3 (ix p0)) (-1) (cn 12))) hg rfl (sel80 hnl) hT) (fun _ h => h) gX11_aliases_X11_best rfl ⟨rfl, hd_X11_best⟩ rfl ⟨⟨(Nat.le_of_ble_eq_true rfl), (Nat.le_of_ble_eq_true rfl)⟩, (Nat.le_of_ble_eq_true rfl), (Nat.le_of_ble_eq_true rfl)⟩ rfl (Nat.le_of_ble_eq_true rfl) dX11_aliases_35 (fun v9 H4 locsH4 hp hS hzH4 hkH4 => ?_)
      obtain ⟨hv, oB, hM⟩ := hp
      subst hv
      refine lv_istore (lv' := [(6, .int ((bestA p1 p3 (sp_str μ (sp_sel μ (μ 3 (ix p0)) (-1) (cn 12))) (trN p1 p2 p3)).1)), (0, .ref mo), (1, .int p0), (2, .int p1), (3, .int p2), (4, .int p3), (5, .int p4)]) hx hb dX11_aliases_38 hl (by decide) rfl (fun ls hl => ?_)
      refine lv_aload_n hx hb dX11_aliases_40 rfl (lv_at hl 1 rfl) ?_
      refine lv_iload hx hb dX11_aliases_41 (lv_at hl 0 rfl) ?_
      have hBp : 0 < (bestA p1 p3 (sp_str μ (sp_sel μ (μ 3 (ix p0)) (-1) (cn 12))) (trN p1 p2 p3)).1 := by
        obtain ⟨j, hj, h⟩ := bestA_in (fr := p1) (st := p3) (s := sp_str μ (sp_sel μ (μ 3 (ix p0)) (-1) (cn 12))) (trN p1 p2 p3)
        rw [h]
        exact trI_pos hT (by omega)
      refine hk_callV 1 (As := [.int ((bestA p1 p3 (sp_str μ (sp_sel μ (μ 3 (ix p0)) (-1) (cn 12))) (trN p1 p2 p3)).1)]) (rest := []) X K hAE hS hl.1 hM.1 rfl (c_X11_stringOf E l H4 hM hZ (show _ ≤ 80 from sel80 hnl) (P := (bestA p1 p3 (sp_str μ (sp_sel μ (μ 3 (ix p0)) (-1) (cn 12))) (trN p1 p2 p3)).1) hBp) (fun _ h => h) gX11_aliases_X11_stringOf rfl ⟨rfl, hd_X11_stringOf⟩ rfl ⟨⟨(Nat.le_of_ble_eq_true rfl), (Nat.le_of_ble_eq_true rfl)⟩, (Nat.le_of_ble_eq_true rfl), (Nat.le_of_ble_eq_true rfl)⟩ rfl (Nat.le_of_ble_eq_true rfl) dX11_aliases_43 (fun v9 H5 locsH5 hp hS hzH5 hkH5 => ?_)
      obtain ⟨hv, hM⟩ := hp
      have hv := hv.trans (str_eq hg rfl (sel80 hnl))
      subst hv
      rw [va_up2] at hM
      obtain ⟨oH5, hM⟩ : ∃ o9, MW E mo am Z (va_up cn 34 (sp_sel μ (μ 3 (ix p0)) (-1) (cn 12)).length) _ (va_up (scr μ fL fT) 37 o9) H5 := ⟨_, hM⟩
      refine lv_i2l hx hb dX11_aliases_46 rfl ?_
      refine lv_lstore (lv' := [(7, .long ((sp_str μ (sp_sel μ (μ 3 (ix p0)) (-1) (cn 12)) ((bestA p1 p3 (sp_str μ (sp_sel μ (μ 3 (ix p0)) (-1) (cn 12))) (trN p1 p2 p3)).1)).toInt64)), (6, .int ((bestA p1 p3 (sp_str μ (sp_sel μ (μ 3 (ix p0)) (-1) (cn 12))) (trN p1 p2 p3)).1)), (0, .ref mo), (1, .int p0), (2, .int p1), (3, .int p2), (4, .int p3), (5, .int p4)]) hx hb dX11_aliases_47 hl (by decide) rfl (fun ls hl => ?_)
      refine lv_iconst (v := 0) hx hb dX11_aliases_49 (by decide) ?_
      refine lv_istore (lv' := [(9, .int 0), (7, .long ((sp_str μ (sp_sel μ (μ 3 (ix p0)) (-1) (cn 12)) ((bestA p1 p3 (sp_str μ (sp_sel μ (μ 3 (ix p0)) (-1) (cn 12))) (trN p1 p2 p3)).1)).toInt64)), (6, .int ((bestA p1 p3 (sp_str μ (sp_sel μ (μ 3 (ix p0)) (-1) (cn 12))) (trN p1 p2 p3)).1)), (0, .ref mo), (1, .int p0), (2, .int p1), (3, .int p2), (4, .int p3), (5, .int p4)]) hx hb dX11_aliases_50 hl (by decide) rfl (fun ls hl => ?_)
      refine lv_iload_n hx hb dX11_aliases_52 rfl (lv_at hl 5 rfl) ?_
      refine lv_topi (fun q6 eq6 => ?_)
      refine lv_istore (lv' := [(10, .int q6), (9, .int 0), (7, .long ((sp_str μ (sp_sel μ (μ 3 (ix p0)) (-1) (cn 12)) ((bestA p1 p3 (sp_str μ (sp_sel μ (μ 3 (ix p0)) (-1) (cn 12))) (trN p1 p2 p3)).1)).toInt64)), (6, .int ((bestA p1 p3 (sp_str μ (sp_sel μ (μ 3 (ix p0)) (-1) (cn 12))) (trN p1 p2 p3)).1)), (0, .ref mo), (1, .int p0), (2, .int p1), (3, .int p2), (4, .int p3), (5, .int p4)]) hx hb dX11_aliases_53 hl (by decide) rfl (fun ls hl => ?_)
      have eq6 : q6 = trI p1 p3 0 := eq6.trans trI_0.symm
      subst eq6
      have L55 : ∀ (n9 : Nat) (i : Nat) (o : Nat → Int32) (H : Heap) (locs : List Loc), trN p1 p2 p3 + 1 ≤ i + n9 → (i ≤ trN p1 p2 p3 ∧ MW E mo am Z (va_up cn 34 (sp_sel μ (μ 3 (ix p0)) (-1) (cn 12)).length) (va_up sc 33 (sp_tr (cn, sc, μ) p0 p1 p2 p3 1)) (va_up (scr μ fL fT) 37 o) H ∧ va_S Z s.heap H locs) → ∀ (ls : Array Slot), lv_has ls 11 [(10, .int (trI p1 p3 i)), (9, .int (alA p1 p3 p4 (sp_str μ (sp_sel μ (μ 3 (ix p0)) (-1) (cn 12))) (bestA p1 p3 (sp_str μ (sp_sel μ (μ 3 (ix p0)) (-1) (cn 12))) (trN p1 p2 p3)).1 i)), (7, .long ((sp_str μ (sp_sel μ (μ 3 (ix p0)) (-1) (cn 12)) (bestA p1 p3 (sp_str μ (sp_sel μ (μ 3 (ix p0)) (-1) (cn 12))) (trN p1 p2 p3)).1).toInt64)), (6, .int ((bestA p1 p3 (sp_str μ (sp_sel μ (μ 3 (ix p0)) (-1) (cn 12))) (trN p1 p2 p3)).1)), (0, .ref mo), (1, .int p0), (2, .int p1), (3, .int p2), (4, .int p3), (5, .int p4)] → W p l e rmX11_aliases s m args below meth c H locs 0 0 Q (F0 m 55 ls []) := by
        intro n9
        induction n9 with
        | zero =>
          intro i o H locs hm hinv ls hl
          obtain ⟨hi1, hM, hS⟩ := hinv
          exact absurd hm (by omega)
        | succ n9 ih =>
          intro i o H locs hm hinv ls hl
          obtain ⟨hi1, hM, hS⟩ := hinv
          refine lv_iload hx hb dX11_aliases_55 (lv_at hl 0 rfl) ?_
          refine lv_iload_n hx hb dX11_aliases_57 rfl (lv_at hl 7 rfl) ?_
          refine lv_icmp_gt (tgt := 112) hx hb dX11_aliases_58 (by decide) (fun c_58 => ?_) (fun c_58 => ?_)
          · have hk : ¬ i < trN p1 p2 p3 := fun h => absurd ((trI_le hT hi1).mpr h) (Int32.not_le.mpr c_58)
            refine lv_iload hx hb dX11_aliases_112 (lv_at hl 1 rfl) ?_
            exact hk_iret X hr hlk hQ hS (Nat.le_of_ble_eq_true rfl) (Nat.le_of_ble_eq_true rfl) dX11_aliases_114 (by
              have hkn : i = trN p1 p2 p3 := by omega
              subst hkn
              exact mfin0 hM (by unfold cd_aliases; rw [if_pos c_12]; exact h0) (by show sp_tr (cn, sc, μ) p0 p1 p2 p3 1 = 0; exact h0) rfl agr_all)
          · have hk : i < trN p1 p2 p3 := (trI_le hT hi1).mp (Int32.not_lt.mp c_58)
            refine lv_iload hx hb dX11_aliases_61 (lv_at hl 1 rfl) ?_
            refine lv_iload hx hb dX11_aliases_63 (lv_at hl 0 rfl) ?_
            refine lv_iload hx hb dX11_aliases_65 (lv_at hl 3 rfl) ?_
            refine lv_icmp_eq (tgt := 98) hx hb dX11_aliases_67 (by decide) (fun c_67 => ?_) (fun c_67 => ?_)
            · refine lv_iconst (v := 0) hx hb dX11_aliases_98 (by decide) ?_
              refine lv_iadd hx hb dX11_aliases_99 ?_
              refine lv_topi (fun q9 eq9 => ?_)
              have eq9 : q9 = (alA p1 p3 p4 (sp_str μ (sp_sel μ (μ 3 (ix p0)) (-1) (cn 12))) (bestA p1 p3 (sp_str μ (sp_sel μ (μ 3 (ix p0)) (-1) (cn 12))) (trN p1 p2 p3)).1 (i + 1)) := eq9.trans (by rw [alA, if_neg (fun g => g.1 c_67)])
              subst eq9
              refine lv_istore (lv' := [(9, .int (alA p1 p3 p4 (sp_str μ (sp_sel μ (μ 3 (ix p0)) (-1) (cn 12))) (bestA p1 p3 (sp_str μ (sp_sel μ (μ 3 (ix p0)) (-1) (cn 12))) (trN p1 p2 p3)).1 (i + 1))), (10, .int (trI p1 p3 i)), (7, .long ((sp_str μ (sp_sel μ (μ 3 (ix p0)) (-1) (cn 12)) (bestA p1 p3 (sp_str μ (sp_sel μ (μ 3 (ix p0)) (-1) (cn 12))) (trN p1 p2 p3)).1).toInt64)), (6, .int ((bestA p1 p3 (sp_str μ (sp_sel μ (μ 3 (ix p0)) (-1) (cn 12))) (trN p1 p2 p3)).1)), (0, .ref mo), (1, .int p0), (2, .int p1), (3, .int p2), (4, .int p3), (5, .int p4)]) hx hb dX11_aliases_100 hl (by decide) rfl (fun ls hl => ?_)
              refine lv_iload hx hb dX11_aliases_102 (lv_at hl 1 rfl) ?_
              refine lv_iload hx hb dX11_aliases_104 (lv_at hl 8 rfl) ?_
              refine lv_iadd hx hb dX11_aliases_106 ?_
              refine lv_topi (fun nx enx => ?_)
              rw [trI_1] at enx
              subst enx
              refine lv_istore (lv' := [(10, .int (trI p1 p3 (i + 1))), (9, .int (alA p1 p3 p4 (sp_str μ (sp_sel μ (μ 3 (ix p0)) (-1) (cn 12))) (bestA p1 p3 (sp_str μ (sp_sel μ (μ 3 (ix p0)) (-1) (cn 12))) (trN p1 p2 p3)).1 (i + 1))), (7, .long ((sp_str μ (sp_sel μ (μ 3 (ix p0)) (-1) (cn 12)) (bestA p1 p3 (sp_str μ (sp_sel μ (μ 3 (ix p0)) (-1) (cn 12))) (trN p1 p2 p3)).1).toInt64)), (6, .int ((bestA p1 p3 (sp_str μ (sp_sel μ (μ 3 (ix p0)) (-1) (cn 12))) (trN p1 p2 p3)).1)), (0, .ref mo), (1, .int p0), (2, .int p1), (3, .int p2), (4, .int p3), (5, .int p4)]) hx hb dX11_aliases_107 hl (by decide) rfl (fun ls hl => ?_)
              refine lv_goto (tgt := 55) hx hb dX11_aliases_109 (by decide) ?_
              exact ih (i + 1) o H locs (by omega) ⟨by omega, hM, hS⟩ _ (lv_sub hl [0, 1, 2, 3, 4, 5, 6, 7, 8, 9] rfl)
            · refine lv_ldc2 (v := 100) hx hb hown (hts (.constantLong RX11 191 100) (by decide +kernel)) dX11_aliases_70 ?_
              refine lv_aload_n hx hb dX11_aliases_73 rfl (lv_at hl 4 rfl) ?_
              refine lv_iload hx hb dX11_aliases_74 (lv_at hl 0 rfl) ?_
              refine hk_callV 1 (As := [.int (trI p1 p3 i)]) (rest := [.long 100, .int (alA p1 p3 p4 (sp_str μ (sp_sel μ (μ 3 (ix p0)) (-1) (cn 12))) (bestA p1 p3 (sp_str μ (sp_sel μ (μ 3 (ix p0)) (-1) (cn 12))) (trN p1 p2 p3)).1 i)]) X K hAE hS hl.1 hM.1 rfl (c_X11_stringOf E l H hM hZ (show _ ≤ 80 from sel80 hnl) (P := trI p1 p3 i) (trI_pos hT hi1)) (fun _ h => h) gX11_aliases_X11_stringOf rfl ⟨rfl, hd_X11_stringOf⟩ rfl ⟨⟨(Nat.le_of_ble_eq_true rfl), (Nat.le_of_ble_eq_true rfl)⟩, (Nat.le_of_ble_eq_true rfl), (Nat.le_of_ble_eq_true rfl)⟩ rfl (Nat.le_of_ble_eq_true rfl) dX11_aliases_76 (fun v9 H6 locsH6 hp hS hzH6 hkH6 => ?_)
              obtain ⟨hv, hM⟩ := hp
              have hv := hv.trans (str_eq hg rfl (sel80 hnl))
              subst hv
              rw [va_up2] at hM
              obtain ⟨oH6, hM⟩ : ∃ o9, MW E mo am Z (va_up cn 34 (sp_sel μ (μ 3 (ix p0)) (-1) (cn 12)).length) _ (va_up (scr μ fL fT) 37 o9) H6 := ⟨_, hM⟩
              refine lv_i2l hx hb dX11_aliases_79 rfl ?_
              refine lv_lmul hx hb dX11_aliases_80 ?_
              refine lv_bipush (v := 100) hx hb dX11_aliases_81 (by decide) ?_
              refine lv_iload hx hb dX11_aliases_83 (lv_at hl 9 rfl) ?_
              refine lv_iadd hx hb dX11_aliases_85 ?_
              refine lv_i2l hx hb dX11_aliases_86 rfl ?_
              refine lv_lload hx hb dX11_aliases_87 (lv_at hl 2 rfl) ?_
              refine lv_lmul hx hb dX11_aliases_89 ?_
              refine lv_lcmp hx hb dX11_aliases_90 ?_
              refine lv_if_gt (tgt := 98) hx hb dX11_aliases_91 (by decide) (fun c_91 => ?_) (fun c_91 => ?_)
              · refine lv_iconst (v := 0) hx hb dX11_aliases_98 (by decide) ?_
                refine lv_iadd hx hb dX11_aliases_99 ?_
                refine lv_topi (fun q9 eq9 => ?_)
                have eq9 : q9 = (alA p1 p3 p4 (sp_str μ (sp_sel μ (μ 3 (ix p0)) (-1) (cn 12))) (bestA p1 p3 (sp_str μ (sp_sel μ (μ 3 (ix p0)) (-1) (cn 12))) (trN p1 p2 p3)).1 (i + 1)) := eq9.trans (by rw [alA, if_neg (fun g => g.2 (lcv_gt.mp c_91))])
                subst eq9
                refine lv_istore (lv' := [(9, .int (alA p1 p3 p4 (sp_str μ (sp_sel μ (μ 3 (ix p0)) (-1) (cn 12))) (bestA p1 p3 (sp_str μ (sp_sel μ (μ 3 (ix p0)) (-1) (cn 12))) (trN p1 p2 p3)).1 (i + 1))), (10, .int (trI p1 p3 i)), (7, .long ((sp_str μ (sp_sel μ (μ 3 (ix p0)) (-1) (cn 12)) (bestA p1 p3 (sp_str μ (sp_sel μ (μ 3 (ix p0)) (-1) (cn 12))) (trN p1 p2 p3)).1).toInt64)), (6, .int ((bestA p1 p3 (sp_str μ (sp_sel μ (μ 3 (ix p0)) (-1) (cn 12))) (trN p1 p2 p3)).1)), (0, .ref mo), (1, .int p0), (2, .int p1), (3, .int p2), (4, .int p3), (5, .int p4)]) hx hb dX11_aliases_100 hl (by decide) rfl (fun ls hl => ?_)
                refine lv_iload hx hb dX11_aliases_102 (lv_at hl 1 rfl) ?_
                refine lv_iload hx hb dX11_aliases_104 (lv_at hl 8 rfl) ?_
                refine lv_iadd hx hb dX11_aliases_106 ?_
                refine lv_topi (fun nx enx => ?_)
                rw [trI_1] at enx
                subst enx
                refine lv_istore (lv' := [(10, .int (trI p1 p3 (i + 1))), (9, .int (alA p1 p3 p4 (sp_str μ (sp_sel μ (μ 3 (ix p0)) (-1) (cn 12))) (bestA p1 p3 (sp_str μ (sp_sel μ (μ 3 (ix p0)) (-1) (cn 12))) (trN p1 p2 p3)).1 (i + 1))), (7, .long ((sp_str μ (sp_sel μ (μ 3 (ix p0)) (-1) (cn 12)) (bestA p1 p3 (sp_str μ (sp_sel μ (μ 3 (ix p0)) (-1) (cn 12))) (trN p1 p2 p3)).1).toInt64)), (6, .int ((bestA p1 p3 (sp_str μ (sp_sel μ (μ 3 (ix p0)) (-1) (cn 12))) (trN p1 p2 p3)).1)), (0, .ref mo), (1, .int p0), (2, .int p1), (3, .int p2), (4, .int p3), (5, .int p4)]) hx hb dX11_aliases_107 hl (by decide) rfl (fun ls hl => ?_)
                refine lv_goto (tgt := 55) hx hb dX11_aliases_109 (by decide) ?_
                exact ih (i + 1) oH6 H6 locsH6 (by omega) ⟨by omega, hM, hS⟩ _ (lv_sub hl [0, 1, 2, 3, 4, 5, 6, 7, 8, 9] rfl)
              · refine lv_iconst (v := 1) hx hb dX11_aliases_94 (by decide) ?_
                refine lv_goto (tgt := 99) hx hb dX11_aliases_95 (by decide) ?_
                refine lv_iadd hx hb dX11_aliases_99 ?_
                refine lv_topi (fun q9 eq9 => ?_)
                have eq9 : q9 = (alA p1 p3 p4 (sp_str μ (sp_sel μ (μ 3 (ix p0)) (-1) (cn 12))) (bestA p1 p3 (sp_str μ (sp_sel μ (μ 3 (ix p0)) (-1) (cn 12))) (trN p1 p2 p3)).1 (i + 1)) := eq9.trans (by rw [alA, if_pos ⟨c_67, fun g => c_91 (lcv_gt.mpr g)⟩])
                subst eq9
                refine lv_istore (lv' := [(9, .int (alA p1 p3 p4 (sp_str μ (sp_sel μ (μ 3 (ix p0)) (-1) (cn 12))) (bestA p1 p3 (sp_str μ (sp_sel μ (μ 3 (ix p0)) (-1) (cn 12))) (trN p1 p2 p3)).1 (i + 1))), (10, .int (trI p1 p3 i)), (7, .long ((sp_str μ (sp_sel μ (μ 3 (ix p0)) (-1) (cn 12)) (bestA p1 p3 (sp_str μ (sp_sel μ (μ 3 (ix p0)) (-1) (cn 12))) (trN p1 p2 p3)).1).toInt64)), (6, .int ((bestA p1 p3 (sp_str μ (sp_sel μ (μ 3 (ix p0)) (-1) (cn 12))) (trN p1 p2 p3)).1)), (0, .ref mo), (1, .int p0), (2, .int p1), (3, .int p2), (4, .int p3), (5, .int p4)]) hx hb dX11_aliases_100 hl (by decide) rfl (fun ls hl => ?_)
                refine lv_iload hx hb dX11_aliases_102 (lv_at hl 1 rfl) ?_
                refine lv_iload hx hb dX11_aliases_104 (lv_at hl 8 rfl) ?_
                refine lv_iadd hx hb dX11_aliases_106 ?_
                refine lv_topi (fun nx enx => ?_)
                rw [trI_1] at enx
                subst enx
                refine lv_istore (lv' := [(10, .int (trI p1 p3 (i + 1))), (9, .int (alA p1 p3 p4 (sp_str μ (sp_sel μ (μ 3 (ix p0)) (-1) (cn 12))) (bestA p1 p3 (sp_str μ (sp_sel μ (μ 3 (ix p0)) (-1) (cn 12))) (trN p1 p2 p3)).1 (i + 1))), (7, .long ((sp_str μ (sp_sel μ (μ 3 (ix p0)) (-1) (cn 12)) (bestA p1 p3 (sp_str μ (sp_sel μ (μ 3 (ix p0)) (-1) (cn 12))) (trN p1 p2 p3)).1).toInt64)), (6, .int ((bestA p1 p3 (sp_str μ (sp_sel μ (μ 3 (ix p0)) (-1) (cn 12))) (trN p1 p2 p3)).1)), (0, .ref mo), (1, .int p0), (2, .int p1), (3, .int p2), (4, .int p3), (5, .int p4)]) hx hb dX11_aliases_107 hl (by decide) rfl (fun ls hl => ?_)
                refine lv_goto (tgt := 55) hx hb dX11_aliases_109 (by decide) ?_
                exact ih (i + 1) oH6 H6 locsH6 (by omega) ⟨by omega, hM, hS⟩ _ (lv_sub hl [0, 1, 2, 3, 4, 5, 6, 7, 8, 9] rfl)
      exact L55 (trN p1 p2 p3 + 1) 0 oH5 H5 locsH5 (by omega) ⟨Nat.zero_le _, hM, hS⟩ _ (lv_sub hl [0, 1, 2, 3, 4, 5, 6, 7, 8, 9] rfl)
    · refine lv_iconst (v := 0) hx hb dX11_aliases_28 (by decide) ?_
      exact hk_iret X hr hlk hQ hS (Nat.le_of_ble_eq_true rfl) (Nat.le_of_ble_eq_true rfl) dX11_aliases_29 (mfin1 (v := sp_tr (cn, sc, μ) p0 p1 p2 p3 1) hM (by unfold cd_aliases; rw [if_pos c_12]) (fun h => c_25 (by rw [h]; decide)) rfl rfl agr_scr)
  · subst hv
    refine hk_callV 5 (As := [.int p0, .int p1, .int p2, .int p3, .int 0]) (rest := [.ref mo]) X K hAE hS hl.1 hM.1 rfl (c_X11_areTrials E l H0 hM hZ hI (p0 := p0) (fr := p1) (to := p2) (st := p3) (ok := 0)) (fun _ h => h) gX11_aliases_X11_areTrials rfl ⟨rfl, hd_X11_areTrials⟩ rfl ⟨⟨(Nat.le_of_ble_eq_true rfl), (Nat.le_of_ble_eq_true rfl)⟩, (Nat.le_of_ble_eq_true rfl), (Nat.le_of_ble_eq_true rfl)⟩ rfl (Nat.le_of_ble_eq_true rfl) dX11_aliases_15 (fun v9 H7 locsH7 hp hS hzH7 hkH7 => ?_)
    obtain ⟨hv, n9, fL, fT, hM, hz⟩ := hp
    subst hv
    refine hk_put (ref := "LightcurveHouseModel") X K hM.1 rfl iX11_aliases_X11 tyX11 tyX11_ok nmX11 hS hM.2.2.2.2.1 33 (by decide) (by decide +kernel) (fun _ h => h) (by decide +kernel) rfl rfl (Nat.le_of_ble_eq_true rfl) dX11_aliases_18 (fun H8 locsH8 hOH8 hzH8 hqH8 hS => ?_)
    rw [mf_33] at hOH8
    have hM := MW.obj hM hOH8 hqH8
    refine lv_aload_n hx hb dX11_aliases_21 rfl (lv_at hl 0 rfl) ?_
    refine hk_get (ref := "LightcurveHouseModel") (v := .int (sp_tr (cn, sc, μ) p0 p1 p2 p3 0)) X K hM.1 rfl iX11_aliases_X11 33 (by decide) (by decide +kernel) (fun _ h => h) rfl dX11_aliases_22 ?_
    refine lv_if_le (tgt := 30) hx hb dX11_aliases_25 (by decide) (fun c_25 => ?_) (fun c_25 => ?_)
    · exact absurd rfl (sp_tr_0 c_25).2.2.2
    · refine lv_iconst (v := 0) hx hb dX11_aliases_28 (by decide) ?_
      exact hk_iret X hr hlk hQ hS (Nat.le_of_ble_eq_true rfl) (Nat.le_of_ble_eq_true rfl) dX11_aliases_29 (mfin1 (v := sp_tr (cn, sc, μ) p0 p1 p2 p3 0) hM (by unfold cd_aliases; rw [if_neg c_12]) (fun h => c_25 (by rw [h]; decide)) rfl rfl agr_scr)

