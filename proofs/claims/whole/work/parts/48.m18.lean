def cd_kind (p0 : Int32) (S : mS) : Int32 := if isS (S.1 1) p0 then (if sp_hf S (S.2.2 3 (ix p0)) = 0 then 2 else 0) else 1
def an_kind (p0 : Int32) (S : mS) : Int32 := (sp_kd (fun k => vtS S (S.2.2 3 (ix p0)) (nI k)) 5).1
def st_kind (p0 : Int32) (S : mS) : mS := S
abbrev rmX11_kind : Room := { frames := 5, cells := 0, slots := 0, locals := 109 }
theorem iX11_kind_X11 : ∀ w ∈ wsX110, w ∈ wsX11_kind := by decide +kernel
set_option maxHeartbeats 4000000 in
set_option maxRecDepth 100000 in
theorem c_X11_kind (E : hk_E) (l : Launch) (H0 : Heap) {mo : Nat} {am : Nat → Nat} {Z : Nat → Prop} {cn : Nat → Nat} {sc : Nat → Int32} {μ : Nat → Nat → Int32} (hM : MW E mo am Z cn sc μ H0) (hZ : ∀ q, Z q → hk_A E q) {p0 : Int32} (hI : Inv (cn, sc, μ))  : hk_M E l yX11_kind wsX11_kind rmX11_kind (Z) [.ref mo, .int p0] H0 (mpost E mo am Z (cd_kind p0 (cn, sc, μ)) (an_kind p0 (cn, sc, μ)) (cn, sc, μ) (st_kind p0 (cn, sc, μ))) := by
  refine hk_M.ofW (cc := cX11_kind) (maxL := 6) (ret := (some .int)) (by decide +kernel) rfl (Nat.le_of_ble_eq_true rfl) ?_
  intro p e s m args below meth c ls Q hQ X hr hlk hnm K hs9 hS hl
  obtain ⟨hx, hb, hml, hown, hts⟩ := id X
  have hAE : ∀ q, (Z) q → hk_A E q := hZ
  have hl : lv_has ls 6 [(0, .ref mo), (1, .int p0)] := hl
  have hnl := hI.1.2.2.1
  have hns := hI.1.1
  have hnp := hI.1.2.1
  dsimp only at hnl hns hnp
  have hnr := hI.1.2.2.2.1
  dsimp only at hnr
  refine lv_aload_n hx hb dX11_kind_0 rfl (lv_at hl 0 rfl) ?_
  refine lv_aload_n hx hb dX11_kind_1 rfl (lv_at hl 0 rfl) ?_
  refine lv_iload_n hx hb dX11_kind_2 rfl (lv_at hl 1 rfl) ?_
  refine hk_callV 1 (As := [.int p0]) (rest := [.ref mo]) X K hAE hS hl.1 hM.1 rfl (c_X11_isStar E l H0 hM hns (i := p0)) (fun _ h => h.elim) gX11_kind_X11_isStar rfl ⟨rfl, hd_X11_isStar⟩ rfl ⟨⟨(Nat.le_of_ble_eq_true rfl), (Nat.le_of_ble_eq_true rfl)⟩, (Nat.le_of_ble_eq_true rfl), (Nat.le_of_ble_eq_true rfl)⟩ rfl (Nat.le_of_ble_eq_true rfl) dX11_kind_3 (fun v9 H1 locsH1 hp hS hzH1 hkH1 => ?_)
  obtain ⟨hv, hh⟩ := hp
  subst hh
  rcases hv with ⟨hv, c_3⟩ | ⟨hv, c_3⟩
  · subst hv
    refine lv_if_ne (tgt := 13) hx hb dX11_kind_6 (by decide) (fun c_6 => ?_) (fun c_6 => ?_)
    · refine lv_aload_n hx hb dX11_kind_13 rfl (lv_at hl 0 rfl) ?_
      refine lv_aload_n hx hb dX11_kind_14 rfl (lv_at hl 0 rfl) ?_
      refine hk_get (ref := "LightcurveHouseModel") (v := .ref (am 3)) X K hM.1 rfl iX11_kind_X11 3 (by decide) (by decide +kernel) (fun _ h => h) rfl dX11_kind_15 ?_
      refine lv_iload_n hx hb dX11_kind_18 rfl (lv_at hl 1 rfl) ?_
      refine hk_ild (f := (μ 3)) X K hM.a3 (vp_isS hns (by omega) c_3) dX11_kind_19 ?_
      refine hk_callV 1 (As := [.int ((μ 3) p0.toNatClampNeg)]) (rest := [.ref mo]) X K hAE hS hl.1 hM.1 rfl (c_X11_hasFeatures E l H0 hM hZ hI (e1 := (μ 3) p0.toNatClampNeg)) (fun _ h => h) gX11_kind_X11_hasFeatures rfl ⟨rfl, hd_X11_hasFeatures⟩ rfl ⟨⟨(Nat.le_of_ble_eq_true rfl), (Nat.le_of_ble_eq_true rfl)⟩, (Nat.le_of_ble_eq_true rfl), (Nat.le_of_ble_eq_true rfl)⟩ rfl (Nat.le_of_ble_eq_true rfl) dX11_kind_20 (fun v9 H2 locsH2 hp hS hzH2 hkH2 => ?_)
      obtain ⟨hv, fL, fT, hg, hM⟩ := hp
      subst hv
      refine lv_if_ne (tgt := 30) hx hb dX11_kind_23 (by decide) (fun c_23 => ?_) (fun c_23 => ?_)
      · refine lv_iconst (v := 0) hx hb dX11_kind_30 (by decide) ?_
        refine hk_put (ref := "LightcurveHouseModel") X K hM.1 rfl iX11_kind_X11 tyX11 tyX11_ok nmX11 hS hM.2.2.2.2.1 33 (by decide) (by decide +kernel) (fun _ h => h) (by decide +kernel) rfl rfl (Nat.le_of_ble_eq_true rfl) dX11_kind_31 (fun H3 locsH3 hOH3 hzH3 hqH3 hS => ?_)
        rw [mf_33] at hOH3
        have hM := MW.obj hM hOH3 hqH3
        refine lv_iconst (v := (-1)) hx hb dX11_kind_34 (by decide) ?_
        refine lv_istore_n (lv' := [(2, .int (-1)), (0, .ref mo), (1, .int p0)]) hx hb dX11_kind_35 rfl hl (by decide) rfl (fun ls hl => ?_)
        refine lv_iconst (v := 0) hx hb dX11_kind_36 (by decide) ?_
        refine lv_istore_n (lv' := [(3, .int 0), (2, .int (-1)), (0, .ref mo), (1, .int p0)]) hx hb dX11_kind_37 rfl hl (by decide) rfl (fun ls hl => ?_)
        refine lv_iconst (v := 0) hx hb dX11_kind_38 (by decide) ?_
        refine lv_topi (fun z_4 ez_4 => ?_)
        have ez_4 : z_4 = nI 0 := ez_4
        subst ez_4
        refine lv_istore (lv' := [(4, .int (nI 0)), (3, .int 0), (2, .int (-1)), (0, .ref mo), (1, .int p0)]) hx hb dX11_kind_39 hl (by decide) rfl (fun ls hl => ?_)
        have L41 : ∀ (n9 : Nat) (k : Nat) (locs : List Loc), 5 + 1 ≤ k + n9 → (k ≤ 5 ∧ va_S Z s.heap H3 locs) → ∀ (ls : Array Slot), lv_has ls 6 [(4, .int (nI k)), (3, .int ((sp_kd (fun k => vtS (cn, sc, μ) (μ 3 (ix p0)) (nI k)) k).2)), (2, .int ((sp_kd (fun k => vtS (cn, sc, μ) (μ 3 (ix p0)) (nI k)) k).1)), (0, .ref mo), (1, .int p0)] → W p l e rmX11_kind s m args below meth c H3 locs 0 0 Q (F0 m 41 ls []) := by
          intro n9
          induction n9 with
          | zero =>
            intro k locs hm hinv ls hl
            obtain ⟨hi1, hS⟩ := hinv
            exact absurd hm (by omega)
          | succ n9 ih =>
            intro k locs hm hinv ls hl
            obtain ⟨hi1, hS⟩ := hinv
            refine lv_iload hx hb dX11_kind_41 (lv_at hl 0 rfl) ?_
            refine lv_iconst (v := 5) hx hb dX11_kind_43 (by decide) ?_
            refine lv_topi (fun z_5 ez_5 => ?_)
            have ez_5 : z_5 = nI 5 := ez_5
            subst ez_5
            refine lv_icmp_ge (tgt := 100) hx hb dX11_kind_44 (by decide) (fun c_44 => ?_) (fun c_44 => ?_)
            · have hkk : 5 ≤ k := (nI_leI (by omega) (by omega)).mp c_44
              refine lv_aload_n hx hb dX11_kind_100 rfl (lv_at hl 3 rfl) ?_
              refine hk_get (ref := "LightcurveHouseModel") (v := .int 0) X K hM.1 rfl iX11_kind_X11 33 (by decide) (by decide +kernel) (fun _ h => h) rfl dX11_kind_101 ?_
              refine lv_if_ne (tgt := 111) hx hb dX11_kind_104 (by decide) (fun c_104 => ?_) (fun c_104 => ?_)
              · exact absurd rfl c_104
              · refine lv_iload_n hx hb dX11_kind_107 rfl (lv_at hl 2 rfl) ?_
                refine lv_goto (tgt := 112) hx hb dX11_kind_108 (by decide) ?_
                exact hk_iret X hr hlk hQ hS (Nat.le_of_ble_eq_true rfl) (Nat.le_of_ble_eq_true rfl) dX11_kind_112 (by
                  have hkn : k = 5 := by omega
                  subst hkn
                  exact mfin0 hM (by unfold cd_kind; rw [if_pos c_3, if_neg c_23]) rfl rfl agr_scr)
            · have hkk : k < 5 := Nat.lt_of_not_le (fun h => c_44 (nI_le h (by omega)))
              refine lv_aload_n hx hb dX11_kind_47 rfl (lv_at hl 3 rfl) ?_
              refine hk_get (ref := "LightcurveHouseModel") (v := .int 0) X K hM.1 rfl iX11_kind_X11 33 (by decide) (by decide +kernel) (fun _ h => h) rfl dX11_kind_48 ?_
              refine lv_if_ne (tgt := 100) hx hb dX11_kind_51 (by decide) (fun c_51 => ?_) (fun c_51 => ?_)
              · exact absurd rfl c_51
              · refine lv_aload_n hx hb dX11_kind_54 rfl (lv_at hl 3 rfl) ?_
                refine lv_aload_n hx hb dX11_kind_55 rfl (lv_at hl 3 rfl) ?_
                refine hk_get (ref := "LightcurveHouseModel") (v := .ref (am 3)) X K hM.1 rfl iX11_kind_X11 3 (by decide) (by decide +kernel) (fun _ h => h) rfl dX11_kind_56 ?_
                refine lv_iload_n hx hb dX11_kind_59 rfl (lv_at hl 4 rfl) ?_
                refine hk_ild (f := (μ 3)) X K hM.a3 (vp_isS hns (by omega) c_3) dX11_kind_60 ?_
                refine lv_iload hx hb dX11_kind_61 (lv_at hl 0 rfl) ?_
                refine hk_callV 2 (As := [.int ((μ 3) p0.toNatClampNeg), .int (nI k)]) (rest := []) X K hAE hS hl.1 hM.1 rfl (c_X11_votesFor E l H3 hM hns (show _ ≤ 80 from sel80 hnl) hnr (e1 := (μ 3) p0.toNatClampNeg) (kd := nI k) (sp_hf_1 c_23).2) (fun _ h => h.elim) gX11_kind_X11_votesFor rfl ⟨rfl, hd_X11_votesFor⟩ rfl ⟨⟨(Nat.le_of_ble_eq_true rfl), (Nat.le_of_ble_eq_true rfl)⟩, (Nat.le_of_ble_eq_true rfl), (Nat.le_of_ble_eq_true rfl)⟩ rfl (Nat.le_of_ble_eq_true rfl) dX11_kind_63 (fun v9 H6 locsH6 hp hS hzH6 hkH6 => ?_)
                obtain ⟨hv, hh⟩ := hp
                have hv := hv.trans (vt_eq2 (sc := sc) hg (sp_hf_1 c_23).1)
                subst hv; subst hh
                refine lv_istore (lv' := [(5, .int (vtS (cn, sc, μ) ((μ 3) p0.toNatClampNeg) (nI k))), (4, .int (nI k)), (3, .int ((sp_kd (fun k => vtS (cn, sc, μ) (μ 3 (ix p0)) (nI k)) k).2)), (2, .int ((sp_kd (fun k => vtS (cn, sc, μ) (μ 3 (ix p0)) (nI k)) k).1)), (0, .ref mo), (1, .int p0)]) hx hb dX11_kind_66 hl (by decide) rfl (fun ls hl => ?_)
                refine lv_iload hx hb dX11_kind_68 (lv_at hl 0 rfl) ?_
                refine lv_iload_n hx hb dX11_kind_70 rfl (lv_at hl 2 rfl) ?_
                refine lv_icmp_le (tgt := 79) hx hb dX11_kind_71 (by decide) (fun c_71 => ?_) (fun c_71 => ?_)
                · refine lv_iload_n hx hb dX11_kind_79 rfl (lv_at hl 3 rfl) ?_
                  refine lv_topi (fun b2 eb2 => ?_)
                  refine lv_istore_n (lv' := [(2, .int b2), (5, .int (vtS (cn, sc, μ) ((μ 3) p0.toNatClampNeg) (nI k))), (4, .int (nI k)), (3, .int ((sp_kd (fun k => vtS (cn, sc, μ) (μ 3 (ix p0)) (nI k)) k).2)), (0, .ref mo), (1, .int p0)]) hx hb dX11_kind_80 rfl hl (by decide) rfl (fun ls hl => ?_)
                  have eb2 : b2 = (sp_kd (fun k => vtS (cn, sc, μ) (μ 3 (ix p0)) (nI k)) (k + 1)).1 := eb2.trans (by rw [sp_kd]; exact (if_neg (Int32.not_lt.mpr c_71)).symm)
                  subst eb2
                  refine lv_iload hx hb dX11_kind_81 (lv_at hl 1 rfl) ?_
                  refine lv_iload_n hx hb dX11_kind_83 rfl (lv_at hl 3 rfl) ?_
                  refine lv_icmp_le (tgt := 92) hx hb dX11_kind_84 (by decide) (fun c_84 => ?_) (fun c_84 => ?_)
                  · refine lv_iload_n hx hb dX11_kind_92 rfl (lv_at hl 3 rfl) ?_
                    refine lv_topi (fun b3 eb3 => ?_)
                    refine lv_istore_n (lv' := [(3, .int b3), (2, .int ((sp_kd (fun k => vtS (cn, sc, μ) (μ 3 (ix p0)) (nI k)) (k + 1)).1)), (5, .int (vtS (cn, sc, μ) ((μ 3) p0.toNatClampNeg) (nI k))), (4, .int (nI k)), (0, .ref mo), (1, .int p0)]) hx hb dX11_kind_93 rfl hl (by decide) rfl (fun ls hl => ?_)
                    have eb3 : b3 = (sp_kd (fun k => vtS (cn, sc, μ) (μ 3 (ix p0)) (nI k)) (k + 1)).2 := eb3.trans (by rw [sp_kd]; exact (if_neg (Int32.not_lt.mpr c_84)).symm)
                    subst eb3
                    obtain ⟨k1, ek1⟩ : ∃ y : Int32, y = (nI k) + 1 := ⟨_, rfl⟩
                    refine lv_iinc (v := k1) (lv' := [(4, .int k1), (3, .int ((sp_kd (fun k => vtS (cn, sc, μ) (μ 3 (ix p0)) (nI k)) (k + 1)).2)), (2, .int ((sp_kd (fun k => vtS (cn, sc, μ) (μ 3 (ix p0)) (nI k)) (k + 1)).1)), (5, .int (vtS (cn, sc, μ) ((μ 3) p0.toNatClampNeg) (nI k))), (0, .ref mo), (1, .int p0)]) hx hb dX11_kind_94 hl (k := 3) rfl (by rw [ek1]; rfl) (by decide) rfl (fun ls hl => ?_)
                    rw [nI_1] at ek1
                    subst ek1
                    refine lv_goto (tgt := 41) hx hb dX11_kind_97 (by decide) ?_
                    exact ih (k + 1) locsH6 (by omega) ⟨by omega, hS⟩ _ (lv_sub hl [0, 1, 2, 4, 5] rfl)
                  · exact absurd c_71 c_84
                · refine lv_iload hx hb dX11_kind_74 (lv_at hl 1 rfl) ?_
                  refine lv_goto (tgt := 80) hx hb dX11_kind_76 (by decide) ?_
                  refine lv_topi (fun b2 eb2 => ?_)
                  refine lv_istore_n (lv' := [(2, .int b2), (5, .int (vtS (cn, sc, μ) ((μ 3) p0.toNatClampNeg) (nI k))), (4, .int (nI k)), (3, .int ((sp_kd (fun k => vtS (cn, sc, μ) (μ 3 (ix p0)) (nI k)) k).2)), (0, .ref mo), (1, .int p0)]) hx hb dX11_kind_80 rfl hl (by decide) rfl (fun ls hl => ?_)
                  have eb2 : b2 = (sp_kd (fun k => vtS (cn, sc, μ) (μ 3 (ix p0)) (nI k)) (k + 1)).1 := eb2.trans (by rw [sp_kd]; exact (if_pos (Int32.not_le.mp c_71)).symm)
                  subst eb2
                  refine lv_iload hx hb dX11_kind_81 (lv_at hl 1 rfl) ?_
                  refine lv_iload_n hx hb dX11_kind_83 rfl (lv_at hl 3 rfl) ?_
                  refine lv_icmp_le (tgt := 92) hx hb dX11_kind_84 (by decide) (fun c_84 => ?_) (fun c_84 => ?_)
                  · exact absurd c_84 c_71
                  · refine lv_iload hx hb dX11_kind_87 (lv_at hl 1 rfl) ?_
                    refine lv_goto (tgt := 93) hx hb dX11_kind_89 (by decide) ?_
                    refine lv_topi (fun b3 eb3 => ?_)
                    refine lv_istore_n (lv' := [(3, .int b3), (2, .int ((sp_kd (fun k => vtS (cn, sc, μ) (μ 3 (ix p0)) (nI k)) (k + 1)).1)), (5, .int (vtS (cn, sc, μ) ((μ 3) p0.toNatClampNeg) (nI k))), (4, .int (nI k)), (0, .ref mo), (1, .int p0)]) hx hb dX11_kind_93 rfl hl (by decide) rfl (fun ls hl => ?_)
                    have eb3 : b3 = (sp_kd (fun k => vtS (cn, sc, μ) (μ 3 (ix p0)) (nI k)) (k + 1)).2 := eb3.trans (by rw [sp_kd]; exact (if_pos (Int32.not_le.mp c_84)).symm)
                    subst eb3
                    obtain ⟨k1, ek1⟩ : ∃ y : Int32, y = (nI k) + 1 := ⟨_, rfl⟩
                    refine lv_iinc (v := k1) (lv' := [(4, .int k1), (3, .int ((sp_kd (fun k => vtS (cn, sc, μ) (μ 3 (ix p0)) (nI k)) (k + 1)).2)), (2, .int ((sp_kd (fun k => vtS (cn, sc, μ) (μ 3 (ix p0)) (nI k)) (k + 1)).1)), (5, .int (vtS (cn, sc, μ) ((μ 3) p0.toNatClampNeg) (nI k))), (0, .ref mo), (1, .int p0)]) hx hb dX11_kind_94 hl (k := 3) rfl (by rw [ek1]; rfl) (by decide) rfl (fun ls hl => ?_)
                    rw [nI_1] at ek1
                    subst ek1
                    refine lv_goto (tgt := 41) hx hb dX11_kind_97 (by decide) ?_
                    exact ih (k + 1) locsH6 (by omega) ⟨by omega, hS⟩ _ (lv_sub hl [0, 1, 2, 4, 5] rfl)
        exact L41 (5 + 1) 0 locsH3 (by omega) ⟨Nat.zero_le _, hS⟩ _ (lv_sub hl [0, 1, 2, 3, 4] rfl)
      · refine lv_iconst (v := 2) hx hb dX11_kind_26 (by decide) ?_
        refine lv_goto (tgt := 31) hx hb dX11_kind_27 (by decide) ?_
        refine hk_put (ref := "LightcurveHouseModel") X K hM.1 rfl iX11_kind_X11 tyX11 tyX11_ok nmX11 hS hM.2.2.2.2.1 33 (by decide) (by decide +kernel) (fun _ h => h) (by decide +kernel) rfl rfl (Nat.le_of_ble_eq_true rfl) dX11_kind_31 (fun H7 locsH7 hOH7 hzH7 hqH7 hS => ?_)
        rw [mf_33] at hOH7
        have hM := MW.obj hM hOH7 hqH7
        refine lv_iconst (v := (-1)) hx hb dX11_kind_34 (by decide) ?_
        refine lv_istore_n (lv' := [(2, .int (-1)), (0, .ref mo), (1, .int p0)]) hx hb dX11_kind_35 rfl hl (by decide) rfl (fun ls hl => ?_)
        refine lv_iconst (v := 0) hx hb dX11_kind_36 (by decide) ?_
        refine lv_istore_n (lv' := [(3, .int 0), (2, .int (-1)), (0, .ref mo), (1, .int p0)]) hx hb dX11_kind_37 rfl hl (by decide) rfl (fun ls hl => ?_)
        refine lv_iconst (v := 0) hx hb dX11_kind_38 (by decide) ?_
        refine lv_topi (fun z_8 ez_8 => ?_)
        have ez_8 : z_8 = nI 0 := ez_8
        subst ez_8
        refine lv_istore (lv' := [(4, .int (nI 0)), (3, .int 0), (2, .int (-1)), (0, .ref mo), (1, .int p0)]) hx hb dX11_kind_39 hl (by decide) rfl (fun ls hl => ?_)
        have L41 : ∀ (n9 : Nat) (k : Nat) (locs : List Loc), 5 + 1 ≤ k + n9 → (k ≤ 5 ∧ va_S Z s.heap H7 locs) → ∀ (ls : Array Slot), lv_has ls 6 [(4, .int (nI k)), (3, .int 0), (2, .int (-1)), (0, .ref mo), (1, .int p0)] → W p l e rmX11_kind s m args below meth c H7 locs 0 0 Q (F0 m 41 ls []) := by
          intro n9
          induction n9 with
          | zero =>
            intro k locs hm hinv ls hl
            obtain ⟨hi1, hS⟩ := hinv
            exact absurd hm (by omega)
          | succ n9 ih =>
            intro k locs hm hinv ls hl
            obtain ⟨hi1, hS⟩ := hinv
            refine lv_iload hx hb dX11_kind_41 (lv_at hl 0 rfl) ?_
            refine lv_iconst (v := 5) hx hb dX11_kind_43 (by decide) ?_
            refine lv_topi (fun z_9 ez_9 => ?_)
            have ez_9 : z_9 = nI 5 := ez_9
            subst ez_9
            refine lv_icmp_ge (tgt := 100) hx hb dX11_kind_44 (by decide) (fun c_44 => ?_) (fun c_44 => ?_)
            · have hkk : 5 ≤ k := (nI_leI (by omega) (by omega)).mp c_44
              refine lv_aload_n hx hb dX11_kind_100 rfl (lv_at hl 3 rfl) ?_
              refine hk_get (ref := "LightcurveHouseModel") (v := .int 2) X K hM.1 rfl iX11_kind_X11 33 (by decide) (by decide +kernel) (fun _ h => h) rfl dX11_kind_101 ?_
              refine lv_if_ne (tgt := 111) hx hb dX11_kind_104 (by decide) (fun c_104 => ?_) (fun c_104 => ?_)
              · refine lv_iconst (v := 0) hx hb dX11_kind_111 (by decide) ?_
                exact hk_iret X hr hlk hQ hS (Nat.le_of_ble_eq_true rfl) (Nat.le_of_ble_eq_true rfl) dX11_kind_112 (mfin1 (v := 2) hM (by unfold cd_kind; rw [if_pos c_3, if_pos c_23]) (by decide) rfl rfl agr_scr)
              · exact absurd c_104 (by decide)
            · have hkk : k < 5 := Nat.lt_of_not_le (fun h => c_44 (nI_le h (by omega)))
              refine lv_aload_n hx hb dX11_kind_47 rfl (lv_at hl 3 rfl) ?_
              refine hk_get (ref := "LightcurveHouseModel") (v := .int 2) X K hM.1 rfl iX11_kind_X11 33 (by decide) (by decide +kernel) (fun _ h => h) rfl dX11_kind_48 ?_
              refine lv_if_ne (tgt := 100) hx hb dX11_kind_51 (by decide) (fun c_51 => ?_) (fun c_51 => ?_)
              · refine lv_aload_n hx hb dX11_kind_100 rfl (lv_at hl 3 rfl) ?_
                refine hk_get (ref := "LightcurveHouseModel") (v := .int 2) X K hM.1 rfl iX11_kind_X11 33 (by decide) (by decide +kernel) (fun _ h => h) rfl dX11_kind_101 ?_
                refine lv_if_ne (tgt := 111) hx hb dX11_kind_104 (by decide) (fun c_104 => ?_) (fun c_104 => ?_)
                · refine lv_iconst (v := 0) hx hb dX11_kind_111 (by decide) ?_
                  exact hk_iret X hr hlk hQ hS (Nat.le_of_ble_eq_true rfl) (Nat.le_of_ble_eq_true rfl) dX11_kind_112 (mfin1 (v := 2) hM (by unfold cd_kind; rw [if_pos c_3, if_pos c_23]) (by decide) rfl rfl agr_scr)
                · exact absurd c_104 (by decide)
              · exact absurd c_51 (by decide)
        exact L41 (5 + 1) 0 locsH7 (by omega) ⟨Nat.zero_le _, hS⟩ _ (lv_sub hl [0, 1, 2, 3, 4] rfl)
    · exact absurd c_6 (by decide)
  · subst hv
    refine lv_if_ne (tgt := 13) hx hb dX11_kind_6 (by decide) (fun c_6 => ?_) (fun c_6 => ?_)
    · exact absurd rfl c_6
    · refine lv_iconst (v := 1) hx hb dX11_kind_9 (by decide) ?_
      refine lv_goto (tgt := 31) hx hb dX11_kind_10 (by decide) ?_
      refine hk_put (ref := "LightcurveHouseModel") X K hM.1 rfl iX11_kind_X11 tyX11 tyX11_ok nmX11 hS hM.2.2.2.2.1 33 (by decide) (by decide +kernel) (fun _ h => h) (by decide +kernel) rfl rfl (Nat.le_of_ble_eq_true rfl) dX11_kind_31 (fun H10 locsH10 hOH10 hzH10 hqH10 hS => ?_)
      rw [mf_33] at hOH10
      have hM := MW.obj hM hOH10 hqH10
      refine lv_iconst (v := (-1)) hx hb dX11_kind_34 (by decide) ?_
      refine lv_istore_n (lv' := [(2, .int (-1)), (0, .ref mo), (1, .int p0)]) hx hb dX11_kind_35 rfl hl (by decide) rfl (fun ls hl => ?_)
      refine lv_iconst (v := 0) hx hb dX11_kind_36 (by decide) ?_
      refine lv_istore_n (lv' := [(3, .int 0), (2, .int (-1)), (0, .ref mo), (1, .int p0)]) hx hb dX11_kind_37 rfl hl (by decide) rfl (fun ls hl => ?_)
      refine lv_iconst (v := 0) hx hb dX11_kind_38 (by decide) ?_
      refine lv_topi (fun z_11 ez_11 => ?_)
      have ez_11 : z_11 = nI 0 := ez_11
      subst ez_11
      refine lv_istore (lv' := [(4, .int (nI 0)), (3, .int 0), (2, .int (-1)), (0, .ref mo), (1, .int p0)]) hx hb dX11_kind_39 hl (by decide) rfl (fun ls hl => ?_)
      have L41 : ∀ (n9 : Nat) (k : Nat) (locs : List Loc), 5 + 1 ≤ k + n9 → (k ≤ 5 ∧ va_S Z s.heap H10 locs) → ∀ (ls : Array Slot), lv_has ls 6 [(4, .int (nI k)), (3, .int 0), (2, .int (-1)), (0, .ref mo), (1, .int p0)] → W p l e rmX11_kind s m args below meth c H10 locs 0 0 Q (F0 m 41 ls []) := by
        intro n9
        induction n9 with
        | zero =>
          intro k locs hm hinv ls hl
          obtain ⟨hi1, hS⟩ := hinv
          exact absurd hm (by omega)
        | succ n9 ih =>
          intro k locs hm hinv ls hl
          obtain ⟨hi1, hS⟩ := hinv
          refine lv_iload hx hb dX11_kind_41 (lv_at hl 0 rfl) ?_
          refine lv_iconst (v := 5) hx hb dX11_kind_43 (by decide) ?_
          refine lv_topi (fun z_12 ez_12 => ?_)
          have ez_12 : z_12 = nI 5 := ez_12
          subst ez_12
          refine lv_icmp_ge (tgt := 100) hx hb dX11_kind_44 (by decide) (fun c_44 => ?_) (fun c_44 => ?_)
          · have hkk : 5 ≤ k := (nI_leI (by omega) (by omega)).mp c_44
            refine lv_aload_n hx hb dX11_kind_100 rfl (lv_at hl 3 rfl) ?_
            refine hk_get (ref := "LightcurveHouseModel") (v := .int 1) X K hM.1 rfl iX11_kind_X11 33 (by decide) (by decide +kernel) (fun _ h => h) rfl dX11_kind_101 ?_
            refine lv_if_ne (tgt := 111) hx hb dX11_kind_104 (by decide) (fun c_104 => ?_) (fun c_104 => ?_)
            · refine lv_iconst (v := 0) hx hb dX11_kind_111 (by decide) ?_
              exact hk_iret X hr hlk hQ hS (Nat.le_of_ble_eq_true rfl) (Nat.le_of_ble_eq_true rfl) dX11_kind_112 (mfin1 (v := 1) hM (by unfold cd_kind; rw [if_neg c_3]) (by decide) rfl rfl agr_thr)
            · exact absurd c_104 (by decide)
          · have hkk : k < 5 := Nat.lt_of_not_le (fun h => c_44 (nI_le h (by omega)))
            refine lv_aload_n hx hb dX11_kind_47 rfl (lv_at hl 3 rfl) ?_
            refine hk_get (ref := "LightcurveHouseModel") (v := .int 1) X K hM.1 rfl iX11_kind_X11 33 (by decide) (by decide +kernel) (fun _ h => h) rfl dX11_kind_48 ?_
            refine lv_if_ne (tgt := 100) hx hb dX11_kind_51 (by decide) (fun c_51 => ?_) (fun c_51 => ?_)
            · refine lv_aload_n hx hb dX11_kind_100 rfl (lv_at hl 3 rfl) ?_
              refine hk_get (ref := "LightcurveHouseModel") (v := .int 1) X K hM.1 rfl iX11_kind_X11 33 (by decide) (by decide +kernel) (fun _ h => h) rfl dX11_kind_101 ?_
              refine lv_if_ne (tgt := 111) hx hb dX11_kind_104 (by decide) (fun c_104 => ?_) (fun c_104 => ?_)
              · refine lv_iconst (v := 0) hx hb dX11_kind_111 (by decide) ?_
                exact hk_iret X hr hlk hQ hS (Nat.le_of_ble_eq_true rfl) (Nat.le_of_ble_eq_true rfl) dX11_kind_112 (mfin1 (v := 1) hM (by unfold cd_kind; rw [if_neg c_3]) (by decide) rfl rfl agr_thr)
              · exact absurd c_104 (by decide)
            · exact absurd c_51 (by decide)
      exact L41 (5 + 1) 0 locsH10 (by omega) ⟨Nat.zero_le _, hS⟩ _ (lv_sub hl [0, 1, 2, 3, 4] rfl)

