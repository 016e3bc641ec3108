def cd_comparison (p0 p1 : Int32) (S : mS) : Int32 := if inr p0 0 9 then (if inr p1 (-200) 2000 then 0 else 2) else 1
def an_comparison (p0 p1 : Int32) (S : mS) : Int32 := S.2.2 0 (ix p0)
def st_comparison (p0 p1 : Int32) (S : mS) : mS := (S.1, S.2.1, va_up S.2.2 0 (upd (S.2.2 0) (ix p0) p1))
abbrev rmX11_comparison : Room := { frames := 1, cells := 0, slots := 0, locals := 22 }
theorem iX11_comparison_X11 : ∀ w ∈ wsX110, w ∈ wsX11_comparison := by decide +kernel
set_option maxHeartbeats 4000000 in
set_option maxRecDepth 100000 in
theorem c_X11_comparison (E : hk_E) (l : Launch) (H0 : Heap) {mo : Nat} {am : Nat → Nat} {Z : Nat → Prop} {cn : Nat → Nat} {sc : Nat → Int32} {μ : Nat → Nat → Int32} (hM : MW E mo am Z cn sc μ H0) (hZ : ∀ q, Z q → hk_A E q) {p0 p1 : Int32}  : hk_M E l yX11_comparison wsX11_comparison rmX11_comparison (Z) [.ref mo, .int p0, .int p1] H0 (mpost E mo am Z (cd_comparison p0 p1 (cn, sc, μ)) (an_comparison p0 p1 (cn, sc, μ)) (cn, sc, μ) (st_comparison p0 p1 (cn, sc, μ))) := by
  refine hk_M.ofW (cc := cX11_comparison) (maxL := 4) (ret := (some .int)) (by decide +kernel) rfl (Nat.le_of_ble_eq_true rfl) ?_
  intro p e s m args below meth c ls Q hQ X hr hlk hnm K hs9 hS hl
  obtain ⟨hx, hb, hml, hown, hts⟩ := id X
  have hAE : ∀ q, (Z) q → hk_A E q := hZ
  have hl : lv_has ls 4 [(0, .ref mo), (1, .int p0), (2, .int p1)] := hl
  refine lv_aload_n hx hb dX11_comparison_0 rfl (lv_at hl 0 rfl) ?_
  refine lv_iload_n hx hb dX11_comparison_1 rfl (lv_at hl 1 rfl) ?_
  refine lv_iconst (v := 0) hx hb dX11_comparison_2 (by decide) ?_
  refine lv_bipush (v := 9) hx hb dX11_comparison_3 (by decide) ?_
  refine hk_callS 3 (As := [.int p0, .int 0, .int 9]) (rest := [.ref mo]) X K hAE hS hl.1 (c_X11_in E l H0 (a := p0) (lo := 0) (hi := 9)) (fun _ h => h.elim) gX11_comparison_X11_in rfl hd_X11_in rfl ⟨⟨(Nat.le_of_ble_eq_true rfl), (Nat.le_of_ble_eq_true rfl)⟩, (Nat.le_of_ble_eq_true rfl), (Nat.le_of_ble_eq_true rfl)⟩ rfl (Nat.le_of_ble_eq_true rfl) dX11_comparison_5 (fun v9 H1 locsH1 hp hS hzH1 hkH1 => ?_)
  obtain ⟨hv, hh⟩ := hp
  subst hh
  rcases hv with ⟨hv, c_5⟩ | ⟨hv, c_5⟩
  · subst hv
    refine lv_if_ne (tgt := 15) hx hb dX11_comparison_8 (by decide) (fun c_8 => ?_) (fun c_8 => ?_)
    · refine lv_iload_n hx hb dX11_comparison_15 rfl (lv_at hl 2 rfl) ?_
      refine lv_sipush (v := (-200)) hx hb dX11_comparison_16 (by decide) ?_
      refine lv_sipush (v := 2000) hx hb dX11_comparison_19 (by decide) ?_
      refine hk_callS 3 (As := [.int p1, .int (-200), .int 2000]) (rest := [.ref mo]) X K hAE hS hl.1 (c_X11_in E l H0 (a := p1) (lo := (-200)) (hi := 2000)) (fun _ h => h.elim) gX11_comparison_X11_in rfl hd_X11_in rfl ⟨⟨(Nat.le_of_ble_eq_true rfl), (Nat.le_of_ble_eq_true rfl)⟩, (Nat.le_of_ble_eq_true rfl), (Nat.le_of_ble_eq_true rfl)⟩ rfl (Nat.le_of_ble_eq_true rfl) dX11_comparison_22 (fun v9 H2 locsH2 hp hS hzH2 hkH2 => ?_)
      obtain ⟨hv, hh⟩ := hp
      subst hh
      rcases hv with ⟨hv, c_22⟩ | ⟨hv, c_22⟩
      · subst hv
        refine lv_if_ne (tgt := 32) hx hb dX11_comparison_25 (by decide) (fun c_25 => ?_) (fun c_25 => ?_)
        · refine lv_iconst (v := 0) hx hb dX11_comparison_32 (by decide) ?_
          refine hk_put (ref := "LightcurveHouseModel") X K hM.1 rfl iX11_comparison_X11 tyX11 tyX11_ok nmX11 hS hM.2.2.2.2.1 33 (by decide) (by decide +kernel) (fun _ h => h) (by decide +kernel) rfl rfl (Nat.le_of_ble_eq_true rfl) dX11_comparison_33 (fun H3 locsH3 hOH3 hzH3 hqH3 hS => ?_)
          rw [mf_33] at hOH3
          have hM := MW.obj hM hOH3 hqH3
          refine lv_aload_n hx hb dX11_comparison_36 rfl (lv_at hl 0 rfl) ?_
          refine hk_get (ref := "LightcurveHouseModel") (v := .int 0) X K hM.1 rfl iX11_comparison_X11 33 (by decide) (by decide +kernel) (fun _ h => h) rfl dX11_comparison_37 ?_
          refine lv_if_le (tgt := 45) hx hb dX11_comparison_40 (by decide) (fun c_40 => ?_) (fun c_40 => ?_)
          · refine lv_aload_n hx hb dX11_comparison_45 rfl (lv_at hl 0 rfl) ?_
            refine hk_get (ref := "LightcurveHouseModel") (v := .ref (am 0)) X K hM.1 rfl iX11_comparison_X11 0 (by decide) (by decide +kernel) (fun _ h => h) rfl dX11_comparison_46 ?_
            refine lv_iload_n hx hb dX11_comparison_49 rfl (lv_at hl 1 rfl) ?_
            refine hk_ild X K hM.a0 (vp_inr 9 (by decide) c_5) dX11_comparison_50 ?_
            refine lv_istore_n (lv' := [(3, .int ((μ 0) p0.toNatClampNeg)), (0, .ref mo), (1, .int p0), (2, .int p1)]) hx hb dX11_comparison_51 rfl hl (by decide) rfl (fun ls hl => ?_)
            refine lv_aload_n hx hb dX11_comparison_52 rfl (lv_at hl 1 rfl) ?_
            refine hk_get (ref := "LightcurveHouseModel") (v := .ref (am 0)) X K hM.1 rfl iX11_comparison_X11 0 (by decide) (by decide +kernel) (fun _ h => h) rfl dX11_comparison_53 ?_
            refine lv_iload_n hx hb dX11_comparison_56 rfl (lv_at hl 2 rfl) ?_
            refine lv_iload_n hx hb dX11_comparison_57 rfl (lv_at hl 3 rfl) ?_
            refine hk_ist X K hM.a0 hS (hM.2.2.2.2.2 0 (by decide)) (vp_inr 9 (by decide) c_5) dX11_comparison_58 (fun H4 locsH4 hIH4 hzH4 hqH4 hS => ?_)
            have hM := MW.set hM 0 (by decide) hIH4 hqH4
            refine lv_iload_n hx hb dX11_comparison_59 rfl (lv_at hl 0 rfl) ?_
            exact hk_iret X hr hlk hQ hS (Nat.le_of_ble_eq_true rfl) (Nat.le_of_ble_eq_true rfl) dX11_comparison_60 (mfin0 hM (by unfold cd_comparison; (try dsimp only); rw [if_pos c_5, if_pos c_22]) rfl rfl agr_thr)
          · exact absurd (by decide) c_40
        · exact absurd c_25 (by decide)
      · subst hv
        refine lv_if_ne (tgt := 32) hx hb dX11_comparison_25 (by decide) (fun c_25 => ?_) (fun c_25 => ?_)
        · exact absurd rfl c_25
        · refine lv_iconst (v := 2) hx hb dX11_comparison_28 (by decide) ?_
          refine lv_goto (tgt := 33) hx hb dX11_comparison_29 (by decide) ?_
          refine hk_put (ref := "LightcurveHouseModel") X K hM.1 rfl iX11_comparison_X11 tyX11 tyX11_ok nmX11 hS hM.2.2.2.2.1 33 (by decide) (by decide +kernel) (fun _ h => h) (by decide +kernel) rfl rfl (Nat.le_of_ble_eq_true rfl) dX11_comparison_33 (fun H5 locsH5 hOH5 hzH5 hqH5 hS => ?_)
          rw [mf_33] at hOH5
          have hM := MW.obj hM hOH5 hqH5
          refine lv_aload_n hx hb dX11_comparison_36 rfl (lv_at hl 0 rfl) ?_
          refine hk_get (ref := "LightcurveHouseModel") (v := .int 2) X K hM.1 rfl iX11_comparison_X11 33 (by decide) (by decide +kernel) (fun _ h => h) rfl dX11_comparison_37 ?_
          refine lv_if_le (tgt := 45) hx hb dX11_comparison_40 (by decide) (fun c_40 => ?_) (fun c_40 => ?_)
          · exact absurd c_40 (by decide)
          · refine lv_iconst (v := 0) hx hb dX11_comparison_43 (by decide) ?_
            exact hk_iret X hr hlk hQ hS (Nat.le_of_ble_eq_true rfl) (Nat.le_of_ble_eq_true rfl) dX11_comparison_44 (mfin1 (v := 2) hM (by unfold cd_comparison; (try dsimp only); rw [if_pos c_5, if_neg c_22]) (by decide) rfl rfl agr_thr)
    · exact absurd c_8 (by decide)
  · subst hv
    refine lv_if_ne (tgt := 15) hx hb dX11_comparison_8 (by decide) (fun c_8 => ?_) (fun c_8 => ?_)
    · exact absurd rfl c_8
    · refine lv_iconst (v := 1) hx hb dX11_comparison_11 (by decide) ?_
      refine lv_goto (tgt := 33) hx hb dX11_comparison_12 (by decide) ?_
      refine hk_put (ref := "LightcurveHouseModel") X K hM.1 rfl iX11_comparison_X11 tyX11 tyX11_ok nmX11 hS hM.2.2.2.2.1 33 (by decide) (by decide +kernel) (fun _ h => h) (by decide +kernel) rfl rfl (Nat.le_of_ble_eq_true rfl) dX11_comparison_33 (fun H6 locsH6 hOH6 hzH6 hqH6 hS => ?_)
      rw [mf_33] at hOH6
      have hM := MW.obj hM hOH6 hqH6
      refine lv_aload_n hx hb dX11_comparison_36 rfl (lv_at hl 0 rfl) ?_
      refine hk_get (ref := "LightcurveHouseModel") (v := .int 1) X K hM.1 rfl iX11_comparison_X11 33 (by decide) (by decide +kernel) (fun _ h => h) rfl dX11_comparison_37 ?_
      refine lv_if_le (tgt := 45) hx hb dX11_comparison_40 (by decide) (fun c_40 => ?_) (fun c_40 => ?_)
      · exact absurd c_40 (by decide)
      · refine lv_iconst (v := 0) hx hb dX11_comparison_43 (by decide) ?_
        exact hk_iret X hr hlk hQ hS (Nat.le_of_ble_eq_true rfl) (Nat.le_of_ble_eq_true rfl) dX11_comparison_44 (mfin1 (v := 1) hM (by unfold cd_comparison; (try dsimp only); rw [if_neg c_5]) (by decide) rfl rfl agr_thr)

def cd_bias (p0 p1 : Int32) (S : mS) : Int32 := if inr p0 0 7 then (if inr p1 (-99) 99 then 0 else 2) else 1
def an_bias (p0 p1 : Int32) (S : mS) : Int32 := S.2.2 6 (ix p0)
def st_bias (p0 p1 : Int32) (S : mS) : mS := (S.1, S.2.1, va_up S.2.2 6 (upd (S.2.2 6) (ix p0) p1))
abbrev rmX11_bias : Room := { frames := 1, cells := 0, slots := 0, locals := 22 }
theorem iX11_bias_X11 : ∀ w ∈ wsX110, w ∈ wsX11_bias := by decide +kernel
set_option maxHeartbeats 4000000 in
set_option maxRecDepth 100000 in
theorem c_X11_bias (E : hk_E) (l : Launch) (H0 : Heap) {mo : Nat} {am : Nat → Nat} {Z : Nat → Prop} {cn : Nat → Nat} {sc : Nat → Int32} {μ : Nat → Nat → Int32} (hM : MW E mo am Z cn sc μ H0) (hZ : ∀ q, Z q → hk_A E q) {p0 p1 : Int32}  : hk_M E l yX11_bias wsX11_bias rmX11_bias (Z) [.ref mo, .int p0, .int p1] H0 (mpost E mo am Z (cd_bias p0 p1 (cn, sc, μ)) (an_bias p0 p1 (cn, sc, μ)) (cn, sc, μ) (st_bias p0 p1 (cn, sc, μ))) := by
  refine hk_M.ofW (cc := cX11_bias) (maxL := 4) (ret := (some .int)) (by decide +kernel) rfl (Nat.le_of_ble_eq_true rfl) ?_
  intro p e s m args below meth c ls Q hQ X hr hlk hnm K hs9 hS hl
  obtain ⟨hx, hb, hml, hown, hts⟩ := id X
  have hAE : ∀ q, (Z) q → hk_A E q := hZ
  have hl : lv_has ls 4 [(0, .ref mo), (1, .int p0), (2, .int p1)] := hl
  refine lv_aload_n hx hb dX11_bias_0 rfl (lv_at hl 0 rfl) ?_
  refine lv_iload_n hx hb dX11_bias_1 rfl (lv_at hl 1 rfl) ?_
  refine lv_iconst (v := 0) hx hb dX11_bias_2 (by decide) ?_
  refine lv_bipush (v := 7) hx hb dX11_bias_3 (by decide) ?_
  refine hk_callS 3 (As := [.int p0, .int 0, .int 7]) (rest := [.ref mo]) X K hAE hS hl.1 (c_X11_in E l H0 (a := p0) (lo := 0) (hi := 7)) (fun _ h => h.elim) gX11_bias_X11_in rfl hd_X11_in rfl ⟨⟨(Nat.le_of_ble_eq_true rfl), (Nat.le_of_ble_eq_true rfl)⟩, (Nat.le_of_ble_eq_true rfl), (Nat.le_of_ble_eq_true rfl)⟩ rfl (Nat.le_of_ble_eq_true rfl) dX11_bias_5 (fun v9 H1 locsH1 hp hS hzH1 hkH1 => ?_)
  obtain ⟨hv, hh⟩ := hp
  subst hh
  rcases hv with ⟨hv, c_5⟩ | ⟨hv, c_5⟩
  · subst hv
    refine lv_if_ne (tgt := 15) hx hb dX11_bias_8 (by decide) (fun c_8 => ?_) (fun c_8 => ?_)
    · refine lv_iload_n hx hb dX11_bias_15 rfl (lv_at hl 2 rfl) ?_
      refine lv_bipush (v := (-99)) hx hb dX11_bias_16 (by decide) ?_
      refine lv_bipush (v := 99) hx hb dX11_bias_18 (by decide) ?_
      refine hk_callS 3 (As := [.int p1, .int (-99), .int 99]) (rest := [.ref mo]) X K hAE hS hl.1 (c_X11_in E l H0 (a := p1) (lo := (-99)) (hi := 99)) (fun _ h => h.elim) gX11_bias_X11_in rfl hd_X11_in rfl ⟨⟨(Nat.le_of_ble_eq_true rfl), (Nat.le_of_ble_eq_true rfl)⟩, (Nat.le_of_ble_eq_true rfl), (Nat.le_of_ble_eq_true rfl)⟩ rfl (Nat.le_of_ble_eq_true rfl) dX11_bias_20 (fun v9 H2 locsH2 hp hS hzH2 hkH2 => ?_)
      obtain ⟨hv, hh⟩ := hp
      subst hh
      rcases hv with ⟨hv, c_20⟩ | ⟨hv, c_20⟩
      · subst hv
        refine lv_if_ne (tgt := 30) hx hb dX11_bias_23 (by decide) (fun c_23 => ?_) (fun c_23 => ?_)
        · refine lv_iconst (v := 0) hx hb dX11_bias_30 (by decide) ?_
          refine hk_put (ref := "LightcurveHouseModel") X K hM.1 rfl iX11_bias_X11 tyX11 tyX11_ok nmX11 hS hM.2.2.2.2.1 33 (by decide) (by decide +kernel) (fun _ h => h) (by decide +kernel) rfl rfl (Nat.le_of_ble_eq_true rfl) dX11_bias_31 (fun H3 locsH3 hOH3 hzH3 hqH3 hS => ?_)
          rw [mf_33] at hOH3
          have hM := MW.obj hM hOH3 hqH3
          refine lv_aload_n hx hb dX11_bias_34 rfl (lv_at hl 0 rfl) ?_
          refine hk_get (ref := "LightcurveHouseModel") (v := .int 0) X K hM.1 rfl iX11_bias_X11 33 (by decide) (by decide +kernel) (fun _ h => h) rfl dX11_bias_35 ?_
          refine lv_if_le (tgt := 43) hx hb dX11_bias_38 (by decide) (fun c_38 => ?_) (fun c_38 => ?_)
          · refine lv_aload_n hx hb dX11_bias_43 rfl (lv_at hl 0 rfl) ?_
            refine hk_get (ref := "LightcurveHouseModel") (v := .ref (am 6)) X K hM.1 rfl iX11_bias_X11 6 (by decide) (by decide +kernel) (fun _ h => h) rfl dX11_bias_44 ?_
            refine lv_iload_n hx hb dX11_bias_47 rfl (lv_at hl 1 rfl) ?_
            refine hk_ild X K hM.a6 (vp_inr 7 (by decide) c_5) dX11_bias_48 ?_
            refine lv_istore_n (lv' := [(3, .int ((μ 6) p0.toNatClampNeg)), (0, .ref mo), (1, .int p0), (2, .int p1)]) hx hb dX11_bias_49 rfl hl (by decide) rfl (fun ls hl => ?_)
            refine lv_aload_n hx hb dX11_bias_50 rfl (lv_at hl 1 rfl) ?_
            refine hk_get (ref := "LightcurveHouseModel") (v := .ref (am 6)) X K hM.1 rfl iX11_bias_X11 6 (by decide) (by decide +kernel) (fun _ h => h) rfl dX11_bias_51 ?_
            refine lv_iload_n hx hb dX11_bias_54 rfl (lv_at hl 2 rfl) ?_
            refine lv_iload_n hx hb dX11_bias_55 rfl (lv_at hl 3 rfl) ?_
            refine hk_ist X K hM.a6 hS (hM.2.2.2.2.2 6 (by decide)) (vp_inr 7 (by decide) c_5) dX11_bias_56 (fun H4 locsH4 hIH4 hzH4 hqH4 hS => ?_)
            have hM := MW.set hM 6 (by decide) hIH4 hqH4
            refine lv_iload_n hx hb dX11_bias_57 rfl (lv_at hl 0 rfl) ?_
            exact hk_iret X hr hlk hQ hS (Nat.le_of_ble_eq_true rfl) (Nat.le_of_ble_eq_true rfl) dX11_bias_58 (mfin0 hM (by unfold cd_bias; (try dsimp only); rw [if_pos c_5, if_pos c_20]) rfl rfl agr_thr)
          · exact absurd (by decide) c_38
        · exact absurd c_23 (by decide)
      · subst hv
        refine lv_if_ne (tgt := 30) hx hb dX11_bias_23 (by decide) (fun c_23 => ?_) (fun c_23 => ?_)
        · exact absurd rfl c_23
        · refine lv_iconst (v := 2) hx hb dX11_bias_26 (by decide) ?_
          refine lv_goto (tgt := 31) hx hb dX11_bias_27 (by decide) ?_
          refine hk_put (ref := "LightcurveHouseModel") X K hM.1 rfl iX11_bias_X11 tyX11 tyX11_ok nmX11 hS hM.2.2.2.2.1 33 (by decide) (by decide +kernel) (fun _ h => h) (by decide +kernel) rfl rfl (Nat.le_of_ble_eq_true rfl) dX11_bias_31 (fun H5 locsH5 hOH5 hzH5 hqH5 hS => ?_)
          rw [mf_33] at hOH5
          have hM := MW.obj hM hOH5 hqH5
          refine lv_aload_n hx hb dX11_bias_34 rfl (lv_at hl 0 rfl) ?_
          refine hk_get (ref := "LightcurveHouseModel") (v := .int 2) X K hM.1 rfl iX11_bias_X11 33 (by decide) (by decide +kernel) (fun _ h => h) rfl dX11_bias_35 ?_
          refine lv_if_le (tgt := 43) hx hb dX11_bias_38 (by decide) (fun c_38 => ?_) (fun c_38 => ?_)
          · exact absurd c_38 (by decide)
          · refine lv_iconst (v := 0) hx hb dX11_bias_41 (by decide) ?_
            exact hk_iret X hr hlk hQ hS (Nat.le_of_ble_eq_true rfl) (Nat.le_of_ble_eq_true rfl) dX11_bias_42 (mfin1 (v := 2) hM (by unfold cd_bias; (try dsimp only); rw [if_pos c_5, if_neg c_20]) (by decide) rfl rfl agr_thr)
    · exact absurd c_8 (by decide)
  · subst hv
    refine lv_if_ne (tgt := 15) hx hb dX11_bias_8 (by decide) (fun c_8 => ?_) (fun c_8 => ?_)
    · exact absurd rfl c_8
    · refine lv_iconst (v := 1) hx hb dX11_bias_11 (by decide) ?_
      refine lv_goto (tgt := 31) hx hb dX11_bias_12 (by decide) ?_
      refine hk_put (ref := "LightcurveHouseModel") X K hM.1 rfl iX11_bias_X11 tyX11 tyX11_ok nmX11 hS hM.2.2.2.2.1 33 (by decide) (by decide +kernel) (fun _ h => h) (by decide +kernel) rfl rfl (Nat.le_of_ble_eq_true rfl) dX11_bias_31 (fun H6 locsH6 hOH6 hzH6 hqH6 hS => ?_)
      rw [mf_33] at hOH6
      have hM := MW.obj hM hOH6 hqH6
      refine lv_aload_n hx hb dX11_bias_34 rfl (lv_at hl 0 rfl) ?_
      refine hk_get (ref := "LightcurveHouseModel") (v := .int 1) X K hM.1 rfl iX11_bias_X11 33 (by decide) (by decide +kernel) (fun _ h => h) rfl dX11_bias_35 ?_
      refine lv_if_le (tgt := 43) hx hb dX11_bias_38 (by decide) (fun c_38 => ?_) (fun c_38 => ?_)
      · exact absurd c_38 (by decide)
      · refine lv_iconst (v := 0) hx hb dX11_bias_41 (by decide) ?_
        exact hk_iret X hr hlk hQ hS (Nat.le_of_ble_eq_true rfl) (Nat.le_of_ble_eq_true rfl) dX11_bias_42 (mfin1 (v := 1) hM (by unfold cd_bias; (try dsimp only); rw [if_neg c_5]) (by decide) rfl rfl agr_thr)

def cd_clock (p0 p1 : Int32) (S : mS) : Int32 := if inr p0 0 7 then (if inr p1 (-1440) 1440 then 0 else 2) else 1
def an_clock (p0 p1 : Int32) (S : mS) : Int32 := S.2.2 7 (ix p0)
def st_clock (p0 p1 : Int32) (S : mS) : mS := (S.1, S.2.1, va_up S.2.2 7 (upd (S.2.2 7) (ix p0) p1))
abbrev rmX11_clock : Room := { frames := 1, cells := 0, slots := 0, locals := 22 }
theorem iX11_clock_X11 : ∀ w ∈ wsX110, w ∈ wsX11_clock := by decide +kernel
set_option maxHeartbeats 4000000 in
set_option maxRecDepth 100000 in
theorem c_X11_clock (E : hk_E) (l : Launch) (H0 : Heap) {mo : Nat} {am : Nat → Nat} {Z : Nat → Prop} {cn : Nat → Nat} {sc : Nat → Int32} {μ : Nat → Nat → Int32} (hM : MW E mo am Z cn sc μ H0) (hZ : ∀ q, Z q → hk_A E q) {p0 p1 : Int32}  : hk_M E l yX11_clock wsX11_clock rmX11_clock (Z) [.ref mo, .int p0, .int p1] H0 (mpost E mo am Z (cd_clock p0 p1 (cn, sc, μ)) (an_clock p0 p1 (cn, sc, μ)) (cn, sc, μ) (st_clock p0 p1 (cn, sc, μ))) := by
  refine hk_M.ofW (cc := cX11_clock) (maxL := 4) (ret := (some .int)) (by decide +kernel) rfl (Nat.le_of_ble_eq_true rfl) ?_
  intro p e s m args below meth c ls Q hQ X hr hlk hnm K hs9 hS hl
  obtain ⟨hx, hb, hml, hown, hts⟩ := id X
  have hAE : ∀ q, (Z) q → hk_A E q := hZ
  have hl : lv_has ls 4 [(0, .ref mo), (1, .int p0), (2, .int p1)] := hl
  refine lv_aload_n hx hb dX11_clock_0 rfl (lv_at hl 0 rfl) ?_
  refine lv_iload_n hx hb dX11_clock_1 rfl (lv_at hl 1 rfl) ?_
  refine lv_iconst (v := 0) hx hb dX11_clock_2 (by decide) ?_
  refine lv_bipush (v := 7) hx hb dX11_clock_3 (by decide) ?_
  refine hk_callS 3 (As := [.int p0, .int 0, .int 7]) (rest := [.ref mo]) X K hAE hS hl.1 (c_X11_in E l H0 (a := p0) (lo := 0) (hi := 7)) (fun _ h => h.elim) gX11_clock_X11_in rfl hd_X11_in rfl ⟨⟨(Nat.le_of_ble_eq_true rfl), (Nat.le_of_ble_eq_true rfl)⟩, (Nat.le_of_ble_eq_true rfl), (Nat.le_of_ble_eq_true rfl)⟩ rfl (Nat.le_of_ble_eq_true rfl) dX11_clock_5 (fun v9 H1 locsH1 hp hS hzH1 hkH1 => ?_)
  obtain ⟨hv, hh⟩ := hp
  subst hh
  rcases hv with ⟨hv, c_5⟩ | ⟨hv, c_5⟩
  · subst hv
    refine lv_if_ne (tgt := 15) hx hb dX11_clock_8 (by decide) (fun c_8 => ?_) (fun c_8 => ?_)
    · refine lv_iload_n hx hb dX11_clock_15 rfl (lv_at hl 2 rfl) ?_
      refine lv_sipush (v := (-1440)) hx hb dX11_clock_16 (by decide) ?_
      refine lv_sipush (v := 1440) hx hb dX11_clock_19 (by decide) ?_
      refine hk_callS 3 (As := [.int p1, .int (-1440), .int 1440]) (rest := [.ref mo]) X K hAE hS hl.1 (c_X11_in E l H0 (a := p1) (lo := (-1440)) (hi := 1440)) (fun _ h => h.elim) gX11_clock_X11_in rfl hd_X11_in rfl ⟨⟨(Nat.le_of_ble_eq_true rfl), (Nat.le_of_ble_eq_true rfl)⟩, (Nat.le_of_ble_eq_true rfl), (Nat.le_of_ble_eq_true rfl)⟩ rfl (Nat.le_of_ble_eq_true rfl) dX11_clock_22 (fun v9 H2 locsH2 hp hS hzH2 hkH2 => ?_)
      obtain ⟨hv, hh⟩ := hp
      subst hh
      rcases hv with ⟨hv, c_22⟩ | ⟨hv, c_22⟩
      · subst hv
        refine lv_if_ne (tgt := 32) hx hb dX11_clock_25 (by decide) (fun c_25 => ?_) (fun c_25 => ?_)
        · refine lv_iconst (v := 0) hx hb dX11_clock_32 (by decide) ?_
          refine hk_put (ref := "LightcurveHouseModel") X K hM.1 rfl iX11_clock_X11 tyX11 tyX11_ok nmX11 hS hM.2.2.2.2.1 33 (by decide) (by decide +kernel) (fun _ h => h) (by decide +kernel) rfl rfl (Nat.le_of_ble_eq_true rfl) dX11_clock_33 (fun H3 locsH3 hOH3 hzH3 hqH3 hS => ?_)
          rw [mf_33] at hOH3
          have hM := MW.obj hM hOH3 hqH3
          refine lv_aload_n hx hb dX11_clock_36 rfl (lv_at hl 0 rfl) ?_
          refine hk_get (ref := "LightcurveHouseModel") (v := .int 0) X K hM.1 rfl iX11_clock_X11 33 (by decide) (by decide +kernel) (fun _ h => h) rfl dX11_clock_37 ?_
          refine lv_if_le (tgt := 45) hx hb dX11_clock_40 (by decide) (fun c_40 => ?_) (fun c_40 => ?_)
          · refine lv_aload_n hx hb dX11_clock_45 rfl (lv_at hl 0 rfl) ?_
            refine hk_get (ref := "LightcurveHouseModel") (v := .ref (am 7)) X K hM.1 rfl iX11_clock_X11 7 (by decide) (by decide +kernel) (fun _ h => h) rfl dX11_clock_46 ?_
            refine lv_iload_n hx hb dX11_clock_49 rfl (lv_at hl 1 rfl) ?_
            refine hk_ild X K hM.a7 (vp_inr 7 (by decide) c_5) dX11_clock_50 ?_
            refine lv_istore_n (lv' := [(3, .int ((μ 7) p0.toNatClampNeg)), (0, .ref mo), (1, .int p0), (2, .int p1)]) hx hb dX11_clock_51 rfl hl (by decide) rfl (fun ls hl => ?_)
            refine lv_aload_n hx hb dX11_clock_52 rfl (lv_at hl 1 rfl) ?_
            refine hk_get (ref := "LightcurveHouseModel") (v := .ref (am 7)) X K hM.1 rfl iX11_clock_X11 7 (by decide) (by decide +kernel) (fun _ h => h) rfl dX11_clock_53 ?_
            refine lv_iload_n hx hb dX11_clock_56 rfl (lv_at hl 2 rfl) ?_
            refine lv_iload_n hx hb dX11_clock_57 rfl (lv_at hl 3 rfl) ?_
            refine hk_ist X K hM.a7 hS (hM.2.2.2.2.2 7 (by decide)) (vp_inr 7 (by decide) c_5) dX11_clock_58 (fun H4 locsH4 hIH4 hzH4 hqH4 hS => ?_)
            have hM := MW.set hM 7 (by decide) hIH4 hqH4
            refine lv_iload_n hx hb dX11_clock_59 rfl (lv_at hl 0 rfl) ?_
            exact hk_iret X hr hlk hQ hS (Nat.le_of_ble_eq_true rfl) (Nat.le_of_ble_eq_true rfl) dX11_clock_60 (mfin0 hM (by unfold cd_clock; (try dsimp only); rw [if_pos c_5, if_pos c_22]) rfl rfl agr_thr)
          · exact absurd (by decide) c_40
        · exact absurd c_25 (by decide)
      · subst hv
        refine lv_if_ne (tgt := 32) hx hb dX11_clock_25 (by decide) (fun c_25 => ?_) (fun c_25 => ?_)
        · exact absurd rfl c_25
        · refine lv_iconst (v := 2) hx hb dX11_clock_28 (by decide) ?_
          refine lv_goto (tgt := 33) hx hb dX11_clock_29 (by decide) ?_
          refine hk_put (ref := "LightcurveHouseModel") X K hM.1 rfl iX11_clock_X11 tyX11 tyX11_ok nmX11 hS hM.2.2.2.2.1 33 (by decide) (by decide +kernel) (fun _ h => h) (by decide +kernel) rfl rfl (Nat.le_of_ble_eq_true rfl) dX11_clock_33 (fun H5 locsH5 hOH5 hzH5 hqH5 hS => ?_)
          rw [mf_33] at hOH5
          have hM := MW.obj hM hOH5 hqH5
          refine lv_aload_n hx hb dX11_clock_36 rfl (lv_at hl 0 rfl) ?_
          refine hk_get (ref := "LightcurveHouseModel") (v := .int 2) X K hM.1 rfl iX11_clock_X11 33 (by decide) (by decide +kernel) (fun _ h => h) rfl dX11_clock_37 ?_
          refine lv_if_le (tgt := 45) hx hb dX11_clock_40 (by decide) (fun c_40 => ?_) (fun c_40 => ?_)
          · exact absurd c_40 (by decide)
          · refine lv_iconst (v := 0) hx hb dX11_clock_43 (by decide) ?_
            exact hk_iret X hr hlk hQ hS (Nat.le_of_ble_eq_true rfl) (Nat.le_of_ble_eq_true rfl) dX11_clock_44 (mfin1 (v := 2) hM (by unfold cd_clock; (try dsimp only); rw [if_pos c_5, if_neg c_22]) (by decide) rfl rfl agr_thr)
    · exact absurd c_8 (by decide)
  · subst hv
    refine lv_if_ne (tgt := 15) hx hb dX11_clock_8 (by decide) (fun c_8 => ?_) (fun c_8 => ?_)
    · exact absurd rfl c_8
    · refine lv_iconst (v := 1) hx hb dX11_clock_11 (by decide) ?_
      refine lv_goto (tgt := 33) hx hb dX11_clock_12 (by decide) ?_
      refine hk_put (ref := "LightcurveHouseModel") X K hM.1 rfl iX11_clock_X11 tyX11 tyX11_ok nmX11 hS hM.2.2.2.2.1 33 (by decide) (by decide +kernel) (fun _ h => h) (by decide +kernel) rfl rfl (Nat.le_of_ble_eq_true rfl) dX11_clock_33 (fun H6 locsH6 hOH6 hzH6 hqH6 hS => ?_)
      rw [mf_33] at hOH6
      have hM := MW.obj hM hOH6 hqH6
      refine lv_aload_n hx hb dX11_clock_36 rfl (lv_at hl 0 rfl) ?_
      refine hk_get (ref := "LightcurveHouseModel") (v := .int 1) X K hM.1 rfl iX11_clock_X11 33 (by decide) (by decide +kernel) (fun _ h => h) rfl dX11_clock_37 ?_
      refine lv_if_le (tgt := 45) hx hb dX11_clock_40 (by decide) (fun c_40 => ?_) (fun c_40 => ?_)
      · exact absurd c_40 (by decide)
      · refine lv_iconst (v := 0) hx hb dX11_clock_43 (by decide) ?_
        exact hk_iret X hr hlk hQ hS (Nat.le_of_ble_eq_true rfl) (Nat.le_of_ble_eq_true rfl) dX11_clock_44 (mfin1 (v := 1) hM (by unfold cd_clock; (try dsimp only); rw [if_neg c_5]) (by decide) rfl rfl agr_thr)

def cd_star (p0 : Int32) (S : mS) : Int32 := if inr p0 0 363 then (if nI (S.1 1) = 12 then 2 else 0) else 1
def an_star (p0 : Int32) (S : mS) : Int32 := nI (S.1 1)
def st_star (p0 : Int32) (S : mS) : mS := (va_up S.1 1 (S.1 1 + 1), S.2.1, va_up (va_up S.2.2 2 (upd (S.2.2 2) (S.1 1) p0)) 3 (upd (S.2.2 3) (S.1 1) (nI (S.1 1))))
abbrev rmX11_star : Room := { frames := 1, cells := 0, slots := 0, locals := 22 }
theorem iX11_star_X11 : ∀ w ∈ wsX110, w ∈ wsX11_star := by decide +kernel
set_option maxHeartbeats 4000000 in
set_option maxRecDepth 100000 in
theorem c_X11_star (E : hk_E) (l : Launch) (H0 : Heap) {mo : Nat} {am : Nat → Nat} {Z : Nat → Prop} {cn : Nat → Nat} {sc : Nat → Int32} {μ : Nat → Nat → Int32} (hM : MW E mo am Z cn sc μ H0) (hZ : ∀ q, Z q → hk_A E q) {p0 : Int32} (hns : cn 1 ≤ 12)  : hk_M E l yX11_star wsX11_star rmX11_star (Z) [.ref mo, .int p0] H0 (mpost E mo am Z (cd_star p0 (cn, sc, μ)) (an_star p0 (cn, sc, μ)) (cn, sc, μ) (st_star p0 (cn, sc, μ))) := by
  refine hk_M.ofW (cc := cX11_star) (maxL := 2) (ret := (some .int)) (by decide +kernel) rfl (Nat.le_of_ble_eq_true rfl) ?_
  intro p e s m args below meth c ls Q hQ X hr hlk hnm K hs9 hS hl
  obtain ⟨hx, hb, hml, hown, hts⟩ := id X
  have hAE : ∀ q, (Z) q → hk_A E q := hZ
  have hl : lv_has ls 2 [(0, .ref mo), (1, .int p0)] := hl
  refine lv_aload_n hx hb dX11_star_0 rfl (lv_at hl 0 rfl) ?_
  refine lv_iload_n hx hb dX11_star_1 rfl (lv_at hl 1 rfl) ?_
  refine lv_iconst (v := 0) hx hb dX11_star_2 (by decide) ?_
  refine lv_sipush (v := 363) hx hb dX11_star_3 (by decide) ?_
  refine hk_callS 3 (As := [.int p0, .int 0, .int 363]) (rest := [.ref mo]) X K hAE hS hl.1 (c_X11_in E l H0 (a := p0) (lo := 0) (hi := 363)) (fun _ h => h.elim) gX11_star_X11_in rfl hd_X11_in rfl ⟨⟨(Nat.le_of_ble_eq_true rfl), (Nat.le_of_ble_eq_true rfl)⟩, (Nat.le_of_ble_eq_true rfl), (Nat.le_of_ble_eq_true rfl)⟩ rfl (Nat.le_of_ble_eq_true rfl) dX11_star_6 (fun v9 H1 locsH1 hp hS hzH1 hkH1 => ?_)
  obtain ⟨hv, hh⟩ := hp
  subst hh
  rcases hv with ⟨hv, c_6⟩ | ⟨hv, c_6⟩
  · subst hv
    refine lv_if_ne (tgt := 16) hx hb dX11_star_9 (by decide) (fun c_9 => ?_) (fun c_9 => ?_)
    · refine lv_aload_n hx hb dX11_star_16 rfl (lv_at hl 0 rfl) ?_
      refine hk_get (ref := "LightcurveHouseModel") (v := .int (nI (cn 1))) X K hM.1 rfl iX11_star_X11 1 (by decide) (by decide +kernel) (fun _ h => h) rfl dX11_star_17 ?_
      refine lv_bipush (v := 12) hx hb dX11_star_20 (by decide) ?_
      refine lv_icmp_ne (tgt := 29) hx hb dX11_star_22 (by decide) (fun c_22 => ?_) (fun c_22 => ?_)
      · have hlt : cn 1 < 12 := Nat.lt_of_le_of_ne hns (fun h => c_22 (by rw [h]; rfl))
        refine lv_iconst (v := 0) hx hb dX11_star_29 (by decide) ?_
        refine hk_put (ref := "LightcurveHouseModel") X K hM.1 rfl iX11_star_X11 tyX11 tyX11_ok nmX11 hS hM.2.2.2.2.1 33 (by decide) (by decide +kernel) (fun _ h => h) (by decide +kernel) rfl rfl (Nat.le_of_ble_eq_true rfl) dX11_star_30 (fun H2 locsH2 hOH2 hzH2 hqH2 hS => ?_)
        rw [mf_33] at hOH2
        have hM := MW.obj hM hOH2 hqH2
        refine lv_aload_n hx hb dX11_star_33 rfl (lv_at hl 0 rfl) ?_
        refine hk_get (ref := "LightcurveHouseModel") (v := .int 0) X K hM.1 rfl iX11_star_X11 33 (by decide) (by decide +kernel) (fun _ h => h) rfl dX11_star_34 ?_
        refine lv_if_le (tgt := 42) hx hb dX11_star_37 (by decide) (fun c_37 => ?_) (fun c_37 => ?_)
        · refine lv_aload_n hx hb dX11_star_42 rfl (lv_at hl 0 rfl) ?_
          refine hk_get (ref := "LightcurveHouseModel") (v := .ref (am 2)) X K hM.1 rfl iX11_star_X11 2 (by decide) (by decide +kernel) (fun _ h => h) rfl dX11_star_43 ?_
          refine lv_aload_n hx hb dX11_star_46 rfl (lv_at hl 0 rfl) ?_
          refine hk_get (ref := "LightcurveHouseModel") (v := .int (nI (cn 1))) X K hM.1 rfl iX11_star_X11 1 (by decide) (by decide +kernel) (fun _ h => h) rfl dX11_star_47 ?_
          refine lv_iload_n hx hb dX11_star_50 rfl (lv_at hl 1 rfl) ?_
          refine hk_ist X K hM.a2 hS (hM.2.2.2.2.2 2 (by decide)) (vp_in_nI (by omega) (by omega)) dX11_star_51 (fun H3 locsH3 hIH3 hzH3 hqH3 hS => ?_)
          rw [show (nI (cn 1)).toNatClampNeg = (cn 1) from nI_clamp (by omega)] at hIH3
          have hM := MW.set hM 2 (by decide) hIH3 hqH3
          refine lv_aload_n hx hb dX11_star_52 rfl (lv_at hl 0 rfl) ?_
          refine hk_get (ref := "LightcurveHouseModel") (v := .ref (am 3)) X K hM.1 rfl iX11_star_X11 3 (by decide) (by decide +kernel) (fun _ h => h) rfl dX11_star_53 ?_
          refine lv_aload_n hx hb dX11_star_56 rfl (lv_at hl 0 rfl) ?_
          refine hk_get (ref := "LightcurveHouseModel") (v := .int (nI (cn 1))) X K hM.1 rfl iX11_star_X11 1 (by decide) (by decide +kernel) (fun _ h => h) rfl dX11_star_57 ?_
          refine lv_aload_n hx hb dX11_star_60 rfl (lv_at hl 0 rfl) ?_
          refine hk_get (ref := "LightcurveHouseModel") (v := .int (nI (cn 1))) X K hM.1 rfl iX11_star_X11 1 (by decide) (by decide +kernel) (fun _ h => h) rfl dX11_star_61 ?_
          refine hk_ist X K hM.a3 hS (hM.2.2.2.2.2 3 (by decide)) (vp_in_nI (by omega) (by omega)) dX11_star_64 (fun H4 locsH4 hIH4 hzH4 hqH4 hS => ?_)
          rw [show (nI (cn 1)).toNatClampNeg = (cn 1) from nI_clamp (by omega)] at hIH4
          have hM := MW.set hM 3 (by decide) hIH4 hqH4
          refine lv_aload_n hx hb dX11_star_65 rfl (lv_at hl 0 rfl) ?_
          refine lv_dup hx hb dX11_star_66 rfl ?_
          refine hk_get (ref := "LightcurveHouseModel") (v := .int (nI (cn 1))) X K hM.1 rfl iX11_star_X11 1 (by decide) (by decide +kernel) (fun _ h => h) rfl dX11_star_67 ?_
          refine lv_iconst (v := 1) hx hb dX11_star_70 (by decide) ?_
          refine lv_iadd hx hb dX11_star_71 ?_
          refine lv_topi (fun qa eqa => ?_)
          rw [nI_1] at eqa
          subst eqa
          refine hk_put (ref := "LightcurveHouseModel") X K hM.1 rfl iX11_star_X11 tyX11 tyX11_ok nmX11 hS hM.2.2.2.2.1 1 (by decide) (by decide +kernel) (fun _ h => h) (by decide +kernel) rfl rfl (Nat.le_of_ble_eq_true rfl) dX11_star_72 (fun H5 locsH5 hOH5 hzH5 hqH5 hS => ?_)
          rw [mf_1] at hOH5
          have hM := MW.obj hM hOH5 hqH5
          refine lv_aload_n hx hb dX11_star_75 rfl (lv_at hl 0 rfl) ?_
          refine hk_get (ref := "LightcurveHouseModel") (v := .int (nI (cn 1 + 1))) X K hM.1 rfl iX11_star_X11 1 (by decide) (by decide +kernel) (fun _ h => h) rfl dX11_star_76 ?_
          refine lv_iconst (v := 1) hx hb dX11_star_79 (by decide) ?_
          refine lv_isub hx hb dX11_star_80 ?_
          refine lv_topi (fun qb eqb => ?_)
          rw [nI_pred] at eqb
          subst eqb
          exact hk_iret X hr hlk hQ hS (Nat.le_of_ble_eq_true rfl) (Nat.le_of_ble_eq_true rfl) dX11_star_81 (mfin0 hM (by unfold cd_star; (try dsimp only); rw [if_pos c_6, if_neg c_22]) rfl rfl agr_thr)
        · exact absurd (by decide) c_37
      · refine lv_iconst (v := 2) hx hb dX11_star_25 (by decide) ?_
        refine lv_goto (tgt := 30) hx hb dX11_star_26 (by decide) ?_
        refine hk_put (ref := "LightcurveHouseModel") X K hM.1 rfl iX11_star_X11 tyX11 tyX11_ok nmX11 hS hM.2.2.2.2.1 33 (by decide) (by decide +kernel) (fun _ h => h) (by decide +kernel) rfl rfl (Nat.le_of_ble_eq_true rfl) dX11_star_30 (fun H6 locsH6 hOH6 hzH6 hqH6 hS => ?_)
        rw [mf_33] at hOH6
        have hM := MW.obj hM hOH6 hqH6
        refine lv_aload_n hx hb dX11_star_33 rfl (lv_at hl 0 rfl) ?_
        refine hk_get (ref := "LightcurveHouseModel") (v := .int 2) X K hM.1 rfl iX11_star_X11 33 (by decide) (by decide +kernel) (fun _ h => h) rfl dX11_star_34 ?_
        refine lv_if_le (tgt := 42) hx hb dX11_star_37 (by decide) (fun c_37 => ?_) (fun c_37 => ?_)
        · exact absurd c_37 (by decide)
        · refine lv_iconst (v := 0) hx hb dX11_star_40 (by decide) ?_
          exact hk_iret X hr hlk hQ hS (Nat.le_of_ble_eq_true rfl) (Nat.le_of_ble_eq_true rfl) dX11_star_41 (mfin1 (v := 2) hM (by unfold cd_star; (try dsimp only); rw [if_pos c_6, if_pos c_22]) (by decide) rfl rfl agr_thr)
    · exact absurd c_9 (by decide)
  · subst hv
    refine lv_if_ne (tgt := 16) hx hb dX11_star_9 (by decide) (fun c_9 => ?_) (fun c_9 => ?_)
    · exact absurd rfl c_9
    · refine lv_iconst (v := 1) hx hb dX11_star_12 (by decide) ?_
      refine lv_goto (tgt := 30) hx hb dX11_star_13 (by decide) ?_
      refine hk_put (ref := "LightcurveHouseModel") X K hM.1 rfl iX11_star_X11 tyX11 tyX11_ok nmX11 hS hM.2.2.2.2.1 33 (by decide) (by decide +kernel) (fun _ h => h) (by decide +kernel) rfl rfl (Nat.le_of_ble_eq_true rfl) dX11_star_30 (fun H7 locsH7 hOH7 hzH7 hqH7 hS => ?_)
      rw [mf_33] at hOH7
      have hM := MW.obj hM hOH7 hqH7
      refine lv_aload_n hx hb dX11_star_33 rfl (lv_at hl 0 rfl) ?_
      refine hk_get (ref := "LightcurveHouseModel") (v := .int 1) X K hM.1 rfl iX11_star_X11 33 (by decide) (by decide +kernel) (fun _ h => h) rfl dX11_star_34 ?_
      refine lv_if_le (tgt := 42) hx hb dX11_star_37 (by decide) (fun c_37 => ?_) (fun c_37 => ?_)
      · exact absurd c_37 (by decide)
      · refine lv_iconst (v := 0) hx hb dX11_star_40 (by decide) ?_
        exact hk_iret X hr hlk hQ hS (Nat.le_of_ble_eq_true rfl) (Nat.le_of_ble_eq_true rfl) dX11_star_41 (mfin1 (v := 1) hM (by unfold cd_star; (try dsimp only); rw [if_neg c_6]) (by decide) rfl rfl agr_thr)

def cd_plate (p0 p1 p2 : Int32) (S : mS) : Int32 := if inr p0 0 9999999 then (if inr p1 (-500) 3000 then (if inr p2 1 20 then (if nI (S.1 8) = 8 then 2 else 0) else 1) else 1) else 1
def an_plate (p0 p1 p2 : Int32) (S : mS) : Int32 := nI (S.1 8)
def st_plate (p0 p1 p2 : Int32) (S : mS) : mS := (va_up S.1 8 (S.1 8 + 1), S.2.1, va_up (va_up (va_up S.2.2 9 (upd (S.2.2 9) (S.1 8) p0)) 10 (upd (S.2.2 10) (S.1 8) p1)) 11 (upd (S.2.2 11) (S.1 8) p2))
abbrev rmX11_plate : Room := { frames := 1, cells := 0, slots := 0, locals := 22 }
theorem iX11_plate_X11 : ∀ w ∈ wsX110, w ∈ wsX11_plate := by decide +kernel
set_option maxHeartbeats 4000000 in
set_option maxRecDepth 100000 in
theorem c_X11_plate (E : hk_E) (l : Launch) (H0 : Heap) {mo : Nat} {am : Nat → Nat} {Z : Nat → Prop} {cn : Nat → Nat} {sc : Nat → Int32} {μ : Nat → Nat → Int32} (hM : MW E mo am Z cn sc μ H0) (hZ : ∀ q, Z q → hk_A E q) {p0 p1 p2 : Int32} (hnp : cn 8 ≤ 8)  : hk_M E l yX11_plate wsX11_plate rmX11_plate (Z) [.ref mo, .int p0, .int p1, .int p2] H0 (mpost E mo am Z (cd_plate p0 p1 p2 (cn, sc, μ)) (an_plate p0 p1 p2 (cn, sc, μ)) (cn, sc, μ) (st_plate p0 p1 p2 (cn, sc, μ))) := by
  refine hk_M.ofW (cc := cX11_plate) (maxL := 4) (ret := (some .int)) (by decide +kernel) rfl (Nat.le_of_ble_eq_true rfl) ?_
  intro p e s m args below meth c ls Q hQ X hr hlk hnm K hs9 hS hl
  obtain ⟨hx, hb, hml, hown, hts⟩ := id X
  have hAE : ∀ q, (Z) q → hk_A E q := hZ
  have hl : lv_has ls 4 [(0, .ref mo), (1, .int p0), (2, .int p1), (3, .int p2)] := hl
  refine lv_aload_n hx hb dX11_plate_0 rfl (lv_at hl 0 rfl) ?_
  refine lv_iload_n hx hb dX11_plate_1 rfl (lv_at hl 1 rfl) ?_
  refine lv_iconst (v := 0) hx hb dX11_plate_2 (by decide) ?_
  refine lv_ldc hx hb hown (hts (.constant RX11 122 (9999999)) (by decide +kernel)) dX11_plate_3 ?_
  refine hk_callS 3 (As := [.int p0, .int 0, .int 9999999]) (rest := [.ref mo]) X K hAE hS hl.1 (c_X11_in E l H0 (a := p0) (lo := 0) (hi := 9999999)) (fun _ h => h.elim) gX11_plate_X11_in rfl hd_X11_in rfl ⟨⟨(Nat.le_of_ble_eq_true rfl), (Nat.le_of_ble_eq_true rfl)⟩, (Nat.le_of_ble_eq_true rfl), (Nat.le_of_ble_eq_true rfl)⟩ rfl (Nat.le_of_ble_eq_true rfl) dX11_plate_5 (fun v9 H1 locsH1 hp hS hzH1 hkH1 => ?_)
  obtain ⟨hv, hh⟩ := hp
  subst hh
  rcases hv with ⟨hv, c_5⟩ | ⟨hv, c_5⟩
  · subst hv
    refine lv_if_eq (tgt := 34) hx hb dX11_plate_8 (by decide) (fun c_8 => ?_) (fun c_8 => ?_)
    · exact absurd c_8 (by decide)
    · refine lv_iload_n hx hb dX11_plate_11 rfl (lv_at hl 2 rfl) ?_
      refine lv_sipush (v := (-500)) hx hb dX11_plate_12 (by decide) ?_
      refine lv_sipush (v := 3000) hx hb dX11_plate_15 (by decide) ?_
      refine hk_callS 3 (As := [.int p1, .int (-500), .int 3000]) (rest := [.ref mo]) X K hAE hS hl.1 (c_X11_in E l H0 (a := p1) (lo := (-500)) (hi := 3000)) (fun _ h => h.elim) gX11_plate_X11_in rfl hd_X11_in rfl ⟨⟨(Nat.le_of_ble_eq_true rfl), (Nat.le_of_ble_eq_true rfl)⟩, (Nat.le_of_ble_eq_true rfl), (Nat.le_of_ble_eq_true rfl)⟩ rfl (Nat.le_of_ble_eq_true rfl) dX11_plate_18 (fun v9 H2 locsH2 hp hS hzH2 hkH2 => ?_)
      obtain ⟨hv, hh⟩ := hp
      subst hh
      rcases hv with ⟨hv, c_18⟩ | ⟨hv, c_18⟩
      · subst hv
        refine lv_if_eq (tgt := 34) hx hb dX11_plate_21 (by decide) (fun c_21 => ?_) (fun c_21 => ?_)
        · exact absurd c_21 (by decide)
        · refine lv_iload_n hx hb dX11_plate_24 rfl (lv_at hl 3 rfl) ?_
          refine lv_iconst (v := 1) hx hb dX11_plate_25 (by decide) ?_
          refine lv_bipush (v := 20) hx hb dX11_plate_26 (by decide) ?_
          refine hk_callS 3 (As := [.int p2, .int 1, .int 20]) (rest := [.ref mo]) X K hAE hS hl.1 (c_X11_in E l H0 (a := p2) (lo := 1) (hi := 20)) (fun _ h => h.elim) gX11_plate_X11_in rfl hd_X11_in rfl ⟨⟨(Nat.le_of_ble_eq_true rfl), (Nat.le_of_ble_eq_true rfl)⟩, (Nat.le_of_ble_eq_true rfl), (Nat.le_of_ble_eq_true rfl)⟩ rfl (Nat.le_of_ble_eq_true rfl) dX11_plate_28 (fun v9 H3 locsH3 hp hS hzH3 hkH3 => ?_)
          obtain ⟨hv, hh⟩ := hp
          subst hh
          rcases hv with ⟨hv, c_28⟩ | ⟨hv, c_28⟩
          · subst hv
            refine lv_if_ne (tgt := 38) hx hb dX11_plate_31 (by decide) (fun c_31 => ?_) (fun c_31 => ?_)
            · refine lv_aload_n hx hb dX11_plate_38 rfl (lv_at hl 0 rfl) ?_
              refine hk_get (ref := "LightcurveHouseModel") (v := .int (nI (cn 8))) X K hM.1 rfl iX11_plate_X11 8 (by decide) (by decide +kernel) (fun _ h => h) rfl dX11_plate_39 ?_
              refine lv_bipush (v := 8) hx hb dX11_plate_42 (by decide) ?_
              refine lv_icmp_ne (tgt := 51) hx hb dX11_plate_44 (by decide) (fun c_44 => ?_) (fun c_44 => ?_)
              · have hlt : cn 8 < 8 := Nat.lt_of_le_of_ne hnp (fun h => c_44 (by rw [h]; rfl))
                refine lv_iconst (v := 0) hx hb dX11_plate_51 (by decide) ?_
                refine hk_put (ref := "LightcurveHouseModel") X K hM.1 rfl iX11_plate_X11 tyX11 tyX11_ok nmX11 hS hM.2.2.2.2.1 33 (by decide) (by decide +kernel) (fun _ h => h) (by decide +kernel) rfl rfl (Nat.le_of_ble_eq_true rfl) dX11_plate_52 (fun H4 locsH4 hOH4 hzH4 hqH4 hS => ?_)
                rw [mf_33] at hOH4
                have hM := MW.obj hM hOH4 hqH4
                refine lv_aload_n hx hb dX11_plate_55 rfl (lv_at hl 0 rfl) ?_
                refine hk_get (ref := "LightcurveHouseModel") (v := .int 0) X K hM.1 rfl iX11_plate_X11 33 (by decide) (by decide +kernel) (fun _ h => h) rfl dX11_plate_56 ?_
                refine lv_if_le (tgt := 64) hx hb dX11_plate_59 (by decide) (fun c_59 => ?_) (fun c_59 => ?_)
                · refine lv_aload_n hx hb dX11_plate_64 rfl (lv_at hl 0 rfl) ?_
                  refine hk_get (ref := "LightcurveHouseModel") (v := .ref (am 9)) X K hM.1 rfl iX11_plate_X11 9 (by decide) (by decide +kernel) (fun _ h => h) rfl dX11_plate_65 ?_
                  refine lv_aload_n hx hb dX11_plate_68 rfl (lv_at hl 0 rfl) ?_
                  refine hk_get (ref := "LightcurveHouseModel") (v := .int (nI (cn 8))) X K hM.1 rfl iX11_plate_X11 8 (by decide) (by decide +kernel) (fun _ h => h) rfl dX11_plate_69 ?_
                  refine lv_iload_n hx hb dX11_plate_72 rfl (lv_at hl 1 rfl) ?_
                  refine hk_ist X K hM.a9 hS (hM.2.2.2.2.2 9 (by decide)) (vp_in_nI (by omega) (by omega)) dX11_plate_73 (fun H5 locsH5 hIH5 hzH5 hqH5 hS => ?_)
                  rw [show (nI (cn 8)).toNatClampNeg = (cn 8) from nI_clamp (by omega)] at hIH5
                  have hM := MW.set hM 9 (by decide) hIH5 hqH5
                  refine lv_aload_n hx hb dX11_plate_74 rfl (lv_at hl 0 rfl) ?_
                  refine hk_get (ref := "LightcurveHouseModel") (v := .ref (am 10)) X K hM.1 rfl iX11_plate_X11 10 (by decide) (by decide +kernel) (fun _ h => h) rfl dX11_plate_75 ?_
                  refine lv_aload_n hx hb dX11_plate_78 rfl (lv_at hl 0 rfl) ?_
                  refine hk_get (ref := "LightcurveHouseModel") (v := .int (nI (cn 8))) X K hM.1 rfl iX11_plate_X11 8 (by decide) (by decide +kernel) (fun _ h => h) rfl dX11_plate_79 ?_
                  refine lv_iload_n hx hb dX11_plate_82 rfl (lv_at hl 2 rfl) ?_
                  refine hk_ist X K hM.a10 hS (hM.2.2.2.2.2 10 (by decide)) (vp_in_nI (by omega) (by omega)) dX11_plate_83 (fun H6 locsH6 hIH6 hzH6 hqH6 hS => ?_)
                  rw [show (nI (cn 8)).toNatClampNeg = (cn 8) from nI_clamp (by omega)] at hIH6
                  have hM := MW.set hM 10 (by decide) hIH6 hqH6
                  refine lv_aload_n hx hb dX11_plate_84 rfl (lv_at hl 0 rfl) ?_
                  refine hk_get (ref := "LightcurveHouseModel") (v := .ref (am 11)) X K hM.1 rfl iX11_plate_X11 11 (by decide) (by decide +kernel) (fun _ h => h) rfl dX11_plate_85 ?_
                  refine lv_aload_n hx hb dX11_plate_88 rfl (lv_at hl 0 rfl) ?_
                  refine hk_get (ref := "LightcurveHouseModel") (v := .int (nI (cn 8))) X K hM.1 rfl iX11_plate_X11 8 (by decide) (by decide +kernel) (fun _ h => h) rfl dX11_plate_89 ?_
                  refine lv_iload_n hx hb dX11_plate_92 rfl (lv_at hl 3 rfl) ?_
                  refine hk_ist X K hM.a11 hS (hM.2.2.2.2.2 11 (by decide)) (vp_in_nI (by omega) (by omega)) dX11_plate_93 (fun H7 locsH7 hIH7 hzH7 hqH7 hS => ?_)
                  rw [show (nI (cn 8)).toNatClampNeg = (cn 8) from nI_clamp (by omega)] at hIH7
                  have hM := MW.set hM 11 (by decide) hIH7 hqH7
                  refine lv_aload_n hx hb dX11_plate_94 rfl (lv_at hl 0 rfl) ?_
                  refine lv_dup hx hb dX11_plate_95 rfl ?_
                  refine hk_get (ref := "LightcurveHouseModel") (v := .int (nI (cn 8))) X K hM.1 rfl iX11_plate_X11 8 (by decide) (by decide +kernel) (fun _ h => h) rfl dX11_plate_96 ?_
                  refine lv_iconst (v := 1) hx hb dX11_plate_99 (by decide) ?_
                  refine lv_iadd hx hb dX11_plate_100 ?_
                  refine lv_topi (fun qa eqa => ?_)
                  rw [nI_1] at eqa
                  subst eqa
                  refine hk_put (ref := "LightcurveHouseModel") X K hM.1 rfl iX11_plate_X11 tyX11 tyX11_ok nmX11 hS hM.2.2.2.2.1 8 (by decide) (by decide +kernel) (fun _ h => h) (by decide +kernel) rfl rfl (Nat.le_of_ble_eq_true rfl) dX11_plate_101 (fun H8 locsH8 hOH8 hzH8 hqH8 hS => ?_)
                  rw [mf_8] at hOH8
                  have hM := MW.obj hM hOH8 hqH8
                  refine lv_aload_n hx hb dX11_plate_104 rfl (lv_at hl 0 rfl) ?_
                  refine hk_get (ref := "LightcurveHouseModel") (v := .int (nI (cn 8 + 1))) X K hM.1 rfl iX11_plate_X11 8 (by decide) (by decide +kernel) (fun _ h => h) rfl dX11_plate_105 ?_
                  refine lv_iconst (v := 1) hx hb dX11_plate_108 (by decide) ?_
                  refine lv_isub hx hb dX11_plate_109 ?_
                  refine lv_topi (fun qb eqb => ?_)
                  rw [nI_pred] at eqb
                  subst eqb
                  exact hk_iret X hr hlk hQ hS (Nat.le_of_ble_eq_true rfl) (Nat.le_of_ble_eq_true rfl) dX11_plate_110 (mfin0 hM (by unfold cd_plate; (try dsimp only); rw [if_pos c_5, if_pos c_18, if_pos c_28, if_neg c_44]) rfl rfl agr_thr)
                · exact absurd (by decide) c_59
              · refine lv_iconst (v := 2) hx hb dX11_plate_47 (by decide) ?_
                refine lv_goto (tgt := 52) hx hb dX11_plate_48 (by decide) ?_
                refine hk_put (ref := "LightcurveHouseModel") X K hM.1 rfl iX11_plate_X11 tyX11 tyX11_ok nmX11 hS hM.2.2.2.2.1 33 (by decide) (by decide +kernel) (fun _ h => h) (by decide +kernel) rfl rfl (Nat.le_of_ble_eq_true rfl) dX11_plate_52 (fun H9 locsH9 hOH9 hzH9 hqH9 hS => ?_)
                rw [mf_33] at hOH9
                have hM := MW.obj hM hOH9 hqH9
                refine lv_aload_n hx hb dX11_plate_55 rfl (lv_at hl 0 rfl) ?_
                refine hk_get (ref := "LightcurveHouseModel") (v := .int 2) X K hM.1 rfl iX11_plate_X11 33 (by decide) (by decide +kernel) (fun _ h => h) rfl dX11_plate_56 ?_
                refine lv_if_le (tgt := 64) hx hb dX11_plate_59 (by decide) (fun c_59 => ?_) (fun c_59 => ?_)
                · exact absurd c_59 (by decide)
                · refine lv_iconst (v := 0) hx hb dX11_plate_62 (by decide) ?_
                  exact hk_iret X hr hlk hQ hS (Nat.le_of_ble_eq_true rfl) (Nat.le_of_ble_eq_true rfl) dX11_plate_63 (mfin1 (v := 2) hM (by unfold cd_plate; (try dsimp only); rw [if_pos c_5, if_pos c_18, if_pos c_28, if_pos c_44]) (by decide) rfl rfl agr_thr)
            · exact absurd c_31 (by decide)
          · subst hv
            refine lv_if_ne (tgt := 38) hx hb dX11_plate_31 (by decide) (fun c_31 => ?_) (fun c_31 => ?_)
            · exact absurd rfl c_31
            · refine lv_iconst (v := 1) hx hb dX11_plate_34 (by decide) ?_
              refine lv_goto (tgt := 52) hx hb dX11_plate_35 (by decide) ?_
              refine hk_put (ref := "LightcurveHouseModel") X K hM.1 rfl iX11_plate_X11 tyX11 tyX11_ok nmX11 hS hM.2.2.2.2.1 33 (by decide) (by decide +kernel) (fun _ h => h) (by decide +kernel) rfl rfl (Nat.le_of_ble_eq_true rfl) dX11_plate_52 (fun H10 locsH10 hOH10 hzH10 hqH10 hS => ?_)
              rw [mf_33] at hOH10
              have hM := MW.obj hM hOH10 hqH10
              refine lv_aload_n hx hb dX11_plate_55 rfl (lv_at hl 0 rfl) ?_
              refine hk_get (ref := "LightcurveHouseModel") (v := .int 1) X K hM.1 rfl iX11_plate_X11 33 (by decide) (by decide +kernel) (fun _ h => h) rfl dX11_plate_56 ?_
              refine lv_if_le (tgt := 64) hx hb dX11_plate_59 (by decide) (fun c_59 => ?_) (fun c_59 => ?_)
              · exact absurd c_59 (by decide)
              · refine lv_iconst (v := 0) hx hb dX11_plate_62 (by decide) ?_
                exact hk_iret X hr hlk hQ hS (Nat.le_of_ble_eq_true rfl) (Nat.le_of_ble_eq_true rfl) dX11_plate_63 (mfin1 (v := 1) hM (by unfold cd_plate; (try dsimp only); rw [if_pos c_5, if_pos c_18, if_neg c_28]) (by decide) rfl rfl agr_thr)
      · subst hv
        refine lv_if_eq (tgt := 34) hx hb dX11_plate_21 (by decide) (fun c_21 => ?_) (fun c_21 => ?_)
        · refine lv_iconst (v := 1) hx hb dX11_plate_34 (by decide) ?_
          refine lv_goto (tgt := 52) hx hb dX11_plate_35 (by decide) ?_
          refine hk_put (ref := "LightcurveHouseModel") X K hM.1 rfl iX11_plate_X11 tyX11 tyX11_ok nmX11 hS hM.2.2.2.2.1 33 (by decide) (by decide +kernel) (fun _ h => h) (by decide +kernel) rfl rfl (Nat.le_of_ble_eq_true rfl) dX11_plate_52 (fun H11 locsH11 hOH11 hzH11 hqH11 hS => ?_)
          rw [mf_33] at hOH11
          have hM := MW.obj hM hOH11 hqH11
          refine lv_aload_n hx hb dX11_plate_55 rfl (lv_at hl 0 rfl) ?_
          refine hk_get (ref := "LightcurveHouseModel") (v := .int 1) X K hM.1 rfl iX11_plate_X11 33 (by decide) (by decide +kernel) (fun _ h => h) rfl dX11_plate_56 ?_
          refine lv_if_le (tgt := 64) hx hb dX11_plate_59 (by decide) (fun c_59 => ?_) (fun c_59 => ?_)
          · exact absurd c_59 (by decide)
          · refine lv_iconst (v := 0) hx hb dX11_plate_62 (by decide) ?_
            exact hk_iret X hr hlk hQ hS (Nat.le_of_ble_eq_true rfl) (Nat.le_of_ble_eq_true rfl) dX11_plate_63 (mfin1 (v := 1) hM (by unfold cd_plate; (try dsimp only); rw [if_pos c_5, if_neg c_18]) (by decide) rfl rfl agr_thr)
        · exact absurd (by decide) c_21
  · subst hv
    refine lv_if_eq (tgt := 34) hx hb dX11_plate_8 (by decide) (fun c_8 => ?_) (fun c_8 => ?_)
    · refine lv_iconst (v := 1) hx hb dX11_plate_34 (by decide) ?_
      refine lv_goto (tgt := 52) hx hb dX11_plate_35 (by decide) ?_
      refine hk_put (ref := "LightcurveHouseModel") X K hM.1 rfl iX11_plate_X11 tyX11 tyX11_ok nmX11 hS hM.2.2.2.2.1 33 (by decide) (by decide +kernel) (fun _ h => h) (by decide +kernel) rfl rfl (Nat.le_of_ble_eq_true rfl) dX11_plate_52 (fun H12 locsH12 hOH12 hzH12 hqH12 hS => ?_)
      rw [mf_33] at hOH12
      have hM := MW.obj hM hOH12 hqH12
      refine lv_aload_n hx hb dX11_plate_55 rfl (lv_at hl 0 rfl) ?_
      refine hk_get (ref := "LightcurveHouseModel") (v := .int 1) X K hM.1 rfl iX11_plate_X11 33 (by decide) (by decide +kernel) (fun _ h => h) rfl dX11_plate_56 ?_
      refine lv_if_le (tgt := 64) hx hb dX11_plate_59 (by decide) (fun c_59 => ?_) (fun c_59 => ?_)
      · exact absurd c_59 (by decide)
      · refine lv_iconst (v := 0) hx hb dX11_plate_62 (by decide) ?_
        exact hk_iret X hr hlk hQ hS (Nat.le_of_ble_eq_true rfl) (Nat.le_of_ble_eq_true rfl) dX11_plate_63 (mfin1 (v := 1) hM (by unfold cd_plate; (try dsimp only); rw [if_neg c_5]) (by decide) rfl rfl agr_thr)
    · exact absurd (by decide) c_8

def cd_minimum (p0 p1 : Int32) (S : mS) : Int32 := if isS (S.1 1) p0 then (if inr p1 0 9999999 then (if nI (S.1 29) = 30 then 3 else 0) else 2) else 1
def an_minimum (p0 p1 : Int32) (S : mS) : Int32 := nI (S.1 29)
def st_minimum (p0 p1 : Int32) (S : mS) : mS := (va_up S.1 29 (S.1 29 + 1), S.2.1, va_up (va_up S.2.2 30 (upd (S.2.2 30) (S.1 29) p0)) 31 (upd (S.2.2 31) (S.1 29) p1))
theorem hd_X11_isStar : yX11_isStar.cls ≠ "java/lang/invoke/MethodHandle" ∧ yX11_isStar.cls ≠ "java/lang/invoke/VarHandle" ∧ (parseMethodDescriptor yX11_isStar.desc).map (fun d => d.parameters.length) = some 1 := ⟨by decide, by decide, by decide +kernel⟩
abbrev rmX11_minimum : Room := { frames := 2, cells := 0, slots := 0, locals := 43 }
theorem iX11_minimum_X11 : ∀ w ∈ wsX110, w ∈ wsX11_minimum := by decide +kernel
set_option maxHeartbeats 4000000 in
set_option maxRecDepth 100000 in
theorem c_X11_minimum (E : hk_E) (l : Launch) (H0 : Heap) {mo : Nat} {am : Nat → Nat} {Z : Nat → Prop} {cn : Nat → Nat} {sc : Nat → Int32} {μ : Nat → Nat → Int32} (hM : MW E mo am Z cn sc μ H0) (hZ : ∀ q, Z q → hk_A E q) {p0 p1 : Int32} (hns : cn 1 ≤ 12) (hni : cn 29 ≤ 30)  : hk_M E l yX11_minimum wsX11_minimum rmX11_minimum (Z) [.ref mo, .int p0, .int p1] H0 (mpost E mo am Z (cd_minimum p0 p1 (cn, sc, μ)) (an_minimum p0 p1 (cn, sc, μ)) (cn, sc, μ) (st_minimum p0 p1 (cn, sc, μ))) := by
  refine hk_M.ofW (cc := cX11_minimum) (maxL := 3) (ret := (some .int)) (by decide +kernel) rfl (Nat.le_of_ble_eq_true rfl) ?_
  intro p e s m args below meth c ls Q hQ X hr hlk hnm K hs9 hS hl
  obtain ⟨hx, hb, hml, hown, hts⟩ := id X
  have hAE : ∀ q, (Z) q → hk_A E q := hZ
  have hl : lv_has ls 3 [(0, .ref mo), (1, .int p0), (2, .int p1)] := hl
  refine lv_aload_n hx hb dX11_minimum_0 rfl (lv_at hl 0 rfl) ?_
  refine lv_aload_n hx hb dX11_minimum_1 rfl (lv_at hl 0 rfl) ?_
  refine lv_iload_n hx hb dX11_minimum_2 rfl (lv_at hl 1 rfl) ?_
  refine hk_callV 1 (As := [.int p0]) (rest := [.ref mo]) X K hAE hS hl.1 hM.1 rfl (c_X11_isStar E l H0 hM hns (i := p0)) (fun _ h => h.elim) gX11_minimum_X11_isStar rfl ⟨rfl, hd_X11_isStar⟩ rfl ⟨⟨(Nat.le_of_ble_eq_true rfl), (Nat.le_of_ble_eq_true rfl)⟩, (Nat.le_of_ble_eq_true rfl), (Nat.le_of_ble_eq_true rfl)⟩ rfl (Nat.le_of_ble_eq_true rfl) dX11_minimum_3 (fun v9 H1 locsH1 hp hS hzH1 hkH1 => ?_)
  obtain ⟨hv, hh⟩ := hp
  subst hh
  rcases hv with ⟨hv, c_3⟩ | ⟨hv, c_3⟩
  · subst hv
    refine lv_if_ne (tgt := 13) hx hb dX11_minimum_6 (by decide) (fun c_6 => ?_) (fun c_6 => ?_)
    · refine lv_iload_n hx hb dX11_minimum_13 rfl (lv_at hl 2 rfl) ?_
      refine lv_iconst (v := 0) hx hb dX11_minimum_14 (by decide) ?_
      refine lv_ldc hx hb hown (hts (.constant RX11 122 (9999999)) (by decide +kernel)) dX11_minimum_15 ?_
      refine hk_callS 3 (As := [.int p1, .int 0, .int 9999999]) (rest := [.ref mo]) X K hAE hS hl.1 (c_X11_in E l H0 (a := p1) (lo := 0) (hi := 9999999)) (fun _ h => h.elim) gX11_minimum_X11_in rfl hd_X11_in rfl ⟨⟨(Nat.le_of_ble_eq_true rfl), (Nat.le_of_ble_eq_true rfl)⟩, (Nat.le_of_ble_eq_true rfl), (Nat.le_of_ble_eq_true rfl)⟩ rfl (Nat.le_of_ble_eq_true rfl) dX11_minimum_17 (fun v9 H2 locsH2 hp hS hzH2 hkH2 => ?_)
      obtain ⟨hv, hh⟩ := hp
      subst hh
      rcases hv with ⟨hv, c_17⟩ | ⟨hv, c_17⟩
      · subst hv
        refine lv_if_ne (tgt := 27) hx hb dX11_minimum_20 (by decide) (fun c_20 => ?_) (fun c_20 => ?_)
        · refine lv_aload_n hx hb dX11_minimum_27 rfl (lv_at hl 0 rfl) ?_
          refine hk_get (ref := "LightcurveHouseModel") (v := .int (nI (cn 29))) X K hM.1 rfl iX11_minimum_X11 29 (by decide) (by decide +kernel) (fun _ h => h) rfl dX11_minimum_28 ?_
          refine lv_bipush (v := 30) hx hb dX11_minimum_31 (by decide) ?_
          refine lv_icmp_ne (tgt := 40) hx hb dX11_minimum_33 (by decide) (fun c_33 => ?_) (fun c_33 => ?_)
          · have hlt : cn 29 < 30 := Nat.lt_of_le_of_ne hni (fun h => c_33 (by rw [h]; rfl))
            refine lv_iconst (v := 0) hx hb dX11_minimum_40 (by decide) ?_
            refine hk_put (ref := "LightcurveHouseModel") X K hM.1 rfl iX11_minimum_X11 tyX11 tyX11_ok nmX11 hS hM.2.2.2.2.1 33 (by decide) (by decide +kernel) (fun _ h => h) (by decide +kernel) rfl rfl (Nat.le_of_ble_eq_true rfl) dX11_minimum_41 (fun H3 locsH3 hOH3 hzH3 hqH3 hS => ?_)
            rw [mf_33] at hOH3
            have hM := MW.obj hM hOH3 hqH3
            refine lv_aload_n hx hb dX11_minimum_44 rfl (lv_at hl 0 rfl) ?_
            refine hk_get (ref := "LightcurveHouseModel") (v := .int 0) X K hM.1 rfl iX11_minimum_X11 33 (by decide) (by decide +kernel) (fun _ h => h) rfl dX11_minimum_45 ?_
            refine lv_if_le (tgt := 53) hx hb dX11_minimum_48 (by decide) (fun c_48 => ?_) (fun c_48 => ?_)
            · refine lv_aload_n hx hb dX11_minimum_53 rfl (lv_at hl 0 rfl) ?_
              refine hk_get (ref := "LightcurveHouseModel") (v := .ref (am 30)) X K hM.1 rfl iX11_minimum_X11 30 (by decide) (by decide +kernel) (fun _ h => h) rfl dX11_minimum_54 ?_
              refine lv_aload_n hx hb dX11_minimum_57 rfl (lv_at hl 0 rfl) ?_
              refine hk_get (ref := "LightcurveHouseModel") (v := .int (nI (cn 29))) X K hM.1 rfl iX11_minimum_X11 29 (by decide) (by decide +kernel) (fun _ h => h) rfl dX11_minimum_58 ?_
              refine lv_iload_n hx hb dX11_minimum_61 rfl (lv_at hl 1 rfl) ?_
              refine hk_ist X K hM.a30 hS (hM.2.2.2.2.2 30 (by decide)) (vp_in_nI (by omega) (by omega)) dX11_minimum_62 (fun H4 locsH4 hIH4 hzH4 hqH4 hS => ?_)
              rw [show (nI (cn 29)).toNatClampNeg = (cn 29) from nI_clamp (by omega)] at hIH4
              have hM := MW.set hM 30 (by decide) hIH4 hqH4
              refine lv_aload_n hx hb dX11_minimum_63 rfl (lv_at hl 0 rfl) ?_
              refine hk_get (ref := "LightcurveHouseModel") (v := .ref (am 31)) X K hM.1 rfl iX11_minimum_X11 31 (by decide) (by decide +kernel) (fun _ h => h) rfl dX11_minimum_64 ?_
              refine lv_aload_n hx hb dX11_minimum_67 rfl (lv_at hl 0 rfl) ?_
              refine hk_get (ref := "LightcurveHouseModel") (v := .int (nI (cn 29))) X K hM.1 rfl iX11_minimum_X11 29 (by decide) (by decide +kernel) (fun _ h => h) rfl dX11_minimum_68 ?_
              refine lv_iload_n hx hb dX11_minimum_71 rfl (lv_at hl 2 rfl) ?_
              refine hk_ist X K hM.a31 hS (hM.2.2.2.2.2 31 (by decide)) (vp_in_nI (by omega) (by omega)) dX11_minimum_72 (fun H5 locsH5 hIH5 hzH5 hqH5 hS => ?_)
              rw [show (nI (cn 29)).toNatClampNeg = (cn 29) from nI_clamp (by omega)] at hIH5
              have hM := MW.set hM 31 (by decide) hIH5 hqH5
              refine lv_aload_n hx hb dX11_minimum_73 rfl (lv_at hl 0 rfl) ?_
              refine lv_dup hx hb dX11_minimum_74 rfl ?_
              refine hk_get (ref := "LightcurveHouseModel") (v := .int (nI (cn 29))) X K hM.1 rfl iX11_minimum_X11 29 (by decide) (by decide +kernel) (fun _ h => h) rfl dX11_minimum_75 ?_
              refine lv_iconst (v := 1) hx hb dX11_minimum_78 (by decide) ?_
              refine lv_iadd hx hb dX11_minimum_79 ?_
              refine lv_topi (fun qa eqa => ?_)
              rw [nI_1] at eqa
              subst eqa
              refine hk_put (ref := "LightcurveHouseModel") X K hM.1 rfl iX11_minimum_X11 tyX11 tyX11_ok nmX11 hS hM.2.2.2.2.1 29 (by decide) (by decide +kernel) (fun _ h => h) (by decide +kernel) rfl rfl (Nat.le_of_ble_eq_true rfl) dX11_minimum_80 (fun H6 locsH6 hOH6 hzH6 hqH6 hS => ?_)
              rw [mf_29] at hOH6
              have hM := MW.obj hM hOH6 hqH6
              refine lv_aload_n hx hb dX11_minimum_83 rfl (lv_at hl 0 rfl) ?_
              refine hk_get (ref := "LightcurveHouseModel") (v := .int (nI (cn 29 + 1))) X K hM.1 rfl iX11_minimum_X11 29 (by decide) (by decide +kernel) (fun _ h => h) rfl dX11_minimum_84 ?_
              refine lv_iconst (v := 1) hx hb dX11_minimum_87 (by decide) ?_
              refine lv_isub hx hb dX11_minimum_88 ?_
              refine lv_topi (fun qb eqb => ?_)
              rw [nI_pred] at eqb
              subst eqb
              exact hk_iret X hr hlk hQ hS (Nat.le_of_ble_eq_true rfl) (Nat.le_of_ble_eq_true rfl) dX11_minimum_89 (mfin0 hM (by unfold cd_minimum; (try dsimp only); rw [if_pos c_3, if_pos c_17, if_neg c_33]) rfl rfl agr_thr)
            · exact absurd (by decide) c_48
          · refine lv_iconst (v := 3) hx hb dX11_minimum_36 (by decide) ?_
            refine lv_goto (tgt := 41) hx hb dX11_minimum_37 (by decide) ?_
            refine hk_put (ref := "LightcurveHouseModel") X K hM.1 rfl iX11_minimum_X11 tyX11 tyX11_ok nmX11 hS hM.2.2.2.2.1 33 (by decide) (by decide +kernel) (fun _ h => h) (by decide +kernel) rfl rfl (Nat.le_of_ble_eq_true rfl) dX11_minimum_41 (fun H7 locsH7 hOH7 hzH7 hqH7 hS => ?_)
            rw [mf_33] at hOH7
            have hM := MW.obj hM hOH7 hqH7
            refine lv_aload_n hx hb dX11_minimum_44 rfl (lv_at hl 0 rfl) ?_
            refine hk_get (ref := "LightcurveHouseModel") (v := .int 3) X K hM.1 rfl iX11_minimum_X11 33 (by decide) (by decide +kernel) (fun _ h => h) rfl dX11_minimum_45 ?_
            refine lv_if_le (tgt := 53) hx hb dX11_minimum_48 (by decide) (fun c_48 => ?_) (fun c_48 => ?_)
            · exact absurd c_48 (by decide)
            · refine lv_iconst (v := 0) hx hb dX11_minimum_51 (by decide) ?_
              exact hk_iret X hr hlk hQ hS (Nat.le_of_ble_eq_true rfl) (Nat.le_of_ble_eq_true rfl) dX11_minimum_52 (mfin1 (v := 3) hM (by unfold cd_minimum; (try dsimp only); rw [if_pos c_3, if_pos c_17, if_pos c_33]) (by decide) rfl rfl agr_thr)
        · exact absurd c_20 (by decide)
      · subst hv
        refine lv_if_ne (tgt := 27) hx hb dX11_minimum_20 (by decide) (fun c_20 => ?_) (fun c_20 => ?_)
        · exact absurd rfl c_20
        · refine lv_iconst (v := 2) hx hb dX11_minimum_23 (by decide) ?_
          refine lv_goto (tgt := 41) hx hb dX11_minimum_24 (by decide) ?_
          refine hk_put (ref := "LightcurveHouseModel") X K hM.1 rfl iX11_minimum_X11 tyX11 tyX11_ok nmX11 hS hM.2.2.2.2.1 33 (by decide) (by decide +kernel) (fun _ h => h) (by decide +kernel) rfl rfl (Nat.le_of_ble_eq_true rfl) dX11_minimum_41 (fun H8 locsH8 hOH8 hzH8 hqH8 hS => ?_)
          rw [mf_33] at hOH8
          have hM := MW.obj hM hOH8 hqH8
          refine lv_aload_n hx hb dX11_minimum_44 rfl (lv_at hl 0 rfl) ?_
          refine hk_get (ref := "LightcurveHouseModel") (v := .int 2) X K hM.1 rfl iX11_minimum_X11 33 (by decide) (by decide +kernel) (fun _ h => h) rfl dX11_minimum_45 ?_
          refine lv_if_le (tgt := 53) hx hb dX11_minimum_48 (by decide) (fun c_48 => ?_) (fun c_48 => ?_)
          · exact absurd c_48 (by decide)
          · refine lv_iconst (v := 0) hx hb dX11_minimum_51 (by decide) ?_
            exact hk_iret X hr hlk hQ hS (Nat.le_of_ble_eq_true rfl) (Nat.le_of_ble_eq_true rfl) dX11_minimum_52 (mfin1 (v := 2) hM (by unfold cd_minimum; (try dsimp only); rw [if_pos c_3, if_neg c_17]) (by decide) rfl rfl agr_thr)
    · exact absurd c_6 (by decide)
  · subst hv
    refine lv_if_ne (tgt := 13) hx hb dX11_minimum_6 (by decide) (fun c_6 => ?_) (fun c_6 => ?_)
    · exact absurd rfl c_6
    · refine lv_iconst (v := 1) hx hb dX11_minimum_9 (by decide) ?_
      refine lv_goto (tgt := 41) hx hb dX11_minimum_10 (by decide) ?_
      refine hk_put (ref := "LightcurveHouseModel") X K hM.1 rfl iX11_minimum_X11 tyX11 tyX11_ok nmX11 hS hM.2.2.2.2.1 33 (by decide) (by decide +kernel) (fun _ h => h) (by decide +kernel) rfl rfl (Nat.le_of_ble_eq_true rfl) dX11_minimum_41 (fun H9 locsH9 hOH9 hzH9 hqH9 hS => ?_)
      rw [mf_33] at hOH9
      have hM := MW.obj hM hOH9 hqH9
      refine lv_aload_n hx hb dX11_minimum_44 rfl (lv_at hl 0 rfl) ?_
      refine hk_get (ref := "LightcurveHouseModel") (v := .int 1) X K hM.1 rfl iX11_minimum_X11 33 (by decide) (by decide +kernel) (fun _ h => h) rfl dX11_minimum_45 ?_
      refine lv_if_le (tgt := 53) hx hb dX11_minimum_48 (by decide) (fun c_48 => ?_) (fun c_48 => ?_)
      · exact absurd c_48 (by decide)
      · refine lv_iconst (v := 0) hx hb dX11_minimum_51 (by decide) ?_
        exact hk_iret X hr hlk hQ hS (Nat.le_of_ble_eq_true rfl) (Nat.le_of_ble_eq_true rfl) dX11_minimum_52 (mfin1 (v := 1) hM (by unfold cd_minimum; (try dsimp only); rw [if_neg c_3]) (by decide) rfl rfl agr_thr)

def cd_rule (p0 p1 p2 p3 p4 : Int32) (S : mS) : Int32 := if inr p0 0 4 then (if inr p1 0 2 then (if inr p2 0 1000000 then (if inr p3 p2 1000000 then (if inr p4 (-9) 9 then (if p4 = 0 then 1 else (if nI (S.1 22) = 8 then 2 else 0)) else 1) else 1) else 1) else 1) else 1
def an_rule (p0 p1 p2 p3 p4 : Int32) (S : mS) : Int32 := nI (S.1 22)
def st_rule (p0 p1 p2 p3 p4 : Int32) (S : mS) : mS := (va_up S.1 22 (S.1 22 + 1), S.2.1, va_up (va_up (va_up (va_up (va_up S.2.2 23 (upd (S.2.2 23) (S.1 22) p0)) 24 (upd (S.2.2 24) (S.1 22) p1)) 25 (upd (S.2.2 25) (S.1 22) p2)) 26 (upd (S.2.2 26) (S.1 22) p3)) 27 (upd (S.2.2 27) (S.1 22) p4))
abbrev rmX11_rule : Room := { frames := 1, cells := 0, slots := 0, locals := 22 }
theorem iX11_rule_X11 : ∀ w ∈ wsX110, w ∈ wsX11_rule := by decide +kernel
set_option maxHeartbeats 4000000 in
set_option maxRecDepth 100000 in
theorem c_X11_rule (E : hk_E) (l : Launch) (H0 : Heap) {mo : Nat} {am : Nat → Nat} {Z : Nat → Prop} {cn : Nat → Nat} {sc : Nat → Int32} {μ : Nat → Nat → Int32} (hM : MW E mo am Z cn sc μ H0) (hZ : ∀ q, Z q → hk_A E q) {p0 p1 p2 p3 p4 : Int32} (hnr : cn 22 ≤ 8)  : hk_M E l yX11_rule wsX11_rule rmX11_rule (Z) [.ref mo, .int p0, .int p1, .int p2, .int p3, .int p4] H0 (mpost E mo am Z (cd_rule p0 p1 p2 p3 p4 (cn, sc, μ)) (an_rule p0 p1 p2 p3 p4 (cn, sc, μ)) (cn, sc, μ) (st_rule p0 p1 p2 p3 p4 (cn, sc, μ))) := by
  refine hk_M.ofW (cc := cX11_rule) (maxL := 7) (ret := (some .int)) (by decide +kernel) rfl (Nat.le_of_ble_eq_true rfl) ?_
  intro p e s m args below meth c ls Q hQ X hr hlk hnm K hs9 hS hl
  obtain ⟨hx, hb, hml, hown, hts⟩ := id X
  have hAE : ∀ q, (Z) q → hk_A E q := hZ
  have hl : lv_has ls 7 [(0, .ref mo), (1, .int p0), (2, .int p1), (3, .int p2), (4, .int p3), (5, .int p4)] := hl
  refine lv_iload_n hx hb dX11_rule_0 rfl (lv_at hl 1 rfl) ?_
  refine lv_iconst (v := 0) hx hb dX11_rule_1 (by decide) ?_
  refine lv_iconst (v := 4) hx hb dX11_rule_2 (by decide) ?_
  refine hk_callS 3 (As := [.int p0, .int 0, .int 4]) (rest := []) X K hAE hS hl.1 (c_X11_in E l H0 (a := p0) (lo := 0) (hi := 4)) (fun _ h => h.elim) gX11_rule_X11_in rfl hd_X11_in rfl ⟨⟨(Nat.le_of_ble_eq_true rfl), (Nat.le_of_ble_eq_true rfl)⟩, (Nat.le_of_ble_eq_true rfl), (Nat.le_of_ble_eq_true rfl)⟩ rfl (Nat.le_of_ble_eq_true rfl) dX11_rule_3 (fun v9 H1 locsH1 hp hS hzH1 hkH1 => ?_)
  obtain ⟨hv, hh⟩ := hp
  subst hh
  rcases hv with ⟨hv, c_3⟩ | ⟨hv, c_3⟩
  · subst hv
    refine lv_if_eq (tgt := 60) hx hb dX11_rule_6 (by decide) (fun c_6 => ?_) (fun c_6 => ?_)
    · exact absurd c_6 (by decide)
    · refine lv_iload_n hx hb dX11_rule_9 rfl (lv_at hl 2 rfl) ?_
      refine lv_iconst (v := 0) hx hb dX11_rule_10 (by decide) ?_
      refine lv_iconst (v := 2) hx hb dX11_rule_11 (by decide) ?_
      refine hk_callS 3 (As := [.int p1, .int 0, .int 2]) (rest := []) X K hAE hS hl.1 (c_X11_in E l H0 (a := p1) (lo := 0) (hi := 2)) (fun _ h => h.elim) gX11_rule_X11_in rfl hd_X11_in rfl ⟨⟨(Nat.le_of_ble_eq_true rfl), (Nat.le_of_ble_eq_true rfl)⟩, (Nat.le_of_ble_eq_true rfl), (Nat.le_of_ble_eq_true rfl)⟩ rfl (Nat.le_of_ble_eq_true rfl) dX11_rule_12 (fun v9 H2 locsH2 hp hS hzH2 hkH2 => ?_)
      obtain ⟨hv, hh⟩ := hp
      subst hh
      rcases hv with ⟨hv, c_12⟩ | ⟨hv, c_12⟩
      · subst hv
        refine lv_if_eq (tgt := 60) hx hb dX11_rule_15 (by decide) (fun c_15 => ?_) (fun c_15 => ?_)
        · exact absurd c_15 (by decide)
        · refine lv_iload_n hx hb dX11_rule_18 rfl (lv_at hl 3 rfl) ?_
          refine lv_iconst (v := 0) hx hb dX11_rule_19 (by decide) ?_
          refine lv_ldc hx hb hown (hts (.constant RX11 121 (1000000)) (by decide +kernel)) dX11_rule_20 ?_
          refine hk_callS 3 (As := [.int p2, .int 0, .int 1000000]) (rest := []) X K hAE hS hl.1 (c_X11_in E l H0 (a := p2) (lo := 0) (hi := 1000000)) (fun _ h => h.elim) gX11_rule_X11_in rfl hd_X11_in rfl ⟨⟨(Nat.le_of_ble_eq_true rfl), (Nat.le_of_ble_eq_true rfl)⟩, (Nat.le_of_ble_eq_true rfl), (Nat.le_of_ble_eq_true rfl)⟩ rfl (Nat.le_of_ble_eq_true rfl) dX11_rule_22 (fun v9 H3 locsH3 hp hS hzH3 hkH3 => ?_)
          obtain ⟨hv, hh⟩ := hp
          subst hh
          rcases hv with ⟨hv, c_22⟩ | ⟨hv, c_22⟩
          · subst hv
            refine lv_if_eq (tgt := 60) hx hb dX11_rule_25 (by decide) (fun c_25 => ?_) (fun c_25 => ?_)
            · exact absurd c_25 (by decide)
            · refine lv_iload hx hb dX11_rule_28 (lv_at hl 4 rfl) ?_
              refine lv_iload_n hx hb dX11_rule_30 rfl (lv_at hl 3 rfl) ?_
              refine lv_ldc hx hb hown (hts (.constant RX11 121 (1000000)) (by decide +kernel)) dX11_rule_31 ?_
              refine hk_callS 3 (As := [.int p3, .int p2, .int 1000000]) (rest := []) X K hAE hS hl.1 (c_X11_in E l H0 (a := p3) (lo := p2) (hi := 1000000)) (fun _ h => h.elim) gX11_rule_X11_in rfl hd_X11_in rfl ⟨⟨(Nat.le_of_ble_eq_true rfl), (Nat.le_of_ble_eq_true rfl)⟩, (Nat.le_of_ble_eq_true rfl), (Nat.le_of_ble_eq_true rfl)⟩ rfl (Nat.le_of_ble_eq_true rfl) dX11_rule_33 (fun v9 H4 locsH4 hp hS hzH4 hkH4 => ?_)
              obtain ⟨hv, hh⟩ := hp
              subst hh
              rcases hv with ⟨hv, c_33⟩ | ⟨hv, c_33⟩
              · subst hv
                refine lv_if_eq (tgt := 60) hx hb dX11_rule_36 (by decide) (fun c_36 => ?_) (fun c_36 => ?_)
                · exact absurd c_36 (by decide)
                · refine lv_iload hx hb dX11_rule_39 (lv_at hl 5 rfl) ?_
                  refine lv_bipush (v := (-9)) hx hb dX11_rule_41 (by decide) ?_
                  refine lv_bipush (v := 9) hx hb dX11_rule_43 (by decide) ?_
                  refine hk_callS 3 (As := [.int p4, .int (-9), .int 9]) (rest := []) X K hAE hS hl.1 (c_X11_in E l H0 (a := p4) (lo := (-9)) (hi := 9)) (fun _ h => h.elim) gX11_rule_X11_in rfl hd_X11_in rfl ⟨⟨(Nat.le_of_ble_eq_true rfl), (Nat.le_of_ble_eq_true rfl)⟩, (Nat.le_of_ble_eq_true rfl), (Nat.le_of_ble_eq_true rfl)⟩ rfl (Nat.le_of_ble_eq_true rfl) dX11_rule_45 (fun v9 H5 locsH5 hp hS hzH5 hkH5 => ?_)
                  obtain ⟨hv, hh⟩ := hp
                  subst hh
                  rcases hv with ⟨hv, c_45⟩ | ⟨hv, c_45⟩
                  · subst hv
                    refine lv_if_eq (tgt := 60) hx hb dX11_rule_48 (by decide) (fun c_48 => ?_) (fun c_48 => ?_)
                    · exact absurd c_48 (by decide)
                    · refine lv_iload hx hb dX11_rule_51 (lv_at hl 5 rfl) ?_
                      refine lv_if_eq (tgt := 60) hx hb dX11_rule_53 (by decide) (fun c_53 => ?_) (fun c_53 => ?_)
                      · refine lv_iconst (v := 0) hx hb dX11_rule_60 (by decide) ?_
                        refine lv_istore (lv' := [(6, .int 0), (0, .ref mo), (1, .int p0), (2, .int p1), (3, .int p2), (4, .int p3), (5, .int p4)]) hx hb dX11_rule_61 hl (by decide) rfl (fun ls hl => ?_)
                        refine lv_aload_n hx hb dX11_rule_63 rfl (lv_at hl 1 rfl) ?_
                        refine lv_iload hx hb dX11_rule_64 (lv_at hl 0 rfl) ?_
                        refine lv_if_ne (tgt := 73) hx hb dX11_rule_66 (by decide) (fun c_66 => ?_) (fun c_66 => ?_)
                        · exact absurd rfl c_66
                        · refine lv_iconst (v := 1) hx hb dX11_rule_69 (by decide) ?_
                          refine lv_goto (tgt := 87) hx hb dX11_rule_70 (by decide) ?_
                          refine hk_put (ref := "LightcurveHouseModel") X K hM.1 rfl iX11_rule_X11 tyX11 tyX11_ok nmX11 hS hM.2.2.2.2.1 33 (by decide) (by decide +kernel) (fun _ h => h) (by decide +kernel) rfl rfl (Nat.le_of_ble_eq_true rfl) dX11_rule_87 (fun H6 locsH6 hOH6 hzH6 hqH6 hS => ?_)
                          rw [mf_33] at hOH6
                          have hM := MW.obj hM hOH6 hqH6
                          refine lv_aload_n hx hb dX11_rule_90 rfl (lv_at hl 1 rfl) ?_
                          refine hk_get (ref := "LightcurveHouseModel") (v := .int 1) X K hM.1 rfl iX11_rule_X11 33 (by decide) (by decide +kernel) (fun _ h => h) rfl dX11_rule_91 ?_
                          refine lv_if_le (tgt := 99) hx hb dX11_rule_94 (by decide) (fun c_94 => ?_) (fun c_94 => ?_)
                          · exact absurd c_94 (by decide)
                          · refine lv_iconst (v := 0) hx hb dX11_rule_97 (by decide) ?_
                            exact hk_iret X hr hlk hQ hS (Nat.le_of_ble_eq_true rfl) (Nat.le_of_ble_eq_true rfl) dX11_rule_98 (mfin1 (v := 1) hM (by unfold cd_rule; (try dsimp only); rw [if_pos c_3, if_pos c_12, if_pos c_22, if_pos c_33, if_pos c_45, if_pos c_53]) (by decide) rfl rfl agr_thr)
                      · refine lv_iconst (v := 1) hx hb dX11_rule_56 (by decide) ?_
                        refine lv_goto (tgt := 61) hx hb dX11_rule_57 (by decide) ?_
                        refine lv_istore (lv' := [(6, .int 1), (0, .ref mo), (1, .int p0), (2, .int p1), (3, .int p2), (4, .int p3), (5, .int p4)]) hx hb dX11_rule_61 hl (by decide) rfl (fun ls hl => ?_)
                        refine lv_aload_n hx hb dX11_rule_63 rfl (lv_at hl 1 rfl) ?_
                        refine lv_iload hx hb dX11_rule_64 (lv_at hl 0 rfl) ?_
                        refine lv_if_ne (tgt := 73) hx hb dX11_rule_66 (by decide) (fun c_66 => ?_) (fun c_66 => ?_)
                        · refine lv_aload_n hx hb dX11_rule_73 rfl (lv_at hl 1 rfl) ?_
                          refine hk_get (ref := "LightcurveHouseModel") (v := .int (nI (cn 22))) X K hM.1 rfl iX11_rule_X11 22 (by decide) (by decide +kernel) (fun _ h => h) rfl dX11_rule_74 ?_
                          refine lv_bipush (v := 8) hx hb dX11_rule_77 (by decide) ?_
                          refine lv_icmp_ne (tgt := 86) hx hb dX11_rule_79 (by decide) (fun c_79 => ?_) (fun c_79 => ?_)
                          · have hlt : cn 22 < 8 := Nat.lt_of_le_of_ne hnr (fun h => c_79 (by rw [h]; rfl))
                            refine lv_iconst (v := 0) hx hb dX11_rule_86 (by decide) ?_
                            refine hk_put (ref := "LightcurveHouseModel") X K hM.1 rfl iX11_rule_X11 tyX11 tyX11_ok nmX11 hS hM.2.2.2.2.1 33 (by decide) (by decide +kernel) (fun _ h => h) (by decide +kernel) rfl rfl (Nat.le_of_ble_eq_true rfl) dX11_rule_87 (fun H7 locsH7 hOH7 hzH7 hqH7 hS => ?_)
                            rw [mf_33] at hOH7
                            have hM := MW.obj hM hOH7 hqH7
                            refine lv_aload_n hx hb dX11_rule_90 rfl (lv_at hl 1 rfl) ?_
                            refine hk_get (ref := "LightcurveHouseModel") (v := .int 0) X K hM.1 rfl iX11_rule_X11 33 (by decide) (by decide +kernel) (fun _ h => h) rfl dX11_rule_91 ?_
                            refine lv_if_le (tgt := 99) hx hb dX11_rule_94 (by decide) (fun c_94 => ?_) (fun c_94 => ?_)
                            · refine lv_aload_n hx hb dX11_rule_99 rfl (lv_at hl 1 rfl) ?_
                              refine hk_get (ref := "LightcurveHouseModel") (v := .ref (am 23)) X K hM.1 rfl iX11_rule_X11 23 (by decide) (by decide +kernel) (fun _ h => h) rfl dX11_rule_100 ?_
                              refine lv_aload_n hx hb dX11_rule_103 rfl (lv_at hl 1 rfl) ?_
                              refine hk_get (ref := "LightcurveHouseModel") (v := .int (nI (cn 22))) X K hM.1 rfl iX11_rule_X11 22 (by decide) (by decide +kernel) (fun _ h => h) rfl dX11_rule_104 ?_
                              refine lv_iload_n hx hb dX11_rule_107 rfl (lv_at hl 2 rfl) ?_
                              refine hk_ist X K hM.a23 hS (hM.2.2.2.2.2 23 (by decide)) (vp_in_nI (by omega) (by omega)) dX11_rule_108 (fun H8 locsH8 hIH8 hzH8 hqH8 hS => ?_)
                              rw [show (nI (cn 22)).toNatClampNeg = (cn 22) from nI_clamp (by omega)] at hIH8
                              have hM := MW.set hM 23 (by decide) hIH8 hqH8
                              refine lv_aload_n hx hb dX11_rule_109 rfl (lv_at hl 1 rfl) ?_
                              refine hk_get (ref := "LightcurveHouseModel") (v := .ref (am 24)) X K hM.1 rfl iX11_rule_X11 24 (by decide) (by decide +kernel) (fun _ h => h) rfl dX11_rule_110 ?_
                              refine lv_aload_n hx hb dX11_rule_113 rfl (lv_at hl 1 rfl) ?_
                              refine hk_get (ref := "LightcurveHouseModel") (v := .int (nI (cn 22))) X K hM.1 rfl iX11_rule_X11 22 (by decide) (by decide +kernel) (fun _ h => h) rfl dX11_rule_114 ?_
                              refine lv_iload_n hx hb dX11_rule_117 rfl (lv_at hl 3 rfl) ?_
                              refine hk_ist X K hM.a24 hS (hM.2.2.2.2.2 24 (by decide)) (vp_in_nI (by omega) (by omega)) dX11_rule_118 (fun H9 locsH9 hIH9 hzH9 hqH9 hS => ?_)
                              rw [show (nI (cn 22)).toNatClampNeg = (cn 22) from nI_clamp (by omega)] at hIH9
                              have hM := MW.set hM 24 (by decide) hIH9 hqH9
                              refine lv_aload_n hx hb dX11_rule_119 rfl (lv_at hl 1 rfl) ?_
                              refine hk_get (ref := "LightcurveHouseModel") (v := .ref (am 25)) X K hM.1 rfl iX11_rule_X11 25 (by decide) (by decide +kernel) (fun _ h => h) rfl dX11_rule_120 ?_
                              refine lv_aload_n hx hb dX11_rule_123 rfl (lv_at hl 1 rfl) ?_
                              refine hk_get (ref := "LightcurveHouseModel") (v := .int (nI (cn 22))) X K hM.1 rfl iX11_rule_X11 22 (by decide) (by decide +kernel) (fun _ h => h) rfl dX11_rule_124 ?_
                              refine lv_iload_n hx hb dX11_rule_127 rfl (lv_at hl 4 rfl) ?_
                              refine hk_ist X K hM.a25 hS (hM.2.2.2.2.2 25 (by decide)) (vp_in_nI (by omega) (by omega)) dX11_rule_128 (fun H10 locsH10 hIH10 hzH10 hqH10 hS => ?_)
                              rw [show (nI (cn 22)).toNatClampNeg = (cn 22) from nI_clamp (by omega)] at hIH10
                              have hM := MW.set hM 25 (by decide) hIH10 hqH10
                              refine lv_aload_n hx hb dX11_rule_129 rfl (lv_at hl 1 rfl) ?_
                              refine hk_get (ref := "LightcurveHouseModel") (v := .ref (am 26)) X K hM.1 rfl iX11_rule_X11 26 (by decide) (by decide +kernel) (fun _ h => h) rfl dX11_rule_130 ?_
                              refine lv_aload_n hx hb dX11_rule_133 rfl (lv_at hl 1 rfl) ?_
                              refine hk_get (ref := "LightcurveHouseModel") (v := .int (nI (cn 22))) X K hM.1 rfl iX11_rule_X11 22 (by decide) (by decide +kernel) (fun _ h => h) rfl dX11_rule_134 ?_
                              refine lv_iload hx hb dX11_rule_137 (lv_at hl 5 rfl) ?_
                              refine hk_ist X K hM.a26 hS (hM.2.2.2.2.2 26 (by decide)) (vp_in_nI (by omega) (by omega)) dX11_rule_139 (fun H11 locsH11 hIH11 hzH11 hqH11 hS => ?_)
                              rw [show (nI (cn 22)).toNatClampNeg = (cn 22) from nI_clamp (by omega)] at hIH11
                              have hM := MW.set hM 26 (by decide) hIH11 hqH11
                              refine lv_aload_n hx hb dX11_rule_140 rfl (lv_at hl 1 rfl) ?_
                              refine hk_get (ref := "LightcurveHouseModel") (v := .ref (am 27)) X K hM.1 rfl iX11_rule_X11 27 (by decide) (by decide +kernel) (fun _ h => h) rfl dX11_rule_141 ?_
                              refine lv_aload_n hx hb dX11_rule_144 rfl (lv_at hl 1 rfl) ?_
                              refine hk_get (ref := "LightcurveHouseModel") (v := .int (nI (cn 22))) X K hM.1 rfl iX11_rule_X11 22 (by decide) (by decide +kernel) (fun _ h => h) rfl dX11_rule_145 ?_
                              refine lv_iload hx hb dX11_rule_148 (lv_at hl 6 rfl) ?_
                              refine hk_ist X K hM.a27 hS (hM.2.2.2.2.2 27 (by decide)) (vp_in_nI (by omega) (by omega)) dX11_rule_150 (fun H12 locsH12 hIH12 hzH12 hqH12 hS => ?_)
                              rw [show (nI (cn 22)).toNatClampNeg = (cn 22) from nI_clamp (by omega)] at hIH12
                              have hM := MW.set hM 27 (by decide) hIH12 hqH12
                              refine lv_aload_n hx hb dX11_rule_151 rfl (lv_at hl 1 rfl) ?_
                              refine lv_dup hx hb dX11_rule_152 rfl ?_
                              refine hk_get (ref := "LightcurveHouseModel") (v := .int (nI (cn 22))) X K hM.1 rfl iX11_rule_X11 22 (by decide) (by decide +kernel) (fun _ h => h) rfl dX11_rule_153 ?_
                              refine lv_iconst (v := 1) hx hb dX11_rule_156 (by decide) ?_
                              refine lv_iadd hx hb dX11_rule_157 ?_
                              refine lv_topi (fun qa eqa => ?_)
                              rw [nI_1] at eqa
                              subst eqa
                              refine hk_put (ref := "LightcurveHouseModel") X K hM.1 rfl iX11_rule_X11 tyX11 tyX11_ok nmX11 hS hM.2.2.2.2.1 22 (by decide) (by decide +kernel) (fun _ h => h) (by decide +kernel) rfl rfl (Nat.le_of_ble_eq_true rfl) dX11_rule_158 (fun H13 locsH13 hOH13 hzH13 hqH13 hS => ?_)
                              rw [mf_22] at hOH13
                              have hM := MW.obj hM hOH13 hqH13
                              refine lv_aload_n hx hb dX11_rule_161 rfl (lv_at hl 1 rfl) ?_
                              refine hk_get (ref := "LightcurveHouseModel") (v := .int (nI (cn 22 + 1))) X K hM.1 rfl iX11_rule_X11 22 (by decide) (by decide +kernel) (fun _ h => h) rfl dX11_rule_162 ?_
                              refine lv_iconst (v := 1) hx hb dX11_rule_165 (by decide) ?_
                              refine lv_isub hx hb dX11_rule_166 ?_
                              refine lv_topi (fun qb eqb => ?_)
                              rw [nI_pred] at eqb
                              subst eqb
                              exact hk_iret X hr hlk hQ hS (Nat.le_of_ble_eq_true rfl) (Nat.le_of_ble_eq_true rfl) dX11_rule_167 (mfin0 hM (by unfold cd_rule; (try dsimp only); rw [if_pos c_3, if_pos c_12, if_pos c_22, if_pos c_33, if_pos c_45, if_neg c_53, if_neg c_79]) rfl rfl agr_thr)
                            · exact absurd (by decide) c_94
                          · refine lv_iconst (v := 2) hx hb dX11_rule_82 (by decide) ?_
                            refine lv_goto (tgt := 87) hx hb dX11_rule_83 (by decide) ?_
                            refine hk_put (ref := "LightcurveHouseModel") X K hM.1 rfl iX11_rule_X11 tyX11 tyX11_ok nmX11 hS hM.2.2.2.2.1 33 (by decide) (by decide +kernel) (fun _ h => h) (by decide +kernel) rfl rfl (Nat.le_of_ble_eq_true rfl) dX11_rule_87 (fun H14 locsH14 hOH14 hzH14 hqH14 hS => ?_)
                            rw [mf_33] at hOH14
                            have hM := MW.obj hM hOH14 hqH14
                            refine lv_aload_n hx hb dX11_rule_90 rfl (lv_at hl 1 rfl) ?_
                            refine hk_get (ref := "LightcurveHouseModel") (v := .int 2) X K hM.1 rfl iX11_rule_X11 33 (by decide) (by decide +kernel) (fun _ h => h) rfl dX11_rule_91 ?_
                            refine lv_if_le (tgt := 99) hx hb dX11_rule_94 (by decide) (fun c_94 => ?_) (fun c_94 => ?_)
                            · exact absurd c_94 (by decide)
                            · refine lv_iconst (v := 0) hx hb dX11_rule_97 (by decide) ?_
                              exact hk_iret X hr hlk hQ hS (Nat.le_of_ble_eq_true rfl) (Nat.le_of_ble_eq_true rfl) dX11_rule_98 (mfin1 (v := 2) hM (by unfold cd_rule; (try dsimp only); rw [if_pos c_3, if_pos c_12, if_pos c_22, if_pos c_33, if_pos c_45, if_neg c_53, if_pos c_79]) (by decide) rfl rfl agr_thr)
                        · exact absurd c_66 (by decide)
                  · subst hv
                    refine lv_if_eq (tgt := 60) hx hb dX11_rule_48 (by decide) (fun c_48 => ?_) (fun c_48 => ?_)
                    · refine lv_iconst (v := 0) hx hb dX11_rule_60 (by decide) ?_
                      refine lv_istore (lv' := [(6, .int 0), (0, .ref mo), (1, .int p0), (2, .int p1), (3, .int p2), (4, .int p3), (5, .int p4)]) hx hb dX11_rule_61 hl (by decide) rfl (fun ls hl => ?_)
                      refine lv_aload_n hx hb dX11_rule_63 rfl (lv_at hl 1 rfl) ?_
                      refine lv_iload hx hb dX11_rule_64 (lv_at hl 0 rfl) ?_
                      refine lv_if_ne (tgt := 73) hx hb dX11_rule_66 (by decide) (fun c_66 => ?_) (fun c_66 => ?_)
                      · exact absurd rfl c_66
                      · refine lv_iconst (v := 1) hx hb dX11_rule_69 (by decide) ?_
                        refine lv_goto (tgt := 87) hx hb dX11_rule_70 (by decide) ?_
                        refine hk_put (ref := "LightcurveHouseModel") X K hM.1 rfl iX11_rule_X11 tyX11 tyX11_ok nmX11 hS hM.2.2.2.2.1 33 (by decide) (by decide +kernel) (fun _ h => h) (by decide +kernel) rfl rfl (Nat.le_of_ble_eq_true rfl) dX11_rule_87 (fun H15 locsH15 hOH15 hzH15 hqH15 hS => ?_)
                        rw [mf_33] at hOH15
                        have hM := MW.obj hM hOH15 hqH15
                        refine lv_aload_n hx hb dX11_rule_90 rfl (lv_at hl 1 rfl) ?_
                        refine hk_get (ref := "LightcurveHouseModel") (v := .int 1) X K hM.1 rfl iX11_rule_X11 33 (by decide) (by decide +kernel) (fun _ h => h) rfl dX11_rule_91 ?_
                        refine lv_if_le (tgt := 99) hx hb dX11_rule_94 (by decide) (fun c_94 => ?_) (fun c_94 => ?_)
                        · exact absurd c_94 (by decide)
                        · refine lv_iconst (v := 0) hx hb dX11_rule_97 (by decide) ?_
                          exact hk_iret X hr hlk hQ hS (Nat.le_of_ble_eq_true rfl) (Nat.le_of_ble_eq_true rfl) dX11_rule_98 (mfin1 (v := 1) hM (by unfold cd_rule; (try dsimp only); rw [if_pos c_3, if_pos c_12, if_pos c_22, if_pos c_33, if_neg c_45]) (by decide) rfl rfl agr_thr)
                    · exact absurd (by decide) c_48
              · subst hv
                refine lv_if_eq (tgt := 60) hx hb dX11_rule_36 (by decide) (fun c_36 => ?_) (fun c_36 => ?_)
                · refine lv_iconst (v := 0) hx hb dX11_rule_60 (by decide) ?_
                  refine lv_istore (lv' := [(6, .int 0), (0, .ref mo), (1, .int p0), (2, .int p1), (3, .int p2), (4, .int p3), (5, .int p4)]) hx hb dX11_rule_61 hl (by decide) rfl (fun ls hl => ?_)
                  refine lv_aload_n hx hb dX11_rule_63 rfl (lv_at hl 1 rfl) ?_
                  refine lv_iload hx hb dX11_rule_64 (lv_at hl 0 rfl) ?_
                  refine lv_if_ne (tgt := 73) hx hb dX11_rule_66 (by decide) (fun c_66 => ?_) (fun c_66 => ?_)
                  · exact absurd rfl c_66
                  · refine lv_iconst (v := 1) hx hb dX11_rule_69 (by decide) ?_
                    refine lv_goto (tgt := 87) hx hb dX11_rule_70 (by decide) ?_
                    refine hk_put (ref := "LightcurveHouseModel") X K hM.1 rfl iX11_rule_X11 tyX11 tyX11_ok nmX11 hS hM.2.2.2.2.1 33 (by decide) (by decide +kernel) (fun _ h => h) (by decide +kernel) rfl rfl (Nat.le_of_ble_eq_true rfl) dX11_rule_87 (fun H16 locsH16 hOH16 hzH16 hqH16 hS => ?_)
                    rw [mf_33] at hOH16
                    have hM := MW.obj hM hOH16 hqH16
                    refine lv_aload_n hx hb dX11_rule_90 rfl (lv_at hl 1 rfl) ?_
                    refine hk_get (ref := "LightcurveHouseModel") (v := .int 1) X K hM.1 rfl iX11_rule_X11 33 (by decide) (by decide +kernel) (fun _ h => h) rfl dX11_rule_91 ?_
                    refine lv_if_le (tgt := 99) hx hb dX11_rule_94 (by decide) (fun c_94 => ?_) (fun c_94 => ?_)
                    · exact absurd c_94 (by decide)
                    · refine lv_iconst (v := 0) hx hb dX11_rule_97 (by decide) ?_
                      exact hk_iret X hr hlk hQ hS (Nat.le_of_ble_eq_true rfl) (Nat.le_of_ble_eq_true rfl) dX11_rule_98 (mfin1 (v := 1) hM (by unfold cd_rule; (try dsimp only); rw [if_pos c_3, if_pos c_12, if_pos c_22, if_neg c_33]) (by decide) rfl rfl agr_thr)
                · exact absurd (by decide) c_36
          · subst hv
            refine lv_if_eq (tgt := 60) hx hb dX11_rule_25 (by decide) (fun c_25 => ?_) (fun c_25 => ?_)
            · refine lv_iconst (v := 0) hx hb dX11_rule_60 (by decide) ?_
              refine lv_istore (lv' := [(6, .int 0), (0, .ref mo), (1, .int p0), (2, .int p1), (3, .int p2), (4, .int p3), (5, .int p4)]) hx hb dX11_rule_61 hl (by decide) rfl (fun ls hl => ?_)
              refine lv_aload_n hx hb dX11_rule_63 rfl (lv_at hl 1 rfl) ?_
              refine lv_iload hx hb dX11_rule_64 (lv_at hl 0 rfl) ?_
              refine lv_if_ne (tgt := 73) hx hb dX11_rule_66 (by decide) (fun c_66 => ?_) (fun c_66 => ?_)
              · exact absurd rfl c_66
              · refine lv_iconst (v := 1) hx hb dX11_rule_69 (by decide) ?_
                refine lv_goto (tgt := 87) hx hb dX11_rule_70 (by decide) ?_
                refine hk_put (ref := "LightcurveHouseModel") X K hM.1 rfl iX11_rule_X11 tyX11 tyX11_ok nmX11 hS hM.2.2.2.2.1 33 (by decide) (by decide +kernel) (fun _ h => h) (by decide +kernel) rfl rfl (Nat.le_of_ble_eq_true rfl) dX11_rule_87 (fun H17 locsH17 hOH17 hzH17 hqH17 hS => ?_)
                rw [mf_33] at hOH17
                have hM := MW.obj hM hOH17 hqH17
                refine lv_aload_n hx hb dX11_rule_90 rfl (lv_at hl 1 rfl) ?_
                refine hk_get (ref := "LightcurveHouseModel") (v := .int 1) X K hM.1 rfl iX11_rule_X11 33 (by decide) (by decide +kernel) (fun _ h => h) rfl dX11_rule_91 ?_
                refine lv_if_le (tgt := 99) hx hb dX11_rule_94 (by decide) (fun c_94 => ?_) (fun c_94 => ?_)
                · exact absurd c_94 (by decide)
                · refine lv_iconst (v := 0) hx hb dX11_rule_97 (by decide) ?_
                  exact hk_iret X hr hlk hQ hS (Nat.le_of_ble_eq_true rfl) (Nat.le_of_ble_eq_true rfl) dX11_rule_98 (mfin1 (v := 1) hM (by unfold cd_rule; (try dsimp only); rw [if_pos c_3, if_pos c_12, if_neg c_22]) (by decide) rfl rfl agr_thr)
            · exact absurd (by decide) c_25
      · subst hv
        refine lv_if_eq (tgt := 60) hx hb dX11_rule_15 (by decide) (fun c_15 => ?_) (fun c_15 => ?_)
        · refine lv_iconst (v := 0) hx hb dX11_rule_60 (by decide) ?_
          refine lv_istore (lv' := [(6, .int 0), (0, .ref mo), (1, .int p0), (2, .int p1), (3, .int p2), (4, .int p3), (5, .int p4)]) hx hb dX11_rule_61 hl (by decide) rfl (fun ls hl => ?_)
          refine lv_aload_n hx hb dX11_rule_63 rfl (lv_at hl 1 rfl) ?_
          refine lv_iload hx hb dX11_rule_64 (lv_at hl 0 rfl) ?_
          refine lv_if_ne (tgt := 73) hx hb dX11_rule_66 (by decide) (fun c_66 => ?_) (fun c_66 => ?_)
          · exact absurd rfl c_66
          · refine lv_iconst (v := 1) hx hb dX11_rule_69 (by decide) ?_
            refine lv_goto (tgt := 87) hx hb dX11_rule_70 (by decide) ?_
            refine hk_put (ref := "LightcurveHouseModel") X K hM.1 rfl iX11_rule_X11 tyX11 tyX11_ok nmX11 hS hM.2.2.2.2.1 33 (by decide) (by decide +kernel) (fun _ h => h) (by decide +kernel) rfl rfl (Nat.le_of_ble_eq_true rfl) dX11_rule_87 (fun H18 locsH18 hOH18 hzH18 hqH18 hS => ?_)
            rw [mf_33] at hOH18
            have hM := MW.obj hM hOH18 hqH18
            refine lv_aload_n hx hb dX11_rule_90 rfl (lv_at hl 1 rfl) ?_
            refine hk_get (ref := "LightcurveHouseModel") (v := .int 1) X K hM.1 rfl iX11_rule_X11 33 (by decide) (by decide +kernel) (fun _ h => h) rfl dX11_rule_91 ?_
            refine lv_if_le (tgt := 99) hx hb dX11_rule_94 (by decide) (fun c_94 => ?_) (fun c_94 => ?_)
            · exact absurd c_94 (by decide)
            · refine lv_iconst (v := 0) hx hb dX11_rule_97 (by decide) ?_
              exact hk_iret X hr hlk hQ hS (Nat.le_of_ble_eq_true rfl) (Nat.le_of_ble_eq_true rfl) dX11_rule_98 (mfin1 (v := 1) hM (by unfold cd_rule; (try dsimp only); rw [if_pos c_3, if_neg c_12]) (by decide) rfl rfl agr_thr)
        · exact absurd (by decide) c_15
  · subst hv
    refine lv_if_eq (tgt := 60) hx hb dX11_rule_6 (by decide) (fun c_6 => ?_) (fun c_6 => ?_)
    · refine lv_iconst (v := 0) hx hb dX11_rule_60 (by decide) ?_
      refine lv_istore (lv' := [(6, .int 0), (0, .ref mo), (1, .int p0), (2, .int p1), (3, .int p2), (4, .int p3), (5, .int p4)]) hx hb dX11_rule_61 hl (by decide) rfl (fun ls hl => ?_)
      refine lv_aload_n hx hb dX11_rule_63 rfl (lv_at hl 1 rfl) ?_
      refine lv_iload hx hb dX11_rule_64 (lv_at hl 0 rfl) ?_
      refine lv_if_ne (tgt := 73) hx hb dX11_rule_66 (by decide) (fun c_66 => ?_) (fun c_66 => ?_)
      · exact absurd rfl c_66
      · refine lv_iconst (v := 1) hx hb dX11_rule_69 (by decide) ?_
        refine lv_goto (tgt := 87) hx hb dX11_rule_70 (by decide) ?_
        refine hk_put (ref := "LightcurveHouseModel") X K hM.1 rfl iX11_rule_X11 tyX11 tyX11_ok nmX11 hS hM.2.2.2.2.1 33 (by decide) (by decide +kernel) (fun _ h => h) (by decide +kernel) rfl rfl (Nat.le_of_ble_eq_true rfl) dX11_rule_87 (fun H19 locsH19 hOH19 hzH19 hqH19 hS => ?_)
        rw [mf_33] at hOH19
        have hM := MW.obj hM hOH19 hqH19
        refine lv_aload_n hx hb dX11_rule_90 rfl (lv_at hl 1 rfl) ?_
        refine hk_get (ref := "LightcurveHouseModel") (v := .int 1) X K hM.1 rfl iX11_rule_X11 33 (by decide) (by decide +kernel) (fun _ h => h) rfl dX11_rule_91 ?_
        refine lv_if_le (tgt := 99) hx hb dX11_rule_94 (by decide) (fun c_94 => ?_) (fun c_94 => ?_)
        · exact absurd c_94 (by decide)
        · refine lv_iconst (v := 0) hx hb dX11_rule_97 (by decide) ?_
          exact hk_iret X hr hlk hQ hS (Nat.le_of_ble_eq_true rfl) (Nat.le_of_ble_eq_true rfl) dX11_rule_98 (mfin1 (v := 1) hM (by unfold cd_rule; (try dsimp only); rw [if_neg c_3]) (by decide) rfl rfl agr_thr)
    · exact absurd (by decide) c_6

def cd_join (p0 p1 : Int32) (S : mS) : Int32 := if isS (S.1 8) p0 then (if inr p1 (-500) 3000 then 0 else 2) else 1
def an_join (p0 p1 : Int32) (S : mS) : Int32 := S.2.2 10 (ix p0)
def st_join (p0 p1 : Int32) (S : mS) : mS := (S.1, S.2.1, va_up S.2.2 10 (upd (S.2.2 10) (ix p0) p1))
abbrev rmX11_join : Room := { frames := 1, cells := 0, slots := 0, locals := 22 }
theorem iX11_join_X11 : ∀ w ∈ wsX110, w ∈ wsX11_join := by decide +kernel
set_option maxHeartbeats 4000000 in
set_option maxRecDepth 100000 in
theorem c_X11_join (E : hk_E) (l : Launch) (H0 : Heap) {mo : Nat} {am : Nat → Nat} {Z : Nat → Prop} {cn : Nat → Nat} {sc : Nat → Int32} {μ : Nat → Nat → Int32} (hM : MW E mo am Z cn sc μ H0) (hZ : ∀ q, Z q → hk_A E q) {p0 p1 : Int32} (hnp : cn 8 ≤ 8)  : hk_M E l yX11_join wsX11_join rmX11_join (Z) [.ref mo, .int p0, .int p1] H0 (mpost E mo am Z (cd_join p0 p1 (cn, sc, μ)) (an_join p0 p1 (cn, sc, μ)) (cn, sc, μ) (st_join p0 p1 (cn, sc, μ))) := by
  refine hk_M.ofW (cc := cX11_join) (maxL := 4) (ret := (some .int)) (by decide +kernel) rfl (Nat.le_of_ble_eq_true rfl) ?_
  intro p e s m args below meth c ls Q hQ X hr hlk hnm K hs9 hS hl
  obtain ⟨hx, hb, hml, hown, hts⟩ := id X
  have hAE : ∀ q, (Z) q → hk_A E q := hZ
  have hl : lv_has ls 4 [(0, .ref mo), (1, .int p0), (2, .int p1)] := hl
  refine lv_aload_n hx hb dX11_join_0 rfl (lv_at hl 0 rfl) ?_
  refine lv_iload_n hx hb dX11_join_1 rfl (lv_at hl 1 rfl) ?_
  refine lv_iconst (v := 0) hx hb dX11_join_2 (by decide) ?_
  refine lv_aload_n hx hb dX11_join_3 rfl (lv_at hl 0 rfl) ?_
  refine hk_get (ref := "LightcurveHouseModel") (v := .int (nI (cn 8))) X K hM.1 rfl iX11_join_X11 8 (by decide) (by decide +kernel) (fun _ h => h) rfl dX11_join_4 ?_
  refine lv_iconst (v := 1) hx hb dX11_join_7 (by decide) ?_
  refine lv_isub hx hb dX11_join_8 ?_
  refine hk_callS 3 (As := [.int p0, .int 0, .int ((nI (cn 8)) - 1)]) (rest := [.ref mo]) X K hAE hS hl.1 (c_X11_inS E l H0 (a := p0) (n := cn 8) (by omega)) (fun _ h => h.elim) gX11_join_X11_in rfl hd_X11_in rfl ⟨⟨(Nat.le_of_ble_eq_true rfl), (Nat.le_of_ble_eq_true rfl)⟩, (Nat.le_of_ble_eq_true rfl), (Nat.le_of_ble_eq_true rfl)⟩ rfl (Nat.le_of_ble_eq_true rfl) dX11_join_9 (fun v9 H1 locsH1 hp hS hzH1 hkH1 => ?_)
  obtain ⟨hv, hh⟩ := hp
  subst hh
  rcases hv with ⟨hv, c_9⟩ | ⟨hv, c_9⟩
  · subst hv
    refine lv_if_ne (tgt := 19) hx hb dX11_join_12 (by decide) (fun c_12 => ?_) (fun c_12 => ?_)
    · refine lv_iload_n hx hb dX11_join_19 rfl (lv_at hl 2 rfl) ?_
      refine lv_sipush (v := (-500)) hx hb dX11_join_20 (by decide) ?_
      refine lv_sipush (v := 3000) hx hb dX11_join_23 (by decide) ?_
      refine hk_callS 3 (As := [.int p1, .int (-500), .int 3000]) (rest := [.ref mo]) X K hAE hS hl.1 (c_X11_in E l H0 (a := p1) (lo := (-500)) (hi := 3000)) (fun _ h => h.elim) gX11_join_X11_in rfl hd_X11_in rfl ⟨⟨(Nat.le_of_ble_eq_true rfl), (Nat.le_of_ble_eq_true rfl)⟩, (Nat.le_of_ble_eq_true rfl), (Nat.le_of_ble_eq_true rfl)⟩ rfl (Nat.le_of_ble_eq_true rfl) dX11_join_26 (fun v9 H2 locsH2 hp hS hzH2 hkH2 => ?_)
      obtain ⟨hv, hh⟩ := hp
      subst hh
      rcases hv with ⟨hv, c_26⟩ | ⟨hv, c_26⟩
      · subst hv
        refine lv_if_ne (tgt := 36) hx hb dX11_join_29 (by decide) (fun c_29 => ?_) (fun c_29 => ?_)
        · refine lv_iconst (v := 0) hx hb dX11_join_36 (by decide) ?_
          refine hk_put (ref := "LightcurveHouseModel") X K hM.1 rfl iX11_join_X11 tyX11 tyX11_ok nmX11 hS hM.2.2.2.2.1 33 (by decide) (by decide +kernel) (fun _ h => h) (by decide +kernel) rfl rfl (Nat.le_of_ble_eq_true rfl) dX11_join_37 (fun H3 locsH3 hOH3 hzH3 hqH3 hS => ?_)
          rw [mf_33] at hOH3
          have hM := MW.obj hM hOH3 hqH3
          refine lv_aload_n hx hb dX11_join_40 rfl (lv_at hl 0 rfl) ?_
          refine hk_get (ref := "LightcurveHouseModel") (v := .int 0) X K hM.1 rfl iX11_join_X11 33 (by decide) (by decide +kernel) (fun _ h => h) rfl dX11_join_41 ?_
          refine lv_if_le (tgt := 49) hx hb dX11_join_44 (by decide) (fun c_44 => ?_) (fun c_44 => ?_)
          · refine lv_aload_n hx hb dX11_join_49 rfl (lv_at hl 0 rfl) ?_
            refine hk_get (ref := "LightcurveHouseModel") (v := .ref (am 10)) X K hM.1 rfl iX11_join_X11 10 (by decide) (by decide +kernel) (fun _ h => h) rfl dX11_join_50 ?_
            refine lv_iload_n hx hb dX11_join_53 rfl (lv_at hl 1 rfl) ?_
            refine hk_ild X K hM.a10 (vp_isS hnp (by omega) c_9) dX11_join_54 ?_
            refine lv_istore_n (lv' := [(3, .int ((μ 10) p0.toNatClampNeg)), (0, .ref mo), (1, .int p0), (2, .int p1)]) hx hb dX11_join_55 rfl hl (by decide) rfl (fun ls hl => ?_)
            refine lv_aload_n hx hb dX11_join_56 rfl (lv_at hl 1 rfl) ?_
            refine hk_get (ref := "LightcurveHouseModel") (v := .ref (am 10)) X K hM.1 rfl iX11_join_X11 10 (by decide) (by decide +kernel) (fun _ h => h) rfl dX11_join_57 ?_
            refine lv_iload_n hx hb dX11_join_60 rfl (lv_at hl 2 rfl) ?_
            refine lv_iload_n hx hb dX11_join_61 rfl (lv_at hl 3 rfl) ?_
            refine hk_ist X K hM.a10 hS (hM.2.2.2.2.2 10 (by decide)) (vp_isS hnp (by omega) c_9) dX11_join_62 (fun H4 locsH4 hIH4 hzH4 hqH4 hS => ?_)
            have hM := MW.set hM 10 (by decide) hIH4 hqH4
            refine lv_iload_n hx hb dX11_join_63 rfl (lv_at hl 0 rfl) ?_
            exact hk_iret X hr hlk hQ hS (Nat.le_of_ble_eq_true rfl) (Nat.le_of_ble_eq_true rfl) dX11_join_64 (mfin0 hM (by unfold cd_join; (try dsimp only); rw [if_pos c_9, if_pos c_26]) rfl rfl agr_thr)
          · exact absurd (by decide) c_44
        · exact absurd c_29 (by decide)
      · subst hv
        refine lv_if_ne (tgt := 36) hx hb dX11_join_29 (by decide) (fun c_29 => ?_) (fun c_29 => ?_)
        · exact absurd rfl c_29
        · refine lv_iconst (v := 2) hx hb dX11_join_32 (by decide) ?_
          refine lv_goto (tgt := 37) hx hb dX11_join_33 (by decide) ?_
          refine hk_put (ref := "LightcurveHouseModel") X K hM.1 rfl iX11_join_X11 tyX11 tyX11_ok nmX11 hS hM.2.2.2.2.1 33 (by decide) (by decide +kernel) (fun _ h => h) (by decide +kernel) rfl rfl (Nat.le_of_ble_eq_true rfl) dX11_join_37 (fun H5 locsH5 hOH5 hzH5 hqH5 hS => ?_)
          rw [mf_33] at hOH5
          have hM := MW.obj hM hOH5 hqH5
          refine lv_aload_n hx hb dX11_join_40 rfl (lv_at hl 0 rfl) ?_
          refine hk_get (ref := "LightcurveHouseModel") (v := .int 2) X K hM.1 rfl iX11_join_X11 33 (by decide) (by decide +kernel) (fun _ h => h) rfl dX11_join_41 ?_
          refine lv_if_le (tgt := 49) hx hb dX11_join_44 (by decide) (fun c_44 => ?_) (fun c_44 => ?_)
          · exact absurd c_44 (by decide)
          · refine lv_iconst (v := 0) hx hb dX11_join_47 (by decide) ?_
            exact hk_iret X hr hlk hQ hS (Nat.le_of_ble_eq_true rfl) (Nat.le_of_ble_eq_true rfl) dX11_join_48 (mfin1 (v := 2) hM (by unfold cd_join; (try dsimp only); rw [if_pos c_9, if_neg c_26]) (by decide) rfl rfl agr_thr)
    · exact absurd c_12 (by decide)
  · subst hv
    refine lv_if_ne (tgt := 19) hx hb dX11_join_12 (by decide) (fun c_12 => ?_) (fun c_12 => ?_)
    · exact absurd rfl c_12
    · refine lv_iconst (v := 1) hx hb dX11_join_15 (by decide) ?_
      refine lv_goto (tgt := 37) hx hb dX11_join_16 (by decide) ?_
      refine hk_put (ref := "LightcurveHouseModel") X K hM.1 rfl iX11_join_X11 tyX11 tyX11_ok nmX11 hS hM.2.2.2.2.1 33 (by decide) (by decide +kernel) (fun _ h => h) (by decide +kernel) rfl rfl (Nat.le_of_ble_eq_true rfl) dX11_join_37 (fun H6 locsH6 hOH6 hzH6 hqH6 hS => ?_)
      rw [mf_33] at hOH6
      have hM := MW.obj hM hOH6 hqH6
      refine lv_aload_n hx hb dX11_join_40 rfl (lv_at hl 0 rfl) ?_
      refine hk_get (ref := "LightcurveHouseModel") (v := .int 1) X K hM.1 rfl iX11_join_X11 33 (by decide) (by decide +kernel) (fun _ h => h) rfl dX11_join_41 ?_
      refine lv_if_le (tgt := 49) hx hb dX11_join_44 (by decide) (fun c_44 => ?_) (fun c_44 => ?_)
      · exact absurd c_44 (by decide)
      · refine lv_iconst (v := 0) hx hb dX11_join_47 (by decide) ?_
        exact hk_iret X hr hlk hQ hS (Nat.le_of_ble_eq_true rfl) (Nat.le_of_ble_eq_true rfl) dX11_join_48 (mfin1 (v := 1) hM (by unfold cd_join; (try dsimp only); rw [if_neg c_9]) (by decide) rfl rfl agr_thr)

def cd_claim (p0 p1 : Int32) (S : mS) : Int32 := if isS (S.1 1) p0 then (if p1 = 0 then 0 else (if inr p1 30 1000000 then 0 else 2)) else 1
def an_claim (p0 p1 : Int32) (S : mS) : Int32 := S.2.2 4 (ix p0)
def st_claim (p0 p1 : Int32) (S : mS) : mS := (S.1, S.2.1, va_up S.2.2 4 (upd (S.2.2 4) (ix p0) p1))
theorem hd_X11_isPeriod : yX11_isPeriod.cls ≠ "java/lang/invoke/MethodHandle" ∧ yX11_isPeriod.cls ≠ "java/lang/invoke/VarHandle" ∧ (parseMethodDescriptor yX11_isPeriod.desc).map (fun d => d.parameters.length) = some 1 := ⟨by decide, by decide, by decide +kernel⟩
abbrev rmX11_claim : Room := { frames := 2, cells := 0, slots := 0, locals := 43 }
theorem iX11_claim_X11 : ∀ w ∈ wsX110, w ∈ wsX11_claim := by decide +kernel
set_option maxHeartbeats 4000000 in
set_option maxRecDepth 100000 in
theorem c_X11_claim (E : hk_E) (l : Launch) (H0 : Heap) {mo : Nat} {am : Nat → Nat} {Z : Nat → Prop} {cn : Nat → Nat} {sc : Nat → Int32} {μ : Nat → Nat → Int32} (hM : MW E mo am Z cn sc μ H0) (hZ : ∀ q, Z q → hk_A E q) {p0 p1 : Int32} (hns : cn 1 ≤ 12)  : hk_M E l yX11_claim wsX11_claim rmX11_claim (Z) [.ref mo, .int p0, .int p1] H0 (mpost E mo am Z (cd_claim p0 p1 (cn, sc, μ)) (an_claim p0 p1 (cn, sc, μ)) (cn, sc, μ) (st_claim p0 p1 (cn, sc, μ))) := by
  refine hk_M.ofW (cc := cX11_claim) (maxL := 4) (ret := (some .int)) (by decide +kernel) rfl (Nat.le_of_ble_eq_true rfl) ?_
  intro p e s m args below meth c ls Q hQ X hr hlk hnm K hs9 hS hl
  obtain ⟨hx, hb, hml, hown, hts⟩ := id X
  have hAE : ∀ q, (Z) q → hk_A E q := hZ
  have hl : lv_has ls 4 [(0, .ref mo), (1, .int p0), (2, .int p1)] := hl
  refine lv_aload_n hx hb dX11_claim_0 rfl (lv_at hl 0 rfl) ?_
  refine lv_aload_n hx hb dX11_claim_1 rfl (lv_at hl 0 rfl) ?_
  refine lv_iload_n hx hb dX11_claim_2 rfl (lv_at hl 1 rfl) ?_
  refine hk_callV 1 (As := [.int p0]) (rest := [.ref mo]) X K hAE hS hl.1 hM.1 rfl (c_X11_isStar E l H0 hM hns (i := p0)) (fun _ h => h.elim) gX11_claim_X11_isStar rfl ⟨rfl, hd_X11_isStar⟩ rfl ⟨⟨(Nat.le_of_ble_eq_true rfl), (Nat.le_of_ble_eq_true rfl)⟩, (Nat.le_of_ble_eq_true rfl), (Nat.le_of_ble_eq_true rfl)⟩ rfl (Nat.le_of_ble_eq_true rfl) dX11_claim_3 (fun v9 H1 locsH1 hp hS hzH1 hkH1 => ?_)
  obtain ⟨hv, hh⟩ := hp
  subst hh
  rcases hv with ⟨hv, c_3⟩ | ⟨hv, c_3⟩
  · subst hv
    refine lv_if_ne (tgt := 13) hx hb dX11_claim_6 (by decide) (fun c_6 => ?_) (fun c_6 => ?_)
    · refine lv_iload_n hx hb dX11_claim_13 rfl (lv_at hl 2 rfl) ?_
      refine lv_if_eq (tgt := 28) hx hb dX11_claim_14 (by decide) (fun c_14 => ?_) (fun c_14 => ?_)
      · refine lv_iconst (v := 0) hx hb dX11_claim_28 (by decide) ?_
        refine hk_put (ref := "LightcurveHouseModel") X K hM.1 rfl iX11_claim_X11 tyX11 tyX11_ok nmX11 hS hM.2.2.2.2.1 33 (by decide) (by decide +kernel) (fun _ h => h) (by decide +kernel) rfl rfl (Nat.le_of_ble_eq_true rfl) dX11_claim_29 (fun H2 locsH2 hOH2 hzH2 hqH2 hS => ?_)
        rw [mf_33] at hOH2
        have hM := MW.obj hM hOH2 hqH2
        refine lv_aload_n hx hb dX11_claim_32 rfl (lv_at hl 0 rfl) ?_
        refine hk_get (ref := "LightcurveHouseModel") (v := .int 0) X K hM.1 rfl iX11_claim_X11 33 (by decide) (by decide +kernel) (fun _ h => h) rfl dX11_claim_33 ?_
        refine lv_if_le (tgt := 41) hx hb dX11_claim_36 (by decide) (fun c_36 => ?_) (fun c_36 => ?_)
        · refine lv_aload_n hx hb dX11_claim_41 rfl (lv_at hl 0 rfl) ?_
          refine hk_get (ref := "LightcurveHouseModel") (v := .ref (am 4)) X K hM.1 rfl iX11_claim_X11 4 (by decide) (by decide +kernel) (fun _ h => h) rfl dX11_claim_42 ?_
          refine lv_iload_n hx hb dX11_claim_45 rfl (lv_at hl 1 rfl) ?_
          refine hk_ild X K hM.a4 (vp_isS hns (by omega) c_3) dX11_claim_46 ?_
          refine lv_istore_n (lv' := [(3, .int ((μ 4) p0.toNatClampNeg)), (0, .ref mo), (1, .int p0), (2, .int p1)]) hx hb dX11_claim_47 rfl hl (by decide) rfl (fun ls hl => ?_)
          refine lv_aload_n hx hb dX11_claim_48 rfl (lv_at hl 1 rfl) ?_
          refine hk_get (ref := "LightcurveHouseModel") (v := .ref (am 4)) X K hM.1 rfl iX11_claim_X11 4 (by decide) (by decide +kernel) (fun _ h => h) rfl dX11_claim_49 ?_
          refine lv_iload_n hx hb dX11_claim_52 rfl (lv_at hl 2 rfl) ?_
          refine lv_iload_n hx hb dX11_claim_53 rfl (lv_at hl 3 rfl) ?_
          refine hk_ist X K hM.a4 hS (hM.2.2.2.2.2 4 (by decide)) (vp_isS hns (by omega) c_3) dX11_claim_54 (fun H3 locsH3 hIH3 hzH3 hqH3 hS => ?_)
          have hM := MW.set hM 4 (by decide) hIH3 hqH3
          refine lv_iload_n hx hb dX11_claim_55 rfl (lv_at hl 0 rfl) ?_
          exact hk_iret X hr hlk hQ hS (Nat.le_of_ble_eq_true rfl) (Nat.le_of_ble_eq_true rfl) dX11_claim_56 (mfin0 hM (by unfold cd_claim; (try dsimp only); rw [if_pos c_3, if_pos c_14]) rfl rfl agr_thr)
        · exact absurd (by decide) c_36
      · refine lv_iload_n hx hb dX11_claim_17 rfl (lv_at hl 2 rfl) ?_
        refine hk_callS 1 (As := [.int p1]) (rest := [.ref mo]) X K hAE hS hl.1 (c_X11_isPeriod E l H0 (a := p1)) (fun _ h => h.elim) gX11_claim_X11_isPeriod rfl hd_X11_isPeriod rfl ⟨⟨(Nat.le_of_ble_eq_true rfl), (Nat.le_of_ble_eq_true rfl)⟩, (Nat.le_of_ble_eq_true rfl), (Nat.le_of_ble_eq_true rfl)⟩ rfl (Nat.le_of_ble_eq_true rfl) dX11_claim_18 (fun v9 H4 locsH4 hp hS hzH4 hkH4 => ?_)
        obtain ⟨hv, hh⟩ := hp
        subst hh
        rcases hv with ⟨hv, c_18⟩ | ⟨hv, c_18⟩
        · subst hv
          refine lv_if_ne (tgt := 28) hx hb dX11_claim_21 (by decide) (fun c_21 => ?_) (fun c_21 => ?_)
          · refine lv_iconst (v := 0) hx hb dX11_claim_28 (by decide) ?_
            refine hk_put (ref := "LightcurveHouseModel") X K hM.1 rfl iX11_claim_X11 tyX11 tyX11_ok nmX11 hS hM.2.2.2.2.1 33 (by decide) (by decide +kernel) (fun _ h => h) (by decide +kernel) rfl rfl (Nat.le_of_ble_eq_true rfl) dX11_claim_29 (fun H5 locsH5 hOH5 hzH5 hqH5 hS => ?_)
            rw [mf_33] at hOH5
            have hM := MW.obj hM hOH5 hqH5
            refine lv_aload_n hx hb dX11_claim_32 rfl (lv_at hl 0 rfl) ?_
            refine hk_get (ref := "LightcurveHouseModel") (v := .int 0) X K hM.1 rfl iX11_claim_X11 33 (by decide) (by decide +kernel) (fun _ h => h) rfl dX11_claim_33 ?_
            refine lv_if_le (tgt := 41) hx hb dX11_claim_36 (by decide) (fun c_36 => ?_) (fun c_36 => ?_)
            · refine lv_aload_n hx hb dX11_claim_41 rfl (lv_at hl 0 rfl) ?_
              refine hk_get (ref := "LightcurveHouseModel") (v := .ref (am 4)) X K hM.1 rfl iX11_claim_X11 4 (by decide) (by decide +kernel) (fun _ h => h) rfl dX11_claim_42 ?_
              refine lv_iload_n hx hb dX11_claim_45 rfl (lv_at hl 1 rfl) ?_
              refine hk_ild X K hM.a4 (vp_isS hns (by omega) c_3) dX11_claim_46 ?_
              refine lv_istore_n (lv' := [(3, .int ((μ 4) p0.toNatClampNeg)), (0, .ref mo), (1, .int p0), (2, .int p1)]) hx hb dX11_claim_47 rfl hl (by decide) rfl (fun ls hl => ?_)
              refine lv_aload_n hx hb dX11_claim_48 rfl (lv_at hl 1 rfl) ?_
              refine hk_get (ref := "LightcurveHouseModel") (v := .ref (am 4)) X K hM.1 rfl iX11_claim_X11 4 (by decide) (by decide +kernel) (fun _ h => h) rfl dX11_claim_49 ?_
              refine lv_iload_n hx hb dX11_claim_52 rfl (lv_at hl 2 rfl) ?_
              refine lv_iload_n hx hb dX11_claim_53 rfl (lv_at hl 3 rfl) ?_
              refine hk_ist X K hM.a4 hS (hM.2.2.2.2.2 4 (by decide)) (vp_isS hns (by omega) c_3) dX11_claim_54 (fun H6 locsH6 hIH6 hzH6 hqH6 hS => ?_)
              have hM := MW.set hM 4 (by decide) hIH6 hqH6
              refine lv_iload_n hx hb dX11_claim_55 rfl (lv_at hl 0 rfl) ?_
              exact hk_iret X hr hlk hQ hS (Nat.le_of_ble_eq_true rfl) (Nat.le_of_ble_eq_true rfl) dX11_claim_56 (mfin0 hM (by unfold cd_claim; (try dsimp only); rw [if_pos c_3, if_neg c_14, if_pos c_18]) rfl rfl agr_thr)
            · exact absurd (by decide) c_36
          · exact absurd c_21 (by decide)
        · subst hv
          refine lv_if_ne (tgt := 28) hx hb dX11_claim_21 (by decide) (fun c_21 => ?_) (fun c_21 => ?_)
          · exact absurd rfl c_21
          · refine lv_iconst (v := 2) hx hb dX11_claim_24 (by decide) ?_
            refine lv_goto (tgt := 29) hx hb dX11_claim_25 (by decide) ?_
            refine hk_put (ref := "LightcurveHouseModel") X K hM.1 rfl iX11_claim_X11 tyX11 tyX11_ok nmX11 hS hM.2.2.2.2.1 33 (by decide) (by decide +kernel) (fun _ h => h) (by decide +kernel) rfl rfl (Nat.le_of_ble_eq_true rfl) dX11_claim_29 (fun H7 locsH7 hOH7 hzH7 hqH7 hS => ?_)
            rw [mf_33] at hOH7
            have hM := MW.obj hM hOH7 hqH7
            refine lv_aload_n hx hb dX11_claim_32 rfl (lv_at hl 0 rfl) ?_
            refine hk_get (ref := "LightcurveHouseModel") (v := .int 2) X K hM.1 rfl iX11_claim_X11 33 (by decide) (by decide +kernel) (fun _ h => h) rfl dX11_claim_33 ?_
            refine lv_if_le (tgt := 41) hx hb dX11_claim_36 (by decide) (fun c_36 => ?_) (fun c_36 => ?_)
            · exact absurd c_36 (by decide)
            · refine lv_iconst (v := 0) hx hb dX11_claim_39 (by decide) ?_
              exact hk_iret X hr hlk hQ hS (Nat.le_of_ble_eq_true rfl) (Nat.le_of_ble_eq_true rfl) dX11_claim_40 (mfin1 (v := 2) hM (by unfold cd_claim; (try dsimp only); rw [if_pos c_3, if_neg c_14, if_neg c_18]) (by decide) rfl rfl agr_thr)
    · exact absurd c_6 (by decide)
  · subst hv
    refine lv_if_ne (tgt := 13) hx hb dX11_claim_6 (by decide) (fun c_6 => ?_) (fun c_6 => ?_)
    · exact absurd rfl c_6
    · refine lv_iconst (v := 1) hx hb dX11_claim_9 (by decide) ?_
      refine lv_goto (tgt := 29) hx hb dX11_claim_10 (by decide) ?_
      refine hk_put (ref := "LightcurveHouseModel") X K hM.1 rfl iX11_claim_X11 tyX11 tyX11_ok nmX11 hS hM.2.2.2.2.1 33 (by decide) (by decide +kernel) (fun _ h => h) (by decide +kernel) rfl rfl (Nat.le_of_ble_eq_true rfl) dX11_claim_29 (fun H8 locsH8 hOH8 hzH8 hqH8 hS => ?_)
      rw [mf_33] at hOH8
      have hM := MW.obj hM hOH8 hqH8
      refine lv_aload_n hx hb dX11_claim_32 rfl (lv_at hl 0 rfl) ?_
      refine hk_get (ref := "LightcurveHouseModel") (v := .int 1) X K hM.1 rfl iX11_claim_X11 33 (by decide) (by decide +kernel) (fun _ h => h) rfl dX11_claim_33 ?_
      refine lv_if_le (tgt := 41) hx hb dX11_claim_36 (by decide) (fun c_36 => ?_) (fun c_36 => ?_)
      · exact absurd c_36 (by decide)
      · refine lv_iconst (v := 0) hx hb dX11_claim_39 (by decide) ?_
        exact hk_iret X hr hlk hQ hS (Nat.le_of_ble_eq_true rfl) (Nat.le_of_ble_eq_true rfl) dX11_claim_40 (mfin1 (v := 1) hM (by unfold cd_claim; (try dsimp only); rw [if_neg c_3]) (by decide) rfl rfl agr_thr)

