def cd_comparison (p0 p1 : Int32) (S : mS) : Int32 := if inr p0 0 9 then (if inr p1 (-200) 2000 then 0 else 2) else 1
def an_comparison (p0 p1 : Int32) (S : mS) : Int32 := S.2.2 0 (ix p0)
def st_comparison (p0 p1 : Int32) (S : mS) : mS := (S.1, S.2.1, va_up S.2.2 0 (upd (S.2.2 0) (ix p0) p1))
abbrev rmX11_comparison : Room := { frames := 1, cells := 0, slots := 0, locals := 22 }
theorem iX11_comparison_X11 : ∀ w ∈ wsX110, w ∈ wsX11_comparison := by decide +kernel
set_option maxHeartbeats 4000000 in
set_option maxRecDepth 100000 in
theorem c_X11_comparison (E : hk_E) (l : Launch) (H0 : Heap) {mo : Nat} {am : Nat → Nat} {Z : Nat → Prop} {cn : Nat → Nat} {sc : Nat → Int32} {μ : Nat → Nat → Int32} (hM : MW E mo am Z cn sc μ H0) (hZ : ∀ q, Z q → hk_A E q)  {p0 p1 : Int32} : hk_M E l yX11_comparison wsX11_comparison rmX11_comparison (Z) [.ref mo, .int p0, .int p1] H0 (mpost E mo am Z (cd_comparison p0 p1 (cn, sc, μ)) (an_comparison p0 p1 (cn, sc, μ)) (cn, sc, μ) (st_comparison p0 p1 (cn, sc, μ))) := by
  refine hk_M.ofW (cc := cX11_comparison) (maxL := 4) (ret := (some .int)) (by decide +kernel) rfl (Nat.le_of_ble_eq_true rfl) ?_
  intro p e s m args below meth c ls Q hQ X hr hlk hnm K hs9 hS hl
  obtain ⟨hx, hb, hml, hown, hts⟩ := id X
  have hAE : ∀ q, (Z) q → hk_A E q := hZ
  have hl : lv_has ls 4 [(0, .ref mo), (1, .int p0), (2, .int p1)] := hl
  refine lv_aload_n hx hb dX11_comparison_0 rfl (lv_at hl 0 rfl) ?_
  refine lv_iload_n hx hb dX11_comparison_1 rfl (lv_at hl 1 rfl) ?_
  refine lv_iconst (v := 0) hx hb dX11_comparison_2 (by decide) ?_
  refine lv_bipush (v := 9) hx hb dX11_comparison_3 (by decide) ?_
  refine hk_callS 3 (As := [.int p0, .int 0, .int 9]) (rest := [.ref mo]) X K hAE hS hl.1 (c_X11_in E l H0 (a := p0) (lo := 0) (hi := 9)) (fun _ h => h.elim) gX11_comparison_X11_in rfl hd_X11_in rfl ⟨⟨(Nat.le_of_ble_eq_true rfl), (Nat.le_of_ble_eq_true rfl)⟩, (Nat.le_of_ble_eq_true rfl), (Nat.le_of_ble_eq_true rfl)⟩ rfl (Nat.le_of_ble_eq_true rfl) dX11_comparison_5 (fun v9 H1 locsH1 hp hS hzH1 hkH1 => ?_)
  obtain ⟨hv, hh⟩ := hp
  subst hh
  rcases hv with ⟨hv, c_5⟩ | ⟨hv, c_5⟩
  · subst hv
    refine lv_if_ne (tgt := 15) hx hb dX11_comparison_8 (by decide) (fun c_8 => ?_) (fun c_8 => ?_)
    · refine lv_iload_n hx hb dX11_comparison_15 rfl (lv_at hl 2 rfl) ?_
      refine lv_sipush (v := (-200)) hx hb dX11_comparison_16 (by decide) ?_
      refine lv_sipush (v := 2000) hx hb dX11_comparison_19 (by decide) ?_
      refine hk_callS 3 (As := [.int p1, .int (-200), .int 2000]) (rest := [.ref mo]) X K hAE hS hl.1 (c_X11_in E l H0 (a := p1) (lo := (-200)) (hi := 2000)) (fun _ h => h.elim) gX11_comparison_X11_in rfl hd_X11_in rfl ⟨⟨(Nat.le_of_ble_eq_true rfl), (Nat.le_of_ble_eq_true rfl)⟩, (Nat.le_of_ble_eq_true rfl), (Nat.le_of_ble_eq_true rfl)⟩ rfl (Nat.le_of_ble_eq_true rfl) dX11_comparison_22 (fun v9 H2 locsH2 hp hS hzH2 hkH2 => ?_)
      obtain ⟨hv, hh⟩ := hp
      subst hh
      rcases hv with ⟨hv, c_22⟩ | ⟨hv, c_22⟩
      · subst hv
        refine lv_if_ne (tgt := 32) hx hb dX11_comparison_25 (by decide) (fun c_25 => ?_) (fun c_25 => ?_)
        · refine lv_iconst (v := 0) hx hb dX11_comparison_32 (by decide) ?_
          refine hk_put (ref := "LightcurveHouseModel") X K hM.1 rfl iX11_comparison_X11 tyX11 tyX11_ok nmX11 hS hM.2.2.2.2.1 33 (by decide) (by decide +kernel) (fun _ h => h) (by decide +kernel) rfl rfl (Nat.le_of_ble_eq_true rfl) dX11_comparison_33 (fun H3 locsH3 hOH3 hzH3 hqH3 hS => ?_)
          rw [mf_33] at hOH3
          have hM := MW.obj hM hOH3 hqH3
          refine lv_aload_n hx hb dX11_comparison_36 rfl (lv_at hl 0 rfl) ?_
          refine hk_get (ref := "LightcurveHouseModel") (v := .int 0) X K hM.1 rfl iX11_comparison_X11 33 (by decide) (by decide +kernel) (fun _ h => h) rfl dX11_comparison_37 ?_
          refine lv_if_le (tgt := 45) hx hb dX11_comparison_40 (by decide) (fun c_40 => ?_) (fun c_40 => ?_)
          · refine lv_aload_n hx hb dX11_comparison_45 rfl (lv_at hl 0 rfl) ?_
            refine hk_get (ref := "LightcurveHouseModel") (v := .ref (am 0)) X K hM.1 rfl iX11_comparison_X11 0 (by decide) (by decide +kernel) (fun _ h => h) rfl dX11_comparison_46 ?_
            refine lv_iload_n hx hb dX11_comparison_49 rfl (lv_at hl 1 rfl) ?_
            refine hk_ild X K hM.a0 (vp_inr 9 (by decide) c_5) dX11_comparison_50 ?_
            refine lv_istore_n (lv' := [(3, .int ((μ 0) p0.toNatClampNeg)), (0, .ref mo), (1, .int p0), (2, .int p1)]) hx hb dX11_comparison_51 rfl hl (by decide) rfl (fun ls hl => ?_)
            refine lv_aload_n hx hb dX11_comparison_52 rfl (lv_at hl 1 rfl) ?_
            refine hk_get (ref := "LightcurveHouseModel") (v := .ref (am 0)) X K hM.1 rfl iX11_comparison_X11 0 (by decide) (by decide +kernel) (fun _ h => h) rfl dX11_comparison_53 ?_
            refine lv_iload_n hx hb dX11_comparison_56 rfl (lv_at hl 2 rfl) ?_
            refine lv_iload_n hx hb dX11_comparison_57 rfl (lv_at hl 3 rfl) ?_
            refine hk_ist X K hM.a0 hS (hM.2.2.2.2.2 0 (by decide)) (vp_inr 9 (by decide) c_5) dX11_comparison_58 (fun H4 locsH4 hIH4 hzH4 hqH4 hS => ?_)
            have hM := MW.set hM 0 (by decide) hIH4 hqH4
            refine lv_iload_n hx hb dX11_comparison_59 rfl (lv_at hl 0 rfl) ?_
            exact hk_iret X hr hlk hQ hS (Nat.le_of_ble_eq_true rfl) (Nat.le_of_ble_eq_true rfl) dX11_comparison_60 (mfin0 hM (by unfold cd_comparison; rw [if_pos c_5, if_pos c_22]) rfl rfl agr_thr)
          · exact absurd (by decide) c_40
        · exact absurd c_25 (by decide)
      · subst hv
        refine lv_if_ne (tgt := 32) hx hb dX11_comparison_25 (by decide) (fun c_25 => ?_) (fun c_25 => ?_)
        · exact absurd rfl c_25
        · refine lv_iconst (v := 2) hx hb dX11_comparison_28 (by decide) ?_
          refine lv_goto (tgt := 33) hx hb dX11_comparison_29 (by decide) ?_
          refine hk_put (ref := "LightcurveHouseModel") X K hM.1 rfl iX11_comparison_X11 tyX11 tyX11_ok nmX11 hS hM.2.2.2.2.1 33 (by decide) (by decide +kernel) (fun _ h => h) (by decide +kernel) rfl rfl (Nat.le_of_ble_eq_true rfl) dX11_comparison_33 (fun H5 locsH5 hOH5 hzH5 hqH5 hS => ?_)
          rw [mf_33] at hOH5
          have hM := MW.obj hM hOH5 hqH5
          refine lv_aload_n hx hb dX11_comparison_36 rfl (lv_at hl 0 rfl) ?_
          refine hk_get (ref := "LightcurveHouseModel") (v := .int 2) X K hM.1 rfl iX11_comparison_X11 33 (by decide) (by decide +kernel) (fun _ h => h) rfl dX11_comparison_37 ?_
          refine lv_if_le (tgt := 45) hx hb dX11_comparison_40 (by decide) (fun c_40 => ?_) (fun c_40 => ?_)
          · exact absurd c_40 (by decide)
          · refine lv_iconst (v := 0) hx hb dX11_comparison_43 (by decide) ?_
            exact hk_iret X hr hlk hQ hS (Nat.le_of_ble_eq_true rfl) (Nat.le_of_ble_eq_true rfl) dX11_comparison_44 (mfin1 (v := 2) hM (by unfold cd_comparison; rw [if_pos c_5, if_neg c_22]) (by decide) rfl rfl agr_thr)
    · exact absurd c_8 (by decide)
  · subst hv
    refine lv_if_ne (tgt := 15) hx hb dX11_comparison_8 (by decide) (fun c_8 => ?_) (fun c_8 => ?_)
    · exact absurd rfl c_8
    · refine lv_iconst (v := 1) hx hb dX11_comparison_11 (by decide) ?_
      refine lv_goto (tgt := 33) hx hb dX11_comparison_12 (by decide) ?_
      refine hk_put (ref := "LightcurveHouseModel") X K hM.1 rfl iX11_comparison_X11 tyX11 tyX11_ok nmX11 hS hM.2.2.2.2.1 33 (by decide) (by decide +kernel) (fun _ h => h) (by decide +kernel) rfl rfl (Nat.le_of_ble_eq_true rfl) dX11_comparison_33 (fun H6 locsH6 hOH6 hzH6 hqH6 hS => ?_)
      rw [mf_33] at hOH6
      have hM := MW.obj hM hOH6 hqH6
      refine lv_aload_n hx hb dX11_comparison_36 rfl (lv_at hl 0 rfl) ?_
      refine hk_get (ref := "LightcurveHouseModel") (v := .int 1) X K hM.1 rfl iX11_comparison_X11 33 (by decide) (by decide +kernel) (fun _ h => h) rfl dX11_comparison_37 ?_
      refine lv_if_le (tgt := 45) hx hb dX11_comparison_40 (by decide) (fun c_40 => ?_) (fun c_40 => ?_)
      · exact absurd c_40 (by decide)
      · refine lv_iconst (v := 0) hx hb dX11_comparison_43 (by decide) ?_
        exact hk_iret X hr hlk hQ hS (Nat.le_of_ble_eq_true rfl) (Nat.le_of_ble_eq_true rfl) dX11_comparison_44 (mfin1 (v := 1) hM (by unfold cd_comparison; rw [if_neg c_5]) (by decide) rfl rfl agr_thr)

def cd_bias (p0 p1 : Int32) (S : mS) : Int32 := if inr p0 0 7 then (if inr p1 (-99) 99 then 0 else 2) else 1
def an_bias (p0 p1 : Int32) (S : mS) : Int32 := S.2.2 6 (ix p0)
def st_bias (p0 p1 : Int32) (S : mS) : mS := (S.1, S.2.1, va_up S.2.2 6 (upd (S.2.2 6) (ix p0) p1))
abbrev rmX11_bias : Room := { frames := 1, cells := 0, slots := 0, locals := 22 }
theorem iX11_bias_X11 : ∀ w ∈ wsX110, w ∈ wsX11_bias := by decide +kernel
set_option maxHeartbeats 4000000 in
set_option maxRecDepth 100000 in
theorem c_X11_bias (E : hk_E) (l : Launch) (H0 : Heap) {mo : Nat} {am : Nat → Nat} {Z : Nat → Prop} {cn : Nat → Nat} {sc : Nat → Int32} {μ : Nat → Nat → Int32} (hM : MW E mo am Z cn sc μ H0) (hZ : ∀ q, Z q → hk_A E q)  {p0 p1 : Int32} : hk_M E l yX11_bias wsX11_bias rmX11_bias (Z) [.ref mo, .int p0, .int p1] H0 (mpost E mo am Z (cd_bias p0 p1 (cn, sc, μ)) (an_bias p0 p1 (cn, sc, μ)) (cn, sc, μ) (st_bias p0 p1 (cn, sc, μ))) := by
  refine hk_M.ofW (cc := cX11_bias) (maxL := 4) (ret := (some .int)) (by decide +kernel) rfl (Nat.le_of_ble_eq_true rfl) ?_
  intro p e s m args below meth c ls Q hQ X hr hlk hnm K hs9 hS hl
  obtain ⟨hx, hb, hml, hown, hts⟩ := id X
  have hAE : ∀ q, (Z) q → hk_A E q := hZ
  have hl : lv_has ls 4 [(0, .ref mo), (1, .int p0), (2, .int p1)] := hl
  refine lv_aload_n hx hb dX11_bias_0 rfl (lv_at hl 0 rfl) ?_
  refine lv_iload_n hx hb dX11_bias_1 rfl (lv_at hl 1 rfl) ?_
  refine lv_iconst (v := 0) hx hb dX11_bias_2 (by decide) ?_
  refine lv_bipush (v := 7) hx hb dX11_bias_3 (by decide) ?_
  refine hk_callS 3 (As := [.int p0, .int 0, .int 7]) (rest := [.ref mo]) X K hAE hS hl.1 (c_X11_in E l H0 (a := p0) (lo := 0) (hi := 7)) (fun _ h => h.elim) gX11_bias_X11_in rfl hd_X11_in rfl ⟨⟨(Nat.le_of_ble_eq_true rfl), (Nat.le_of_ble_eq_true rfl)⟩, (Nat.le_of_ble_eq_true rfl), (Nat.le_of_ble_eq_true rfl)⟩ rfl (Nat.le_of_ble_eq_true rfl) dX11_bias_5 (fun v9 H1 locsH1 hp hS hzH1 hkH1 => ?_)
  obtain ⟨hv, hh⟩ := hp
  subst hh
  rcases hv with ⟨hv, c_5⟩ | ⟨hv, c_5⟩
  · subst hv
    refine lv_if_ne (tgt := 15) hx hb dX11_bias_8 (by decide) (fun c_8 => ?_) (fun c_8 => ?_)
    · refine lv_iload_n hx hb dX11_bias_15 rfl (lv_at hl 2 rfl) ?_
      refine lv_bipush (v := (-99)) hx hb dX11_bias_16 (by decide) ?_
      refine lv_bipush (v := 99) hx hb dX11_bias_18 (by decide) ?_
      refine hk_callS 3 (As := [.int p1, .int (-99), .int 99]) (rest := [.ref mo]) X K hAE hS hl.1 (c_X11_in E l H0 (a := p1) (lo := (-99)) (hi := 99)) (fun _ h => h.elim) gX11_bias_X11_in rfl hd_X11_in rfl ⟨⟨(Nat.le_of_ble_eq_true rfl), (Nat.le_of_ble_eq_true rfl)⟩, (Nat.le_of_ble_eq_true rfl), (Nat.le_of_ble_eq_true rfl)⟩ rfl (Nat.le_of_ble_eq_true rfl) dX11_bias_20 (fun v9 H2 locsH2 hp hS hzH2 hkH2 => ?_)
      obtain ⟨hv, hh⟩ := hp
      subst hh
      rcases hv with ⟨hv, c_20⟩ | ⟨hv, c_20⟩
      · subst hv
        refine lv_if_ne (tgt := 30) hx hb dX11_bias_23 (by decide) (fun c_23 => ?_) (fun c_23 => ?_)
        · refine lv_iconst (v := 0) hx hb dX11_bias_30 (by decide) ?_
          refine hk_put (ref := "LightcurveHouseModel") X K hM.1 rfl iX11_bias_X11 tyX11 tyX11_ok nmX11 hS hM.2.2.2.2.1 33 (by decide) (by decide +kernel) (fun _ h => h) (by decide +kernel) rfl rfl (Nat.le_of_ble_eq_true rfl) dX11_bias_31 (fun H3 locsH3 hOH3 hzH3 hqH3 hS => ?_)
          rw [mf_33] at hOH3
          have hM := MW.obj hM hOH3 hqH3
          refine lv_aload_n hx hb dX11_bias_34 rfl (lv_at hl 0 rfl) ?_
          refine hk_get (ref := "LightcurveHouseModel") (v := .int 0) X K hM.1 rfl iX11_bias_X11 33 (by decide) (by decide +kernel) (fun _ h => h) rfl dX11_bias_35 ?_
          refine lv_if_le (tgt := 43) hx hb dX11_bias_38 (by decide) (fun c_38 => ?_) (fun c_38 => ?_)
          · refine lv_aload_n hx hb dX11_bias_43 rfl (lv_at hl 0 rfl) ?_
            refine hk_get (ref := "LightcurveHouseModel") (v := .ref (am 6)) X K hM.1 rfl iX11_bias_X11 6 (by decide) (by decide +kernel) (fun _ h => h) rfl dX11_bias_44 ?_
            refine lv_iload_n hx hb dX11_bias_47 rfl (lv_at hl 1 rfl) ?_
            refine hk_ild X K hM.a6 (vp_inr 7 (by decide) c_5) dX11_bias_48 ?_
            refine lv_istore_n (lv' := [(3, .int ((μ 6) p0.toNatClampNeg)), (0, .ref mo), (1, .int p0), (2, .int p1)]) hx hb dX11_bias_49 rfl hl (by decide) rfl (fun ls hl => ?_)
            refine lv_aload_n hx hb dX11_bias_50 rfl (lv_at hl 1 rfl) ?_
            refine hk_get (ref := "LightcurveHouseModel") (v := .ref (am 6)) X K hM.1 rfl iX11_bias_X11 6 (by decide) (by decide +kernel) (fun _ h => h) rfl dX11_bias_51 ?_
            refine lv_iload_n hx hb dX11_bias_54 rfl (lv_at hl 2 rfl) ?_
            refine lv_iload_n hx hb dX11_bias_55 rfl (lv_at hl 3 rfl) ?_
            refine hk_ist X K hM.a6 hS (hM.2.2.2.2.2 6 (by decide)) (vp_inr 7 (by decide) c_5) dX11_bias_56 (fun H4 locsH4 hIH4 hzH4 hqH4 hS => ?_)
            have hM := MW.set hM 6 (by decide) hIH4 hqH4
            refine lv_iload_n hx hb dX11_bias_57 rfl (lv_at hl 0 rfl) ?_
            exact hk_iret X hr hlk hQ hS (Nat.le_of_ble_eq_true rfl) (Nat.le_of_ble_eq_true rfl) dX11_bias_58 (mfin0 hM (by unfold cd_bias; rw [if_pos c_5, if_pos c_20]) rfl rfl agr_thr)
          · exact absurd (by decide) c_38
        · exact absurd c_23 (by decide)
      · subst hv
        refine lv_if_ne (tgt := 30) hx hb dX11_bias_23 (by decide) (fun c_23 => ?_) (fun c_23 => ?_)
        · exact absurd rfl c_23
        · refine lv_iconst (v := 2) hx hb dX11_bias_26 (by decide) ?_
          refine lv_goto (tgt := 31) hx hb dX11_bias_27 (by decide) ?_
          refine hk_put (ref := "LightcurveHouseModel") X K hM.1 rfl iX11_bias_X11 tyX11 tyX11_ok nmX11 hS hM.2.2.2.2.1 33 (by decide) (by decide +kernel) (fun _ h => h) (by decide +kernel) rfl rfl (Nat.le_of_ble_eq_true rfl) dX11_bias_31 (fun H5 locsH5 hOH5 hzH5 hqH5 hS => ?_)
          rw [mf_33] at hOH5
          have hM := MW.obj hM hOH5 hqH5
          refine lv_aload_n hx hb dX11_bias_34 rfl (lv_at hl 0 rfl) ?_
          refine hk_get (ref := "LightcurveHouseModel") (v := .int 2) X K hM.1 rfl iX11_bias_X11 33 (by decide) (by decide +kernel) (fun _ h => h) rfl dX11_bias_35 ?_
          refine lv_if_le (tgt := 43) hx hb dX11_bias_38 (by decide) (fun c_38 => ?_) (fun c_38 => ?_)
          · exact absurd c_38 (by decide)
          · refine lv_iconst (v := 0) hx hb dX11_bias_41 (by decide) ?_
            exact hk_iret X hr hlk hQ hS (Nat.le_of_ble_eq_true rfl) (Nat.le_of_ble_eq_true rfl) dX11_bias_42 (mfin1 (v := 2) hM (by unfold cd_bias; rw [if_pos c_5, if_neg c_20]) (by decide) rfl rfl agr_thr)
    · exact absurd c_8 (by decide)
  · subst hv
    refine lv_if_ne (tgt := 15) hx hb dX11_bias_8 (by decide) (fun c_8 => ?_) (fun c_8 => ?_)
    · exact absurd rfl c_8
    · refine lv_iconst (v := 1) hx hb dX11_bias_11 (by decide) ?_
      refine lv_goto (tgt := 31) hx hb dX11_bias_12 (by decide) ?_
      refine hk_put (ref := "LightcurveHouseModel") X K hM.1 rfl iX11_bias_X11 tyX11 tyX11_ok nmX11 hS hM.2.2.2.2.1 33 (by decide) (by decide +kernel) (fun _ h => h) (by decide +kernel) rfl rfl (Nat.le_of_ble_eq_true rfl) dX11_bias_31 (fun H6 locsH6 hOH6 hzH6 hqH6 hS => ?_)
      rw [mf_33] at hOH6
      have hM := MW.obj hM hOH6 hqH6
      refine lv_aload_n hx hb dX11_bias_34 rfl (lv_at hl 0 rfl) ?_
      refine hk_get (ref := "LightcurveHouseModel") (v := .int 1) X K hM.1 rfl iX11_bias_X11 33 (by decide) (by decide +kernel) (fun _ h => h) rfl dX11_bias_35 ?_
      refine lv_if_le (tgt := 43) hx hb dX11_bias_38 (by decide) (fun c_38 => ?_) (fun c_38 => ?_)
      · exact absurd c_38 (by decide)
      · refine lv_iconst (v := 0) hx hb dX11_bias_41 (by decide) ?_
        exact hk_iret X hr hlk hQ hS (Nat.le_of_ble_eq_true rfl) (Nat.le_of_ble_eq_true rfl) dX11_bias_42 (mfin1 (v := 1) hM (by unfold cd_bias; rw [if_neg c_5]) (by decide) rfl rfl agr_thr)

def cd_clock (p0 p1 : Int32) (S : mS) : Int32 := if inr p0 0 7 then (if inr p1 (-1440) 1440 then 0 else 2) else 1
def an_clock (p0 p1 : Int32) (S : mS) : Int32 := S.2.2 7 (ix p0)
def st_clock (p0 p1 : Int32) (S : mS) : mS := (S.1, S.2.1, va_up S.2.2 7 (upd (S.2.2 7) (ix p0) p1))
abbrev rmX11_clock : Room := { frames := 1, cells := 0, slots := 0, locals := 22 }
theorem iX11_clock_X11 : ∀ w ∈ wsX110, w ∈ wsX11_clock := by decide +kernel
set_option maxHeartbeats 4000000 in
set_option maxRecDepth 100000 in
theorem c_X11_clock (E : hk_E) (l : Launch) (H0 : Heap) {mo : Nat} {am : Nat → Nat} {Z : Nat → Prop} {cn : Nat → Nat} {sc : Nat → Int32} {μ : Nat → Nat → Int32} (hM : MW E mo am Z cn sc μ H0) (hZ : ∀ q, Z q → hk_A E q)  {p0 p1 : Int32} : hk_M E l yX11_clock wsX11_clock rmX11_clock (Z) [.ref mo, .int p0, .int p1] H0 (mpost E mo am Z (cd_clock p0 p1 (cn, sc, μ)) (an_clock p0 p1 (cn, sc, μ)) (cn, sc, μ) (st_clock p0 p1 (cn, sc, μ))) := by
  refine hk_M.ofW (cc := cX11_clock) (maxL := 4) (ret := (some .int)) (by decide +kernel) rfl (Nat.le_of_ble_eq_true rfl) ?_
  intro p e s m args below meth c ls Q hQ X hr hlk hnm K hs9 hS hl
  obtain ⟨hx, hb, hml, hown, hts⟩ := id X
  have hAE : ∀ q, (Z) q → hk_A E q := hZ
  have hl : lv_has ls 4 [(0, .ref mo), (1, .int p0), (2, .int p1)] := hl
  refine lv_aload_n hx hb dX11_clock_0 rfl (lv_at hl 0 rfl) ?_
  refine lv_iload_n hx hb dX11_clock_1 rfl (lv_at hl 1 rfl) ?_
  refine lv_iconst (v := 0) hx hb dX11_clock_2 (by decide) ?_
  refine lv_bipush (v := 7) hx hb dX11_clock_3 (by decide) ?_
  refine hk_callS 3 (As := [.int p0, .int 0, .int 7]) (rest := [.ref mo]) X K hAE hS hl.1 (c_X11_in E l H0 (a := p0) (lo := 0) (hi := 7)) (fun _ h => h.elim) gX11_clock_X11_in rfl hd_X11_in rfl ⟨⟨(Nat.le_of_ble_eq_true rfl), (Nat.le_of_ble_eq_true rfl)⟩, (Nat.le_of_ble_eq_true rfl), (Nat.le_of_ble_eq_true rfl)⟩ rfl (Nat.le_of_ble_eq_true rfl) dX11_clock_5 (fun v9 H1 locsH1 hp hS hzH1 hkH1 => ?_)
  obtain ⟨hv, hh⟩ := hp
  subst hh
  rcases hv with ⟨hv, c_5⟩ | ⟨hv, c_5⟩
  · subst hv
    refine lv_if_ne (tgt := 15) hx hb dX11_clock_8 (by decide) (fun c_8 => ?_) (fun c_8 => ?_)
    · refine lv_iload_n hx hb dX11_clock_15 rfl (lv_at hl 2 rfl) ?_
      refine lv_sipush (v := (-1440)) hx hb dX11_clock_16 (by decide) ?_
      refine lv_sipush (v := 1440) hx hb dX11_clock_19 (by decide) ?_
      refine hk_callS 3 (As := [.int p1, .int (-1440), .int 1440]) (rest := [.ref mo]) X K hAE hS hl.1 (c_X11_in E l H0 (a := p1) (lo := (-1440)) (hi := 1440)) (fun _ h => h.elim) gX11_clock_X11_in rfl hd_X11_in rfl ⟨⟨(Nat.le_of_ble_eq_true rfl), (Nat.le_of_ble_eq_true rfl)⟩, (Nat.le_of_ble_eq_true rfl), (Nat.le_of_ble_eq_true rfl)⟩ rfl (Nat.le_of_ble_eq_true rfl) dX11_clock_22 (fun v9 H2 locsH2 hp hS hzH2 hkH2 => ?_)
      obtain ⟨hv, hh⟩ := hp
      subst hh
      rcases hv with ⟨hv, c_22⟩ | ⟨hv, c_22⟩
      · subst hv
        refine lv_if_ne (tgt := 32) hx hb dX11_clock_25 (by decide) (fun c_25 => ?_) (fun c_25 => ?_)
        · refine lv_iconst (v := 0) hx hb dX11_clock_32 (by decide) ?_
          refine hk_put (ref := "LightcurveHouseModel") X K hM.1 rfl iX11_clock_X11 tyX11 tyX11_ok nmX11 hS hM.2.2.2.2.1 33 (by decide) (by decide +kernel) (fun _ h => h) (by decide +kernel) rfl rfl (Nat.le_of_ble_eq_true rfl) dX11_clock_33 (fun H3 locsH3 hOH3 hzH3 hqH3 hS => ?_)
          rw [mf_33] at hOH3
          have hM := MW.obj hM hOH3 hqH3
          refine lv_aload_n hx hb dX11_clock_36 rfl (lv_at hl 0 rfl) ?_
          refine hk_get (ref := "LightcurveHouseModel") (v := .int 0) X K hM.1 rfl iX11_clock_X11 33 (by decide) (by decide +kernel) (fun _ h => h) rfl dX11_clock_37 ?_
          refine lv_if_le (tgt := 45) hx hb dX11_clock_40 (by decide) (fun c_40 => ?_) (fun c_40 => ?_)
          · refine lv_aload_n hx hb dX11_clock_45 rfl (lv_at hl 0 rfl) ?_
            refine hk_get (ref := "LightcurveHouseModel") (v := .ref (am 7)) X K hM.1 rfl iX11_clock_X11 7 (by decide) (by decide +kernel) (fun _ h => h) rfl dX11_clock_46 ?_
            refine lv_iload_n hx hb dX11_clock_49 rfl (lv_at hl 1 rfl) ?_
            refine hk_ild X K hM.a7 (vp_inr 7 (by decide) c_5) dX11_clock_50 ?_
            refine lv_istore_n (lv' := [(3, .int ((μ 7) p0.toNatClampNeg)), (0, .ref mo), (1, .int p0), (2, .int p1)]) hx hb dX11_clock_51 rfl hl (by decide) rfl (fun ls hl => ?_)
            refine lv_aload_n hx hb dX11_clock_52 rfl (lv_at hl 1 rfl) ?_
            refine hk_get (ref := "LightcurveHouseModel") (v := .ref (am 7)) X K hM.1 rfl iX11_clock_X11 7 (by decide) (by decide +kernel) (fun _ h => h) rfl dX11_clock_53 ?_
            refine lv_iload_n hx hb dX11_clock_56 rfl (lv_at hl 2 rfl) ?_
            refine lv_iload_n hx hb dX11_clock_57 rfl (lv_at hl 3 rfl) ?_
            refine hk_ist X K hM.a7 hS (hM.2.2.2.2.2 7 (by decide)) (vp_inr 7 (by decide) c_5) dX11_clock_58 (fun H4 locsH4 hIH4 hzH4 hqH4 hS => ?_)
            have hM := MW.set hM 7 (by decide) hIH4 hqH4
            refine lv_iload_n hx hb dX11_clock_59 rfl (lv_at hl 0 rfl) ?_
            exact hk_iret X hr hlk hQ hS (Nat.le_of_ble_eq_true rfl) (Nat.le_of_ble_eq_true rfl) dX11_clock_60 (mfin0 hM (by unfold cd_clock; rw [if_pos c_5, if_pos c_22]) rfl rfl agr_thr)
          · exact absurd (by decide) c_40
        · exact absurd c_25 (by decide)
      · subst hv
        refine lv_if_ne (tgt := 32) hx hb dX11_clock_25 (by decide) (fun c_25 => ?_) (fun c_25 => ?_)
        · exact absurd rfl c_25
        · refine lv_iconst (v := 2) hx hb dX11_clock_28 (by decide) ?_
          refine lv_goto (tgt := 33) hx hb dX11_clock_29 (by decide) ?_
          refine hk_put (ref := "LightcurveHouseModel") X K hM.1 rfl iX11_clock_X11 tyX11 tyX11_ok nmX11 hS hM.2.2.2.2.1 33 (by decide) (by decide +kernel) (fun _ h => h) (by decide +kernel) rfl rfl (Nat.le_of_ble_eq_true rfl) dX11_clock_33 (fun H5 locsH5 hOH5 hzH5 hqH5 hS => ?_)
          rw [mf_33] at hOH5
          have hM := MW.obj hM hOH5 hqH5
          refine lv_aload_n hx hb dX11_clock_36 rfl (lv_at hl 0 rfl) ?_
          refine hk_get (ref := "LightcurveHouseModel") (v := .int 2) X K hM.1 rfl iX11_clock_X11 33 (by decide) (by decide +kernel) (fun _ h => h) rfl dX11_clock_37 ?_
          refine lv_if_le (tgt := 45) hx hb dX11_clock_40 (by decide) (fun c_40 => ?_) (fun c_40 => ?_)
          · exact absurd c_40 (by decide)
          · refine lv_iconst (v := 0) hx hb dX11_clock_43 (by decide) ?_
            exact hk_iret X hr hlk hQ hS (Nat.le_of_ble_eq_true rfl) (Nat.le_of_ble_eq_true rfl) dX11_clock_44 (mfin1 (v := 2) hM (by unfold cd_clock; rw [if_pos c_5, if_neg c_22]) (by decide) rfl rfl agr_thr)
    · exact absurd c_8 (by decide)
  · subst hv
    refine lv_if_ne (tgt := 15) hx hb dX11_clock_8 (by decide) (fun c_8 => ?_) (fun c_8 => ?_)
    · exact absurd rfl c_8
    · refine lv_iconst (v := 1) hx hb dX11_clock_11 (by decide) ?_
      refine lv_goto (tgt := 33) hx hb dX11_clock_12 (by decide) ?_
      refine hk_put (ref := "LightcurveHouseModel") X K hM.1 rfl iX11_clock_X11 tyX11 tyX11_ok nmX11 hS hM.2.2.2.2.1 33 (by decide) (by decide +kernel) (fun _ h => h) (by decide +kernel) rfl rfl (Nat.le_of_ble_eq_true rfl) dX11_clock_33 (fun H6 locsH6 hOH6 hzH6 hqH6 hS => ?_)
      rw [mf_33] at hOH6
      have hM := MW.obj hM hOH6 hqH6
      refine lv_aload_n hx hb dX11_clock_36 rfl (lv_at hl 0 rfl) ?_
      refine hk_get (ref := "LightcurveHouseModel") (v := .int 1) X K hM.1 rfl iX11_clock_X11 33 (by decide) (by decide +kernel) (fun _ h => h) rfl dX11_clock_37 ?_
      refine lv_if_le (tgt := 45) hx hb dX11_clock_40 (by decide) (fun c_40 => ?_) (fun c_40 => ?_)
      · exact absurd c_40 (by decide)
      · refine lv_iconst (v := 0) hx hb dX11_clock_43 (by decide) ?_
        exact hk_iret X hr hlk hQ hS (Nat.le_of_ble_eq_true rfl) (Nat.le_of_ble_eq_true rfl) dX11_clock_44 (mfin1 (v := 1) hM (by unfold cd_clock; rw [if_neg c_5]) (by decide) rfl rfl agr_thr)

