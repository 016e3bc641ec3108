def mu_keeps (μ : Nat → Nat → Int32) (n : Nat) (a b c d : Int32) : Nat → Nat → Int32 := va_up (va_up (va_up (va_up (va_up μ 13 (upd (μ 13) n a)) 14 (upd (μ 14) n b)) 15 (upd (μ 15) n c)) 16 (upd (μ 16) n d)) 21 (upd (μ 21) n 0)
abbrev rmX11_keeps : Room := { frames := 0, cells := 0, slots := 0, locals := 0 }
theorem iX11_keeps_X11 : ∀ w ∈ wsX110, w ∈ wsX11_keeps := by decide +kernel
set_option maxHeartbeats 4000000 in
set_option maxRecDepth 100000 in
theorem c_X11_keeps (E : hk_E) (l : Launch) (H0 : Heap) {mo : Nat} {am : Nat → Nat} {Z : Nat → Prop} {cn : Nat → Nat} {sc : Nat → Int32} {μ : Nat → Nat → Int32} (hM : MW E mo am Z cn sc μ H0) (hZ : ∀ q, Z q → hk_A E q) (hlt : cn 12 < 80) {p0 p1 p2 p3 : Int32} : hk_M E l yX11_keeps wsX11_keeps rmX11_keeps (Z) [.ref mo, .int p0, .int p1, .int p2, .int p3] H0 (fun z H1 => z = some (.int (nI (cn 12))) ∧ MW E mo am Z (va_up cn 12 (cn 12 + 1)) sc (mu_keeps μ (cn 12) p0 p1 p2 p3) H1) := by
  refine hk_M.ofW (cc := cX11_keeps) (maxL := 5) (ret := (some .int)) (by decide +kernel) rfl (Nat.le_of_ble_eq_true rfl) ?_
  intro p e s m args below meth c ls Q hQ X hr hlk hnm K hs9 hS hl
  obtain ⟨hx, hb, hml, hown, hts⟩ := id X
  have hAE : ∀ q, (Z) q → hk_A E q := hZ
  have hl : lv_has ls 5 [(0, .ref mo), (1, .int p0), (2, .int p1), (3, .int p2), (4, .int p3)] := hl
  refine lv_aload_n hx hb dX11_keeps_0 rfl (lv_at hl 0 rfl) ?_
  refine hk_get (ref := "LightcurveHouseModel") (v := .ref (am 13)) X K hM.1 rfl iX11_keeps_X11 13 (by decide) (by decide +kernel) (fun _ h => h) rfl dX11_keeps_1 ?_
  refine lv_aload_n hx hb dX11_keeps_4 rfl (lv_at hl 0 rfl) ?_
  refine hk_get (ref := "LightcurveHouseModel") (v := .int (nI (cn 12))) X K hM.1 rfl iX11_keeps_X11 12 (by decide) (by decide +kernel) (fun _ h => h) rfl dX11_keeps_5 ?_
  refine lv_iload_n hx hb dX11_keeps_8 rfl (lv_at hl 1 rfl) ?_
  refine hk_ist X K hM.a13 hS (hM.2.2.2.2.2 13 (by decide)) (vp_in_nI (by omega) (by omega)) dX11_keeps_9 (fun H1 locsH1 hIH1 hzH1 hqH1 hS => ?_)
  rw [show (nI (cn 12)).toNatClampNeg = (cn 12) from nI_clamp (by omega)] at hIH1
  have hM := MW.set hM 13 (by decide) hIH1 hqH1
  refine lv_aload_n hx hb dX11_keeps_10 rfl (lv_at hl 0 rfl) ?_
  refine hk_get (ref := "LightcurveHouseModel") (v := .ref (am 14)) X K hM.1 rfl iX11_keeps_X11 14 (by decide) (by decide +kernel) (fun _ h => h) rfl dX11_keeps_11 ?_
  refine lv_aload_n hx hb dX11_keeps_14 rfl (lv_at hl 0 rfl) ?_
  refine hk_get (ref := "LightcurveHouseModel") (v := .int (nI (cn 12))) X K hM.1 rfl iX11_keeps_X11 12 (by decide) (by decide +kernel) (fun _ h => h) rfl dX11_keeps_15 ?_
  refine lv_iload_n hx hb dX11_keeps_18 rfl (lv_at hl 2 rfl) ?_
  refine hk_ist X K hM.a14 hS (hM.2.2.2.2.2 14 (by decide)) (vp_in_nI (by omega) (by omega)) dX11_keeps_19 (fun H2 locsH2 hIH2 hzH2 hqH2 hS => ?_)
  rw [show (nI (cn 12)).toNatClampNeg = (cn 12) from nI_clamp (by omega)] at hIH2
  have hM := MW.set hM 14 (by decide) hIH2 hqH2
  refine lv_aload_n hx hb dX11_keeps_20 rfl (lv_at hl 0 rfl) ?_
  refine hk_get (ref := "LightcurveHouseModel") (v := .ref (am 15)) X K hM.1 rfl iX11_keeps_X11 15 (by decide) (by decide +kernel) (fun _ h => h) rfl dX11_keeps_21 ?_
  refine lv_aload_n hx hb dX11_keeps_24 rfl (lv_at hl 0 rfl) ?_
  refine hk_get (ref := "LightcurveHouseModel") (v := .int (nI (cn 12))) X K hM.1 rfl iX11_keeps_X11 12 (by decide) (by decide +kernel) (fun _ h => h) rfl dX11_keeps_25 ?_
  refine lv_iload_n hx hb dX11_keeps_28 rfl (lv_at hl 3 rfl) ?_
  refine hk_ist X K hM.a15 hS (hM.2.2.2.2.2 15 (by decide)) (vp_in_nI (by omega) (by omega)) dX11_keeps_29 (fun H3 locsH3 hIH3 hzH3 hqH3 hS => ?_)
  rw [show (nI (cn 12)).toNatClampNeg = (cn 12) from nI_clamp (by omega)] at hIH3
  have hM := MW.set hM 15 (by decide) hIH3 hqH3
  refine lv_aload_n hx hb dX11_keeps_30 rfl (lv_at hl 0 rfl) ?_
  refine hk_get (ref := "LightcurveHouseModel") (v := .ref (am 16)) X K hM.1 rfl iX11_keeps_X11 16 (by decide) (by decide +kernel) (fun _ h => h) rfl dX11_keeps_31 ?_
  refine lv_aload_n hx hb dX11_keeps_34 rfl (lv_at hl 0 rfl) ?_
  refine hk_get (ref := "LightcurveHouseModel") (v := .int (nI (cn 12))) X K hM.1 rfl iX11_keeps_X11 12 (by decide) (by decide +kernel) (fun _ h => h) rfl dX11_keeps_35 ?_
  refine lv_iload hx hb dX11_keeps_38 (lv_at hl 4 rfl) ?_
  refine hk_ist X K hM.a16 hS (hM.2.2.2.2.2 16 (by decide)) (vp_in_nI (by omega) (by omega)) dX11_keeps_40 (fun H4 locsH4 hIH4 hzH4 hqH4 hS => ?_)
  rw [show (nI (cn 12)).toNatClampNeg = (cn 12) from nI_clamp (by omega)] at hIH4
  have hM := MW.set hM 16 (by decide) hIH4 hqH4
  refine lv_aload_n hx hb dX11_keeps_41 rfl (lv_at hl 0 rfl) ?_
  refine hk_get (ref := "LightcurveHouseModel") (v := .ref (am 21)) X K hM.1 rfl iX11_keeps_X11 21 (by decide) (by decide +kernel) (fun _ h => h) rfl dX11_keeps_42 ?_
  refine lv_aload_n hx hb dX11_keeps_45 rfl (lv_at hl 0 rfl) ?_
  refine hk_get (ref := "LightcurveHouseModel") (v := .int (nI (cn 12))) X K hM.1 rfl iX11_keeps_X11 12 (by decide) (by decide +kernel) (fun _ h => h) rfl dX11_keeps_46 ?_
  refine lv_iconst (v := 0) hx hb dX11_keeps_49 (by decide) ?_
  refine hk_zst X K hM.a21 hS (hM.2.2.2.2.2 21 (by decide)) (vp_in_nI (by omega) (by omega)) (Or.inl rfl) dX11_keeps_50 (fun H5 locsH5 hIH5 hzH5 hqH5 hS => ?_)
  rw [show (nI (cn 12)).toNatClampNeg = (cn 12) from nI_clamp (by omega)] at hIH5
  have hM := MW.set hM 21 (by decide) hIH5 hqH5
  refine lv_aload_n hx hb dX11_keeps_51 rfl (lv_at hl 0 rfl) ?_
  refine lv_dup hx hb dX11_keeps_52 rfl ?_
  refine hk_get (ref := "LightcurveHouseModel") (v := .int (nI (cn 12))) X K hM.1 rfl iX11_keeps_X11 12 (by decide) (by decide +kernel) (fun _ h => h) rfl dX11_keeps_53 ?_
  refine lv_iconst (v := 1) hx hb dX11_keeps_56 (by decide) ?_
  refine lv_iadd hx hb dX11_keeps_57 ?_
  refine lv_topi (fun qa eqa => ?_)
  rw [nI_1] at eqa
  subst eqa
  refine hk_put (ref := "LightcurveHouseModel") X K hM.1 rfl iX11_keeps_X11 tyX11 tyX11_ok nmX11 hS hM.2.2.2.2.1 12 (by decide) (by decide +kernel) (fun _ h => h) (by decide +kernel) rfl rfl (Nat.le_of_ble_eq_true rfl) dX11_keeps_58 (fun H6 locsH6 hOH6 hzH6 hqH6 hS => ?_)
  rw [mf_12] at hOH6
  have hM := MW.obj hM hOH6 hqH6
  refine lv_aload_n hx hb dX11_keeps_61 rfl (lv_at hl 0 rfl) ?_
  refine hk_get (ref := "LightcurveHouseModel") (v := .int (nI (cn 12 + 1))) X K hM.1 rfl iX11_keeps_X11 12 (by decide) (by decide +kernel) (fun _ h => h) rfl dX11_keeps_62 ?_
  refine lv_iconst (v := 1) hx hb dX11_keeps_65 (by decide) ?_
  refine lv_isub hx hb dX11_keeps_66 ?_
  refine lv_topi (fun qb eqb => ?_)
  rw [nI_pred] at eqb
  subst eqb
  exact hk_iret X hr hlk hQ hS (Nat.le_of_ble_eq_true rfl) (Nat.le_of_ble_eq_true rfl) dX11_keeps_67 (⟨rfl, hM⟩)

def cd_density (p0 p1 p2 : Int32) (S : mS) : Int32 := if isS (S.1 1) p0 then (if isS (S.1 8) p1 then (if inr p2 0 255 then (if nI (S.1 12) = 80 then 3 else 0) else 2) else 1) else 1
def an_density (p0 p1 p2 : Int32) (S : mS) : Int32 := nI (S.1 12)
def st_density (p0 p1 p2 : Int32) (S : mS) : mS := (va_up S.1 12 (S.1 12 + 1), S.2.1, mu_keeps S.2.2 (S.1 12) 1 p0 p1 p2)
theorem hd_X11_keeps : yX11_keeps.cls ≠ "java/lang/invoke/MethodHandle" ∧ yX11_keeps.cls ≠ "java/lang/invoke/VarHandle" ∧ (parseMethodDescriptor yX11_keeps.desc).map (fun d => d.parameters.length) = some 4 := ⟨by decide, by decide, by decide +kernel⟩
abbrev rmX11_density : Room := { frames := 2, cells := 0, slots := 0, locals := 43 }
theorem iX11_density_X11 : ∀ w ∈ wsX110, w ∈ wsX11_density := by decide +kernel
set_option maxHeartbeats 4000000 in
set_option maxRecDepth 100000 in
theorem c_X11_density (E : hk_E) (l : Launch) (H0 : Heap) {mo : Nat} {am : Nat → Nat} {Z : Nat → Prop} {cn : Nat → Nat} {sc : Nat → Int32} {μ : Nat → Nat → Int32} (hM : MW E mo am Z cn sc μ H0) (hZ : ∀ q, Z q → hk_A E q) {p0 p1 p2 : Int32} (hns : cn 1 ≤ 12) (hnp : cn 8 ≤ 8) (hnl : cn 12 ≤ 80)  : hk_M E l yX11_density wsX11_density rmX11_density (Z) [.ref mo, .int p0, .int p1, .int p2] H0 (mpost E mo am Z (cd_density p0 p1 p2 (cn, sc, μ)) (an_density p0 p1 p2 (cn, sc, μ)) (cn, sc, μ) (st_density p0 p1 p2 (cn, sc, μ))) := by
  refine hk_M.ofW (cc := cX11_density) (maxL := 4) (ret := (some .int)) (by decide +kernel) rfl (Nat.le_of_ble_eq_true rfl) ?_
  intro p e s m args below meth c ls Q hQ X hr hlk hnm K hs9 hS hl
  obtain ⟨hx, hb, hml, hown, hts⟩ := id X
  have hAE : ∀ q, (Z) q → hk_A E q := hZ
  have hl : lv_has ls 4 [(0, .ref mo), (1, .int p0), (2, .int p1), (3, .int p2)] := hl
  refine lv_aload_n hx hb dX11_density_0 rfl (lv_at hl 0 rfl) ?_
  refine lv_aload_n hx hb dX11_density_1 rfl (lv_at hl 0 rfl) ?_
  refine lv_iload_n hx hb dX11_density_2 rfl (lv_at hl 1 rfl) ?_
  refine hk_callV 1 (As := [.int p0]) (rest := [.ref mo]) X K hAE hS hl.1 hM.1 rfl (c_X11_isStar E l H0 hM hns (i := p0)) (fun _ h => h.elim) gX11_density_X11_isStar rfl ⟨rfl, hd_X11_isStar⟩ rfl ⟨⟨(Nat.le_of_ble_eq_true rfl), (Nat.le_of_ble_eq_true rfl)⟩, (Nat.le_of_ble_eq_true rfl), (Nat.le_of_ble_eq_true rfl)⟩ rfl (Nat.le_of_ble_eq_true rfl) dX11_density_3 (fun v9 H1 locsH1 hp hS hzH1 hkH1 => ?_)
  obtain ⟨hv, hh⟩ := hp
  subst hh
  rcases hv with ⟨hv, c_3⟩ | ⟨hv, c_3⟩
  · subst hv
    refine lv_if_eq (tgt := 23) hx hb dX11_density_6 (by decide) (fun c_6 => ?_) (fun c_6 => ?_)
    · exact absurd c_6 (by decide)
    · refine lv_iload_n hx hb dX11_density_9 rfl (lv_at hl 2 rfl) ?_
      refine lv_iconst (v := 0) hx hb dX11_density_10 (by decide) ?_
      refine lv_aload_n hx hb dX11_density_11 rfl (lv_at hl 0 rfl) ?_
      refine hk_get (ref := "LightcurveHouseModel") (v := .int (nI (cn 8))) X K hM.1 rfl iX11_density_X11 8 (by decide) (by decide +kernel) (fun _ h => h) rfl dX11_density_12 ?_
      refine lv_iconst (v := 1) hx hb dX11_density_15 (by decide) ?_
      refine lv_isub hx hb dX11_density_16 ?_
      refine hk_callS 3 (As := [.int p1, .int 0, .int ((nI (cn 8)) - 1)]) (rest := [.ref mo]) X K hAE hS hl.1 (c_X11_inS E l H0 (a := p1) (n := cn 8) (by omega)) (fun _ h => h.elim) gX11_density_X11_in rfl hd_X11_in rfl ⟨⟨(Nat.le_of_ble_eq_true rfl), (Nat.le_of_ble_eq_true rfl)⟩, (Nat.le_of_ble_eq_true rfl), (Nat.le_of_ble_eq_true rfl)⟩ rfl (Nat.le_of_ble_eq_true rfl) dX11_density_17 (fun v9 H2 locsH2 hp hS hzH2 hkH2 => ?_)
      obtain ⟨hv, hh⟩ := hp
      subst hh
      rcases hv with ⟨hv, c_17⟩ | ⟨hv, c_17⟩
      · subst hv
        refine lv_if_ne (tgt := 27) hx hb dX11_density_20 (by decide) (fun c_20 => ?_) (fun c_20 => ?_)
        · refine lv_iload_n hx hb dX11_density_27 rfl (lv_at hl 3 rfl) ?_
          refine lv_iconst (v := 0) hx hb dX11_density_28 (by decide) ?_
          refine lv_sipush (v := 255) hx hb dX11_density_29 (by decide) ?_
          refine hk_callS 3 (As := [.int p2, .int 0, .int 255]) (rest := [.ref mo]) X K hAE hS hl.1 (c_X11_in E l H0 (a := p2) (lo := 0) (hi := 255)) (fun _ h => h.elim) gX11_density_X11_in rfl hd_X11_in rfl ⟨⟨(Nat.le_of_ble_eq_true rfl), (Nat.le_of_ble_eq_true rfl)⟩, (Nat.le_of_ble_eq_true rfl), (Nat.le_of_ble_eq_true rfl)⟩ rfl (Nat.le_of_ble_eq_true rfl) dX11_density_32 (fun v9 H3 locsH3 hp hS hzH3 hkH3 => ?_)
          obtain ⟨hv, hh⟩ := hp
          subst hh
          rcases hv with ⟨hv, c_32⟩ | ⟨hv, c_32⟩
          · subst hv
            refine lv_if_ne (tgt := 42) hx hb dX11_density_35 (by decide) (fun c_35 => ?_) (fun c_35 => ?_)
            · refine lv_aload_n hx hb dX11_density_42 rfl (lv_at hl 0 rfl) ?_
              refine hk_get (ref := "LightcurveHouseModel") (v := .int (nI (cn 12))) X K hM.1 rfl iX11_density_X11 12 (by decide) (by decide +kernel) (fun _ h => h) rfl dX11_density_43 ?_
              refine lv_bipush (v := 80) hx hb dX11_density_46 (by decide) ?_
              refine lv_icmp_ne (tgt := 55) hx hb dX11_density_48 (by decide) (fun c_48 => ?_) (fun c_48 => ?_)
              · have hlt : cn 12 < 80 := Nat.lt_of_le_of_ne hnl (fun h => c_48 (by rw [h]; rfl))
                refine lv_iconst (v := 0) hx hb dX11_density_55 (by decide) ?_
                refine hk_put (ref := "LightcurveHouseModel") X K hM.1 rfl iX11_density_X11 tyX11 tyX11_ok nmX11 hS hM.2.2.2.2.1 33 (by decide) (by decide +kernel) (fun _ h => h) (by decide +kernel) rfl rfl (Nat.le_of_ble_eq_true rfl) dX11_density_56 (fun H4 locsH4 hOH4 hzH4 hqH4 hS => ?_)
                rw [mf_33] at hOH4
                have hM := MW.obj hM hOH4 hqH4
                refine lv_aload_n hx hb dX11_density_59 rfl (lv_at hl 0 rfl) ?_
                refine hk_get (ref := "LightcurveHouseModel") (v := .int 0) X K hM.1 rfl iX11_density_X11 33 (by decide) (by decide +kernel) (fun _ h => h) rfl dX11_density_60 ?_
                refine lv_if_le (tgt := 70) hx hb dX11_density_63 (by decide) (fun c_63 => ?_) (fun c_63 => ?_)
                · refine lv_aload_n hx hb dX11_density_70 rfl (lv_at hl 0 rfl) ?_
                  refine lv_iconst (v := 1) hx hb dX11_density_71 (by decide) ?_
                  refine lv_iload_n hx hb dX11_density_72 rfl (lv_at hl 1 rfl) ?_
                  refine lv_iload_n hx hb dX11_density_73 rfl (lv_at hl 2 rfl) ?_
                  refine lv_iload_n hx hb dX11_density_74 rfl (lv_at hl 3 rfl) ?_
                  refine hk_callV 4 (As := [.int 1, .int p0, .int p1, .int p2]) (rest := []) X K hAE hS hl.1 hM.1 rfl (c_X11_keeps E l H4 hM hZ hlt (p0 := 1) (p1 := p0) (p2 := p1) (p3 := p2)) (fun _ h => h) gX11_density_X11_keeps rfl ⟨rfl, hd_X11_keeps⟩ rfl ⟨⟨(Nat.le_of_ble_eq_true rfl), (Nat.le_of_ble_eq_true rfl)⟩, (Nat.le_of_ble_eq_true rfl), (Nat.le_of_ble_eq_true rfl)⟩ rfl (Nat.le_of_ble_eq_true rfl) dX11_density_75 (fun v9 H5 locsH5 hp hS hzH5 hkH5 => ?_)
                  obtain ⟨hv, hM⟩ := hp
                  subst hv
                  exact hk_iret X hr hlk hQ hS (Nat.le_of_ble_eq_true rfl) (Nat.le_of_ble_eq_true rfl) dX11_density_78 (mfin0 hM (by unfold cd_density; (try dsimp only); rw [if_pos c_3, if_pos c_17, if_pos c_32, if_neg c_48]) rfl rfl agr_thr)
                · exact absurd (by decide) c_63
              · refine lv_iconst (v := 3) hx hb dX11_density_51 (by decide) ?_
                refine lv_goto (tgt := 56) hx hb dX11_density_52 (by decide) ?_
                refine hk_put (ref := "LightcurveHouseModel") X K hM.1 rfl iX11_density_X11 tyX11 tyX11_ok nmX11 hS hM.2.2.2.2.1 33 (by decide) (by decide +kernel) (fun _ h => h) (by decide +kernel) rfl rfl (Nat.le_of_ble_eq_true rfl) dX11_density_56 (fun H6 locsH6 hOH6 hzH6 hqH6 hS => ?_)
                rw [mf_33] at hOH6
                have hM := MW.obj hM hOH6 hqH6
                refine lv_aload_n hx hb dX11_density_59 rfl (lv_at hl 0 rfl) ?_
                refine hk_get (ref := "LightcurveHouseModel") (v := .int 3) X K hM.1 rfl iX11_density_X11 33 (by decide) (by decide +kernel) (fun _ h => h) rfl dX11_density_60 ?_
                refine lv_if_le (tgt := 70) hx hb dX11_density_63 (by decide) (fun c_63 => ?_) (fun c_63 => ?_)
                · exact absurd c_63 (by decide)
                · refine lv_iconst (v := 0) hx hb dX11_density_66 (by decide) ?_
                  refine lv_goto (tgt := 78) hx hb dX11_density_67 (by decide) ?_
                  exact hk_iret X hr hlk hQ hS (Nat.le_of_ble_eq_true rfl) (Nat.le_of_ble_eq_true rfl) dX11_density_78 (mfin1 (v := 3) hM (by unfold cd_density; (try dsimp only); rw [if_pos c_3, if_pos c_17, if_pos c_32, if_pos c_48]) (by decide) rfl rfl agr_thr)
            · exact absurd c_35 (by decide)
          · subst hv
            refine lv_if_ne (tgt := 42) hx hb dX11_density_35 (by decide) (fun c_35 => ?_) (fun c_35 => ?_)
            · exact absurd rfl c_35
            · refine lv_iconst (v := 2) hx hb dX11_density_38 (by decide) ?_
              refine lv_goto (tgt := 56) hx hb dX11_density_39 (by decide) ?_
              refine hk_put (ref := "LightcurveHouseModel") X K hM.1 rfl iX11_density_X11 tyX11 tyX11_ok nmX11 hS hM.2.2.2.2.1 33 (by decide) (by decide +kernel) (fun _ h => h) (by decide +kernel) rfl rfl (Nat.le_of_ble_eq_true rfl) dX11_density_56 (fun H7 locsH7 hOH7 hzH7 hqH7 hS => ?_)
              rw [mf_33] at hOH7
              have hM := MW.obj hM hOH7 hqH7
              refine lv_aload_n hx hb dX11_density_59 rfl (lv_at hl 0 rfl) ?_
              refine hk_get (ref := "LightcurveHouseModel") (v := .int 2) X K hM.1 rfl iX11_density_X11 33 (by decide) (by decide +kernel) (fun _ h => h) rfl dX11_density_60 ?_
              refine lv_if_le (tgt := 70) hx hb dX11_density_63 (by decide) (fun c_63 => ?_) (fun c_63 => ?_)
              · exact absurd c_63 (by decide)
              · refine lv_iconst (v := 0) hx hb dX11_density_66 (by decide) ?_
                refine lv_goto (tgt := 78) hx hb dX11_density_67 (by decide) ?_
                exact hk_iret X hr hlk hQ hS (Nat.le_of_ble_eq_true rfl) (Nat.le_of_ble_eq_true rfl) dX11_density_78 (mfin1 (v := 2) hM (by unfold cd_density; (try dsimp only); rw [if_pos c_3, if_pos c_17, if_neg c_32]) (by decide) rfl rfl agr_thr)
        · exact absurd c_20 (by decide)
      · subst hv
        refine lv_if_ne (tgt := 27) hx hb dX11_density_20 (by decide) (fun c_20 => ?_) (fun c_20 => ?_)
        · exact absurd rfl c_20
        · refine lv_iconst (v := 1) hx hb dX11_density_23 (by decide) ?_
          refine lv_goto (tgt := 56) hx hb dX11_density_24 (by decide) ?_
          refine hk_put (ref := "LightcurveHouseModel") X K hM.1 rfl iX11_density_X11 tyX11 tyX11_ok nmX11 hS hM.2.2.2.2.1 33 (by decide) (by decide +kernel) (fun _ h => h) (by decide +kernel) rfl rfl (Nat.le_of_ble_eq_true rfl) dX11_density_56 (fun H8 locsH8 hOH8 hzH8 hqH8 hS => ?_)
          rw [mf_33] at hOH8
          have hM := MW.obj hM hOH8 hqH8
          refine lv_aload_n hx hb dX11_density_59 rfl (lv_at hl 0 rfl) ?_
          refine hk_get (ref := "LightcurveHouseModel") (v := .int 1) X K hM.1 rfl iX11_density_X11 33 (by decide) (by decide +kernel) (fun _ h => h) rfl dX11_density_60 ?_
          refine lv_if_le (tgt := 70) hx hb dX11_density_63 (by decide) (fun c_63 => ?_) (fun c_63 => ?_)
          · exact absurd c_63 (by decide)
          · refine lv_iconst (v := 0) hx hb dX11_density_66 (by decide) ?_
            refine lv_goto (tgt := 78) hx hb dX11_density_67 (by decide) ?_
            exact hk_iret X hr hlk hQ hS (Nat.le_of_ble_eq_true rfl) (Nat.le_of_ble_eq_true rfl) dX11_density_78 (mfin1 (v := 1) hM (by unfold cd_density; (try dsimp only); rw [if_pos c_3, if_neg c_17]) (by decide) rfl rfl agr_thr)
  · subst hv
    refine lv_if_eq (tgt := 23) hx hb dX11_density_6 (by decide) (fun c_6 => ?_) (fun c_6 => ?_)
    · refine lv_iconst (v := 1) hx hb dX11_density_23 (by decide) ?_
      refine lv_goto (tgt := 56) hx hb dX11_density_24 (by decide) ?_
      refine hk_put (ref := "LightcurveHouseModel") X K hM.1 rfl iX11_density_X11 tyX11 tyX11_ok nmX11 hS hM.2.2.2.2.1 33 (by decide) (by decide +kernel) (fun _ h => h) (by decide +kernel) rfl rfl (Nat.le_of_ble_eq_true rfl) dX11_density_56 (fun H9 locsH9 hOH9 hzH9 hqH9 hS => ?_)
      rw [mf_33] at hOH9
      have hM := MW.obj hM hOH9 hqH9
      refine lv_aload_n hx hb dX11_density_59 rfl (lv_at hl 0 rfl) ?_
      refine hk_get (ref := "LightcurveHouseModel") (v := .int 1) X K hM.1 rfl iX11_density_X11 33 (by decide) (by decide +kernel) (fun _ h => h) rfl dX11_density_60 ?_
      refine lv_if_le (tgt := 70) hx hb dX11_density_63 (by decide) (fun c_63 => ?_) (fun c_63 => ?_)
      · exact absurd c_63 (by decide)
      · refine lv_iconst (v := 0) hx hb dX11_density_66 (by decide) ?_
        refine lv_goto (tgt := 78) hx hb dX11_density_67 (by decide) ?_
        exact hk_iret X hr hlk hQ hS (Nat.le_of_ble_eq_true rfl) (Nat.le_of_ble_eq_true rfl) dX11_density_78 (mfin1 (v := 1) hM (by unfold cd_density; (try dsimp only); rw [if_neg c_3]) (by decide) rfl rfl agr_thr)
    · exact absurd (by decide) c_6

def cd_doubt (p0 p1 : Int32) (S : mS) : Int32 := if isS (S.1 12) p0 then 0 else 1
def an_doubt (p0 p1 : Int32) (S : mS) : Int32 := S.2.2 21 (ix p0)
def st_doubt (p0 p1 : Int32) (S : mS) : mS := (S.1, S.2.1, va_up S.2.2 21 (upd (S.2.2 21) (ix p0) p1))
abbrev rmX11_doubt : Room := { frames := 1, cells := 0, slots := 0, locals := 22 }
theorem iX11_doubt_X11 : ∀ w ∈ wsX110, w ∈ wsX11_doubt := by decide +kernel
set_option maxHeartbeats 4000000 in
set_option maxRecDepth 100000 in
theorem c_X11_doubt (E : hk_E) (l : Launch) (H0 : Heap) {mo : Nat} {am : Nat → Nat} {Z : Nat → Prop} {cn : Nat → Nat} {sc : Nat → Int32} {μ : Nat → Nat → Int32} (hM : MW E mo am Z cn sc μ H0) (hZ : ∀ q, Z q → hk_A E q) {p0 p1 : Int32} (hnl : cn 12 ≤ 80) (hbits : ∀ i, i < cn 12 → μ 21 i = 0 ∨ μ 21 i = 1) (hb1 : p1 = 0 ∨ p1 = 1)  : hk_M E l yX11_doubt wsX11_doubt rmX11_doubt (Z) [.ref mo, .int p0, .int p1] H0 (mpost E mo am Z (cd_doubt p0 p1 (cn, sc, μ)) (an_doubt p0 p1 (cn, sc, μ)) (cn, sc, μ) (st_doubt p0 p1 (cn, sc, μ))) := by
  refine hk_M.ofW (cc := cX11_doubt) (maxL := 4) (ret := (some .boolean)) (by decide +kernel) rfl (Nat.le_of_ble_eq_true rfl) ?_
  intro p e s m args below meth c ls Q hQ X hr hlk hnm K hs9 hS hl
  obtain ⟨hx, hb, hml, hown, hts⟩ := id X
  have hAE : ∀ q, (Z) q → hk_A E q := hZ
  have hl : lv_has ls 4 [(0, .ref mo), (1, .int p0), (2, .int p1)] := hl
  refine lv_aload_n hx hb dX11_doubt_0 rfl (lv_at hl 0 rfl) ?_
  refine lv_iload_n hx hb dX11_doubt_1 rfl (lv_at hl 1 rfl) ?_
  refine lv_iconst (v := 0) hx hb dX11_doubt_2 (by decide) ?_
  refine lv_aload_n hx hb dX11_doubt_3 rfl (lv_at hl 0 rfl) ?_
  refine hk_get (ref := "LightcurveHouseModel") (v := .int (nI (cn 12))) X K hM.1 rfl iX11_doubt_X11 12 (by decide) (by decide +kernel) (fun _ h => h) rfl dX11_doubt_4 ?_
  refine lv_iconst (v := 1) hx hb dX11_doubt_7 (by decide) ?_
  refine lv_isub hx hb dX11_doubt_8 ?_
  refine hk_callS 3 (As := [.int p0, .int 0, .int ((nI (cn 12)) - 1)]) (rest := [.ref mo]) X K hAE hS hl.1 (c_X11_inS E l H0 (a := p0) (n := cn 12) (by omega)) (fun _ h => h.elim) gX11_doubt_X11_in rfl hd_X11_in rfl ⟨⟨(Nat.le_of_ble_eq_true rfl), (Nat.le_of_ble_eq_true rfl)⟩, (Nat.le_of_ble_eq_true rfl), (Nat.le_of_ble_eq_true rfl)⟩ rfl (Nat.le_of_ble_eq_true rfl) dX11_doubt_9 (fun v9 H1 locsH1 hp hS hzH1 hkH1 => ?_)
  obtain ⟨hv, hh⟩ := hp
  subst hh
  rcases hv with ⟨hv, c_9⟩ | ⟨hv, c_9⟩
  · subst hv
    refine lv_if_eq (tgt := 19) hx hb dX11_doubt_12 (by decide) (fun c_12 => ?_) (fun c_12 => ?_)
    · exact absurd c_12 (by decide)
    · refine lv_iconst (v := 0) hx hb dX11_doubt_15 (by decide) ?_
      refine lv_goto (tgt := 20) hx hb dX11_doubt_16 (by decide) ?_
      refine hk_put (ref := "LightcurveHouseModel") X K hM.1 rfl iX11_doubt_X11 tyX11 tyX11_ok nmX11 hS hM.2.2.2.2.1 33 (by decide) (by decide +kernel) (fun _ h => h) (by decide +kernel) rfl rfl (Nat.le_of_ble_eq_true rfl) dX11_doubt_20 (fun H2 locsH2 hOH2 hzH2 hqH2 hS => ?_)
      rw [mf_33] at hOH2
      have hM := MW.obj hM hOH2 hqH2
      refine lv_aload_n hx hb dX11_doubt_23 rfl (lv_at hl 0 rfl) ?_
      refine hk_get (ref := "LightcurveHouseModel") (v := .int 0) X K hM.1 rfl iX11_doubt_X11 33 (by decide) (by decide +kernel) (fun _ h => h) rfl dX11_doubt_24 ?_
      refine lv_if_le (tgt := 32) hx hb dX11_doubt_27 (by decide) (fun c_27 => ?_) (fun c_27 => ?_)
      · refine lv_aload_n hx hb dX11_doubt_32 rfl (lv_at hl 0 rfl) ?_
        refine hk_get (ref := "LightcurveHouseModel") (v := .ref (am 21)) X K hM.1 rfl iX11_doubt_X11 21 (by decide) (by decide +kernel) (fun _ h => h) rfl dX11_doubt_33 ?_
        refine lv_iload_n hx hb dX11_doubt_36 rfl (lv_at hl 1 rfl) ?_
        refine hk_zld X K hM.a21 (vp_isS hnl (by omega) c_9) dX11_doubt_37 ?_
        refine lv_istore_n (lv' := [(3, .int ((μ 21) p0.toNatClampNeg)), (0, .ref mo), (1, .int p0), (2, .int p1)]) hx hb dX11_doubt_38 rfl hl (by decide) rfl (fun ls hl => ?_)
        refine lv_aload_n hx hb dX11_doubt_39 rfl (lv_at hl 1 rfl) ?_
        refine hk_get (ref := "LightcurveHouseModel") (v := .ref (am 21)) X K hM.1 rfl iX11_doubt_X11 21 (by decide) (by decide +kernel) (fun _ h => h) rfl dX11_doubt_40 ?_
        refine lv_iload_n hx hb dX11_doubt_43 rfl (lv_at hl 2 rfl) ?_
        refine lv_iload_n hx hb dX11_doubt_44 rfl (lv_at hl 3 rfl) ?_
        refine hk_zst X K hM.a21 hS (hM.2.2.2.2.2 21 (by decide)) (vp_isS hnl (by omega) c_9) hb1 dX11_doubt_45 (fun H3 locsH3 hIH3 hzH3 hqH3 hS => ?_)
        have hM := MW.set hM 21 (by decide) hIH3 hqH3
        refine lv_iload_n hx hb dX11_doubt_46 rfl (lv_at hl 0 rfl) ?_
        exact hk_zret X hr hlk hQ hS (Nat.le_of_ble_eq_true rfl) (Nat.le_of_ble_eq_true rfl) dX11_doubt_47 (by obtain ⟨j, hj, hj2⟩ := isS_ix (by omega) c_9; rw [hj2, nI_clamp (by omega)]; exact hbits j hj) (mfin0 hM (by unfold cd_doubt; (try dsimp only); rw [if_pos c_9]) rfl rfl agr_thr)
      · exact absurd (by decide) c_27
  · subst hv
    refine lv_if_eq (tgt := 19) hx hb dX11_doubt_12 (by decide) (fun c_12 => ?_) (fun c_12 => ?_)
    · refine lv_iconst (v := 1) hx hb dX11_doubt_19 (by decide) ?_
      refine hk_put (ref := "LightcurveHouseModel") X K hM.1 rfl iX11_doubt_X11 tyX11 tyX11_ok nmX11 hS hM.2.2.2.2.1 33 (by decide) (by decide +kernel) (fun _ h => h) (by decide +kernel) rfl rfl (Nat.le_of_ble_eq_true rfl) dX11_doubt_20 (fun H4 locsH4 hOH4 hzH4 hqH4 hS => ?_)
      rw [mf_33] at hOH4
      have hM := MW.obj hM hOH4 hqH4
      refine lv_aload_n hx hb dX11_doubt_23 rfl (lv_at hl 0 rfl) ?_
      refine hk_get (ref := "LightcurveHouseModel") (v := .int 1) X K hM.1 rfl iX11_doubt_X11 33 (by decide) (by decide +kernel) (fun _ h => h) rfl dX11_doubt_24 ?_
      refine lv_if_le (tgt := 32) hx hb dX11_doubt_27 (by decide) (fun c_27 => ?_) (fun c_27 => ?_)
      · exact absurd c_27 (by decide)
      · refine lv_iconst (v := 0) hx hb dX11_doubt_30 (by decide) ?_
        exact hk_zret X hr hlk hQ hS (Nat.le_of_ble_eq_true rfl) (Nat.le_of_ble_eq_true rfl) dX11_doubt_31 (by decide) (mfin1 (v := 1) hM (by unfold cd_doubt; (try dsimp only); rw [if_neg c_9]) (by decide) rfl rfl agr_thr)
    · exact absurd (by decide) c_12

def cd_withdraw (p0 p1 : Int32) (S : mS) : Int32 := if isS (S.1 22) p0 then 0 else 1
def an_withdraw (p0 p1 : Int32) (S : mS) : Int32 := S.2.2 28 (ix p0)
def st_withdraw (p0 p1 : Int32) (S : mS) : mS := (S.1, S.2.1, va_up S.2.2 28 (upd (S.2.2 28) (ix p0) p1))
abbrev rmX11_withdraw : Room := { frames := 1, cells := 0, slots := 0, locals := 22 }
theorem iX11_withdraw_X11 : ∀ w ∈ wsX110, w ∈ wsX11_withdraw := by decide +kernel
set_option maxHeartbeats 4000000 in
set_option maxRecDepth 100000 in
theorem c_X11_withdraw (E : hk_E) (l : Launch) (H0 : Heap) {mo : Nat} {am : Nat → Nat} {Z : Nat → Prop} {cn : Nat → Nat} {sc : Nat → Int32} {μ : Nat → Nat → Int32} (hM : MW E mo am Z cn sc μ H0) (hZ : ∀ q, Z q → hk_A E q) {p0 p1 : Int32} (hnr : cn 22 ≤ 8) (hbits : ∀ i, i < cn 22 → μ 28 i = 0 ∨ μ 28 i = 1) (hb1 : p1 = 0 ∨ p1 = 1)  : hk_M E l yX11_withdraw wsX11_withdraw rmX11_withdraw (Z) [.ref mo, .int p0, .int p1] H0 (mpost E mo am Z (cd_withdraw p0 p1 (cn, sc, μ)) (an_withdraw p0 p1 (cn, sc, μ)) (cn, sc, μ) (st_withdraw p0 p1 (cn, sc, μ))) := by
  refine hk_M.ofW (cc := cX11_withdraw) (maxL := 4) (ret := (some .boolean)) (by decide +kernel) rfl (Nat.le_of_ble_eq_true rfl) ?_
  intro p e s m args below meth c ls Q hQ X hr hlk hnm K hs9 hS hl
  obtain ⟨hx, hb, hml, hown, hts⟩ := id X
  have hAE : ∀ q, (Z) q → hk_A E q := hZ
  have hl : lv_has ls 4 [(0, .ref mo), (1, .int p0), (2, .int p1)] := hl
  refine lv_aload_n hx hb dX11_withdraw_0 rfl (lv_at hl 0 rfl) ?_
  refine lv_iload_n hx hb dX11_withdraw_1 rfl (lv_at hl 1 rfl) ?_
  refine lv_iconst (v := 0) hx hb dX11_withdraw_2 (by decide) ?_
  refine lv_aload_n hx hb dX11_withdraw_3 rfl (lv_at hl 0 rfl) ?_
  refine hk_get (ref := "LightcurveHouseModel") (v := .int (nI (cn 22))) X K hM.1 rfl iX11_withdraw_X11 22 (by decide) (by decide +kernel) (fun _ h => h) rfl dX11_withdraw_4 ?_
  refine lv_iconst (v := 1) hx hb dX11_withdraw_7 (by decide) ?_
  refine lv_isub hx hb dX11_withdraw_8 ?_
  refine hk_callS 3 (As := [.int p0, .int 0, .int ((nI (cn 22)) - 1)]) (rest := [.ref mo]) X K hAE hS hl.1 (c_X11_inS E l H0 (a := p0) (n := cn 22) (by omega)) (fun _ h => h.elim) gX11_withdraw_X11_in rfl hd_X11_in rfl ⟨⟨(Nat.le_of_ble_eq_true rfl), (Nat.le_of_ble_eq_true rfl)⟩, (Nat.le_of_ble_eq_true rfl), (Nat.le_of_ble_eq_true rfl)⟩ rfl (Nat.le_of_ble_eq_true rfl) dX11_withdraw_9 (fun v9 H1 locsH1 hp hS hzH1 hkH1 => ?_)
  obtain ⟨hv, hh⟩ := hp
  subst hh
  rcases hv with ⟨hv, c_9⟩ | ⟨hv, c_9⟩
  · subst hv
    refine lv_if_eq (tgt := 19) hx hb dX11_withdraw_12 (by decide) (fun c_12 => ?_) (fun c_12 => ?_)
    · exact absurd c_12 (by decide)
    · refine lv_iconst (v := 0) hx hb dX11_withdraw_15 (by decide) ?_
      refine lv_goto (tgt := 20) hx hb dX11_withdraw_16 (by decide) ?_
      refine hk_put (ref := "LightcurveHouseModel") X K hM.1 rfl iX11_withdraw_X11 tyX11 tyX11_ok nmX11 hS hM.2.2.2.2.1 33 (by decide) (by decide +kernel) (fun _ h => h) (by decide +kernel) rfl rfl (Nat.le_of_ble_eq_true rfl) dX11_withdraw_20 (fun H2 locsH2 hOH2 hzH2 hqH2 hS => ?_)
      rw [mf_33] at hOH2
      have hM := MW.obj hM hOH2 hqH2
      refine lv_aload_n hx hb dX11_withdraw_23 rfl (lv_at hl 0 rfl) ?_
      refine hk_get (ref := "LightcurveHouseModel") (v := .int 0) X K hM.1 rfl iX11_withdraw_X11 33 (by decide) (by decide +kernel) (fun _ h => h) rfl dX11_withdraw_24 ?_
      refine lv_if_le (tgt := 32) hx hb dX11_withdraw_27 (by decide) (fun c_27 => ?_) (fun c_27 => ?_)
      · refine lv_aload_n hx hb dX11_withdraw_32 rfl (lv_at hl 0 rfl) ?_
        refine hk_get (ref := "LightcurveHouseModel") (v := .ref (am 28)) X K hM.1 rfl iX11_withdraw_X11 28 (by decide) (by decide +kernel) (fun _ h => h) rfl dX11_withdraw_33 ?_
        refine lv_iload_n hx hb dX11_withdraw_36 rfl (lv_at hl 1 rfl) ?_
        refine hk_zld X K hM.a28 (vp_isS hnr (by omega) c_9) dX11_withdraw_37 ?_
        refine lv_istore_n (lv' := [(3, .int ((μ 28) p0.toNatClampNeg)), (0, .ref mo), (1, .int p0), (2, .int p1)]) hx hb dX11_withdraw_38 rfl hl (by decide) rfl (fun ls hl => ?_)
        refine lv_aload_n hx hb dX11_withdraw_39 rfl (lv_at hl 1 rfl) ?_
        refine hk_get (ref := "LightcurveHouseModel") (v := .ref (am 28)) X K hM.1 rfl iX11_withdraw_X11 28 (by decide) (by decide +kernel) (fun _ h => h) rfl dX11_withdraw_40 ?_
        refine lv_iload_n hx hb dX11_withdraw_43 rfl (lv_at hl 2 rfl) ?_
        refine lv_iload_n hx hb dX11_withdraw_44 rfl (lv_at hl 3 rfl) ?_
        refine hk_zst X K hM.a28 hS (hM.2.2.2.2.2 28 (by decide)) (vp_isS hnr (by omega) c_9) hb1 dX11_withdraw_45 (fun H3 locsH3 hIH3 hzH3 hqH3 hS => ?_)
        have hM := MW.set hM 28 (by decide) hIH3 hqH3
        refine lv_iload_n hx hb dX11_withdraw_46 rfl (lv_at hl 0 rfl) ?_
        exact hk_zret X hr hlk hQ hS (Nat.le_of_ble_eq_true rfl) (Nat.le_of_ble_eq_true rfl) dX11_withdraw_47 (by obtain ⟨j, hj, hj2⟩ := isS_ix (by omega) c_9; rw [hj2, nI_clamp (by omega)]; exact hbits j hj) (mfin0 hM (by unfold cd_withdraw; (try dsimp only); rw [if_pos c_9]) rfl rfl agr_thr)
      · exact absurd (by decide) c_27
  · subst hv
    refine lv_if_eq (tgt := 19) hx hb dX11_withdraw_12 (by decide) (fun c_12 => ?_) (fun c_12 => ?_)
    · refine lv_iconst (v := 1) hx hb dX11_withdraw_19 (by decide) ?_
      refine hk_put (ref := "LightcurveHouseModel") X K hM.1 rfl iX11_withdraw_X11 tyX11 tyX11_ok nmX11 hS hM.2.2.2.2.1 33 (by decide) (by decide +kernel) (fun _ h => h) (by decide +kernel) rfl rfl (Nat.le_of_ble_eq_true rfl) dX11_withdraw_20 (fun H4 locsH4 hOH4 hzH4 hqH4 hS => ?_)
      rw [mf_33] at hOH4
      have hM := MW.obj hM hOH4 hqH4
      refine lv_aload_n hx hb dX11_withdraw_23 rfl (lv_at hl 0 rfl) ?_
      refine hk_get (ref := "LightcurveHouseModel") (v := .int 1) X K hM.1 rfl iX11_withdraw_X11 33 (by decide) (by decide +kernel) (fun _ h => h) rfl dX11_withdraw_24 ?_
      refine lv_if_le (tgt := 32) hx hb dX11_withdraw_27 (by decide) (fun c_27 => ?_) (fun c_27 => ?_)
      · exact absurd c_27 (by decide)
      · refine lv_iconst (v := 0) hx hb dX11_withdraw_30 (by decide) ?_
        exact hk_zret X hr hlk hQ hS (Nat.le_of_ble_eq_true rfl) (Nat.le_of_ble_eq_true rfl) dX11_withdraw_31 (by decide) (mfin1 (v := 1) hM (by unfold cd_withdraw; (try dsimp only); rw [if_neg c_9]) (by decide) rfl rfl agr_thr)
    · exact absurd (by decide) c_12

def cd_dust (p0 p1 : Int32) (S : mS) : Int32 := if isS (S.1 1) p0 then (if inr p1 0 500 then 0 else 2) else 1
def an_dust (p0 p1 : Int32) (S : mS) : Int32 := S.2.2 5 (ix p0)
def st_dust (p0 p1 : Int32) (S : mS) : mS := (S.1, S.2.1, va_up S.2.2 5 (upd (S.2.2 5) (ix p0) p1))
abbrev rmX11_dust : Room := { frames := 2, cells := 0, slots := 0, locals := 43 }
theorem iX11_dust_X11 : ∀ w ∈ wsX110, w ∈ wsX11_dust := by decide +kernel
set_option maxHeartbeats 4000000 in
set_option maxRecDepth 100000 in
theorem c_X11_dust (E : hk_E) (l : Launch) (H0 : Heap) {mo : Nat} {am : Nat → Nat} {Z : Nat → Prop} {cn : Nat → Nat} {sc : Nat → Int32} {μ : Nat → Nat → Int32} (hM : MW E mo am Z cn sc μ H0) (hZ : ∀ q, Z q → hk_A E q) {p0 p1 : Int32} (hns : cn 1 ≤ 12)  : hk_M E l yX11_dust wsX11_dust rmX11_dust (Z) [.ref mo, .int p0, .int p1] H0 (mpost E mo am Z (cd_dust p0 p1 (cn, sc, μ)) (an_dust p0 p1 (cn, sc, μ)) (cn, sc, μ) (st_dust p0 p1 (cn, sc, μ))) := by
  refine hk_M.ofW (cc := cX11_dust) (maxL := 4) (ret := (some .int)) (by decide +kernel) rfl (Nat.le_of_ble_eq_true rfl) ?_
  intro p e s m args below meth c ls Q hQ X hr hlk hnm K hs9 hS hl
  obtain ⟨hx, hb, hml, hown, hts⟩ := id X
  have hAE : ∀ q, (Z) q → hk_A E q := hZ
  have hl : lv_has ls 4 [(0, .ref mo), (1, .int p0), (2, .int p1)] := hl
  refine lv_aload_n hx hb dX11_dust_0 rfl (lv_at hl 0 rfl) ?_
  refine lv_aload_n hx hb dX11_dust_1 rfl (lv_at hl 0 rfl) ?_
  refine lv_iload_n hx hb dX11_dust_2 rfl (lv_at hl 1 rfl) ?_
  refine hk_callV 1 (As := [.int p0]) (rest := [.ref mo]) X K hAE hS hl.1 hM.1 rfl (c_X11_isStar E l H0 hM hns (i := p0)) (fun _ h => h.elim) gX11_dust_X11_isStar rfl ⟨rfl, hd_X11_isStar⟩ rfl ⟨⟨(Nat.le_of_ble_eq_true rfl), (Nat.le_of_ble_eq_true rfl)⟩, (Nat.le_of_ble_eq_true rfl), (Nat.le_of_ble_eq_true rfl)⟩ rfl (Nat.le_of_ble_eq_true rfl) dX11_dust_3 (fun v9 H1 locsH1 hp hS hzH1 hkH1 => ?_)
  obtain ⟨hv, hh⟩ := hp
  subst hh
  rcases hv with ⟨hv, c_3⟩ | ⟨hv, c_3⟩
  · subst hv
    refine lv_if_ne (tgt := 13) hx hb dX11_dust_6 (by decide) (fun c_6 => ?_) (fun c_6 => ?_)
    · refine lv_iload_n hx hb dX11_dust_13 rfl (lv_at hl 2 rfl) ?_
      refine lv_iconst (v := 0) hx hb dX11_dust_14 (by decide) ?_
      refine lv_sipush (v := 500) hx hb dX11_dust_15 (by decide) ?_
      refine hk_callS 3 (As := [.int p1, .int 0, .int 500]) (rest := [.ref mo]) X K hAE hS hl.1 (c_X11_in E l H0 (a := p1) (lo := 0) (hi := 500)) (fun _ h => h.elim) gX11_dust_X11_in rfl hd_X11_in rfl ⟨⟨(Nat.le_of_ble_eq_true rfl), (Nat.le_of_ble_eq_true rfl)⟩, (Nat.le_of_ble_eq_true rfl), (Nat.le_of_ble_eq_true rfl)⟩ rfl (Nat.le_of_ble_eq_true rfl) dX11_dust_18 (fun v9 H2 locsH2 hp hS hzH2 hkH2 => ?_)
      obtain ⟨hv, hh⟩ := hp
      subst hh
      rcases hv with ⟨hv, c_18⟩ | ⟨hv, c_18⟩
      · subst hv
        refine lv_if_ne (tgt := 28) hx hb dX11_dust_21 (by decide) (fun c_21 => ?_) (fun c_21 => ?_)
        · refine lv_iconst (v := 0) hx hb dX11_dust_28 (by decide) ?_
          refine hk_put (ref := "LightcurveHouseModel") X K hM.1 rfl iX11_dust_X11 tyX11 tyX11_ok nmX11 hS hM.2.2.2.2.1 33 (by decide) (by decide +kernel) (fun _ h => h) (by decide +kernel) rfl rfl (Nat.le_of_ble_eq_true rfl) dX11_dust_29 (fun H3 locsH3 hOH3 hzH3 hqH3 hS => ?_)
          rw [mf_33] at hOH3
          have hM := MW.obj hM hOH3 hqH3
          refine lv_aload_n hx hb dX11_dust_32 rfl (lv_at hl 0 rfl) ?_
          refine hk_get (ref := "LightcurveHouseModel") (v := .int 0) X K hM.1 rfl iX11_dust_X11 33 (by decide) (by decide +kernel) (fun _ h => h) rfl dX11_dust_33 ?_
          refine lv_if_le (tgt := 41) hx hb dX11_dust_36 (by decide) (fun c_36 => ?_) (fun c_36 => ?_)
          · refine lv_aload_n hx hb dX11_dust_41 rfl (lv_at hl 0 rfl) ?_
            refine hk_get (ref := "LightcurveHouseModel") (v := .ref (am 5)) X K hM.1 rfl iX11_dust_X11 5 (by decide) (by decide +kernel) (fun _ h => h) rfl dX11_dust_42 ?_
            refine lv_iload_n hx hb dX11_dust_45 rfl (lv_at hl 1 rfl) ?_
            refine hk_ild X K hM.a5 (vp_isS hns (by omega) c_3) dX11_dust_46 ?_
            refine lv_istore_n (lv' := [(3, .int ((μ 5) p0.toNatClampNeg)), (0, .ref mo), (1, .int p0), (2, .int p1)]) hx hb dX11_dust_47 rfl hl (by decide) rfl (fun ls hl => ?_)
            refine lv_aload_n hx hb dX11_dust_48 rfl (lv_at hl 1 rfl) ?_
            refine hk_get (ref := "LightcurveHouseModel") (v := .ref (am 5)) X K hM.1 rfl iX11_dust_X11 5 (by decide) (by decide +kernel) (fun _ h => h) rfl dX11_dust_49 ?_
            refine lv_iload_n hx hb dX11_dust_52 rfl (lv_at hl 2 rfl) ?_
            refine lv_iload_n hx hb dX11_dust_53 rfl (lv_at hl 3 rfl) ?_
            refine hk_ist X K hM.a5 hS (hM.2.2.2.2.2 5 (by decide)) (vp_isS hns (by omega) c_3) dX11_dust_54 (fun H4 locsH4 hIH4 hzH4 hqH4 hS => ?_)
            have hM := MW.set hM 5 (by decide) hIH4 hqH4
            refine lv_iload_n hx hb dX11_dust_55 rfl (lv_at hl 0 rfl) ?_
            exact hk_iret X hr hlk hQ hS (Nat.le_of_ble_eq_true rfl) (Nat.le_of_ble_eq_true rfl) dX11_dust_56 (mfin0 hM (by unfold cd_dust; (try dsimp only); rw [if_pos c_3, if_pos c_18]) rfl rfl agr_thr)
          · exact absurd (by decide) c_36
        · exact absurd c_21 (by decide)
      · subst hv
        refine lv_if_ne (tgt := 28) hx hb dX11_dust_21 (by decide) (fun c_21 => ?_) (fun c_21 => ?_)
        · exact absurd rfl c_21
        · refine lv_iconst (v := 2) hx hb dX11_dust_24 (by decide) ?_
          refine lv_goto (tgt := 29) hx hb dX11_dust_25 (by decide) ?_
          refine hk_put (ref := "LightcurveHouseModel") X K hM.1 rfl iX11_dust_X11 tyX11 tyX11_ok nmX11 hS hM.2.2.2.2.1 33 (by decide) (by decide +kernel) (fun _ h => h) (by decide +kernel) rfl rfl (Nat.le_of_ble_eq_true rfl) dX11_dust_29 (fun H5 locsH5 hOH5 hzH5 hqH5 hS => ?_)
          rw [mf_33] at hOH5
          have hM := MW.obj hM hOH5 hqH5
          refine lv_aload_n hx hb dX11_dust_32 rfl (lv_at hl 0 rfl) ?_
          refine hk_get (ref := "LightcurveHouseModel") (v := .int 2) X K hM.1 rfl iX11_dust_X11 33 (by decide) (by decide +kernel) (fun _ h => h) rfl dX11_dust_33 ?_
          refine lv_if_le (tgt := 41) hx hb dX11_dust_36 (by decide) (fun c_36 => ?_) (fun c_36 => ?_)
          · exact absurd c_36 (by decide)
          · refine lv_iconst (v := 0) hx hb dX11_dust_39 (by decide) ?_
            exact hk_iret X hr hlk hQ hS (Nat.le_of_ble_eq_true rfl) (Nat.le_of_ble_eq_true rfl) dX11_dust_40 (mfin1 (v := 2) hM (by unfold cd_dust; (try dsimp only); rw [if_pos c_3, if_neg c_18]) (by decide) rfl rfl agr_thr)
    · exact absurd c_6 (by decide)
  · subst hv
    refine lv_if_ne (tgt := 13) hx hb dX11_dust_6 (by decide) (fun c_6 => ?_) (fun c_6 => ?_)
    · exact absurd rfl c_6
    · refine lv_iconst (v := 1) hx hb dX11_dust_9 (by decide) ?_
      refine lv_goto (tgt := 29) hx hb dX11_dust_10 (by decide) ?_
      refine hk_put (ref := "LightcurveHouseModel") X K hM.1 rfl iX11_dust_X11 tyX11 tyX11_ok nmX11 hS hM.2.2.2.2.1 33 (by decide) (by decide +kernel) (fun _ h => h) (by decide +kernel) rfl rfl (Nat.le_of_ble_eq_true rfl) dX11_dust_29 (fun H6 locsH6 hOH6 hzH6 hqH6 hS => ?_)
      rw [mf_33] at hOH6
      have hM := MW.obj hM hOH6 hqH6
      refine lv_aload_n hx hb dX11_dust_32 rfl (lv_at hl 0 rfl) ?_
      refine hk_get (ref := "LightcurveHouseModel") (v := .int 1) X K hM.1 rfl iX11_dust_X11 33 (by decide) (by decide +kernel) (fun _ h => h) rfl dX11_dust_33 ?_
      refine lv_if_le (tgt := 41) hx hb dX11_dust_36 (by decide) (fun c_36 => ?_) (fun c_36 => ?_)
      · exact absurd c_36 (by decide)
      · refine lv_iconst (v := 0) hx hb dX11_dust_39 (by decide) ?_
        exact hk_iret X hr hlk hQ hS (Nat.le_of_ble_eq_true rfl) (Nat.le_of_ble_eq_true rfl) dX11_dust_40 (mfin1 (v := 1) hM (by unfold cd_dust; (try dsimp only); rw [if_neg c_3]) (by decide) rfl rfl agr_thr)

def cd_entry (p0 : Int32) (S : mS) : Int32 := if isS (S.1 1) p0 then 0 else 1
def an_entry (p0 : Int32) (S : mS) : Int32 := S.2.2 3 (ix p0)
def st_entry (p0 : Int32) (S : mS) : mS := S
abbrev rmX11_entry : Room := { frames := 2, cells := 0, slots := 0, locals := 43 }
theorem iX11_entry_X11 : ∀ w ∈ wsX110, w ∈ wsX11_entry := by decide +kernel
set_option maxHeartbeats 4000000 in
set_option maxRecDepth 100000 in
theorem c_X11_entry (E : hk_E) (l : Launch) (H0 : Heap) {mo : Nat} {am : Nat → Nat} {Z : Nat → Prop} {cn : Nat → Nat} {sc : Nat → Int32} {μ : Nat → Nat → Int32} (hM : MW E mo am Z cn sc μ H0) (hZ : ∀ q, Z q → hk_A E q) {p0 : Int32} (hns : cn 1 ≤ 12)  : hk_M E l yX11_entry wsX11_entry rmX11_entry (Z) [.ref mo, .int p0] H0 (mpost E mo am Z (cd_entry p0 (cn, sc, μ)) (an_entry p0 (cn, sc, μ)) (cn, sc, μ) (st_entry p0 (cn, sc, μ))) := by
  refine hk_M.ofW (cc := cX11_entry) (maxL := 2) (ret := (some .int)) (by decide +kernel) rfl (Nat.le_of_ble_eq_true rfl) ?_
  intro p e s m args below meth c ls Q hQ X hr hlk hnm K hs9 hS hl
  obtain ⟨hx, hb, hml, hown, hts⟩ := id X
  have hAE : ∀ q, (Z) q → hk_A E q := hZ
  have hl : lv_has ls 2 [(0, .ref mo), (1, .int p0)] := hl
  refine lv_aload_n hx hb dX11_entry_0 rfl (lv_at hl 0 rfl) ?_
  refine lv_aload_n hx hb dX11_entry_1 rfl (lv_at hl 0 rfl) ?_
  refine lv_iload_n hx hb dX11_entry_2 rfl (lv_at hl 1 rfl) ?_
  refine hk_callV 1 (As := [.int p0]) (rest := [.ref mo]) X K hAE hS hl.1 hM.1 rfl (c_X11_isStar E l H0 hM hns (i := p0)) (fun _ h => h.elim) gX11_entry_X11_isStar rfl ⟨rfl, hd_X11_isStar⟩ rfl ⟨⟨(Nat.le_of_ble_eq_true rfl), (Nat.le_of_ble_eq_true rfl)⟩, (Nat.le_of_ble_eq_true rfl), (Nat.le_of_ble_eq_true rfl)⟩ rfl (Nat.le_of_ble_eq_true rfl) dX11_entry_3 (fun v9 H1 locsH1 hp hS hzH1 hkH1 => ?_)
  obtain ⟨hv, hh⟩ := hp
  subst hh
  rcases hv with ⟨hv, c_3⟩ | ⟨hv, c_3⟩
  · subst hv
    refine lv_if_eq (tgt := 13) hx hb dX11_entry_6 (by decide) (fun c_6 => ?_) (fun c_6 => ?_)
    · exact absurd c_6 (by decide)
    · refine lv_iconst (v := 0) hx hb dX11_entry_9 (by decide) ?_
      refine lv_goto (tgt := 14) hx hb dX11_entry_10 (by decide) ?_
      refine hk_put (ref := "LightcurveHouseModel") X K hM.1 rfl iX11_entry_X11 tyX11 tyX11_ok nmX11 hS hM.2.2.2.2.1 33 (by decide) (by decide +kernel) (fun _ h => h) (by decide +kernel) rfl rfl (Nat.le_of_ble_eq_true rfl) dX11_entry_14 (fun H2 locsH2 hOH2 hzH2 hqH2 hS => ?_)
      rw [mf_33] at hOH2
      have hM := MW.obj hM hOH2 hqH2
      refine lv_aload_n hx hb dX11_entry_17 rfl (lv_at hl 0 rfl) ?_
      refine hk_get (ref := "LightcurveHouseModel") (v := .int 0) X K hM.1 rfl iX11_entry_X11 33 (by decide) (by decide +kernel) (fun _ h => h) rfl dX11_entry_18 ?_
      refine lv_if_ne (tgt := 33) hx hb dX11_entry_21 (by decide) (fun c_21 => ?_) (fun c_21 => ?_)
      · exact absurd rfl c_21
      · refine lv_aload_n hx hb dX11_entry_24 rfl (lv_at hl 0 rfl) ?_
        refine hk_get (ref := "LightcurveHouseModel") (v := .ref (am 3)) X K hM.1 rfl iX11_entry_X11 3 (by decide) (by decide +kernel) (fun _ h => h) rfl dX11_entry_25 ?_
        refine lv_iload_n hx hb dX11_entry_28 rfl (lv_at hl 1 rfl) ?_
        refine hk_ild X K hM.a3 (vp_isS hns (by omega) c_3) dX11_entry_29 ?_
        refine lv_goto (tgt := 34) hx hb dX11_entry_30 (by decide) ?_
        exact hk_iret X hr hlk hQ hS (Nat.le_of_ble_eq_true rfl) (Nat.le_of_ble_eq_true rfl) dX11_entry_34 (mfin0 hM (by unfold cd_entry; (try dsimp only); rw [if_pos c_3]) rfl rfl agr_thr)
  · subst hv
    refine lv_if_eq (tgt := 13) hx hb dX11_entry_6 (by decide) (fun c_6 => ?_) (fun c_6 => ?_)
    · refine lv_iconst (v := 1) hx hb dX11_entry_13 (by decide) ?_
      refine hk_put (ref := "LightcurveHouseModel") X K hM.1 rfl iX11_entry_X11 tyX11 tyX11_ok nmX11 hS hM.2.2.2.2.1 33 (by decide) (by decide +kernel) (fun _ h => h) (by decide +kernel) rfl rfl (Nat.le_of_ble_eq_true rfl) dX11_entry_14 (fun H3 locsH3 hOH3 hzH3 hqH3 hS => ?_)
      rw [mf_33] at hOH3
      have hM := MW.obj hM hOH3 hqH3
      refine lv_aload_n hx hb dX11_entry_17 rfl (lv_at hl 0 rfl) ?_
      refine hk_get (ref := "LightcurveHouseModel") (v := .int 1) X K hM.1 rfl iX11_entry_X11 33 (by decide) (by decide +kernel) (fun _ h => h) rfl dX11_entry_18 ?_
      refine lv_if_ne (tgt := 33) hx hb dX11_entry_21 (by decide) (fun c_21 => ?_) (fun c_21 => ?_)
      · refine lv_iconst (v := 0) hx hb dX11_entry_33 (by decide) ?_
        exact hk_iret X hr hlk hQ hS (Nat.le_of_ble_eq_true rfl) (Nat.le_of_ble_eq_true rfl) dX11_entry_34 (mfin1 (v := 1) hM (by unfold cd_entry; (try dsimp only); rw [if_neg c_3]) (by decide) rfl rfl agr_thr)
      · exact absurd c_21 (by decide)
    · exact absurd (by decide) c_6

abbrev rmX11_thrown : Room := { frames := 0, cells := 0, slots := 0, locals := 0 }
theorem iX11_thrown_X11 : ∀ w ∈ wsX110, w ∈ wsX11_thrown := by decide +kernel
set_option maxHeartbeats 4000000 in
set_option maxRecDepth 100000 in
theorem c_X11_thrown (E : hk_E) (l : Launch) (H0 : Heap) {mo : Nat} {am : Nat → Nat} {Z : Nat → Prop} {cn : Nat → Nat} {sc : Nat → Int32} {μ : Nat → Nat → Int32} (hM : MW E mo am Z cn sc μ H0)  : hk_M E l yX11_thrown wsX11_thrown rmX11_thrown (fun _ => False) [.ref mo] H0 (fun z H1 => z = some (.int (sc 33)) ∧ H0 = H1) := by
  refine hk_M.ofW (cc := cX11_thrown) (maxL := 1) (ret := (some .int)) (by decide +kernel) rfl (Nat.le_of_ble_eq_true rfl) ?_
  intro p e s m args below meth c ls Q hQ X hr hlk hnm K hs9 hS hl
  obtain ⟨hx, hb, hml, hown, hts⟩ := id X
  have hAE : ∀ q, (fun _ => False) q → hk_A E q := fun _ h => h.elim
  have hl : lv_has ls 1 [(0, .ref mo)] := hl
  refine lv_aload_n hx hb dX11_thrown_0 rfl (lv_at hl 0 rfl) ?_
  refine hk_get (ref := "LightcurveHouseModel") (v := .int (sc 33)) X K hM.1 rfl iX11_thrown_X11 33 (by decide) (by decide +kernel) (fun _ h => h) rfl dX11_thrown_1 ?_
  exact hk_iret X hr hlk hQ hS (Nat.le_of_ble_eq_true rfl) (Nat.le_of_ble_eq_true rfl) dX11_thrown_4 (⟨rfl, rfl⟩)

/-- what holds of the lasting fields, whatever was called -/
def Inv (S : mS) : Prop :=
  (S.1 1 ≤ 12 ∧ S.1 8 ≤ 8 ∧ S.1 12 ≤ 80 ∧ S.1 22 ≤ 8 ∧ S.1 29 ≤ 30) ∧
  (∀ i, i < 10 → inr (S.2.2 0 i) (-200) 2000) ∧
  (∀ i, i < S.1 1 → inr (S.2.2 2 i) 0 363 ∧ (∃ e, e ≤ i ∧ S.2.2 3 i = nI e ∧ S.2.2 3 e = nI e) ∧ (S.2.2 4 i = 0 ∨ inr (S.2.2 4 i) 30 1000000)) ∧
  (∀ i, i < 8 → inr (S.2.2 6 i) (-99) 99) ∧
  (∀ i, i < S.1 8 → inr (S.2.2 9 i) 0 9999999 ∧ inr (S.2.2 10 i) (-500) 3000 ∧ inr (S.2.2 11 i) 1 20) ∧
  (∀ k, k < S.1 12 → isS (S.1 1) (S.2.2 14 k) ∧ (S.2.2 21 k = 0 ∨ S.2.2 21 k = 1) ∧
    ((S.2.2 13 k = 0 ∧ inr (S.2.2 15 k) 0 7 ∧ inr (S.2.2 16 k) 0 9999999 ∧ inr (S.2.2 17 k) 0 9 ∧ inr (S.2.2 18 k) 0 9 ∧ inr (S.2.2 19 k) 0 9 ∧ 0 < S.2.2 18 k + S.2.2 19 k ∧ inr (S.2.2 20 k) 0 9) ∨
     (S.2.2 13 k = 1 ∧ isS (S.1 8) (S.2.2 15 k) ∧ inr (S.2.2 16 k) 0 255))) ∧
  (∀ k, k < S.1 22 → (S.2.2 28 k = 0 ∨ S.2.2 28 k = 1) ∧ inr (S.2.2 24 k) 0 2) ∧
  (∀ k, k < S.1 29 → isS (S.1 1) (S.2.2 30 k) ∧ inr (S.2.2 31 k) 0 9999999)
theorem Inv.step {cn : Nat → Nat} {sc : Nat → Int32} {μ : Nat → Nat → Int32} (h : Inv (cn, sc, μ)) {k : Nat} (hk : k < cn 12) (h0 : μ 13 k = 0) : inr (μ 15 k) 0 7 ∧ inr (μ 16 k) 0 9999999 ∧ inr (μ 17 k) 0 9 ∧ inr (μ 18 k) 0 9 ∧ inr (μ 19 k) 0 9 ∧ 0 < μ 18 k + μ 19 k ∧ inr (μ 20 k) 0 9 := by
  rcases (h.2.2.2.2.2.1 k hk).2.2 with g | g
  · exact g.2
  · exact absurd (g.1.symm.trans h0) (by decide)
theorem Inv.dens {cn : Nat → Nat} {sc : Nat → Int32} {μ : Nat → Nat → Int32} (h : Inv (cn, sc, μ)) {k : Nat} (hk : k < cn 12) (h0 : ¬ μ 13 k = 0) : μ 13 k = 1 ∧ isS (cn 8) (μ 15 k) ∧ inr (μ 16 k) 0 255 := by
  rcases (h.2.2.2.2.2.1 k hk).2.2 with g | g
  · exact absurd g.1 h0
  · exact g
def sp_k (μ : Nat → Nat → Int32) (minute : Int32) (j : Nat) : Int32 := minute / 1440 + μ 2 j - (minute / 1440 + μ 2 j) / 364 * 364
def sp_late (μ : Nat → Nat → Int32) (minute : Int32) (j : Nat) : Int32 := if 364 - sp_k μ minute j ≤ sp_k μ minute j then 8 - 16 * (364 - sp_k μ minute j) / 182 else 8 - 16 * sp_k μ minute j / 182
def sp_raw (μ : Nat → Nat → Int32) (k : Nat) : Int32 := if μ 13 k = 0 then μ 0 (ix (μ 17 k)) + qd ((μ 0 (ix (μ 20 k)) - μ 0 (ix (μ 17 k))) * μ 18 k) (μ 18 k + μ 19 k) else μ 10 (ix (μ 15 k)) - μ 16 k * μ 11 (ix (μ 15 k)) / 10
def sp_light (μ : Nat → Nat → Int32) (k : Nat) : Int32 := if μ 13 k = 0 then sp_raw μ k - μ 6 (ix (μ 15 k)) else sp_raw μ k - 0
def sp_time (μ : Nat → Nat → Int32) (k : Nat) : Int32 := if μ 13 k = 0 then μ 16 k - μ 7 (ix (μ 15 k)) + sp_late μ (μ 16 k) (ix (μ 14 k)) else μ 9 (ix (μ 15 k)) - 0 + sp_late μ (μ 9 (ix (μ 15 k))) (ix (μ 14 k))

abbrev rmX11_part : Room := { frames := 0, cells := 0, slots := 0, locals := 0 }
set_option maxHeartbeats 4000000 in
set_option maxRecDepth 100000 in
theorem c_X11_part (E : hk_E) (l : Launch) (H0 : Heap) {n d : Int32} (hd : 0 < d) : hk_M E l yX11_part wsX11_part rmX11_part (fun _ => False) [.int n, .int d] H0 (fun z H1 => z = some (.int (qd n d)) ∧ H0 = H1) := by
  refine hk_M.ofW (cc := cX11_part) (maxL := 2) (ret := (some .int)) (by decide +kernel) rfl (Nat.le_of_ble_eq_true rfl) ?_
  intro p e s m args below meth c ls Q hQ X hr hlk hnm K hs9 hS hl
  obtain ⟨hx, hb, hml, hown, hts⟩ := id X
  have hAE : ∀ q, (fun _ => False) q → hk_A E q := fun _ h => h.elim
  have hl : lv_has ls 2 [(0, .int n), (1, .int d)] := hl
  refine lv_iload_n hx hb dX11_part_0 rfl (lv_at hl 0 rfl) ?_
  refine lv_iload_n hx hb dX11_part_1 rfl (lv_at hl 1 rfl) ?_
  refine lv_irem hx hb dX11_part_2 (fun h => by rw [h] at hd; exact absurd hd (by decide)) ?_
  refine lv_if_ge (tgt := 14) hx hb dX11_part_3 (by decide) (fun c_3 => ?_) (fun c_3 => ?_)
  · refine lv_iload_n hx hb dX11_part_14 rfl (lv_at hl 0 rfl) ?_
    refine lv_iload_n hx hb dX11_part_15 rfl (lv_at hl 1 rfl) ?_
    refine lv_idiv hx hb dX11_part_16 (fun h => by rw [h] at hd; exact absurd hd (by decide)) ?_
    exact hk_iret X hr hlk hQ hS (Nat.le_of_ble_eq_true rfl) (Nat.le_of_ble_eq_true rfl) dX11_part_17 (⟨by unfold qd; rw [if_neg (Int32.not_lt.mpr c_3)], rfl⟩)
  · refine lv_iload_n hx hb dX11_part_6 rfl (lv_at hl 0 rfl) ?_
    refine lv_iload_n hx hb dX11_part_7 rfl (lv_at hl 1 rfl) ?_
    refine lv_idiv hx hb dX11_part_8 (fun h => by rw [h] at hd; exact absurd hd (by decide)) ?_
    refine lv_iconst (v := 1) hx hb dX11_part_9 (by decide) ?_
    refine lv_isub hx hb dX11_part_10 ?_
    refine lv_goto (tgt := 17) hx hb dX11_part_11 (by decide) ?_
    exact hk_iret X hr hlk hQ hS (Nat.le_of_ble_eq_true rfl) (Nat.le_of_ble_eq_true rfl) dX11_part_17 (⟨by unfold qd; rw [if_pos (Int32.not_le.mp c_3)], rfl⟩)

abbrev rmX11_remainder : Room := { frames := 0, cells := 0, slots := 0, locals := 0 }
set_option maxHeartbeats 4000000 in
set_option maxRecDepth 100000 in
theorem c_X11_remainder (E : hk_E) (l : Launch) (H0 : Heap) {n d : Int32} (hd : 0 < d) : hk_M E l yX11_remainder wsX11_remainder rmX11_remainder (fun _ => False) [.int n, .int d] H0 (fun z H1 => z = some (.int (rmd n d)) ∧ H0 = H1) := by
  refine hk_M.ofW (cc := cX11_remainder) (maxL := 3) (ret := (some .int)) (by decide +kernel) rfl (Nat.le_of_ble_eq_true rfl) ?_
  intro p e s m args below meth c ls Q hQ X hr hlk hnm K hs9 hS hl
  obtain ⟨hx, hb, hml, hown, hts⟩ := id X
  have hAE : ∀ q, (fun _ => False) q → hk_A E q := fun _ h => h.elim
  have hl : lv_has ls 3 [(0, .int n), (1, .int d)] := hl
  refine lv_iload_n hx hb dX11_remainder_0 rfl (lv_at hl 0 rfl) ?_
  refine lv_iload_n hx hb dX11_remainder_1 rfl (lv_at hl 1 rfl) ?_
  refine lv_irem hx hb dX11_remainder_2 (fun h => by rw [h] at hd; exact absurd hd (by decide)) ?_
  refine lv_topi (fun rr err => ?_)
  refine lv_istore_n (lv' := [(2, .int rr), (0, .int n), (1, .int d)]) hx hb dX11_remainder_3 rfl hl (by decide) rfl (fun ls hl => ?_)
  refine lv_iload_n hx hb dX11_remainder_4 rfl (lv_at hl 0 rfl) ?_
  refine lv_if_ge (tgt := 14) hx hb dX11_remainder_5 (by decide) (fun c_5 => ?_) (fun c_5 => ?_)
  · refine lv_iload_n hx hb dX11_remainder_14 rfl (lv_at hl 0 rfl) ?_
    exact hk_iret X hr hlk hQ hS (Nat.le_of_ble_eq_true rfl) (Nat.le_of_ble_eq_true rfl) dX11_remainder_15 (⟨by unfold rmd; rw [err] at *; rw [if_neg (Int32.not_lt.mpr c_5)], rfl⟩)
  · refine lv_iload_n hx hb dX11_remainder_8 rfl (lv_at hl 0 rfl) ?_
    refine lv_iload_n hx hb dX11_remainder_9 rfl (lv_at hl 2 rfl) ?_
    refine lv_iadd hx hb dX11_remainder_10 ?_
    refine lv_goto (tgt := 15) hx hb dX11_remainder_11 (by decide) ?_
    exact hk_iret X hr hlk hQ hS (Nat.le_of_ble_eq_true rfl) (Nat.le_of_ble_eq_true rfl) dX11_remainder_15 (⟨by unfold rmd; rw [err] at *; rw [if_pos (Int32.not_le.mp c_5)], rfl⟩)

abbrev rmX11_late : Room := { frames := 0, cells := 0, slots := 0, locals := 0 }
theorem iX11_late_X11 : ∀ w ∈ wsX110, w ∈ wsX11_late := by decide +kernel
set_option maxHeartbeats 4000000 in
set_option maxRecDepth 100000 in
theorem c_X11_late (E : hk_E) (l : Launch) (H0 : Heap) {mo : Nat} {am : Nat → Nat} {Z : Nat → Prop} {cn : Nat → Nat} {sc : Nat → Int32} {μ : Nat → Nat → Int32} (hM : MW E mo am Z cn sc μ H0) (hns : cn 1 ≤ 12) {mi si : Int32} (hsi : isS (cn 1) si) : hk_M E l yX11_late wsX11_late rmX11_late (fun _ => False) [.ref mo, .int mi, .int si] H0 (fun z H1 => z = some (.int (sp_late μ mi (ix si))) ∧ H0 = H1) := by
  refine hk_M.ofW (cc := cX11_late) (maxL := 5) (ret := (some .int)) (by decide +kernel) rfl (Nat.le_of_ble_eq_true rfl) ?_
  intro p e s m args below meth c ls Q hQ X hr hlk hnm K hs9 hS hl
  obtain ⟨hx, hb, hml, hown, hts⟩ := id X
  have hAE : ∀ q, (fun _ => False) q → hk_A E q := fun _ h => h.elim
  have hl : lv_has ls 5 [(0, .ref mo), (1, .int mi), (2, .int si)] := hl
  refine lv_iload_n hx hb dX11_late_0 rfl (lv_at hl 1 rfl) ?_
  refine lv_sipush (v := 1440) hx hb dX11_late_1 (by decide) ?_
  refine lv_idiv hx hb dX11_late_4 (by decide) ?_
  refine lv_aload_n hx hb dX11_late_5 rfl (lv_at hl 0 rfl) ?_
  refine hk_get (ref := "LightcurveHouseModel") (v := .ref (am 2)) X K hM.1 rfl iX11_late_X11 2 (by decide) (by decide +kernel) (fun _ h => h) rfl dX11_late_6 ?_
  refine lv_iload_n hx hb dX11_late_9 rfl (lv_at hl 2 rfl) ?_
  refine hk_ild X K hM.a2 (vp_isS hns (by omega) hsi) dX11_late_10 ?_
  refine lv_iadd hx hb dX11_late_11 ?_
  refine lv_sipush (v := 364) hx hb dX11_late_12 (by decide) ?_
  refine lv_irem hx hb dX11_late_15 (by decide) ?_
  refine lv_topi (fun kk ekk => ?_)
  refine lv_istore_n (lv' := [(3, .int kk), (0, .ref mo), (1, .int mi), (2, .int si)]) hx hb dX11_late_16 rfl hl (by decide) rfl (fun ls hl => ?_)
  have ekk : kk = sp_k μ mi (ix si) := ekk
  refine lv_iload_n hx hb dX11_late_17 rfl (lv_at hl 0 rfl) ?_
  refine lv_sipush (v := 364) hx hb dX11_late_18 (by decide) ?_
  refine lv_iload_n hx hb dX11_late_21 rfl (lv_at hl 0 rfl) ?_
  refine lv_isub hx hb dX11_late_22 ?_
  refine lv_icmp_ge (tgt := 30) hx hb dX11_late_23 (by decide) (fun c_23 => ?_) (fun c_23 => ?_)
  · refine lv_sipush (v := 364) hx hb dX11_late_30 (by decide) ?_
    refine lv_iload_n hx hb dX11_late_33 rfl (lv_at hl 0 rfl) ?_
    refine lv_isub hx hb dX11_late_34 ?_
    refine lv_istore (lv' := [(4, .int (364 - kk)), (3, .int kk), (0, .ref mo), (1, .int mi), (2, .int si)]) hx hb dX11_late_35 hl (by decide) rfl (fun ls hl => ?_)
    refine lv_bipush (v := 8) hx hb dX11_late_37 (by decide) ?_
    refine lv_bipush (v := 16) hx hb dX11_late_39 (by decide) ?_
    refine lv_iload hx hb dX11_late_41 (lv_at hl 0 rfl) ?_
    refine lv_imul hx hb dX11_late_43 ?_
    refine lv_sipush (v := 182) hx hb dX11_late_44 (by decide) ?_
    refine lv_idiv hx hb dX11_late_47 (by decide) ?_
    refine lv_isub hx hb dX11_late_48 ?_
    exact hk_iret X hr hlk hQ hS (Nat.le_of_ble_eq_true rfl) (Nat.le_of_ble_eq_true rfl) dX11_late_49 (⟨by unfold sp_late; rw [← ekk]; rw [if_pos c_23], rfl⟩)
  · refine lv_iload_n hx hb dX11_late_26 rfl (lv_at hl 0 rfl) ?_
    refine lv_goto (tgt := 35) hx hb dX11_late_27 (by decide) ?_
    refine lv_istore (lv' := [(4, .int kk), (3, .int kk), (0, .ref mo), (1, .int mi), (2, .int si)]) hx hb dX11_late_35 hl (by decide) rfl (fun ls hl => ?_)
    refine lv_bipush (v := 8) hx hb dX11_late_37 (by decide) ?_
    refine lv_bipush (v := 16) hx hb dX11_late_39 (by decide) ?_
    refine lv_iload hx hb dX11_late_41 (lv_at hl 0 rfl) ?_
    refine lv_imul hx hb dX11_late_43 ?_
    refine lv_sipush (v := 182) hx hb dX11_late_44 (by decide) ?_
    refine lv_idiv hx hb dX11_late_47 (by decide) ?_
    refine lv_isub hx hb dX11_late_48 ?_
    exact hk_iret X hr hlk hQ hS (Nat.le_of_ble_eq_true rfl) (Nat.le_of_ble_eq_true rfl) dX11_late_49 (⟨by unfold sp_late; rw [← ekk]; rw [if_neg c_23], rfl⟩)

theorem hd_X11_part : yX11_part.cls ≠ "java/lang/invoke/MethodHandle" ∧ yX11_part.cls ≠ "java/lang/invoke/VarHandle" ∧ (parseMethodDescriptor yX11_part.desc).map (fun d => d.parameters.length) = some 2 := ⟨by decide, by decide, by decide +kernel⟩
abbrev rmX11_raw : Room := { frames := 1, cells := 0, slots := 0, locals := 21 }
theorem iX11_raw_X11 : ∀ w ∈ wsX110, w ∈ wsX11_raw := by decide +kernel
set_option maxHeartbeats 4000000 in
set_option maxRecDepth 100000 in
theorem c_X11_raw (E : hk_E) (l : Launch) (H0 : Heap) {mo : Nat} {am : Nat → Nat} {Z : Nat → Prop} {cn : Nat → Nat} {sc : Nat → Int32} {μ : Nat → Nat → Int32} (hM : MW E mo am Z cn sc μ H0) (hI : Inv (cn, sc, μ)) {k : Nat} (hk : k < cn 12) : hk_M E l yX11_raw wsX11_raw rmX11_raw (fun _ => False) [.ref mo, .int (nI k)] H0 (fun z H1 => z = some (.int (sp_raw μ k)) ∧ H0 = H1) := by
  refine hk_M.ofW (cc := cX11_raw) (maxL := 3) (ret := (some .int)) (by decide +kernel) rfl (Nat.le_of_ble_eq_true rfl) ?_
  intro p e s m args below meth c ls Q hQ X hr hlk hnm K hs9 hS hl
  obtain ⟨hx, hb, hml, hown, hts⟩ := id X
  have hAE : ∀ q, (fun _ => False) q → hk_A E q := fun _ h => h.elim
  have hl : lv_has ls 3 [(0, .ref mo), (1, .int (nI k))] := hl
  have hnl := hI.1.2.2.1
  have hns := hI.1.1
  have hnp := hI.1.2.1
  dsimp only at hnl hns hnp
  refine lv_aload_n hx hb dX11_raw_0 rfl (lv_at hl 0 rfl) ?_
  refine hk_get (ref := "LightcurveHouseModel") (v := .ref (am 13)) X K hM.1 rfl iX11_raw_X11 13 (by decide) (by decide +kernel) (fun _ h => h) rfl dX11_raw_1 ?_
  refine lv_iload_n hx hb dX11_raw_4 rfl (lv_at hl 1 rfl) ?_
  refine hk_ild X K hM.a13 (vp_in_nI (by omega) (by omega)) dX11_raw_5 ?_
  rw [show (μ 13) (nI k).toNatClampNeg = μ 13 k from by rw [nI_clamp (show k < 2 ^ 31 by omega)]]
  refine lv_if_ne (tgt := 60) hx hb dX11_raw_6 (by decide) (fun c_6 => ?_) (fun c_6 => ?_)
  · have hde := hI.dens hk c_6
    refine lv_aload_n hx hb dX11_raw_60 rfl (lv_at hl 0 rfl) ?_
    refine hk_get (ref := "LightcurveHouseModel") (v := .ref (am 10)) X K hM.1 rfl iX11_raw_X11 10 (by decide) (by decide +kernel) (fun _ h => h) rfl dX11_raw_61 ?_
    refine lv_aload_n hx hb dX11_raw_64 rfl (lv_at hl 0 rfl) ?_
    refine hk_get (ref := "LightcurveHouseModel") (v := .ref (am 15)) X K hM.1 rfl iX11_raw_X11 15 (by decide) (by decide +kernel) (fun _ h => h) rfl dX11_raw_65 ?_
    refine lv_iload_n hx hb dX11_raw_68 rfl (lv_at hl 1 rfl) ?_
    refine hk_ild X K hM.a15 (vp_in_nI (by omega) (by omega)) dX11_raw_69 ?_
    rw [show (μ 15) (nI k).toNatClampNeg = μ 15 k from by rw [nI_clamp (show k < 2 ^ 31 by omega)]]
    refine hk_ild X K hM.a10 (vp_isS hnp (by omega) hde.2.1) dX11_raw_70 ?_
    refine lv_aload_n hx hb dX11_raw_71 rfl (lv_at hl 0 rfl) ?_
    refine hk_get (ref := "LightcurveHouseModel") (v := .ref (am 16)) X K hM.1 rfl iX11_raw_X11 16 (by decide) (by decide +kernel) (fun _ h => h) rfl dX11_raw_72 ?_
    refine lv_iload_n hx hb dX11_raw_75 rfl (lv_at hl 1 rfl) ?_
    refine hk_ild X K hM.a16 (vp_in_nI (by omega) (by omega)) dX11_raw_76 ?_
    rw [show (μ 16) (nI k).toNatClampNeg = μ 16 k from by rw [nI_clamp (show k < 2 ^ 31 by omega)]]
    refine lv_aload_n hx hb dX11_raw_77 rfl (lv_at hl 0 rfl) ?_
    refine hk_get (ref := "LightcurveHouseModel") (v := .ref (am 11)) X K hM.1 rfl iX11_raw_X11 11 (by decide) (by decide +kernel) (fun _ h => h) rfl dX11_raw_78 ?_
    refine lv_aload_n hx hb dX11_raw_81 rfl (lv_at hl 0 rfl) ?_
    refine hk_get (ref := "LightcurveHouseModel") (v := .ref (am 15)) X K hM.1 rfl iX11_raw_X11 15 (by decide) (by decide +kernel) (fun _ h => h) rfl dX11_raw_82 ?_
    refine lv_iload_n hx hb dX11_raw_85 rfl (lv_at hl 1 rfl) ?_
    refine hk_ild X K hM.a15 (vp_in_nI (by omega) (by omega)) dX11_raw_86 ?_
    rw [show (μ 15) (nI k).toNatClampNeg = μ 15 k from by rw [nI_clamp (show k < 2 ^ 31 by omega)]]
    refine hk_ild X K hM.a11 (vp_isS hnp (by omega) hde.2.1) dX11_raw_87 ?_
    refine lv_imul hx hb dX11_raw_88 ?_
    refine lv_bipush (v := 10) hx hb dX11_raw_89 (by decide) ?_
    refine lv_idiv hx hb dX11_raw_91 (by decide) ?_
    refine lv_isub hx hb dX11_raw_92 ?_
    exact hk_iret X hr hlk hQ hS (Nat.le_of_ble_eq_true rfl) (Nat.le_of_ble_eq_true rfl) dX11_raw_93 (⟨by unfold sp_raw; rw [if_neg c_6], rfl⟩)
  · have hst := hI.step hk c_6
    refine lv_aload_n hx hb dX11_raw_9 rfl (lv_at hl 0 rfl) ?_
    refine hk_get (ref := "LightcurveHouseModel") (v := .ref (am 0)) X K hM.1 rfl iX11_raw_X11 0 (by decide) (by decide +kernel) (fun _ h => h) rfl dX11_raw_10 ?_
    refine lv_aload_n hx hb dX11_raw_13 rfl (lv_at hl 0 rfl) ?_
    refine hk_get (ref := "LightcurveHouseModel") (v := .ref (am 17)) X K hM.1 rfl iX11_raw_X11 17 (by decide) (by decide +kernel) (fun _ h => h) rfl dX11_raw_14 ?_
    refine lv_iload_n hx hb dX11_raw_17 rfl (lv_at hl 1 rfl) ?_
    refine hk_ild X K hM.a17 (vp_in_nI (by omega) (by omega)) dX11_raw_18 ?_
    rw [show (μ 17) (nI k).toNatClampNeg = μ 17 k from by rw [nI_clamp (show k < 2 ^ 31 by omega)]]
    refine hk_ild X K hM.a0 (vp_inr 9 (by decide) hst.2.2.1) dX11_raw_19 ?_
    refine lv_istore_n (lv' := [(2, .int ((μ 0) (μ 17 k).toNatClampNeg)), (0, .ref mo), (1, .int (nI k))]) hx hb dX11_raw_20 rfl hl (by decide) rfl (fun ls hl => ?_)
    refine lv_iload_n hx hb dX11_raw_21 rfl (lv_at hl 0 rfl) ?_
    refine lv_aload_n hx hb dX11_raw_22 rfl (lv_at hl 1 rfl) ?_
    refine hk_get (ref := "LightcurveHouseModel") (v := .ref (am 0)) X K hM.1 rfl iX11_raw_X11 0 (by decide) (by decide +kernel) (fun _ h => h) rfl dX11_raw_23 ?_
    refine lv_aload_n hx hb dX11_raw_26 rfl (lv_at hl 1 rfl) ?_
    refine hk_get (ref := "LightcurveHouseModel") (v := .ref (am 20)) X K hM.1 rfl iX11_raw_X11 20 (by decide) (by decide +kernel) (fun _ h => h) rfl dX11_raw_27 ?_
    refine lv_iload_n hx hb dX11_raw_30 rfl (lv_at hl 2 rfl) ?_
    refine hk_ild X K hM.a20 (vp_in_nI (by omega) (by omega)) dX11_raw_31 ?_
    rw [show (μ 20) (nI k).toNatClampNeg = μ 20 k from by rw [nI_clamp (show k < 2 ^ 31 by omega)]]
    refine hk_ild X K hM.a0 (vp_inr 9 (by decide) hst.2.2.2.2.2.2) dX11_raw_32 ?_
    refine lv_iload_n hx hb dX11_raw_33 rfl (lv_at hl 0 rfl) ?_
    refine lv_isub hx hb dX11_raw_34 ?_
    refine lv_aload_n hx hb dX11_raw_35 rfl (lv_at hl 1 rfl) ?_
    refine hk_get (ref := "LightcurveHouseModel") (v := .ref (am 18)) X K hM.1 rfl iX11_raw_X11 18 (by decide) (by decide +kernel) (fun _ h => h) rfl dX11_raw_36 ?_
    refine lv_iload_n hx hb dX11_raw_39 rfl (lv_at hl 2 rfl) ?_
    refine hk_ild X K hM.a18 (vp_in_nI (by omega) (by omega)) dX11_raw_40 ?_
    rw [show (μ 18) (nI k).toNatClampNeg = μ 18 k from by rw [nI_clamp (show k < 2 ^ 31 by omega)]]
    refine lv_imul hx hb dX11_raw_41 ?_
    refine lv_aload_n hx hb dX11_raw_42 rfl (lv_at hl 1 rfl) ?_
    refine hk_get (ref := "LightcurveHouseModel") (v := .ref (am 18)) X K hM.1 rfl iX11_raw_X11 18 (by decide) (by decide +kernel) (fun _ h => h) rfl dX11_raw_43 ?_
    refine lv_iload_n hx hb dX11_raw_46 rfl (lv_at hl 2 rfl) ?_
    refine hk_ild X K hM.a18 (vp_in_nI (by omega) (by omega)) dX11_raw_47 ?_
    rw [show (μ 18) (nI k).toNatClampNeg = μ 18 k from by rw [nI_clamp (show k < 2 ^ 31 by omega)]]
    refine lv_aload_n hx hb dX11_raw_48 rfl (lv_at hl 1 rfl) ?_
    refine hk_get (ref := "LightcurveHouseModel") (v := .ref (am 19)) X K hM.1 rfl iX11_raw_X11 19 (by decide) (by decide +kernel) (fun _ h => h) rfl dX11_raw_49 ?_
    refine lv_iload_n hx hb dX11_raw_52 rfl (lv_at hl 2 rfl) ?_
    refine hk_ild X K hM.a19 (vp_in_nI (by omega) (by omega)) dX11_raw_53 ?_
    rw [show (μ 19) (nI k).toNatClampNeg = μ 19 k from by rw [nI_clamp (show k < 2 ^ 31 by omega)]]
    refine lv_iadd hx hb dX11_raw_54 ?_
    refine hk_callS 2 (As := [.int ((((μ 0) (μ 20 k).toNatClampNeg) - ((μ 0) (μ 17 k).toNatClampNeg)) * (μ 18 k)), .int ((μ 18 k) + (μ 19 k))]) (rest := [.int ((μ 0) (μ 17 k).toNatClampNeg)]) X K hAE hS hl.1 (c_X11_part E l H0 (n := (((μ 0) (μ 20 k).toNatClampNeg) - ((μ 0) (μ 17 k).toNatClampNeg)) * (μ 18 k)) (d := (μ 18 k) + (μ 19 k)) hst.2.2.2.2.2.1) (fun _ h => h.elim) gX11_raw_X11_part rfl hd_X11_part rfl ⟨⟨(Nat.le_of_ble_eq_true rfl), (Nat.le_of_ble_eq_true rfl)⟩, (Nat.le_of_ble_eq_true rfl), (Nat.le_of_ble_eq_true rfl)⟩ rfl (Nat.le_of_ble_eq_true rfl) dX11_raw_55 (fun v9 H1 locsH1 hp hS hzH1 hkH1 => ?_)
    obtain ⟨hv, hh⟩ := hp
    subst hv; subst hh
    refine lv_iadd hx hb dX11_raw_58 ?_
    exact hk_iret X hr hlk hQ hS (Nat.le_of_ble_eq_true rfl) (Nat.le_of_ble_eq_true rfl) dX11_raw_59 (⟨by unfold sp_raw; rw [if_pos c_6], rfl⟩)

theorem hd_X11_raw : yX11_raw.cls ≠ "java/lang/invoke/MethodHandle" ∧ yX11_raw.cls ≠ "java/lang/invoke/VarHandle" ∧ (parseMethodDescriptor yX11_raw.desc).map (fun d => d.parameters.length) = some 1 := ⟨by decide, by decide, by decide +kernel⟩
abbrev rmX11_light : Room := { frames := 2, cells := 0, slots := 0, locals := 43 }
theorem iX11_light_X11 : ∀ w ∈ wsX110, w ∈ wsX11_light := by decide +kernel
set_option maxHeartbeats 4000000 in
set_option maxRecDepth 100000 in
theorem c_X11_light (E : hk_E) (l : Launch) (H0 : Heap) {mo : Nat} {am : Nat → Nat} {Z : Nat → Prop} {cn : Nat → Nat} {sc : Nat → Int32} {μ : Nat → Nat → Int32} (hM : MW E mo am Z cn sc μ H0) (hI : Inv (cn, sc, μ)) {k : Nat} (hk : k < cn 12) : hk_M E l yX11_light wsX11_light rmX11_light (fun _ => False) [.ref mo, .int (nI k)] H0 (fun z H1 => z = some (.int (sp_light μ k)) ∧ H0 = H1) := by
  refine hk_M.ofW (cc := cX11_light) (maxL := 2) (ret := (some .int)) (by decide +kernel) rfl (Nat.le_of_ble_eq_true rfl) ?_
  intro p e s m args below meth c ls Q hQ X hr hlk hnm K hs9 hS hl
  obtain ⟨hx, hb, hml, hown, hts⟩ := id X
  have hAE : ∀ q, (fun _ => False) q → hk_A E q := fun _ h => h.elim
  have hl : lv_has ls 2 [(0, .ref mo), (1, .int (nI k))] := hl
  have hnl := hI.1.2.2.1
  have hns := hI.1.1
  have hnp := hI.1.2.1
  dsimp only at hnl hns hnp
  refine lv_aload_n hx hb dX11_light_0 rfl (lv_at hl 0 rfl) ?_
  refine lv_iload_n hx hb dX11_light_1 rfl (lv_at hl 1 rfl) ?_
  refine hk_callV 1 (As := [.int (nI k)]) (rest := []) X K hAE hS hl.1 hM.1 rfl (c_X11_raw E l H0 hM hI hk) (fun _ h => h.elim) gX11_light_X11_raw rfl ⟨rfl, hd_X11_raw⟩ rfl ⟨⟨(Nat.le_of_ble_eq_true rfl), (Nat.le_of_ble_eq_true rfl)⟩, (Nat.le_of_ble_eq_true rfl), (Nat.le_of_ble_eq_true rfl)⟩ rfl (Nat.le_of_ble_eq_true rfl) dX11_light_2 (fun v9 H1 locsH1 hp hS hzH1 hkH1 => ?_)
  obtain ⟨hv, hh⟩ := hp
  subst hv; subst hh
  refine lv_aload_n hx hb dX11_light_5 rfl (lv_at hl 0 rfl) ?_
  refine hk_get (ref := "LightcurveHouseModel") (v := .ref (am 13)) X K hM.1 rfl iX11_light_X11 13 (by decide) (by decide +kernel) (fun _ h => h) rfl dX11_light_6 ?_
  refine lv_iload_n hx hb dX11_light_9 rfl (lv_at hl 1 rfl) ?_
  refine hk_ild X K hM.a13 (vp_in_nI (by omega) (by omega)) dX11_light_10 ?_
  rw [show (μ 13) (nI k).toNatClampNeg = μ 13 k from by rw [nI_clamp (show k < 2 ^ 31 by omega)]]
  refine lv_if_ne (tgt := 28) hx hb dX11_light_11 (by decide) (fun c_11 => ?_) (fun c_11 => ?_)
  · have hde := hI.dens hk c_11
    refine lv_iconst (v := 0) hx hb dX11_light_28 (by decide) ?_
    refine lv_isub hx hb dX11_light_29 ?_
    exact hk_iret X hr hlk hQ hS (Nat.le_of_ble_eq_true rfl) (Nat.le_of_ble_eq_true rfl) dX11_light_30 (⟨by unfold sp_light; rw [if_neg c_11], rfl⟩)
  · have hst := hI.step hk c_11
    refine lv_aload_n hx hb dX11_light_14 rfl (lv_at hl 0 rfl) ?_
    refine hk_get (ref := "LightcurveHouseModel") (v := .ref (am 6)) X K hM.1 rfl iX11_light_X11 6 (by decide) (by decide +kernel) (fun _ h => h) rfl dX11_light_15 ?_
    refine lv_aload_n hx hb dX11_light_18 rfl (lv_at hl 0 rfl) ?_
    refine hk_get (ref := "LightcurveHouseModel") (v := .ref (am 15)) X K hM.1 rfl iX11_light_X11 15 (by decide) (by decide +kernel) (fun _ h => h) rfl dX11_light_19 ?_
    refine lv_iload_n hx hb dX11_light_22 rfl (lv_at hl 1 rfl) ?_
    refine hk_ild X K hM.a15 (vp_in_nI (by omega) (by omega)) dX11_light_23 ?_
    rw [show (μ 15) (nI k).toNatClampNeg = μ 15 k from by rw [nI_clamp (show k < 2 ^ 31 by omega)]]
    refine hk_ild X K hM.a6 (vp_inr 7 (by decide) hst.1) dX11_light_24 ?_
    refine lv_goto (tgt := 29) hx hb dX11_light_25 (by decide) ?_
    refine lv_isub hx hb dX11_light_29 ?_
    exact hk_iret X hr hlk hQ hS (Nat.le_of_ble_eq_true rfl) (Nat.le_of_ble_eq_true rfl) dX11_light_30 (⟨by unfold sp_light; rw [if_pos c_11], rfl⟩)

theorem hd_X11_late : yX11_late.cls ≠ "java/lang/invoke/MethodHandle" ∧ yX11_late.cls ≠ "java/lang/invoke/VarHandle" ∧ (parseMethodDescriptor yX11_late.desc).map (fun d => d.parameters.length) = some 2 := ⟨by decide, by decide, by decide +kernel⟩
abbrev rmX11_time : Room := { frames := 1, cells := 0, slots := 0, locals := 24 }
theorem iX11_time_X11 : ∀ w ∈ wsX110, w ∈ wsX11_time := by decide +kernel
set_option maxHeartbeats 4000000 in
set_option maxRecDepth 100000 in
theorem c_X11_time (E : hk_E) (l : Launch) (H0 : Heap) {mo : Nat} {am : Nat → Nat} {Z : Nat → Prop} {cn : Nat → Nat} {sc : Nat → Int32} {μ : Nat → Nat → Int32} (hM : MW E mo am Z cn sc μ H0) (hI : Inv (cn, sc, μ)) {k : Nat} (hk : k < cn 12) : hk_M E l yX11_time wsX11_time rmX11_time (fun _ => False) [.ref mo, .int (nI k)] H0 (fun z H1 => z = some (.int (sp_time μ k)) ∧ H0 = H1) := by
  refine hk_M.ofW (cc := cX11_time) (maxL := 3) (ret := (some .int)) (by decide +kernel) rfl (Nat.le_of_ble_eq_true rfl) ?_
  intro p e s m args below meth c ls Q hQ X hr hlk hnm K hs9 hS hl
  obtain ⟨hx, hb, hml, hown, hts⟩ := id X
  have hAE : ∀ q, (fun _ => False) q → hk_A E q := fun _ h => h.elim
  have hl : lv_has ls 3 [(0, .ref mo), (1, .int (nI k))] := hl
  have hnl := hI.1.2.2.1
  have hns := hI.1.1
  have hnp := hI.1.2.1
  dsimp only at hnl hns hnp
  refine lv_aload_n hx hb dX11_time_0 rfl (lv_at hl 0 rfl) ?_
  refine hk_get (ref := "LightcurveHouseModel") (v := .ref (am 13)) X K hM.1 rfl iX11_time_X11 13 (by decide) (by decide +kernel) (fun _ h => h) rfl dX11_time_1 ?_
  refine lv_iload_n hx hb dX11_time_4 rfl (lv_at hl 1 rfl) ?_
  refine hk_ild X K hM.a13 (vp_in_nI (by omega) (by omega)) dX11_time_5 ?_
  rw [show (μ 13) (nI k).toNatClampNeg = μ 13 k from by rw [nI_clamp (show k < 2 ^ 31 by omega)]]
  refine lv_if_ne (tgt := 18) hx hb dX11_time_6 (by decide) (fun c_6 => ?_) (fun c_6 => ?_)
  · have hde := hI.dens hk c_6
    refine lv_aload_n hx hb dX11_time_18 rfl (lv_at hl 0 rfl) ?_
    refine hk_get (ref := "LightcurveHouseModel") (v := .ref (am 9)) X K hM.1 rfl iX11_time_X11 9 (by decide) (by decide +kernel) (fun _ h => h) rfl dX11_time_19 ?_
    refine lv_aload_n hx hb dX11_time_22 rfl (lv_at hl 0 rfl) ?_
    refine hk_get (ref := "LightcurveHouseModel") (v := .ref (am 15)) X K hM.1 rfl iX11_time_X11 15 (by decide) (by decide +kernel) (fun _ h => h) rfl dX11_time_23 ?_
    refine lv_iload_n hx hb dX11_time_26 rfl (lv_at hl 1 rfl) ?_
    refine hk_ild X K hM.a15 (vp_in_nI (by omega) (by omega)) dX11_time_27 ?_
    rw [show (μ 15) (nI k).toNatClampNeg = μ 15 k from by rw [nI_clamp (show k < 2 ^ 31 by omega)]]
    refine hk_ild X K hM.a9 (vp_isS hnp (by omega) hde.2.1) dX11_time_28 ?_
    refine lv_istore_n (lv' := [(2, .int ((μ 9) (μ 15 k).toNatClampNeg)), (0, .ref mo), (1, .int (nI k))]) hx hb dX11_time_29 rfl hl (by decide) rfl (fun ls hl => ?_)
    refine lv_iload_n hx hb dX11_time_30 rfl (lv_at hl 0 rfl) ?_
    refine lv_aload_n hx hb dX11_time_31 rfl (lv_at hl 1 rfl) ?_
    refine hk_get (ref := "LightcurveHouseModel") (v := .ref (am 13)) X K hM.1 rfl iX11_time_X11 13 (by decide) (by decide +kernel) (fun _ h => h) rfl dX11_time_32 ?_
    refine lv_iload_n hx hb dX11_time_35 rfl (lv_at hl 2 rfl) ?_
    refine hk_ild X K hM.a13 (vp_in_nI (by omega) (by omega)) dX11_time_36 ?_
    rw [show (μ 13) (nI k).toNatClampNeg = μ 13 k from by rw [nI_clamp (show k < 2 ^ 31 by omega)]]
    refine lv_if_ne (tgt := 54) hx hb dX11_time_37 (by decide) (fun c_37 => ?_) (fun c_37 => ?_)
    · refine lv_iconst (v := 0) hx hb dX11_time_54 (by decide) ?_
      refine lv_isub hx hb dX11_time_55 ?_
      refine lv_aload_n hx hb dX11_time_56 rfl (lv_at hl 1 rfl) ?_
      refine lv_iload_n hx hb dX11_time_57 rfl (lv_at hl 0 rfl) ?_
      refine lv_aload_n hx hb dX11_time_58 rfl (lv_at hl 1 rfl) ?_
      refine hk_get (ref := "LightcurveHouseModel") (v := .ref (am 14)) X K hM.1 rfl iX11_time_X11 14 (by decide) (by decide +kernel) (fun _ h => h) rfl dX11_time_59 ?_
      refine lv_iload_n hx hb dX11_time_62 rfl (lv_at hl 2 rfl) ?_
      refine hk_ild X K hM.a14 (vp_in_nI (by omega) (by omega)) dX11_time_63 ?_
      rw [show (μ 14) (nI k).toNatClampNeg = μ 14 k from by rw [nI_clamp (show k < 2 ^ 31 by omega)]]
      refine hk_callV 2 (As := [.int ((μ 9) (μ 15 k).toNatClampNeg), .int (μ 14 k)]) (rest := [.int (((μ 9) (μ 15 k).toNatClampNeg) - 0)]) X K hAE hS hl.1 hM.1 rfl (c_X11_late E l H0 hM hns (mi := (μ 9) (μ 15 k).toNatClampNeg) (hI.2.2.2.2.2.1 k hk).1) (fun _ h => h.elim) gX11_time_X11_late rfl ⟨rfl, hd_X11_late⟩ rfl ⟨⟨(Nat.le_of_ble_eq_true rfl), (Nat.le_of_ble_eq_true rfl)⟩, (Nat.le_of_ble_eq_true rfl), (Nat.le_of_ble_eq_true rfl)⟩ rfl (Nat.le_of_ble_eq_true rfl) dX11_time_64 (fun v9 H1 locsH1 hp hS hzH1 hkH1 => ?_)
      obtain ⟨hv, hh⟩ := hp
      subst hv; subst hh
      refine lv_iadd hx hb dX11_time_67 ?_
      exact hk_iret X hr hlk hQ hS (Nat.le_of_ble_eq_true rfl) (Nat.le_of_ble_eq_true rfl) dX11_time_68 (⟨by unfold sp_time; rw [if_neg c_6], rfl⟩)
    · exact absurd c_37 c_6
  · have hst := hI.step hk c_6
    refine lv_aload_n hx hb dX11_time_9 rfl (lv_at hl 0 rfl) ?_
    refine hk_get (ref := "LightcurveHouseModel") (v := .ref (am 16)) X K hM.1 rfl iX11_time_X11 16 (by decide) (by decide +kernel) (fun _ h => h) rfl dX11_time_10 ?_
    refine lv_iload_n hx hb dX11_time_13 rfl (lv_at hl 1 rfl) ?_
    refine hk_ild X K hM.a16 (vp_in_nI (by omega) (by omega)) dX11_time_14 ?_
    rw [show (μ 16) (nI k).toNatClampNeg = μ 16 k from by rw [nI_clamp (show k < 2 ^ 31 by omega)]]
    refine lv_goto (tgt := 29) hx hb dX11_time_15 (by decide) ?_
    refine lv_istore_n (lv' := [(2, .int (μ 16 k)), (0, .ref mo), (1, .int (nI k))]) hx hb dX11_time_29 rfl hl (by decide) rfl (fun ls hl => ?_)
    refine lv_iload_n hx hb dX11_time_30 rfl (lv_at hl 0 rfl) ?_
    refine lv_aload_n hx hb dX11_time_31 rfl (lv_at hl 1 rfl) ?_
    refine hk_get (ref := "LightcurveHouseModel") (v := .ref (am 13)) X K hM.1 rfl iX11_time_X11 13 (by decide) (by decide +kernel) (fun _ h => h) rfl dX11_time_32 ?_
    refine lv_iload_n hx hb dX11_time_35 rfl (lv_at hl 2 rfl) ?_
    refine hk_ild X K hM.a13 (vp_in_nI (by omega) (by omega)) dX11_time_36 ?_
    rw [show (μ 13) (nI k).toNatClampNeg = μ 13 k from by rw [nI_clamp (show k < 2 ^ 31 by omega)]]
    refine lv_if_ne (tgt := 54) hx hb dX11_time_37 (by decide) (fun c_37 => ?_) (fun c_37 => ?_)
    · exact absurd c_6 c_37
    · refine lv_aload_n hx hb dX11_time_40 rfl (lv_at hl 1 rfl) ?_
      refine hk_get (ref := "LightcurveHouseModel") (v := .ref (am 7)) X K hM.1 rfl iX11_time_X11 7 (by decide) (by decide +kernel) (fun _ h => h) rfl dX11_time_41 ?_
      refine lv_aload_n hx hb dX11_time_44 rfl (lv_at hl 1 rfl) ?_
      refine hk_get (ref := "LightcurveHouseModel") (v := .ref (am 15)) X K hM.1 rfl iX11_time_X11 15 (by decide) (by decide +kernel) (fun _ h => h) rfl dX11_time_45 ?_
      refine lv_iload_n hx hb dX11_time_48 rfl (lv_at hl 2 rfl) ?_
      refine hk_ild X K hM.a15 (vp_in_nI (by omega) (by omega)) dX11_time_49 ?_
      rw [show (μ 15) (nI k).toNatClampNeg = μ 15 k from by rw [nI_clamp (show k < 2 ^ 31 by omega)]]
      refine hk_ild X K hM.a7 (vp_inr 7 (by decide) hst.1) dX11_time_50 ?_
      refine lv_goto (tgt := 55) hx hb dX11_time_51 (by decide) ?_
      refine lv_isub hx hb dX11_time_55 ?_
      refine lv_aload_n hx hb dX11_time_56 rfl (lv_at hl 1 rfl) ?_
      refine lv_iload_n hx hb dX11_time_57 rfl (lv_at hl 0 rfl) ?_
      refine lv_aload_n hx hb dX11_time_58 rfl (lv_at hl 1 rfl) ?_
      refine hk_get (ref := "LightcurveHouseModel") (v := .ref (am 14)) X K hM.1 rfl iX11_time_X11 14 (by decide) (by decide +kernel) (fun _ h => h) rfl dX11_time_59 ?_
      refine lv_iload_n hx hb dX11_time_62 rfl (lv_at hl 2 rfl) ?_
      refine hk_ild X K hM.a14 (vp_in_nI (by omega) (by omega)) dX11_time_63 ?_
      rw [show (μ 14) (nI k).toNatClampNeg = μ 14 k from by rw [nI_clamp (show k < 2 ^ 31 by omega)]]
      refine hk_callV 2 (As := [.int (μ 16 k), .int (μ 14 k)]) (rest := [.int ((μ 16 k) - ((μ 7) (μ 15 k).toNatClampNeg))]) X K hAE hS hl.1 hM.1 rfl (c_X11_late E l H0 hM hns (mi := μ 16 k) (hI.2.2.2.2.2.1 k hk).1) (fun _ h => h.elim) gX11_time_X11_late rfl ⟨rfl, hd_X11_late⟩ rfl ⟨⟨(Nat.le_of_ble_eq_true rfl), (Nat.le_of_ble_eq_true rfl)⟩, (Nat.le_of_ble_eq_true rfl), (Nat.le_of_ble_eq_true rfl)⟩ rfl (Nat.le_of_ble_eq_true rfl) dX11_time_64 (fun v9 H2 locsH2 hp hS hzH2 hkH2 => ?_)
      obtain ⟨hv, hh⟩ := hp
      subst hv; subst hh
      refine lv_iadd hx hb dX11_time_67 ?_
      exact hk_iret X hr hlk hQ hS (Nat.le_of_ble_eq_true rfl) (Nat.le_of_ble_eq_true rfl) dX11_time_68 (⟨by unfold sp_time; rw [if_pos c_6], rfl⟩)

