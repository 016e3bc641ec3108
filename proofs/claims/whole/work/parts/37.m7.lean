theorem ix_nI {k : Nat} (h : k < 2 ^ 31) : ix (nI k) = k := nI_clamp h
theorem in6 {x : Int32} (h : inr x 0 5) : x = 0 ∨ x = 1 ∨ x = 2 ∨ x = 3 ∨ x = 4 ∨ x = 5 := by
  obtain ⟨j, hj, rfl⟩ := inr_ix (N := 5) (by decide) h
  have : j = 0 ∨ j = 1 ∨ j = 2 ∨ j = 3 ∨ j = 4 ∨ j = 5 := by omega
  rcases this with rfl | rfl | rfl | rfl | rfl | rfl <;> decide
def cd_look (p0 p1 : Int32) (S : mS) : Int32 := if isS (S.1 12) p0 then (if inr p1 0 5 then 0 else 2) else 1
def an_look (p0 p1 : Int32) (S : mS) : Int32 := if p1 = 0 then sp_raw S.2.2 (ix p0) else if p1 = 1 then sp_light S.2.2 (ix p0) else if p1 = 2 then sp_time S.2.2 (ix p0) else if p1 = 3 then S.2.2 14 (ix p0) else if p1 = 4 then (if S.2.2 21 (ix p0) = 0 then 0 else 1) else S.2.2 13 (ix p0)
def st_look (p0 p1 : Int32) (S : mS) : mS := S
theorem hd_X11_light : yX11_light.cls ≠ "java/lang/invoke/MethodHandle" ∧ yX11_light.cls ≠ "java/lang/invoke/VarHandle" ∧ (parseMethodDescriptor yX11_light.desc).map (fun d => d.parameters.length) = some 1 := ⟨by decide, by decide, by decide +kernel⟩
theorem hd_X11_time : yX11_time.cls ≠ "java/lang/invoke/MethodHandle" ∧ yX11_time.cls ≠ "java/lang/invoke/VarHandle" ∧ (parseMethodDescriptor yX11_time.desc).map (fun d => d.parameters.length) = some 1 := ⟨by decide, by decide, by decide +kernel⟩
abbrev rmX11_look : Room := { frames := 3, cells := 0, slots := 0, locals := 64 }
theorem iX11_look_X11 : ∀ w ∈ wsX110, w ∈ wsX11_look := by decide +kernel
set_option maxHeartbeats 4000000 in
set_option maxRecDepth 100000 in
theorem c_X11_look (E : hk_E) (l : Launch) (H0 : Heap) {mo : Nat} {am : Nat → Nat} {Z : Nat → Prop} {cn : Nat → Nat} {sc : Nat → Int32} {μ : Nat → Nat → Int32} (hM : MW E mo am Z cn sc μ H0) (hZ : ∀ q, Z q → hk_A E q) {p0 p1 : Int32} (hI : Inv (cn, sc, μ))  : hk_M E l yX11_look wsX11_look rmX11_look (Z) [.ref mo, .int p0, .int p1] H0 (mpost E mo am Z (cd_look p0 p1 (cn, sc, μ)) (an_look p0 p1 (cn, sc, μ)) (cn, sc, μ) (st_look p0 p1 (cn, sc, μ))) := by
  refine hk_M.ofW (cc := cX11_look) (maxL := 3) (ret := (some .int)) (by decide +kernel) rfl (Nat.le_of_ble_eq_true rfl) ?_
  intro p e s m args below meth c ls Q hQ X hr hlk hnm K hs9 hS hl
  obtain ⟨hx, hb, hml, hown, hts⟩ := id X
  have hAE : ∀ q, (Z) q → hk_A E q := hZ
  have hl : lv_has ls 3 [(0, .ref mo), (1, .int p0), (2, .int p1)] := hl
  have hnl := hI.1.2.2.1
  have hns := hI.1.1
  have hnp := hI.1.2.1
  dsimp only at hnl hns hnp
  refine lv_aload_n hx hb dX11_look_0 rfl (lv_at hl 0 rfl) ?_
  refine lv_iload_n hx hb dX11_look_1 rfl (lv_at hl 1 rfl) ?_
  refine lv_iconst (v := 0) hx hb dX11_look_2 (by decide) ?_
  refine lv_aload_n hx hb dX11_look_3 rfl (lv_at hl 0 rfl) ?_
  refine hk_get (ref := "LightcurveHouseModel") (v := .int (nI (cn 12))) X K hM.1 rfl iX11_look_X11 12 (by decide) (by decide +kernel) (fun _ h => h) rfl dX11_look_4 ?_
  refine lv_iconst (v := 1) hx hb dX11_look_7 (by decide) ?_
  refine lv_isub hx hb dX11_look_8 ?_
  refine hk_callS 3 (As := [.int p0, .int 0, .int ((nI (cn 12)) - 1)]) (rest := [.ref mo]) X K hAE hS hl.1 (c_X11_inS E l H0 (a := p0) (n := cn 12) (by omega)) (fun _ h => h.elim) gX11_look_X11_in rfl hd_X11_in rfl ⟨⟨(Nat.le_of_ble_eq_true rfl), (Nat.le_of_ble_eq_true rfl)⟩, (Nat.le_of_ble_eq_true rfl), (Nat.le_of_ble_eq_true rfl)⟩ rfl (Nat.le_of_ble_eq_true rfl) dX11_look_9 (fun v9 H1 locsH1 hp hS hzH1 hkH1 => ?_)
  obtain ⟨hv, hh⟩ := hp
  subst hh
  rcases hv with ⟨hv, c_9⟩ | ⟨hv, c_9⟩
  · subst hv
    refine lv_if_ne (tgt := 19) hx hb dX11_look_12 (by decide) (fun c_12 => ?_) (fun c_12 => ?_)
    · refine lv_iload_n hx hb dX11_look_19 rfl (lv_at hl 2 rfl) ?_
      refine lv_iconst (v := 0) hx hb dX11_look_20 (by decide) ?_
      refine lv_iconst (v := 5) hx hb dX11_look_21 (by decide) ?_
      refine hk_callS 3 (As := [.int p1, .int 0, .int 5]) (rest := [.ref mo]) X K hAE hS hl.1 (c_X11_in E l H0 (a := p1) (lo := 0) (hi := 5)) (fun _ h => h.elim) gX11_look_X11_in rfl hd_X11_in rfl ⟨⟨(Nat.le_of_ble_eq_true rfl), (Nat.le_of_ble_eq_true rfl)⟩, (Nat.le_of_ble_eq_true rfl), (Nat.le_of_ble_eq_true rfl)⟩ rfl (Nat.le_of_ble_eq_true rfl) dX11_look_22 (fun v9 H2 locsH2 hp hS hzH2 hkH2 => ?_)
      obtain ⟨hv, hh⟩ := hp
      subst hh
      rcases hv with ⟨hv, c_22⟩ | ⟨hv, c_22⟩
      · subst hv
        refine lv_if_ne (tgt := 32) hx hb dX11_look_25 (by decide) (fun c_25 => ?_) (fun c_25 => ?_)
        · refine lv_iconst (v := 0) hx hb dX11_look_32 (by decide) ?_
          refine hk_put (ref := "LightcurveHouseModel") X K hM.1 rfl iX11_look_X11 tyX11 tyX11_ok nmX11 hS hM.2.2.2.2.1 33 (by decide) (by decide +kernel) (fun _ h => h) (by decide +kernel) rfl rfl (Nat.le_of_ble_eq_true rfl) dX11_look_33 (fun H3 locsH3 hOH3 hzH3 hqH3 hS => ?_)
          rw [mf_33] at hOH3
          have hM := MW.obj hM hOH3 hqH3
          refine lv_aload_n hx hb dX11_look_36 rfl (lv_at hl 0 rfl) ?_
          refine hk_get (ref := "LightcurveHouseModel") (v := .int 0) X K hM.1 rfl iX11_look_X11 33 (by decide) (by decide +kernel) (fun _ h => h) rfl dX11_look_37 ?_
          refine lv_if_le (tgt := 45) hx hb dX11_look_40 (by decide) (fun c_40 => ?_) (fun c_40 => ?_)
          · obtain ⟨k, hk, hp0⟩ : ∃ k : Nat, k < cn 12 ∧ p0 = nI k := isS_ix (by omega) c_9
            subst hp0
            refine lv_iload_n hx hb dX11_look_45 rfl (lv_at hl 2 rfl) ?_
            rcases in6 c_22 with e9 | e9 | e9 | e9 | e9 | e9
            · subst e9
              refine lv_tableIn (off := 34) (tgt := 80) hx hb dX11_look_46 (by decide) (by decide) rfl rfl ?_
              refine lv_aload_n hx hb dX11_look_80 rfl (lv_at hl 0 rfl) ?_
              refine lv_iload_n hx hb dX11_look_81 rfl (lv_at hl 1 rfl) ?_
              refine hk_callV 1 (As := [.int (nI k)]) (rest := []) X K hAE hS hl.1 hM.1 rfl (c_X11_raw E l H3 hM hI hk) (fun _ h => h.elim) gX11_look_X11_raw rfl ⟨rfl, hd_X11_raw⟩ rfl ⟨⟨(Nat.le_of_ble_eq_true rfl), (Nat.le_of_ble_eq_true rfl)⟩, (Nat.le_of_ble_eq_true rfl), (Nat.le_of_ble_eq_true rfl)⟩ rfl (Nat.le_of_ble_eq_true rfl) dX11_look_82 (fun v9 H4 locsH4 hp hS hzH4 hkH4 => ?_)
              obtain ⟨hv, hh⟩ := hp
              subst hv; subst hh
              exact hk_iret X hr hlk hQ hS (Nat.le_of_ble_eq_true rfl) (Nat.le_of_ble_eq_true rfl) dX11_look_85 (mfin0 hM (by unfold cd_look; rw [if_pos c_9, if_pos c_22]) rfl (by unfold an_look; rw [if_pos rfl, ix_nI (show k < 2 ^ 31 by omega)]) agr_thr)
            · subst e9
              refine lv_tableIn (off := 40) (tgt := 86) hx hb dX11_look_46 (by decide) (by decide) rfl rfl ?_
              refine lv_aload_n hx hb dX11_look_86 rfl (lv_at hl 0 rfl) ?_
              refine lv_iload_n hx hb dX11_look_87 rfl (lv_at hl 1 rfl) ?_
              refine hk_callV 1 (As := [.int (nI k)]) (rest := []) X K hAE hS hl.1 hM.1 rfl (c_X11_light E l H3 hM hI hk) (fun _ h => h.elim) gX11_look_X11_light rfl ⟨rfl, hd_X11_light⟩ rfl ⟨⟨(Nat.le_of_ble_eq_true rfl), (Nat.le_of_ble_eq_true rfl)⟩, (Nat.le_of_ble_eq_true rfl), (Nat.le_of_ble_eq_true rfl)⟩ rfl (Nat.le_of_ble_eq_true rfl) dX11_look_88 (fun v9 H5 locsH5 hp hS hzH5 hkH5 => ?_)
              obtain ⟨hv, hh⟩ := hp
              subst hv; subst hh
              exact hk_iret X hr hlk hQ hS (Nat.le_of_ble_eq_true rfl) (Nat.le_of_ble_eq_true rfl) dX11_look_91 (mfin0 hM (by unfold cd_look; rw [if_pos c_9, if_pos c_22]) rfl (by unfold an_look; rw [if_neg (by decide), if_pos rfl, ix_nI (show k < 2 ^ 31 by omega)]) agr_thr)
            · subst e9
              refine lv_tableIn (off := 46) (tgt := 92) hx hb dX11_look_46 (by decide) (by decide) rfl rfl ?_
              refine lv_aload_n hx hb dX11_look_92 rfl (lv_at hl 0 rfl) ?_
              refine lv_iload_n hx hb dX11_look_93 rfl (lv_at hl 1 rfl) ?_
              refine hk_callV 1 (As := [.int (nI k)]) (rest := []) X K hAE hS hl.1 hM.1 rfl (c_X11_time E l H3 hM hI hk) (fun _ h => h.elim) gX11_look_X11_time rfl ⟨rfl, hd_X11_time⟩ rfl ⟨⟨(Nat.le_of_ble_eq_true rfl), (Nat.le_of_ble_eq_true rfl)⟩, (Nat.le_of_ble_eq_true rfl), (Nat.le_of_ble_eq_true rfl)⟩ rfl (Nat.le_of_ble_eq_true rfl) dX11_look_94 (fun v9 H6 locsH6 hp hS hzH6 hkH6 => ?_)
              obtain ⟨hv, hh⟩ := hp
              subst hv; subst hh
              exact hk_iret X hr hlk hQ hS (Nat.le_of_ble_eq_true rfl) (Nat.le_of_ble_eq_true rfl) dX11_look_97 (mfin0 hM (by unfold cd_look; rw [if_pos c_9, if_pos c_22]) rfl (by unfold an_look; rw [if_neg (by decide), if_neg (by decide), if_pos rfl, ix_nI (show k < 2 ^ 31 by omega)]) agr_thr)
            · subst e9
              refine lv_tableIn (off := 52) (tgt := 98) hx hb dX11_look_46 (by decide) (by decide) rfl rfl ?_
              refine lv_aload_n hx hb dX11_look_98 rfl (lv_at hl 0 rfl) ?_
              refine hk_get (ref := "LightcurveHouseModel") (v := .ref (am 14)) X K hM.1 rfl iX11_look_X11 14 (by decide) (by decide +kernel) (fun _ h => h) rfl dX11_look_99 ?_
              refine lv_iload_n hx hb dX11_look_102 rfl (lv_at hl 1 rfl) ?_
              refine hk_ild (f := (μ 14)) X K hM.a14 (vp_in_nI (by omega) (by omega)) dX11_look_103 ?_
              rw [show (μ 14) (nI k).toNatClampNeg = μ 14 k from by rw [nI_clamp (show k < 2 ^ 31 by omega)]]
              exact hk_iret X hr hlk hQ hS (Nat.le_of_ble_eq_true rfl) (Nat.le_of_ble_eq_true rfl) dX11_look_104 (mfin0 hM (by unfold cd_look; rw [if_pos c_9, if_pos c_22]) rfl (by unfold an_look; rw [if_neg (by decide), if_neg (by decide), if_neg (by decide), if_pos rfl, ix_nI (show k < 2 ^ 31 by omega)]) agr_thr)
            · subst e9
              refine lv_tableIn (off := 59) (tgt := 105) hx hb dX11_look_46 (by decide) (by decide) rfl rfl ?_
              refine lv_aload_n hx hb dX11_look_105 rfl (lv_at hl 0 rfl) ?_
              refine hk_get (ref := "LightcurveHouseModel") (v := .ref (am 21)) X K hM.1 rfl iX11_look_X11 21 (by decide) (by decide +kernel) (fun _ h => h) rfl dX11_look_106 ?_
              refine lv_iload_n hx hb dX11_look_109 rfl (lv_at hl 1 rfl) ?_
              refine hk_zld (f := (μ 21)) X K hM.a21 (vp_in_nI (by omega) (by omega)) dX11_look_110 ?_
              rw [show (μ 21) (nI k).toNatClampNeg = μ 21 k from by rw [nI_clamp (show k < 2 ^ 31 by omega)]]
              refine lv_if_eq (tgt := 118) hx hb dX11_look_111 (by decide) (fun c_111 => ?_) (fun c_111 => ?_)
              · refine lv_iconst (v := 0) hx hb dX11_look_118 (by decide) ?_
                exact hk_iret X hr hlk hQ hS (Nat.le_of_ble_eq_true rfl) (Nat.le_of_ble_eq_true rfl) dX11_look_119 (mfin0 hM (by unfold cd_look; rw [if_pos c_9, if_pos c_22]) rfl (by unfold an_look; rw [if_neg (by decide), if_neg (by decide), if_neg (by decide), if_neg (by decide), if_pos rfl, ix_nI (show k < 2 ^ 31 by omega), if_pos c_111]) agr_thr)
              · refine lv_iconst (v := 1) hx hb dX11_look_114 (by decide) ?_
                refine lv_goto (tgt := 119) hx hb dX11_look_115 (by decide) ?_
                exact hk_iret X hr hlk hQ hS (Nat.le_of_ble_eq_true rfl) (Nat.le_of_ble_eq_true rfl) dX11_look_119 (mfin0 hM (by unfold cd_look; rw [if_pos c_9, if_pos c_22]) rfl (by unfold an_look; rw [if_neg (by decide), if_neg (by decide), if_neg (by decide), if_neg (by decide), if_pos rfl, ix_nI (show k < 2 ^ 31 by omega), if_neg c_111]) agr_thr)
            · subst e9
              refine lv_tableOut (tgt := 120) hx hb dX11_look_46 (by decide) rfl ?_
              refine lv_aload_n hx hb dX11_look_120 rfl (lv_at hl 0 rfl) ?_
              refine hk_get (ref := "LightcurveHouseModel") (v := .ref (am 13)) X K hM.1 rfl iX11_look_X11 13 (by decide) (by decide +kernel) (fun _ h => h) rfl dX11_look_121 ?_
              refine lv_iload_n hx hb dX11_look_124 rfl (lv_at hl 1 rfl) ?_
              refine hk_ild (f := (μ 13)) X K hM.a13 (vp_in_nI (by omega) (by omega)) dX11_look_125 ?_
              rw [show (μ 13) (nI k).toNatClampNeg = μ 13 k from by rw [nI_clamp (show k < 2 ^ 31 by omega)]]
              exact hk_iret X hr hlk hQ hS (Nat.le_of_ble_eq_true rfl) (Nat.le_of_ble_eq_true rfl) dX11_look_126 (mfin0 hM (by unfold cd_look; rw [if_pos c_9, if_pos c_22]) rfl (by unfold an_look; rw [if_neg (by decide), if_neg (by decide), if_neg (by decide), if_neg (by decide), if_neg (by decide), ix_nI (show k < 2 ^ 31 by omega)]) agr_thr)
          · exact absurd (by decide) c_40
        · exact absurd c_25 (by decide)
      · subst hv
        refine lv_if_ne (tgt := 32) hx hb dX11_look_25 (by decide) (fun c_25 => ?_) (fun c_25 => ?_)
        · exact absurd rfl c_25
        · refine lv_iconst (v := 2) hx hb dX11_look_28 (by decide) ?_
          refine lv_goto (tgt := 33) hx hb dX11_look_29 (by decide) ?_
          refine hk_put (ref := "LightcurveHouseModel") X K hM.1 rfl iX11_look_X11 tyX11 tyX11_ok nmX11 hS hM.2.2.2.2.1 33 (by decide) (by decide +kernel) (fun _ h => h) (by decide +kernel) rfl rfl (Nat.le_of_ble_eq_true rfl) dX11_look_33 (fun H7 locsH7 hOH7 hzH7 hqH7 hS => ?_)
          rw [mf_33] at hOH7
          have hM := MW.obj hM hOH7 hqH7
          refine lv_aload_n hx hb dX11_look_36 rfl (lv_at hl 0 rfl) ?_
          refine hk_get (ref := "LightcurveHouseModel") (v := .int 2) X K hM.1 rfl iX11_look_X11 33 (by decide) (by decide +kernel) (fun _ h => h) rfl dX11_look_37 ?_
          refine lv_if_le (tgt := 45) hx hb dX11_look_40 (by decide) (fun c_40 => ?_) (fun c_40 => ?_)
          · exact absurd c_40 (by decide)
          · refine lv_iconst (v := 0) hx hb dX11_look_43 (by decide) ?_
            exact hk_iret X hr hlk hQ hS (Nat.le_of_ble_eq_true rfl) (Nat.le_of_ble_eq_true rfl) dX11_look_44 (mfin1 (v := 2) hM (by unfold cd_look; rw [if_pos c_9, if_neg c_22]) (by decide) rfl rfl agr_thr)
    · exact absurd c_12 (by decide)
  · subst hv
    refine lv_if_ne (tgt := 19) hx hb dX11_look_12 (by decide) (fun c_12 => ?_) (fun c_12 => ?_)
    · exact absurd rfl c_12
    · refine lv_iconst (v := 1) hx hb dX11_look_15 (by decide) ?_
      refine lv_goto (tgt := 33) hx hb dX11_look_16 (by decide) ?_
      refine hk_put (ref := "LightcurveHouseModel") X K hM.1 rfl iX11_look_X11 tyX11 tyX11_ok nmX11 hS hM.2.2.2.2.1 33 (by decide) (by decide +kernel) (fun _ h => h) (by decide +kernel) rfl rfl (Nat.le_of_ble_eq_true rfl) dX11_look_33 (fun H8 locsH8 hOH8 hzH8 hqH8 hS => ?_)
      rw [mf_33] at hOH8
      have hM := MW.obj hM hOH8 hqH8
      refine lv_aload_n hx hb dX11_look_36 rfl (lv_at hl 0 rfl) ?_
      refine hk_get (ref := "LightcurveHouseModel") (v := .int 1) X K hM.1 rfl iX11_look_X11 33 (by decide) (by decide +kernel) (fun _ h => h) rfl dX11_look_37 ?_
      refine lv_if_le (tgt := 45) hx hb dX11_look_40 (by decide) (fun c_40 => ?_) (fun c_40 => ?_)
      · exact absurd c_40 (by decide)
      · refine lv_iconst (v := 0) hx hb dX11_look_43 (by decide) ?_
        exact hk_iret X hr hlk hQ hS (Nat.le_of_ble_eq_true rfl) (Nat.le_of_ble_eq_true rfl) dX11_look_44 (mfin1 (v := 1) hM (by unfold cd_look; rw [if_neg c_9]) (by decide) rfl rfl agr_thr)

