theorem agr_z {cn : Nat → Nat} {sc : Nat → Int32} {μ : Nat → Nat → Int32} {v w : Int32} : agr (cn, va_up sc 32 w, μ) (cn, va_up (va_up sc 33 v) 32 w, μ) := fun k hk => ⟨rfl, by
  show va_up sc 32 w k = va_up (va_up sc 33 v) 32 w k
  unfold va_up
  by_cases h : k = 32
  · rw [if_pos h, if_pos h]
  · rw [if_neg h, if_neg h, if_neg (by omega)], rfl⟩
def cd_zero (p0 : Int32) (S : mS) : Int32 := if inr p0 (-1000) 1000 then 0 else 1
def an_zero (p0 : Int32) (S : mS) : Int32 := S.2.1 32
def st_zero (p0 : Int32) (S : mS) : mS := (S.1, va_up S.2.1 32 p0, S.2.2)
abbrev rmX11_zero : Room := { frames := 1, cells := 0, slots := 0, locals := 22 }
theorem iX11_zero_X11 : ∀ w ∈ wsX110, w ∈ wsX11_zero := by decide +kernel
set_option maxHeartbeats 4000000 in
set_option maxRecDepth 100000 in
theorem c_X11_zero (E : hk_E) (l : Launch) (H0 : Heap) {mo : Nat} {am : Nat → Nat} {Z : Nat → Prop} {cn : Nat → Nat} {sc : Nat → Int32} {μ : Nat → Nat → Int32} (hM : MW E mo am Z cn sc μ H0) (hZ : ∀ q, Z q → hk_A E q) {p0 : Int32}  : hk_M E l yX11_zero wsX11_zero rmX11_zero (Z) [.ref mo, .int p0] H0 (mpost E mo am Z (cd_zero p0 (cn, sc, μ)) (an_zero p0 (cn, sc, μ)) (cn, sc, μ) (st_zero p0 (cn, sc, μ))) := by
  refine hk_M.ofW (cc := cX11_zero) (maxL := 3) (ret := (some .int)) (by decide +kernel) rfl (Nat.le_of_ble_eq_true rfl) ?_
  intro p e s m args below meth c ls Q hQ X hr hlk hnm K hs9 hS hl
  obtain ⟨hx, hb, hml, hown, hts⟩ := id X
  have hAE : ∀ q, (Z) q → hk_A E q := hZ
  have hl : lv_has ls 3 [(0, .ref mo), (1, .int p0)] := hl
  refine lv_aload_n hx hb dX11_zero_0 rfl (lv_at hl 0 rfl) ?_
  refine lv_iload_n hx hb dX11_zero_1 rfl (lv_at hl 1 rfl) ?_
  refine lv_sipush (v := (-1000)) hx hb dX11_zero_2 (by decide) ?_
  refine lv_sipush (v := 1000) hx hb dX11_zero_5 (by decide) ?_
  refine hk_callS 3 (As := [.int p0, .int (-1000), .int 1000]) (rest := [.ref mo]) X K hAE hS hl.1 (c_X11_in E l H0 (a := p0) (lo := (-1000)) (hi := 1000)) (fun _ h => h.elim) gX11_zero_X11_in rfl hd_X11_in rfl ⟨⟨(Nat.le_of_ble_eq_true rfl), (Nat.le_of_ble_eq_true rfl)⟩, (Nat.le_of_ble_eq_true rfl), (Nat.le_of_ble_eq_true rfl)⟩ rfl (Nat.le_of_ble_eq_true rfl) dX11_zero_8 (fun v9 H1 locsH1 hp hS hzH1 hkH1 => ?_)
  obtain ⟨hv, hh⟩ := hp
  subst hh
  rcases hv with ⟨hv, c_8⟩ | ⟨hv, c_8⟩
  · subst hv
    refine lv_if_eq (tgt := 18) hx hb dX11_zero_11 (by decide) (fun c_11 => ?_) (fun c_11 => ?_)
    · exact absurd c_11 (by decide)
    · refine lv_iconst (v := 0) hx hb dX11_zero_14 (by decide) ?_
      refine lv_goto (tgt := 19) hx hb dX11_zero_15 (by decide) ?_
      refine hk_put (ref := "LightcurveHouseModel") X K hM.1 rfl iX11_zero_X11 tyX11 tyX11_ok nmX11 hS hM.2.2.2.2.1 33 (by decide) (by decide +kernel) (fun _ h => h) (by decide +kernel) rfl rfl (Nat.le_of_ble_eq_true rfl) dX11_zero_19 (fun H2 locsH2 hOH2 hzH2 hqH2 hS => ?_)
      rw [mf_33] at hOH2
      have hM := MW.obj hM hOH2 hqH2
      refine lv_aload_n hx hb dX11_zero_22 rfl (lv_at hl 0 rfl) ?_
      refine hk_get (ref := "LightcurveHouseModel") (v := .int 0) X K hM.1 rfl iX11_zero_X11 33 (by decide) (by decide +kernel) (fun _ h => h) rfl dX11_zero_23 ?_
      refine lv_if_le (tgt := 31) hx hb dX11_zero_26 (by decide) (fun c_26 => ?_) (fun c_26 => ?_)
      · refine lv_aload_n hx hb dX11_zero_31 rfl (lv_at hl 0 rfl) ?_
        refine hk_get (ref := "LightcurveHouseModel") (v := .int (sc 32)) X K hM.1 rfl iX11_zero_X11 32 (by decide) (by decide +kernel) (fun _ h => h) rfl dX11_zero_32 ?_
        refine lv_istore_n (lv' := [(2, .int (sc 32)), (0, .ref mo), (1, .int p0)]) hx hb dX11_zero_35 rfl hl (by decide) rfl (fun ls hl => ?_)
        refine lv_aload_n hx hb dX11_zero_36 rfl (lv_at hl 1 rfl) ?_
        refine lv_iload_n hx hb dX11_zero_37 rfl (lv_at hl 2 rfl) ?_
        refine hk_put (ref := "LightcurveHouseModel") X K hM.1 rfl iX11_zero_X11 tyX11 tyX11_ok nmX11 hS hM.2.2.2.2.1 32 (by decide) (by decide +kernel) (fun _ h => h) (by decide +kernel) rfl rfl (Nat.le_of_ble_eq_true rfl) dX11_zero_38 (fun H3 locsH3 hOH3 hzH3 hqH3 hS => ?_)
        rw [mf_32] at hOH3
        have hM := MW.obj hM hOH3 hqH3
        refine lv_iload_n hx hb dX11_zero_41 rfl (lv_at hl 0 rfl) ?_
        exact hk_iret X hr hlk hQ hS (Nat.le_of_ble_eq_true rfl) (Nat.le_of_ble_eq_true rfl) dX11_zero_42 (mfin0 hM (by unfold cd_zero; (try dsimp only); rw [if_pos c_8]) rfl rfl agr_z)
      · exact absurd (by decide) c_26
  · subst hv
    refine lv_if_eq (tgt := 18) hx hb dX11_zero_11 (by decide) (fun c_11 => ?_) (fun c_11 => ?_)
    · refine lv_iconst (v := 1) hx hb dX11_zero_18 (by decide) ?_
      refine hk_put (ref := "LightcurveHouseModel") X K hM.1 rfl iX11_zero_X11 tyX11 tyX11_ok nmX11 hS hM.2.2.2.2.1 33 (by decide) (by decide +kernel) (fun _ h => h) (by decide +kernel) rfl rfl (Nat.le_of_ble_eq_true rfl) dX11_zero_19 (fun H4 locsH4 hOH4 hzH4 hqH4 hS => ?_)
      rw [mf_33] at hOH4
      have hM := MW.obj hM hOH4 hqH4
      refine lv_aload_n hx hb dX11_zero_22 rfl (lv_at hl 0 rfl) ?_
      refine hk_get (ref := "LightcurveHouseModel") (v := .int 1) X K hM.1 rfl iX11_zero_X11 33 (by decide) (by decide +kernel) (fun _ h => h) rfl dX11_zero_23 ?_
      refine lv_if_le (tgt := 31) hx hb dX11_zero_26 (by decide) (fun c_26 => ?_) (fun c_26 => ?_)
      · exact absurd c_26 (by decide)
      · refine lv_iconst (v := 0) hx hb dX11_zero_29 (by decide) ?_
        exact hk_iret X hr hlk hQ hS (Nat.le_of_ble_eq_true rfl) (Nat.le_of_ble_eq_true rfl) dX11_zero_30 (mfin1 (v := 1) hM (by unfold cd_zero; (try dsimp only); rw [if_neg c_8]) (by decide) rfl rfl agr_thr)
    · exact absurd (by decide) c_11

def cd_step (p0 p1 p2 p3 p4 p5 p6 : Int32) (S : mS) : Int32 := if isS (S.1 1) p0 then (if inr p1 0 7 then (if inr p3 0 9 then (if inr p6 0 9 then (if inr p2 0 9999999 then (if inr p4 0 9 then (if inr p5 0 9 then (if p4 + p5 ≤ 0 then 2 else (if p3 = p6 then 2 else (if nI (S.1 12) = 80 then 3 else 0))) else 2) else 2) else 2) else 1) else 1) else 1) else 1
def an_step (p0 p1 p2 p3 p4 p5 p6 : Int32) (S : mS) : Int32 := nI (S.1 12)
def st_step (p0 p1 p2 p3 p4 p5 p6 : Int32) (S : mS) : mS := (va_up S.1 12 (S.1 12 + 1), S.2.1, mu_keeps (va_up (va_up (va_up (va_up S.2.2 17 (upd (S.2.2 17) (S.1 12) p3)) 18 (upd (S.2.2 18) (S.1 12) p4)) 19 (upd (S.2.2 19) (S.1 12) p5)) 20 (upd (S.2.2 20) (S.1 12) p6)) (S.1 12) 0 p0 p1 p2)
abbrev rmX11_step : Room := { frames := 2, cells := 0, slots := 0, locals := 43 }
theorem iX11_step_X11 : ∀ w ∈ wsX110, w ∈ wsX11_step := by decide +kernel
set_option maxHeartbeats 4000000 in
set_option maxRecDepth 100000 in
theorem c_X11_step (E : hk_E) (l : Launch) (H0 : Heap) {mo : Nat} {am : Nat → Nat} {Z : Nat → Prop} {cn : Nat → Nat} {sc : Nat → Int32} {μ : Nat → Nat → Int32} (hM : MW E mo am Z cn sc μ H0) (hZ : ∀ q, Z q → hk_A E q) {p0 p1 p2 p3 p4 p5 p6 : Int32} (hns : cn 1 ≤ 12) (hnl : cn 12 ≤ 80)  : hk_M E l yX11_step wsX11_step rmX11_step (Z) [.ref mo, .int p0, .int p1, .int p2, .int p3, .int p4, .int p5, .int p6] H0 (mpost E mo am Z (cd_step p0 p1 p2 p3 p4 p5 p6 (cn, sc, μ)) (an_step p0 p1 p2 p3 p4 p5 p6 (cn, sc, μ)) (cn, sc, μ) (st_step p0 p1 p2 p3 p4 p5 p6 (cn, sc, μ))) := by
  refine hk_M.ofW (cc := cX11_step) (maxL := 10) (ret := (some .int)) (by decide +kernel) rfl (Nat.le_of_ble_eq_true rfl) ?_
  intro p e s m args below meth c ls Q hQ X hr hlk hnm K hs9 hS hl
  obtain ⟨hx, hb, hml, hown, hts⟩ := id X
  have hAE : ∀ q, (Z) q → hk_A E q := hZ
  have hl : lv_has ls 10 [(0, .ref mo), (1, .int p0), (2, .int p1), (3, .int p2), (4, .int p3), (5, .int p4), (6, .int p5), (7, .int p6)] := hl
  refine lv_aload_n hx hb dX11_step_0 rfl (lv_at hl 0 rfl) ?_
  refine lv_iload_n hx hb dX11_step_1 rfl (lv_at hl 1 rfl) ?_
  refine hk_callV 1 (As := [.int p0]) (rest := []) X K hAE hS hl.1 hM.1 rfl (c_X11_isStar E l H0 hM hns (i := p0)) (fun _ h => h.elim) gX11_step_X11_isStar rfl ⟨rfl, hd_X11_isStar⟩ rfl ⟨⟨(Nat.le_of_ble_eq_true rfl), (Nat.le_of_ble_eq_true rfl)⟩, (Nat.le_of_ble_eq_true rfl), (Nat.le_of_ble_eq_true rfl)⟩ rfl (Nat.le_of_ble_eq_true rfl) dX11_step_2 (fun v9 H1 locsH1 hp hS hzH1 hkH1 => ?_)
  obtain ⟨hv, hh⟩ := hp
  subst hh
  rcases hv with ⟨hv, c_2⟩ | ⟨hv, c_2⟩
  · subst hv
    refine lv_if_eq (tgt := 44) hx hb dX11_step_5 (by decide) (fun c_5 => ?_) (fun c_5 => ?_)
    · exact absurd c_5 (by decide)
    · refine lv_iload_n hx hb dX11_step_8 rfl (lv_at hl 2 rfl) ?_
      refine lv_iconst (v := 0) hx hb dX11_step_9 (by decide) ?_
      refine lv_bipush (v := 7) hx hb dX11_step_10 (by decide) ?_
      refine hk_callS 3 (As := [.int p1, .int 0, .int 7]) (rest := []) X K hAE hS hl.1 (c_X11_in E l H0 (a := p1) (lo := 0) (hi := 7)) (fun _ h => h.elim) gX11_step_X11_in rfl hd_X11_in rfl ⟨⟨(Nat.le_of_ble_eq_true rfl), (Nat.le_of_ble_eq_true rfl)⟩, (Nat.le_of_ble_eq_true rfl), (Nat.le_of_ble_eq_true rfl)⟩ rfl (Nat.le_of_ble_eq_true rfl) dX11_step_12 (fun v9 H2 locsH2 hp hS hzH2 hkH2 => ?_)
      obtain ⟨hv, hh⟩ := hp
      subst hh
      rcases hv with ⟨hv, c_12⟩ | ⟨hv, c_12⟩
      · subst hv
        refine lv_if_eq (tgt := 44) hx hb dX11_step_15 (by decide) (fun c_15 => ?_) (fun c_15 => ?_)
        · exact absurd c_15 (by decide)
        · refine lv_iload hx hb dX11_step_18 (lv_at hl 4 rfl) ?_
          refine lv_iconst (v := 0) hx hb dX11_step_20 (by decide) ?_
          refine lv_bipush (v := 9) hx hb dX11_step_21 (by decide) ?_
          refine hk_callS 3 (As := [.int p3, .int 0, .int 9]) (rest := []) X K hAE hS hl.1 (c_X11_in E l H0 (a := p3) (lo := 0) (hi := 9)) (fun _ h => h.elim) gX11_step_X11_in rfl hd_X11_in rfl ⟨⟨(Nat.le_of_ble_eq_true rfl), (Nat.le_of_ble_eq_true rfl)⟩, (Nat.le_of_ble_eq_true rfl), (Nat.le_of_ble_eq_true rfl)⟩ rfl (Nat.le_of_ble_eq_true rfl) dX11_step_23 (fun v9 H3 locsH3 hp hS hzH3 hkH3 => ?_)
          obtain ⟨hv, hh⟩ := hp
          subst hh
          rcases hv with ⟨hv, c_23⟩ | ⟨hv, c_23⟩
          · subst hv
            refine lv_if_eq (tgt := 44) hx hb dX11_step_26 (by decide) (fun c_26 => ?_) (fun c_26 => ?_)
            · exact absurd c_26 (by decide)
            · refine lv_iload hx hb dX11_step_29 (lv_at hl 7 rfl) ?_
              refine lv_iconst (v := 0) hx hb dX11_step_31 (by decide) ?_
              refine lv_bipush (v := 9) hx hb dX11_step_32 (by decide) ?_
              refine hk_callS 3 (As := [.int p6, .int 0, .int 9]) (rest := []) X K hAE hS hl.1 (c_X11_in E l H0 (a := p6) (lo := 0) (hi := 9)) (fun _ h => h.elim) gX11_step_X11_in rfl hd_X11_in rfl ⟨⟨(Nat.le_of_ble_eq_true rfl), (Nat.le_of_ble_eq_true rfl)⟩, (Nat.le_of_ble_eq_true rfl), (Nat.le_of_ble_eq_true rfl)⟩ rfl (Nat.le_of_ble_eq_true rfl) dX11_step_34 (fun v9 H4 locsH4 hp hS hzH4 hkH4 => ?_)
              obtain ⟨hv, hh⟩ := hp
              subst hh
              rcases hv with ⟨hv, c_34⟩ | ⟨hv, c_34⟩
              · subst hv
                refine lv_if_eq (tgt := 44) hx hb dX11_step_37 (by decide) (fun c_37 => ?_) (fun c_37 => ?_)
                · exact absurd c_37 (by decide)
                · refine lv_iconst (v := 1) hx hb dX11_step_40 (by decide) ?_
                  refine lv_goto (tgt := 45) hx hb dX11_step_41 (by decide) ?_
                  refine lv_istore (lv' := [(8, .int 1), (0, .ref mo), (1, .int p0), (2, .int p1), (3, .int p2), (4, .int p3), (5, .int p4), (6, .int p5), (7, .int p6)]) hx hb dX11_step_45 hl (by decide) rfl (fun ls hl => ?_)
                  refine lv_iload_n hx hb dX11_step_47 rfl (lv_at hl 4 rfl) ?_
                  refine lv_iconst (v := 0) hx hb dX11_step_48 (by decide) ?_
                  refine lv_ldc hx hb hown (hts (.constant RX11 122 (9999999)) (by decide +kernel)) dX11_step_49 ?_
                  refine hk_callS 3 (As := [.int p2, .int 0, .int 9999999]) (rest := []) X K hAE hS hl.1 (c_X11_in E l H0 (a := p2) (lo := 0) (hi := 9999999)) (fun _ h => h.elim) gX11_step_X11_in rfl hd_X11_in rfl ⟨⟨(Nat.le_of_ble_eq_true rfl), (Nat.le_of_ble_eq_true rfl)⟩, (Nat.le_of_ble_eq_true rfl), (Nat.le_of_ble_eq_true rfl)⟩ rfl (Nat.le_of_ble_eq_true rfl) dX11_step_51 (fun v9 H5 locsH5 hp hS hzH5 hkH5 => ?_)
                  obtain ⟨hv, hh⟩ := hp
                  subst hh
                  rcases hv with ⟨hv, c_51⟩ | ⟨hv, c_51⟩
                  · subst hv
                    refine lv_if_eq (tgt := 98) hx hb dX11_step_54 (by decide) (fun c_54 => ?_) (fun c_54 => ?_)
                    · exact absurd c_54 (by decide)
                    · refine lv_iload hx hb dX11_step_57 (lv_at hl 6 rfl) ?_
                      refine lv_iconst (v := 0) hx hb dX11_step_59 (by decide) ?_
                      refine lv_bipush (v := 9) hx hb dX11_step_60 (by decide) ?_
                      refine hk_callS 3 (As := [.int p4, .int 0, .int 9]) (rest := []) X K hAE hS hl.1 (c_X11_in E l H0 (a := p4) (lo := 0) (hi := 9)) (fun _ h => h.elim) gX11_step_X11_in rfl hd_X11_in rfl ⟨⟨(Nat.le_of_ble_eq_true rfl), (Nat.le_of_ble_eq_true rfl)⟩, (Nat.le_of_ble_eq_true rfl), (Nat.le_of_ble_eq_true rfl)⟩ rfl (Nat.le_of_ble_eq_true rfl) dX11_step_62 (fun v9 H6 locsH6 hp hS hzH6 hkH6 => ?_)
                      obtain ⟨hv, hh⟩ := hp
                      subst hh
                      rcases hv with ⟨hv, c_62⟩ | ⟨hv, c_62⟩
                      · subst hv
                        refine lv_if_eq (tgt := 98) hx hb dX11_step_65 (by decide) (fun c_65 => ?_) (fun c_65 => ?_)
                        · exact absurd c_65 (by decide)
                        · refine lv_iload hx hb dX11_step_68 (lv_at hl 7 rfl) ?_
                          refine lv_iconst (v := 0) hx hb dX11_step_70 (by decide) ?_
                          refine lv_bipush (v := 9) hx hb dX11_step_71 (by decide) ?_
                          refine hk_callS 3 (As := [.int p5, .int 0, .int 9]) (rest := []) X K hAE hS hl.1 (c_X11_in E l H0 (a := p5) (lo := 0) (hi := 9)) (fun _ h => h.elim) gX11_step_X11_in rfl hd_X11_in rfl ⟨⟨(Nat.le_of_ble_eq_true rfl), (Nat.le_of_ble_eq_true rfl)⟩, (Nat.le_of_ble_eq_true rfl), (Nat.le_of_ble_eq_true rfl)⟩ rfl (Nat.le_of_ble_eq_true rfl) dX11_step_73 (fun v9 H7 locsH7 hp hS hzH7 hkH7 => ?_)
                          obtain ⟨hv, hh⟩ := hp
                          subst hh
                          rcases hv with ⟨hv, c_73⟩ | ⟨hv, c_73⟩
                          · subst hv
                            refine lv_if_eq (tgt := 98) hx hb dX11_step_76 (by decide) (fun c_76 => ?_) (fun c_76 => ?_)
                            · exact absurd c_76 (by decide)
                            · refine lv_iload hx hb dX11_step_79 (lv_at hl 6 rfl) ?_
                              refine lv_iload hx hb dX11_step_81 (lv_at hl 7 rfl) ?_
                              refine lv_iadd hx hb dX11_step_83 ?_
                              refine lv_if_le (tgt := 98) hx hb dX11_step_84 (by decide) (fun c_84 => ?_) (fun c_84 => ?_)
                              · refine lv_iconst (v := 0) hx hb dX11_step_98 (by decide) ?_
                                refine lv_istore (lv' := [(9, .int 0), (8, .int 1), (0, .ref mo), (1, .int p0), (2, .int p1), (3, .int p2), (4, .int p3), (5, .int p4), (6, .int p5), (7, .int p6)]) hx hb dX11_step_99 hl (by decide) rfl (fun ls hl => ?_)
                                refine lv_aload_n hx hb dX11_step_101 rfl (lv_at hl 2 rfl) ?_
                                refine lv_iload hx hb dX11_step_102 (lv_at hl 1 rfl) ?_
                                refine lv_if_ne (tgt := 111) hx hb dX11_step_104 (by decide) (fun c_104 => ?_) (fun c_104 => ?_)
                                · refine lv_iload hx hb dX11_step_111 (lv_at hl 0 rfl) ?_
                                  refine lv_if_ne (tgt := 120) hx hb dX11_step_113 (by decide) (fun c_113 => ?_) (fun c_113 => ?_)
                                  · exact absurd rfl c_113
                                  · refine lv_iconst (v := 2) hx hb dX11_step_116 (by decide) ?_
                                    refine lv_goto (tgt := 134) hx hb dX11_step_117 (by decide) ?_
                                    refine hk_put (ref := "LightcurveHouseModel") X K hM.1 rfl iX11_step_X11 tyX11 tyX11_ok nmX11 hS hM.2.2.2.2.1 33 (by decide) (by decide +kernel) (fun _ h => h) (by decide +kernel) rfl rfl (Nat.le_of_ble_eq_true rfl) dX11_step_134 (fun H8 locsH8 hOH8 hzH8 hqH8 hS => ?_)
                                    rw [mf_33] at hOH8
                                    have hM := MW.obj hM hOH8 hqH8
                                    refine lv_aload_n hx hb dX11_step_137 rfl (lv_at hl 2 rfl) ?_
                                    refine hk_get (ref := "LightcurveHouseModel") (v := .int 2) X K hM.1 rfl iX11_step_X11 33 (by decide) (by decide +kernel) (fun _ h => h) rfl dX11_step_138 ?_
                                    refine lv_if_le (tgt := 146) hx hb dX11_step_141 (by decide) (fun c_141 => ?_) (fun c_141 => ?_)
                                    · exact absurd c_141 (by decide)
                                    · refine lv_iconst (v := 0) hx hb dX11_step_144 (by decide) ?_
                                      exact hk_iret X hr hlk hQ hS (Nat.le_of_ble_eq_true rfl) (Nat.le_of_ble_eq_true rfl) dX11_step_145 (mfin1 (v := 2) hM (by unfold cd_step; (try dsimp only); rw [if_pos c_2, if_pos c_12, if_pos c_23, if_pos c_34, if_pos c_51, if_pos c_62, if_pos c_73, if_pos c_84]) (by decide) rfl rfl agr_thr)
                                · exact absurd c_104 (by decide)
                              · refine lv_iload hx hb dX11_step_87 (lv_at hl 5 rfl) ?_
                                refine lv_iload hx hb dX11_step_89 (lv_at hl 8 rfl) ?_
                                refine lv_icmp_eq (tgt := 98) hx hb dX11_step_91 (by decide) (fun c_91 => ?_) (fun c_91 => ?_)
                                · refine lv_iconst (v := 0) hx hb dX11_step_98 (by decide) ?_
                                  refine lv_istore (lv' := [(9, .int 0), (8, .int 1), (0, .ref mo), (1, .int p0), (2, .int p1), (3, .int p2), (4, .int p3), (5, .int p4), (6, .int p5), (7, .int p6)]) hx hb dX11_step_99 hl (by decide) rfl (fun ls hl => ?_)
                                  refine lv_aload_n hx hb dX11_step_101 rfl (lv_at hl 2 rfl) ?_
                                  refine lv_iload hx hb dX11_step_102 (lv_at hl 1 rfl) ?_
                                  refine lv_if_ne (tgt := 111) hx hb dX11_step_104 (by decide) (fun c_104 => ?_) (fun c_104 => ?_)
                                  · refine lv_iload hx hb dX11_step_111 (lv_at hl 0 rfl) ?_
                                    refine lv_if_ne (tgt := 120) hx hb dX11_step_113 (by decide) (fun c_113 => ?_) (fun c_113 => ?_)
                                    · exact absurd rfl c_113
                                    · refine lv_iconst (v := 2) hx hb dX11_step_116 (by decide) ?_
                                      refine lv_goto (tgt := 134) hx hb dX11_step_117 (by decide) ?_
                                      refine hk_put (ref := "LightcurveHouseModel") X K hM.1 rfl iX11_step_X11 tyX11 tyX11_ok nmX11 hS hM.2.2.2.2.1 33 (by decide) (by decide +kernel) (fun _ h => h) (by decide +kernel) rfl rfl (Nat.le_of_ble_eq_true rfl) dX11_step_134 (fun H9 locsH9 hOH9 hzH9 hqH9 hS => ?_)
                                      rw [mf_33] at hOH9
                                      have hM := MW.obj hM hOH9 hqH9
                                      refine lv_aload_n hx hb dX11_step_137 rfl (lv_at hl 2 rfl) ?_
                                      refine hk_get (ref := "LightcurveHouseModel") (v := .int 2) X K hM.1 rfl iX11_step_X11 33 (by decide) (by decide +kernel) (fun _ h => h) rfl dX11_step_138 ?_
                                      refine lv_if_le (tgt := 146) hx hb dX11_step_141 (by decide) (fun c_141 => ?_) (fun c_141 => ?_)
                                      · exact absurd c_141 (by decide)
                                      · refine lv_iconst (v := 0) hx hb dX11_step_144 (by decide) ?_
                                        exact hk_iret X hr hlk hQ hS (Nat.le_of_ble_eq_true rfl) (Nat.le_of_ble_eq_true rfl) dX11_step_145 (mfin1 (v := 2) hM (by unfold cd_step; (try dsimp only); rw [if_pos c_2, if_pos c_12, if_pos c_23, if_pos c_34, if_pos c_51, if_pos c_62, if_pos c_73, if_neg c_84, if_pos c_91]) (by decide) rfl rfl agr_thr)
                                  · exact absurd c_104 (by decide)
                                · refine lv_iconst (v := 1) hx hb dX11_step_94 (by decide) ?_
                                  refine lv_goto (tgt := 99) hx hb dX11_step_95 (by decide) ?_
                                  refine lv_istore (lv' := [(9, .int 1), (8, .int 1), (0, .ref mo), (1, .int p0), (2, .int p1), (3, .int p2), (4, .int p3), (5, .int p4), (6, .int p5), (7, .int p6)]) hx hb dX11_step_99 hl (by decide) rfl (fun ls hl => ?_)
                                  refine lv_aload_n hx hb dX11_step_101 rfl (lv_at hl 2 rfl) ?_
                                  refine lv_iload hx hb dX11_step_102 (lv_at hl 1 rfl) ?_
                                  refine lv_if_ne (tgt := 111) hx hb dX11_step_104 (by decide) (fun c_104 => ?_) (fun c_104 => ?_)
                                  · refine lv_iload hx hb dX11_step_111 (lv_at hl 0 rfl) ?_
                                    refine lv_if_ne (tgt := 120) hx hb dX11_step_113 (by decide) (fun c_113 => ?_) (fun c_113 => ?_)
                                    · refine lv_aload_n hx hb dX11_step_120 rfl (lv_at hl 2 rfl) ?_
                                      refine hk_get (ref := "LightcurveHouseModel") (v := .int (nI (cn 12))) X K hM.1 rfl iX11_step_X11 12 (by decide) (by decide +kernel) (fun _ h => h) rfl dX11_step_121 ?_
                                      refine lv_bipush (v := 80) hx hb dX11_step_124 (by decide) ?_
                                      refine lv_icmp_ne (tgt := 133) hx hb dX11_step_126 (by decide) (fun c_126 => ?_) (fun c_126 => ?_)
                                      · have hlt : cn 12 < 80 := Nat.lt_of_le_of_ne hnl (fun h => c_126 (by rw [h]; rfl))
                                        refine lv_iconst (v := 0) hx hb dX11_step_133 (by decide) ?_
                                        refine hk_put (ref := "LightcurveHouseModel") X K hM.1 rfl iX11_step_X11 tyX11 tyX11_ok nmX11 hS hM.2.2.2.2.1 33 (by decide) (by decide +kernel) (fun _ h => h) (by decide +kernel) rfl rfl (Nat.le_of_ble_eq_true rfl) dX11_step_134 (fun H10 locsH10 hOH10 hzH10 hqH10 hS => ?_)
                                        rw [mf_33] at hOH10
                                        have hM := MW.obj hM hOH10 hqH10
                                        refine lv_aload_n hx hb dX11_step_137 rfl (lv_at hl 2 rfl) ?_
                                        refine hk_get (ref := "LightcurveHouseModel") (v := .int 0) X K hM.1 rfl iX11_step_X11 33 (by decide) (by decide +kernel) (fun _ h => h) rfl dX11_step_138 ?_
                                        refine lv_if_le (tgt := 146) hx hb dX11_step_141 (by decide) (fun c_141 => ?_) (fun c_141 => ?_)
                                        · refine lv_aload_n hx hb dX11_step_146 rfl (lv_at hl 2 rfl) ?_
                                          refine hk_get (ref := "LightcurveHouseModel") (v := .ref (am 17)) X K hM.1 rfl iX11_step_X11 17 (by decide) (by decide +kernel) (fun _ h => h) rfl dX11_step_147 ?_
                                          refine lv_aload_n hx hb dX11_step_150 rfl (lv_at hl 2 rfl) ?_
                                          refine hk_get (ref := "LightcurveHouseModel") (v := .int (nI (cn 12))) X K hM.1 rfl iX11_step_X11 12 (by decide) (by decide +kernel) (fun _ h => h) rfl dX11_step_151 ?_
                                          refine lv_iload hx hb dX11_step_154 (lv_at hl 6 rfl) ?_
                                          refine hk_ist (f := (μ 17)) X K hM.a17 hS (hM.2.2.2.2.2 17 (by decide)) (vp_in_nI (by omega) (by omega)) dX11_step_156 (fun H11 locsH11 hIH11 hzH11 hqH11 hS => ?_)
                                          rw [show (nI (cn 12)).toNatClampNeg = (cn 12) from nI_clamp (by omega)] at hIH11
                                          have hM := MW.set hM 17 (by decide) hIH11 hqH11
                                          refine lv_aload_n hx hb dX11_step_157 rfl (lv_at hl 2 rfl) ?_
                                          refine hk_get (ref := "LightcurveHouseModel") (v := .ref (am 18)) X K hM.1 rfl iX11_step_X11 18 (by decide) (by decide +kernel) (fun _ h => h) rfl dX11_step_158 ?_
                                          refine lv_aload_n hx hb dX11_step_161 rfl (lv_at hl 2 rfl) ?_
                                          refine hk_get (ref := "LightcurveHouseModel") (v := .int (nI (cn 12))) X K hM.1 rfl iX11_step_X11 12 (by decide) (by decide +kernel) (fun _ h => h) rfl dX11_step_162 ?_
                                          refine lv_iload hx hb dX11_step_165 (lv_at hl 7 rfl) ?_
                                          refine hk_ist (f := (μ 18)) X K hM.a18 hS (hM.2.2.2.2.2 18 (by decide)) (vp_in_nI (by omega) (by omega)) dX11_step_167 (fun H12 locsH12 hIH12 hzH12 hqH12 hS => ?_)
                                          rw [show (nI (cn 12)).toNatClampNeg = (cn 12) from nI_clamp (by omega)] at hIH12
                                          have hM := MW.set hM 18 (by decide) hIH12 hqH12
                                          refine lv_aload_n hx hb dX11_step_168 rfl (lv_at hl 2 rfl) ?_
                                          refine hk_get (ref := "LightcurveHouseModel") (v := .ref (am 19)) X K hM.1 rfl iX11_step_X11 19 (by decide) (by decide +kernel) (fun _ h => h) rfl dX11_step_169 ?_
                                          refine lv_aload_n hx hb dX11_step_172 rfl (lv_at hl 2 rfl) ?_
                                          refine hk_get (ref := "LightcurveHouseModel") (v := .int (nI (cn 12))) X K hM.1 rfl iX11_step_X11 12 (by decide) (by decide +kernel) (fun _ h => h) rfl dX11_step_173 ?_
                                          refine lv_iload hx hb dX11_step_176 (lv_at hl 8 rfl) ?_
                                          refine hk_ist (f := (μ 19)) X K hM.a19 hS (hM.2.2.2.2.2 19 (by decide)) (vp_in_nI (by omega) (by omega)) dX11_step_178 (fun H13 locsH13 hIH13 hzH13 hqH13 hS => ?_)
                                          rw [show (nI (cn 12)).toNatClampNeg = (cn 12) from nI_clamp (by omega)] at hIH13
                                          have hM := MW.set hM 19 (by decide) hIH13 hqH13
                                          refine lv_aload_n hx hb dX11_step_179 rfl (lv_at hl 2 rfl) ?_
                                          refine hk_get (ref := "LightcurveHouseModel") (v := .ref (am 20)) X K hM.1 rfl iX11_step_X11 20 (by decide) (by decide +kernel) (fun _ h => h) rfl dX11_step_180 ?_
                                          refine lv_aload_n hx hb dX11_step_183 rfl (lv_at hl 2 rfl) ?_
                                          refine hk_get (ref := "LightcurveHouseModel") (v := .int (nI (cn 12))) X K hM.1 rfl iX11_step_X11 12 (by decide) (by decide +kernel) (fun _ h => h) rfl dX11_step_184 ?_
                                          refine lv_iload hx hb dX11_step_187 (lv_at hl 9 rfl) ?_
                                          refine hk_ist (f := (μ 20)) X K hM.a20 hS (hM.2.2.2.2.2 20 (by decide)) (vp_in_nI (by omega) (by omega)) dX11_step_189 (fun H14 locsH14 hIH14 hzH14 hqH14 hS => ?_)
                                          rw [show (nI (cn 12)).toNatClampNeg = (cn 12) from nI_clamp (by omega)] at hIH14
                                          have hM := MW.set hM 20 (by decide) hIH14 hqH14
                                          refine lv_aload_n hx hb dX11_step_190 rfl (lv_at hl 2 rfl) ?_
                                          refine lv_iconst (v := 0) hx hb dX11_step_191 (by decide) ?_
                                          refine lv_iload_n hx hb dX11_step_192 rfl (lv_at hl 3 rfl) ?_
                                          refine lv_iload_n hx hb dX11_step_193 rfl (lv_at hl 4 rfl) ?_
                                          refine lv_iload_n hx hb dX11_step_194 rfl (lv_at hl 5 rfl) ?_
                                          refine hk_callV 4 (As := [.int 0, .int p0, .int p1, .int p2]) (rest := []) X K hAE hS hl.1 hM.1 rfl (c_X11_keeps E l H14 hM hZ hlt (p0 := 0) (p1 := p0) (p2 := p1) (p3 := p2)) (fun _ h => h) gX11_step_X11_keeps rfl ⟨rfl, hd_X11_keeps⟩ rfl ⟨⟨(Nat.le_of_ble_eq_true rfl), (Nat.le_of_ble_eq_true rfl)⟩, (Nat.le_of_ble_eq_true rfl), (Nat.le_of_ble_eq_true rfl)⟩ rfl (Nat.le_of_ble_eq_true rfl) dX11_step_195 (fun v9 H15 locsH15 hp hS hzH15 hkH15 => ?_)
                                          obtain ⟨hv, hM⟩ := hp
                                          subst hv
                                          exact hk_iret X hr hlk hQ hS (Nat.le_of_ble_eq_true rfl) (Nat.le_of_ble_eq_true rfl) dX11_step_198 (mfin0 hM (by unfold cd_step; (try dsimp only); rw [if_pos c_2, if_pos c_12, if_pos c_23, if_pos c_34, if_pos c_51, if_pos c_62, if_pos c_73, if_neg c_84, if_neg c_91, if_neg c_126]) rfl rfl agr_thr)
                                        · exact absurd (by decide) c_141
                                      · refine lv_iconst (v := 3) hx hb dX11_step_129 (by decide) ?_
                                        refine lv_goto (tgt := 134) hx hb dX11_step_130 (by decide) ?_
                                        refine hk_put (ref := "LightcurveHouseModel") X K hM.1 rfl iX11_step_X11 tyX11 tyX11_ok nmX11 hS hM.2.2.2.2.1 33 (by decide) (by decide +kernel) (fun _ h => h) (by decide +kernel) rfl rfl (Nat.le_of_ble_eq_true rfl) dX11_step_134 (fun H16 locsH16 hOH16 hzH16 hqH16 hS => ?_)
                                        rw [mf_33] at hOH16
                                        have hM := MW.obj hM hOH16 hqH16
                                        refine lv_aload_n hx hb dX11_step_137 rfl (lv_at hl 2 rfl) ?_
                                        refine hk_get (ref := "LightcurveHouseModel") (v := .int 3) X K hM.1 rfl iX11_step_X11 33 (by decide) (by decide +kernel) (fun _ h => h) rfl dX11_step_138 ?_
                                        refine lv_if_le (tgt := 146) hx hb dX11_step_141 (by decide) (fun c_141 => ?_) (fun c_141 => ?_)
                                        · exact absurd c_141 (by decide)
                                        · refine lv_iconst (v := 0) hx hb dX11_step_144 (by decide) ?_
                                          exact hk_iret X hr hlk hQ hS (Nat.le_of_ble_eq_true rfl) (Nat.le_of_ble_eq_true rfl) dX11_step_145 (mfin1 (v := 3) hM (by unfold cd_step; (try dsimp only); rw [if_pos c_2, if_pos c_12, if_pos c_23, if_pos c_34, if_pos c_51, if_pos c_62, if_pos c_73, if_neg c_84, if_neg c_91, if_pos c_126]) (by decide) rfl rfl agr_thr)
                                    · exact absurd c_113 (by decide)
                                  · exact absurd c_104 (by decide)
                          · subst hv
                            refine lv_if_eq (tgt := 98) hx hb dX11_step_76 (by decide) (fun c_76 => ?_) (fun c_76 => ?_)
                            · refine lv_iconst (v := 0) hx hb dX11_step_98 (by decide) ?_
                              refine lv_istore (lv' := [(9, .int 0), (8, .int 1), (0, .ref mo), (1, .int p0), (2, .int p1), (3, .int p2), (4, .int p3), (5, .int p4), (6, .int p5), (7, .int p6)]) hx hb dX11_step_99 hl (by decide) rfl (fun ls hl => ?_)
                              refine lv_aload_n hx hb dX11_step_101 rfl (lv_at hl 2 rfl) ?_
                              refine lv_iload hx hb dX11_step_102 (lv_at hl 1 rfl) ?_
                              refine lv_if_ne (tgt := 111) hx hb dX11_step_104 (by decide) (fun c_104 => ?_) (fun c_104 => ?_)
                              · refine lv_iload hx hb dX11_step_111 (lv_at hl 0 rfl) ?_
                                refine lv_if_ne (tgt := 120) hx hb dX11_step_113 (by decide) (fun c_113 => ?_) (fun c_113 => ?_)
                                · exact absurd rfl c_113
                                · refine lv_iconst (v := 2) hx hb dX11_step_116 (by decide) ?_
                                  refine lv_goto (tgt := 134) hx hb dX11_step_117 (by decide) ?_
                                  refine hk_put (ref := "LightcurveHouseModel") X K hM.1 rfl iX11_step_X11 tyX11 tyX11_ok nmX11 hS hM.2.2.2.2.1 33 (by decide) (by decide +kernel) (fun _ h => h) (by decide +kernel) rfl rfl (Nat.le_of_ble_eq_true rfl) dX11_step_134 (fun H17 locsH17 hOH17 hzH17 hqH17 hS => ?_)
                                  rw [mf_33] at hOH17
                                  have hM := MW.obj hM hOH17 hqH17
                                  refine lv_aload_n hx hb dX11_step_137 rfl (lv_at hl 2 rfl) ?_
                                  refine hk_get (ref := "LightcurveHouseModel") (v := .int 2) X K hM.1 rfl iX11_step_X11 33 (by decide) (by decide +kernel) (fun _ h => h) rfl dX11_step_138 ?_
                                  refine lv_if_le (tgt := 146) hx hb dX11_step_141 (by decide) (fun c_141 => ?_) (fun c_141 => ?_)
                                  · exact absurd c_141 (by decide)
                                  · refine lv_iconst (v := 0) hx hb dX11_step_144 (by decide) ?_
                                    exact hk_iret X hr hlk hQ hS (Nat.le_of_ble_eq_true rfl) (Nat.le_of_ble_eq_true rfl) dX11_step_145 (mfin1 (v := 2) hM (by unfold cd_step; (try dsimp only); rw [if_pos c_2, if_pos c_12, if_pos c_23, if_pos c_34, if_pos c_51, if_pos c_62, if_neg c_73]) (by decide) rfl rfl agr_thr)
                              · exact absurd c_104 (by decide)
                            · exact absurd (by decide) c_76
                      · subst hv
                        refine lv_if_eq (tgt := 98) hx hb dX11_step_65 (by decide) (fun c_65 => ?_) (fun c_65 => ?_)
                        · refine lv_iconst (v := 0) hx hb dX11_step_98 (by decide) ?_
                          refine lv_istore (lv' := [(9, .int 0), (8, .int 1), (0, .ref mo), (1, .int p0), (2, .int p1), (3, .int p2), (4, .int p3), (5, .int p4), (6, .int p5), (7, .int p6)]) hx hb dX11_step_99 hl (by decide) rfl (fun ls hl => ?_)
                          refine lv_aload_n hx hb dX11_step_101 rfl (lv_at hl 2 rfl) ?_
                          refine lv_iload hx hb dX11_step_102 (lv_at hl 1 rfl) ?_
                          refine lv_if_ne (tgt := 111) hx hb dX11_step_104 (by decide) (fun c_104 => ?_) (fun c_104 => ?_)
                          · refine lv_iload hx hb dX11_step_111 (lv_at hl 0 rfl) ?_
                            refine lv_if_ne (tgt := 120) hx hb dX11_step_113 (by decide) (fun c_113 => ?_) (fun c_113 => ?_)
                            · exact absurd rfl c_113
                            · refine lv_iconst (v := 2) hx hb dX11_step_116 (by decide) ?_
                              refine lv_goto (tgt := 134) hx hb dX11_step_117 (by decide) ?_
                              refine hk_put (ref := "LightcurveHouseModel") X K hM.1 rfl iX11_step_X11 tyX11 tyX11_ok nmX11 hS hM.2.2.2.2.1 33 (by decide) (by decide +kernel) (fun _ h => h) (by decide +kernel) rfl rfl (Nat.le_of_ble_eq_true rfl) dX11_step_134 (fun H18 locsH18 hOH18 hzH18 hqH18 hS => ?_)
                              rw [mf_33] at hOH18
                              have hM := MW.obj hM hOH18 hqH18
                              refine lv_aload_n hx hb dX11_step_137 rfl (lv_at hl 2 rfl) ?_
                              refine hk_get (ref := "LightcurveHouseModel") (v := .int 2) X K hM.1 rfl iX11_step_X11 33 (by decide) (by decide +kernel) (fun _ h => h) rfl dX11_step_138 ?_
                              refine lv_if_le (tgt := 146) hx hb dX11_step_141 (by decide) (fun c_141 => ?_) (fun c_141 => ?_)
                              · exact absurd c_141 (by decide)
                              · refine lv_iconst (v := 0) hx hb dX11_step_144 (by decide) ?_
                                exact hk_iret X hr hlk hQ hS (Nat.le_of_ble_eq_true rfl) (Nat.le_of_ble_eq_true rfl) dX11_step_145 (mfin1 (v := 2) hM (by unfold cd_step; (try dsimp only); rw [if_pos c_2, if_pos c_12, if_pos c_23, if_pos c_34, if_pos c_51, if_neg c_62]) (by decide) rfl rfl agr_thr)
                          · exact absurd c_104 (by decide)
                        · exact absurd (by decide) c_65
                  · subst hv
                    refine lv_if_eq (tgt := 98) hx hb dX11_step_54 (by decide) (fun c_54 => ?_) (fun c_54 => ?_)
                    · refine lv_iconst (v := 0) hx hb dX11_step_98 (by decide) ?_
                      refine lv_istore (lv' := [(9, .int 0), (8, .int 1), (0, .ref mo), (1, .int p0), (2, .int p1), (3, .int p2), (4, .int p3), (5, .int p4), (6, .int p5), (7, .int p6)]) hx hb dX11_step_99 hl (by decide) rfl (fun ls hl => ?_)
                      refine lv_aload_n hx hb dX11_step_101 rfl (lv_at hl 2 rfl) ?_
                      refine lv_iload hx hb dX11_step_102 (lv_at hl 1 rfl) ?_
                      refine lv_if_ne (tgt := 111) hx hb dX11_step_104 (by decide) (fun c_104 => ?_) (fun c_104 => ?_)
                      · refine lv_iload hx hb dX11_step_111 (lv_at hl 0 rfl) ?_
                        refine lv_if_ne (tgt := 120) hx hb dX11_step_113 (by decide) (fun c_113 => ?_) (fun c_113 => ?_)
                        · exact absurd rfl c_113
                        · refine lv_iconst (v := 2) hx hb dX11_step_116 (by decide) ?_
                          refine lv_goto (tgt := 134) hx hb dX11_step_117 (by decide) ?_
                          refine hk_put (ref := "LightcurveHouseModel") X K hM.1 rfl iX11_step_X11 tyX11 tyX11_ok nmX11 hS hM.2.2.2.2.1 33 (by decide) (by decide +kernel) (fun _ h => h) (by decide +kernel) rfl rfl (Nat.le_of_ble_eq_true rfl) dX11_step_134 (fun H19 locsH19 hOH19 hzH19 hqH19 hS => ?_)
                          rw [mf_33] at hOH19
                          have hM := MW.obj hM hOH19 hqH19
                          refine lv_aload_n hx hb dX11_step_137 rfl (lv_at hl 2 rfl) ?_
                          refine hk_get (ref := "LightcurveHouseModel") (v := .int 2) X K hM.1 rfl iX11_step_X11 33 (by decide) (by decide +kernel) (fun _ h => h) rfl dX11_step_138 ?_
                          refine lv_if_le (tgt := 146) hx hb dX11_step_141 (by decide) (fun c_141 => ?_) (fun c_141 => ?_)
                          · exact absurd c_141 (by decide)
                          · refine lv_iconst (v := 0) hx hb dX11_step_144 (by decide) ?_
                            exact hk_iret X hr hlk hQ hS (Nat.le_of_ble_eq_true rfl) (Nat.le_of_ble_eq_true rfl) dX11_step_145 (mfin1 (v := 2) hM (by unfold cd_step; (try dsimp only); rw [if_pos c_2, if_pos c_12, if_pos c_23, if_pos c_34, if_neg c_51]) (by decide) rfl rfl agr_thr)
                      · exact absurd c_104 (by decide)
                    · exact absurd (by decide) c_54
              · subst hv
                refine lv_if_eq (tgt := 44) hx hb dX11_step_37 (by decide) (fun c_37 => ?_) (fun c_37 => ?_)
                · refine lv_iconst (v := 0) hx hb dX11_step_44 (by decide) ?_
                  refine lv_istore (lv' := [(8, .int 0), (0, .ref mo), (1, .int p0), (2, .int p1), (3, .int p2), (4, .int p3), (5, .int p4), (6, .int p5), (7, .int p6)]) hx hb dX11_step_45 hl (by decide) rfl (fun ls hl => ?_)
                  refine lv_iload_n hx hb dX11_step_47 rfl (lv_at hl 4 rfl) ?_
                  refine lv_iconst (v := 0) hx hb dX11_step_48 (by decide) ?_
                  refine lv_ldc hx hb hown (hts (.constant RX11 122 (9999999)) (by decide +kernel)) dX11_step_49 ?_
                  refine hk_callS 3 (As := [.int p2, .int 0, .int 9999999]) (rest := []) X K hAE hS hl.1 (c_X11_in E l H0 (a := p2) (lo := 0) (hi := 9999999)) (fun _ h => h.elim) gX11_step_X11_in rfl hd_X11_in rfl ⟨⟨(Nat.le_of_ble_eq_true rfl), (Nat.le_of_ble_eq_true rfl)⟩, (Nat.le_of_ble_eq_true rfl), (Nat.le_of_ble_eq_true rfl)⟩ rfl (Nat.le_of_ble_eq_true rfl) dX11_step_51 (fun v9 H20 locsH20 hp hS hzH20 hkH20 => ?_)
                  obtain ⟨hv, hh⟩ := hp
                  subst hh
                  rcases hv with ⟨hv, c_51⟩ | ⟨hv, c_51⟩
                  · subst hv
                    refine lv_if_eq (tgt := 98) hx hb dX11_step_54 (by decide) (fun c_54 => ?_) (fun c_54 => ?_)
                    · exact absurd c_54 (by decide)
                    · refine lv_iload hx hb dX11_step_57 (lv_at hl 6 rfl) ?_
                      refine lv_iconst (v := 0) hx hb dX11_step_59 (by decide) ?_
                      refine lv_bipush (v := 9) hx hb dX11_step_60 (by decide) ?_
                      refine hk_callS 3 (As := [.int p4, .int 0, .int 9]) (rest := []) X K hAE hS hl.1 (c_X11_in E l H0 (a := p4) (lo := 0) (hi := 9)) (fun _ h => h.elim) gX11_step_X11_in rfl hd_X11_in rfl ⟨⟨(Nat.le_of_ble_eq_true rfl), (Nat.le_of_ble_eq_true rfl)⟩, (Nat.le_of_ble_eq_true rfl), (Nat.le_of_ble_eq_true rfl)⟩ rfl (Nat.le_of_ble_eq_true rfl) dX11_step_62 (fun v9 H21 locsH21 hp hS hzH21 hkH21 => ?_)
                      obtain ⟨hv, hh⟩ := hp
                      subst hh
                      rcases hv with ⟨hv, c_62⟩ | ⟨hv, c_62⟩
                      · subst hv
                        refine lv_if_eq (tgt := 98) hx hb dX11_step_65 (by decide) (fun c_65 => ?_) (fun c_65 => ?_)
                        · exact absurd c_65 (by decide)
                        · refine lv_iload hx hb dX11_step_68 (lv_at hl 7 rfl) ?_
                          refine lv_iconst (v := 0) hx hb dX11_step_70 (by decide) ?_
                          refine lv_bipush (v := 9) hx hb dX11_step_71 (by decide) ?_
                          refine hk_callS 3 (As := [.int p5, .int 0, .int 9]) (rest := []) X K hAE hS hl.1 (c_X11_in E l H0 (a := p5) (lo := 0) (hi := 9)) (fun _ h => h.elim) gX11_step_X11_in rfl hd_X11_in rfl ⟨⟨(Nat.le_of_ble_eq_true rfl), (Nat.le_of_ble_eq_true rfl)⟩, (Nat.le_of_ble_eq_true rfl), (Nat.le_of_ble_eq_true rfl)⟩ rfl (Nat.le_of_ble_eq_true rfl) dX11_step_73 (fun v9 H22 locsH22 hp hS hzH22 hkH22 => ?_)
                          obtain ⟨hv, hh⟩ := hp
                          subst hh
                          rcases hv with ⟨hv, c_73⟩ | ⟨hv, c_73⟩
                          · subst hv
                            refine lv_if_eq (tgt := 98) hx hb dX11_step_76 (by decide) (fun c_76 => ?_) (fun c_76 => ?_)
                            · exact absurd c_76 (by decide)
                            · refine lv_iload hx hb dX11_step_79 (lv_at hl 6 rfl) ?_
                              refine lv_iload hx hb dX11_step_81 (lv_at hl 7 rfl) ?_
                              refine lv_iadd hx hb dX11_step_83 ?_
                              refine lv_if_le (tgt := 98) hx hb dX11_step_84 (by decide) (fun c_84 => ?_) (fun c_84 => ?_)
                              · refine lv_iconst (v := 0) hx hb dX11_step_98 (by decide) ?_
                                refine lv_istore (lv' := [(9, .int 0), (8, .int 0), (0, .ref mo), (1, .int p0), (2, .int p1), (3, .int p2), (4, .int p3), (5, .int p4), (6, .int p5), (7, .int p6)]) hx hb dX11_step_99 hl (by decide) rfl (fun ls hl => ?_)
                                refine lv_aload_n hx hb dX11_step_101 rfl (lv_at hl 2 rfl) ?_
                                refine lv_iload hx hb dX11_step_102 (lv_at hl 1 rfl) ?_
                                refine lv_if_ne (tgt := 111) hx hb dX11_step_104 (by decide) (fun c_104 => ?_) (fun c_104 => ?_)
                                · exact absurd rfl c_104
                                · refine lv_iconst (v := 1) hx hb dX11_step_107 (by decide) ?_
                                  refine lv_goto (tgt := 134) hx hb dX11_step_108 (by decide) ?_
                                  refine hk_put (ref := "LightcurveHouseModel") X K hM.1 rfl iX11_step_X11 tyX11 tyX11_ok nmX11 hS hM.2.2.2.2.1 33 (by decide) (by decide +kernel) (fun _ h => h) (by decide +kernel) rfl rfl (Nat.le_of_ble_eq_true rfl) dX11_step_134 (fun H23 locsH23 hOH23 hzH23 hqH23 hS => ?_)
                                  rw [mf_33] at hOH23
                                  have hM := MW.obj hM hOH23 hqH23
                                  refine lv_aload_n hx hb dX11_step_137 rfl (lv_at hl 2 rfl) ?_
                                  refine hk_get (ref := "LightcurveHouseModel") (v := .int 1) X K hM.1 rfl iX11_step_X11 33 (by decide) (by decide +kernel) (fun _ h => h) rfl dX11_step_138 ?_
                                  refine lv_if_le (tgt := 146) hx hb dX11_step_141 (by decide) (fun c_141 => ?_) (fun c_141 => ?_)
                                  · exact absurd c_141 (by decide)
                                  · refine lv_iconst (v := 0) hx hb dX11_step_144 (by decide) ?_
                                    exact hk_iret X hr hlk hQ hS (Nat.le_of_ble_eq_true rfl) (Nat.le_of_ble_eq_true rfl) dX11_step_145 (mfin1 (v := 1) hM (by unfold cd_step; (try dsimp only); rw [if_pos c_2, if_pos c_12, if_pos c_23, if_neg c_34]) (by decide) rfl rfl agr_thr)
                              · refine lv_iload hx hb dX11_step_87 (lv_at hl 5 rfl) ?_
                                refine lv_iload hx hb dX11_step_89 (lv_at hl 8 rfl) ?_
                                refine lv_icmp_eq (tgt := 98) hx hb dX11_step_91 (by decide) (fun c_91 => ?_) (fun c_91 => ?_)
                                · refine lv_iconst (v := 0) hx hb dX11_step_98 (by decide) ?_
                                  refine lv_istore (lv' := [(9, .int 0), (8, .int 0), (0, .ref mo), (1, .int p0), (2, .int p1), (3, .int p2), (4, .int p3), (5, .int p4), (6, .int p5), (7, .int p6)]) hx hb dX11_step_99 hl (by decide) rfl (fun ls hl => ?_)
                                  refine lv_aload_n hx hb dX11_step_101 rfl (lv_at hl 2 rfl) ?_
                                  refine lv_iload hx hb dX11_step_102 (lv_at hl 1 rfl) ?_
                                  refine lv_if_ne (tgt := 111) hx hb dX11_step_104 (by decide) (fun c_104 => ?_) (fun c_104 => ?_)
                                  · exact absurd rfl c_104
                                  · refine lv_iconst (v := 1) hx hb dX11_step_107 (by decide) ?_
                                    refine lv_goto (tgt := 134) hx hb dX11_step_108 (by decide) ?_
                                    refine hk_put (ref := "LightcurveHouseModel") X K hM.1 rfl iX11_step_X11 tyX11 tyX11_ok nmX11 hS hM.2.2.2.2.1 33 (by decide) (by decide +kernel) (fun _ h => h) (by decide +kernel) rfl rfl (Nat.le_of_ble_eq_true rfl) dX11_step_134 (fun H24 locsH24 hOH24 hzH24 hqH24 hS => ?_)
                                    rw [mf_33] at hOH24
                                    have hM := MW.obj hM hOH24 hqH24
                                    refine lv_aload_n hx hb dX11_step_137 rfl (lv_at hl 2 rfl) ?_
                                    refine hk_get (ref := "LightcurveHouseModel") (v := .int 1) X K hM.1 rfl iX11_step_X11 33 (by decide) (by decide +kernel) (fun _ h => h) rfl dX11_step_138 ?_
                                    refine lv_if_le (tgt := 146) hx hb dX11_step_141 (by decide) (fun c_141 => ?_) (fun c_141 => ?_)
                                    · exact absurd c_141 (by decide)
                                    · refine lv_iconst (v := 0) hx hb dX11_step_144 (by decide) ?_
                                      exact hk_iret X hr hlk hQ hS (Nat.le_of_ble_eq_true rfl) (Nat.le_of_ble_eq_true rfl) dX11_step_145 (mfin1 (v := 1) hM (by unfold cd_step; (try dsimp only); rw [if_pos c_2, if_pos c_12, if_pos c_23, if_neg c_34]) (by decide) rfl rfl agr_thr)
                                · refine lv_iconst (v := 1) hx hb dX11_step_94 (by decide) ?_
                                  refine lv_goto (tgt := 99) hx hb dX11_step_95 (by decide) ?_
                                  refine lv_istore (lv' := [(9, .int 1), (8, .int 0), (0, .ref mo), (1, .int p0), (2, .int p1), (3, .int p2), (4, .int p3), (5, .int p4), (6, .int p5), (7, .int p6)]) hx hb dX11_step_99 hl (by decide) rfl (fun ls hl => ?_)
                                  refine lv_aload_n hx hb dX11_step_101 rfl (lv_at hl 2 rfl) ?_
                                  refine lv_iload hx hb dX11_step_102 (lv_at hl 1 rfl) ?_
                                  refine lv_if_ne (tgt := 111) hx hb dX11_step_104 (by decide) (fun c_104 => ?_) (fun c_104 => ?_)
                                  · exact absurd rfl c_104
                                  · refine lv_iconst (v := 1) hx hb dX11_step_107 (by decide) ?_
                                    refine lv_goto (tgt := 134) hx hb dX11_step_108 (by decide) ?_
                                    refine hk_put (ref := "LightcurveHouseModel") X K hM.1 rfl iX11_step_X11 tyX11 tyX11_ok nmX11 hS hM.2.2.2.2.1 33 (by decide) (by decide +kernel) (fun _ h => h) (by decide +kernel) rfl rfl (Nat.le_of_ble_eq_true rfl) dX11_step_134 (fun H25 locsH25 hOH25 hzH25 hqH25 hS => ?_)
                                    rw [mf_33] at hOH25
                                    have hM := MW.obj hM hOH25 hqH25
                                    refine lv_aload_n hx hb dX11_step_137 rfl (lv_at hl 2 rfl) ?_
                                    refine hk_get (ref := "LightcurveHouseModel") (v := .int 1) X K hM.1 rfl iX11_step_X11 33 (by decide) (by decide +kernel) (fun _ h => h) rfl dX11_step_138 ?_
                                    refine lv_if_le (tgt := 146) hx hb dX11_step_141 (by decide) (fun c_141 => ?_) (fun c_141 => ?_)
                                    · exact absurd c_141 (by decide)
                                    · refine lv_iconst (v := 0) hx hb dX11_step_144 (by decide) ?_
                                      exact hk_iret X hr hlk hQ hS (Nat.le_of_ble_eq_true rfl) (Nat.le_of_ble_eq_true rfl) dX11_step_145 (mfin1 (v := 1) hM (by unfold cd_step; (try dsimp only); rw [if_pos c_2, if_pos c_12, if_pos c_23, if_neg c_34]) (by decide) rfl rfl agr_thr)
                          · subst hv
                            refine lv_if_eq (tgt := 98) hx hb dX11_step_76 (by decide) (fun c_76 => ?_) (fun c_76 => ?_)
                            · refine lv_iconst (v := 0) hx hb dX11_step_98 (by decide) ?_
                              refine lv_istore (lv' := [(9, .int 0), (8, .int 0), (0, .ref mo), (1, .int p0), (2, .int p1), (3, .int p2), (4, .int p3), (5, .int p4), (6, .int p5), (7, .int p6)]) hx hb dX11_step_99 hl (by decide) rfl (fun ls hl => ?_)
                              refine lv_aload_n hx hb dX11_step_101 rfl (lv_at hl 2 rfl) ?_
                              refine lv_iload hx hb dX11_step_102 (lv_at hl 1 rfl) ?_
                              refine lv_if_ne (tgt := 111) hx hb dX11_step_104 (by decide) (fun c_104 => ?_) (fun c_104 => ?_)
                              · exact absurd rfl c_104
                              · refine lv_iconst (v := 1) hx hb dX11_step_107 (by decide) ?_
                                refine lv_goto (tgt := 134) hx hb dX11_step_108 (by decide) ?_
                                refine hk_put (ref := "LightcurveHouseModel") X K hM.1 rfl iX11_step_X11 tyX11 tyX11_ok nmX11 hS hM.2.2.2.2.1 33 (by decide) (by decide +kernel) (fun _ h => h) (by decide +kernel) rfl rfl (Nat.le_of_ble_eq_true rfl) dX11_step_134 (fun H26 locsH26 hOH26 hzH26 hqH26 hS => ?_)
                                rw [mf_33] at hOH26
                                have hM := MW.obj hM hOH26 hqH26
                                refine lv_aload_n hx hb dX11_step_137 rfl (lv_at hl 2 rfl) ?_
                                refine hk_get (ref := "LightcurveHouseModel") (v := .int 1) X K hM.1 rfl iX11_step_X11 33 (by decide) (by decide +kernel) (fun _ h => h) rfl dX11_step_138 ?_
                                refine lv_if_le (tgt := 146) hx hb dX11_step_141 (by decide) (fun c_141 => ?_) (fun c_141 => ?_)
                                · exact absurd c_141 (by decide)
                                · refine lv_iconst (v := 0) hx hb dX11_step_144 (by decide) ?_
                                  exact hk_iret X hr hlk hQ hS (Nat.le_of_ble_eq_true rfl) (Nat.le_of_ble_eq_true rfl) dX11_step_145 (mfin1 (v := 1) hM (by unfold cd_step; (try dsimp only); rw [if_pos c_2, if_pos c_12, if_pos c_23, if_neg c_34]) (by decide) rfl rfl agr_thr)
                            · exact absurd (by decide) c_76
                      · subst hv
                        refine lv_if_eq (tgt := 98) hx hb dX11_step_65 (by decide) (fun c_65 => ?_) (fun c_65 => ?_)
                        · refine lv_iconst (v := 0) hx hb dX11_step_98 (by decide) ?_
                          refine lv_istore (lv' := [(9, .int 0), (8, .int 0), (0, .ref mo), (1, .int p0), (2, .int p1), (3, .int p2), (4, .int p3), (5, .int p4), (6, .int p5), (7, .int p6)]) hx hb dX11_step_99 hl (by decide) rfl (fun ls hl => ?_)
                          refine lv_aload_n hx hb dX11_step_101 rfl (lv_at hl 2 rfl) ?_
                          refine lv_iload hx hb dX11_step_102 (lv_at hl 1 rfl) ?_
                          refine lv_if_ne (tgt := 111) hx hb dX11_step_104 (by decide) (fun c_104 => ?_) (fun c_104 => ?_)
                          · exact absurd rfl c_104
                          · refine lv_iconst (v := 1) hx hb dX11_step_107 (by decide) ?_
                            refine lv_goto (tgt := 134) hx hb dX11_step_108 (by decide) ?_
                            refine hk_put (ref := "LightcurveHouseModel") X K hM.1 rfl iX11_step_X11 tyX11 tyX11_ok nmX11 hS hM.2.2.2.2.1 33 (by decide) (by decide +kernel) (fun _ h => h) (by decide +kernel) rfl rfl (Nat.le_of_ble_eq_true rfl) dX11_step_134 (fun H27 locsH27 hOH27 hzH27 hqH27 hS => ?_)
                            rw [mf_33] at hOH27
                            have hM := MW.obj hM hOH27 hqH27
                            refine lv_aload_n hx hb dX11_step_137 rfl (lv_at hl 2 rfl) ?_
                            refine hk_get (ref := "LightcurveHouseModel") (v := .int 1) X K hM.1 rfl iX11_step_X11 33 (by decide) (by decide +kernel) (fun _ h => h) rfl dX11_step_138 ?_
                            refine lv_if_le (tgt := 146) hx hb dX11_step_141 (by decide) (fun c_141 => ?_) (fun c_141 => ?_)
                            · exact absurd c_141 (by decide)
                            · refine lv_iconst (v := 0) hx hb dX11_step_144 (by decide) ?_
                              exact hk_iret X hr hlk hQ hS (Nat.le_of_ble_eq_true rfl) (Nat.le_of_ble_eq_true rfl) dX11_step_145 (mfin1 (v := 1) hM (by unfold cd_step; (try dsimp only); rw [if_pos c_2, if_pos c_12, if_pos c_23, if_neg c_34]) (by decide) rfl rfl agr_thr)
                        · exact absurd (by decide) c_65
                  · subst hv
                    refine lv_if_eq (tgt := 98) hx hb dX11_step_54 (by decide) (fun c_54 => ?_) (fun c_54 => ?_)
                    · refine lv_iconst (v := 0) hx hb dX11_step_98 (by decide) ?_
                      refine lv_istore (lv' := [(9, .int 0), (8, .int 0), (0, .ref mo), (1, .int p0), (2, .int p1), (3, .int p2), (4, .int p3), (5, .int p4), (6, .int p5), (7, .int p6)]) hx hb dX11_step_99 hl (by decide) rfl (fun ls hl => ?_)
                      refine lv_aload_n hx hb dX11_step_101 rfl (lv_at hl 2 rfl) ?_
                      refine lv_iload hx hb dX11_step_102 (lv_at hl 1 rfl) ?_
                      refine lv_if_ne (tgt := 111) hx hb dX11_step_104 (by decide) (fun c_104 => ?_) (fun c_104 => ?_)
                      · exact absurd rfl c_104
                      · refine lv_iconst (v := 1) hx hb dX11_step_107 (by decide) ?_
                        refine lv_goto (tgt := 134) hx hb dX11_step_108 (by decide) ?_
                        refine hk_put (ref := "LightcurveHouseModel") X K hM.1 rfl iX11_step_X11 tyX11 tyX11_ok nmX11 hS hM.2.2.2.2.1 33 (by decide) (by decide +kernel) (fun _ h => h) (by decide +kernel) rfl rfl (Nat.le_of_ble_eq_true rfl) dX11_step_134 (fun H28 locsH28 hOH28 hzH28 hqH28 hS => ?_)
                        rw [mf_33] at hOH28
                        have hM := MW.obj hM hOH28 hqH28
                        refine lv_aload_n hx hb dX11_step_137 rfl (lv_at hl 2 rfl) ?_
                        refine hk_get (ref := "LightcurveHouseModel") (v := .int 1) X K hM.1 rfl iX11_step_X11 33 (by decide) (by decide +kernel) (fun _ h => h) rfl dX11_step_138 ?_
                        refine lv_if_le (tgt := 146) hx hb dX11_step_141 (by decide) (fun c_141 => ?_) (fun c_141 => ?_)
                        · exact absurd c_141 (by decide)
                        · refine lv_iconst (v := 0) hx hb dX11_step_144 (by decide) ?_
                          exact hk_iret X hr hlk hQ hS (Nat.le_of_ble_eq_true rfl) (Nat.le_of_ble_eq_true rfl) dX11_step_145 (mfin1 (v := 1) hM (by unfold cd_step; (try dsimp only); rw [if_pos c_2, if_pos c_12, if_pos c_23, if_neg c_34]) (by decide) rfl rfl agr_thr)
                    · exact absurd (by decide) c_54
                · exact absurd (by decide) c_37
          · subst hv
            refine lv_if_eq (tgt := 44) hx hb dX11_step_26 (by decide) (fun c_26 => ?_) (fun c_26 => ?_)
            · refine lv_iconst (v := 0) hx hb dX11_step_44 (by decide) ?_
              refine lv_istore (lv' := [(8, .int 0), (0, .ref mo), (1, .int p0), (2, .int p1), (3, .int p2), (4, .int p3), (5, .int p4), (6, .int p5), (7, .int p6)]) hx hb dX11_step_45 hl (by decide) rfl (fun ls hl => ?_)
              refine lv_iload_n hx hb dX11_step_47 rfl (lv_at hl 4 rfl) ?_
              refine lv_iconst (v := 0) hx hb dX11_step_48 (by decide) ?_
              refine lv_ldc hx hb hown (hts (.constant RX11 122 (9999999)) (by decide +kernel)) dX11_step_49 ?_
              refine hk_callS 3 (As := [.int p2, .int 0, .int 9999999]) (rest := []) X K hAE hS hl.1 (c_X11_in E l H0 (a := p2) (lo := 0) (hi := 9999999)) (fun _ h => h.elim) gX11_step_X11_in rfl hd_X11_in rfl ⟨⟨(Nat.le_of_ble_eq_true rfl), (Nat.le_of_ble_eq_true rfl)⟩, (Nat.le_of_ble_eq_true rfl), (Nat.le_of_ble_eq_true rfl)⟩ rfl (Nat.le_of_ble_eq_true rfl) dX11_step_51 (fun v9 H29 locsH29 hp hS hzH29 hkH29 => ?_)
              obtain ⟨hv, hh⟩ := hp
              subst hh
              rcases hv with ⟨hv, c_51⟩ | ⟨hv, c_51⟩
              · subst hv
                refine lv_if_eq (tgt := 98) hx hb dX11_step_54 (by decide) (fun c_54 => ?_) (fun c_54 => ?_)
                · exact absurd c_54 (by decide)
                · refine lv_iload hx hb dX11_step_57 (lv_at hl 6 rfl) ?_
                  refine lv_iconst (v := 0) hx hb dX11_step_59 (by decide) ?_
                  refine lv_bipush (v := 9) hx hb dX11_step_60 (by decide) ?_
                  refine hk_callS 3 (As := [.int p4, .int 0, .int 9]) (rest := []) X K hAE hS hl.1 (c_X11_in E l H0 (a := p4) (lo := 0) (hi := 9)) (fun _ h => h.elim) gX11_step_X11_in rfl hd_X11_in rfl ⟨⟨(Nat.le_of_ble_eq_true rfl), (Nat.le_of_ble_eq_true rfl)⟩, (Nat.le_of_ble_eq_true rfl), (Nat.le_of_ble_eq_true rfl)⟩ rfl (Nat.le_of_ble_eq_true rfl) dX11_step_62 (fun v9 H30 locsH30 hp hS hzH30 hkH30 => ?_)
                  obtain ⟨hv, hh⟩ := hp
                  subst hh
                  rcases hv with ⟨hv, c_62⟩ | ⟨hv, c_62⟩
                  · subst hv
                    refine lv_if_eq (tgt := 98) hx hb dX11_step_65 (by decide) (fun c_65 => ?_) (fun c_65 => ?_)
                    · exact absurd c_65 (by decide)
                    · refine lv_iload hx hb dX11_step_68 (lv_at hl 7 rfl) ?_
                      refine lv_iconst (v := 0) hx hb dX11_step_70 (by decide) ?_
                      refine lv_bipush (v := 9) hx hb dX11_step_71 (by decide) ?_
                      refine hk_callS 3 (As := [.int p5, .int 0, .int 9]) (rest := []) X K hAE hS hl.1 (c_X11_in E l H0 (a := p5) (lo := 0) (hi := 9)) (fun _ h => h.elim) gX11_step_X11_in rfl hd_X11_in rfl ⟨⟨(Nat.le_of_ble_eq_true rfl), (Nat.le_of_ble_eq_true rfl)⟩, (Nat.le_of_ble_eq_true rfl), (Nat.le_of_ble_eq_true rfl)⟩ rfl (Nat.le_of_ble_eq_true rfl) dX11_step_73 (fun v9 H31 locsH31 hp hS hzH31 hkH31 => ?_)
                      obtain ⟨hv, hh⟩ := hp
                      subst hh
                      rcases hv with ⟨hv, c_73⟩ | ⟨hv, c_73⟩
                      · subst hv
                        refine lv_if_eq (tgt := 98) hx hb dX11_step_76 (by decide) (fun c_76 => ?_) (fun c_76 => ?_)
                        · exact absurd c_76 (by decide)
                        · refine lv_iload hx hb dX11_step_79 (lv_at hl 6 rfl) ?_
                          refine lv_iload hx hb dX11_step_81 (lv_at hl 7 rfl) ?_
                          refine lv_iadd hx hb dX11_step_83 ?_
                          refine lv_if_le (tgt := 98) hx hb dX11_step_84 (by decide) (fun c_84 => ?_) (fun c_84 => ?_)
                          · refine lv_iconst (v := 0) hx hb dX11_step_98 (by decide) ?_
                            refine lv_istore (lv' := [(9, .int 0), (8, .int 0), (0, .ref mo), (1, .int p0), (2, .int p1), (3, .int p2), (4, .int p3), (5, .int p4), (6, .int p5), (7, .int p6)]) hx hb dX11_step_99 hl (by decide) rfl (fun ls hl => ?_)
                            refine lv_aload_n hx hb dX11_step_101 rfl (lv_at hl 2 rfl) ?_
                            refine lv_iload hx hb dX11_step_102 (lv_at hl 1 rfl) ?_
                            refine lv_if_ne (tgt := 111) hx hb dX11_step_104 (by decide) (fun c_104 => ?_) (fun c_104 => ?_)
                            · exact absurd rfl c_104
                            · refine lv_iconst (v := 1) hx hb dX11_step_107 (by decide) ?_
                              refine lv_goto (tgt := 134) hx hb dX11_step_108 (by decide) ?_
                              refine hk_put (ref := "LightcurveHouseModel") X K hM.1 rfl iX11_step_X11 tyX11 tyX11_ok nmX11 hS hM.2.2.2.2.1 33 (by decide) (by decide +kernel) (fun _ h => h) (by decide +kernel) rfl rfl (Nat.le_of_ble_eq_true rfl) dX11_step_134 (fun H32 locsH32 hOH32 hzH32 hqH32 hS => ?_)
                              rw [mf_33] at hOH32
                              have hM := MW.obj hM hOH32 hqH32
                              refine lv_aload_n hx hb dX11_step_137 rfl (lv_at hl 2 rfl) ?_
                              refine hk_get (ref := "LightcurveHouseModel") (v := .int 1) X K hM.1 rfl iX11_step_X11 33 (by decide) (by decide +kernel) (fun _ h => h) rfl dX11_step_138 ?_
                              refine lv_if_le (tgt := 146) hx hb dX11_step_141 (by decide) (fun c_141 => ?_) (fun c_141 => ?_)
                              · exact absurd c_141 (by decide)
                              · refine lv_iconst (v := 0) hx hb dX11_step_144 (by decide) ?_
                                exact hk_iret X hr hlk hQ hS (Nat.le_of_ble_eq_true rfl) (Nat.le_of_ble_eq_true rfl) dX11_step_145 (mfin1 (v := 1) hM (by unfold cd_step; (try dsimp only); rw [if_pos c_2, if_pos c_12, if_neg c_23]) (by decide) rfl rfl agr_thr)
                          · refine lv_iload hx hb dX11_step_87 (lv_at hl 5 rfl) ?_
                            refine lv_iload hx hb dX11_step_89 (lv_at hl 8 rfl) ?_
                            refine lv_icmp_eq (tgt := 98) hx hb dX11_step_91 (by decide) (fun c_91 => ?_) (fun c_91 => ?_)
                            · refine lv_iconst (v := 0) hx hb dX11_step_98 (by decide) ?_
                              refine lv_istore (lv' := [(9, .int 0), (8, .int 0), (0, .ref mo), (1, .int p0), (2, .int p1), (3, .int p2), (4, .int p3), (5, .int p4), (6, .int p5), (7, .int p6)]) hx hb dX11_step_99 hl (by decide) rfl (fun ls hl => ?_)
                              refine lv_aload_n hx hb dX11_step_101 rfl (lv_at hl 2 rfl) ?_
                              refine lv_iload hx hb dX11_step_102 (lv_at hl 1 rfl) ?_
                              refine lv_if_ne (tgt := 111) hx hb dX11_step_104 (by decide) (fun c_104 => ?_) (fun c_104 => ?_)
                              · exact absurd rfl c_104
                              · refine lv_iconst (v := 1) hx hb dX11_step_107 (by decide) ?_
                                refine lv_goto (tgt := 134) hx hb dX11_step_108 (by decide) ?_
                                refine hk_put (ref := "LightcurveHouseModel") X K hM.1 rfl iX11_step_X11 tyX11 tyX11_ok nmX11 hS hM.2.2.2.2.1 33 (by decide) (by decide +kernel) (fun _ h => h) (by decide +kernel) rfl rfl (Nat.le_of_ble_eq_true rfl) dX11_step_134 (fun H33 locsH33 hOH33 hzH33 hqH33 hS => ?_)
                                rw [mf_33] at hOH33
                                have hM := MW.obj hM hOH33 hqH33
                                refine lv_aload_n hx hb dX11_step_137 rfl (lv_at hl 2 rfl) ?_
                                refine hk_get (ref := "LightcurveHouseModel") (v := .int 1) X K hM.1 rfl iX11_step_X11 33 (by decide) (by decide +kernel) (fun _ h => h) rfl dX11_step_138 ?_
                                refine lv_if_le (tgt := 146) hx hb dX11_step_141 (by decide) (fun c_141 => ?_) (fun c_141 => ?_)
                                · exact absurd c_141 (by decide)
                                · refine lv_iconst (v := 0) hx hb dX11_step_144 (by decide) ?_
                                  exact hk_iret X hr hlk hQ hS (Nat.le_of_ble_eq_true rfl) (Nat.le_of_ble_eq_true rfl) dX11_step_145 (mfin1 (v := 1) hM (by unfold cd_step; (try dsimp only); rw [if_pos c_2, if_pos c_12, if_neg c_23]) (by decide) rfl rfl agr_thr)
                            · refine lv_iconst (v := 1) hx hb dX11_step_94 (by decide) ?_
                              refine lv_goto (tgt := 99) hx hb dX11_step_95 (by decide) ?_
                              refine lv_istore (lv' := [(9, .int 1), (8, .int 0), (0, .ref mo), (1, .int p0), (2, .int p1), (3, .int p2), (4, .int p3), (5, .int p4), (6, .int p5), (7, .int p6)]) hx hb dX11_step_99 hl (by decide) rfl (fun ls hl => ?_)
                              refine lv_aload_n hx hb dX11_step_101 rfl (lv_at hl 2 rfl) ?_
                              refine lv_iload hx hb dX11_step_102 (lv_at hl 1 rfl) ?_
                              refine lv_if_ne (tgt := 111) hx hb dX11_step_104 (by decide) (fun c_104 => ?_) (fun c_104 => ?_)
                              · exact absurd rfl c_104
                              · refine lv_iconst (v := 1) hx hb dX11_step_107 (by decide) ?_
                                refine lv_goto (tgt := 134) hx hb dX11_step_108 (by decide) ?_
                                refine hk_put (ref := "LightcurveHouseModel") X K hM.1 rfl iX11_step_X11 tyX11 tyX11_ok nmX11 hS hM.2.2.2.2.1 33 (by decide) (by decide +kernel) (fun _ h => h) (by decide +kernel) rfl rfl (Nat.le_of_ble_eq_true rfl) dX11_step_134 (fun H34 locsH34 hOH34 hzH34 hqH34 hS => ?_)
                                rw [mf_33] at hOH34
                                have hM := MW.obj hM hOH34 hqH34
                                refine lv_aload_n hx hb dX11_step_137 rfl (lv_at hl 2 rfl) ?_
                                refine hk_get (ref := "LightcurveHouseModel") (v := .int 1) X K hM.1 rfl iX11_step_X11 33 (by decide) (by decide +kernel) (fun _ h => h) rfl dX11_step_138 ?_
                                refine lv_if_le (tgt := 146) hx hb dX11_step_141 (by decide) (fun c_141 => ?_) (fun c_141 => ?_)
                                · exact absurd c_141 (by decide)
                                · refine lv_iconst (v := 0) hx hb dX11_step_144 (by decide) ?_
                                  exact hk_iret X hr hlk hQ hS (Nat.le_of_ble_eq_true rfl) (Nat.le_of_ble_eq_true rfl) dX11_step_145 (mfin1 (v := 1) hM (by unfold cd_step; (try dsimp only); rw [if_pos c_2, if_pos c_12, if_neg c_23]) (by decide) rfl rfl agr_thr)
                      · subst hv
                        refine lv_if_eq (tgt := 98) hx hb dX11_step_76 (by decide) (fun c_76 => ?_) (fun c_76 => ?_)
                        · refine lv_iconst (v := 0) hx hb dX11_step_98 (by decide) ?_
                          refine lv_istore (lv' := [(9, .int 0), (8, .int 0), (0, .ref mo), (1, .int p0), (2, .int p1), (3, .int p2), (4, .int p3), (5, .int p4), (6, .int p5), (7, .int p6)]) hx hb dX11_step_99 hl (by decide) rfl (fun ls hl => ?_)
                          refine lv_aload_n hx hb dX11_step_101 rfl (lv_at hl 2 rfl) ?_
                          refine lv_iload hx hb dX11_step_102 (lv_at hl 1 rfl) ?_
                          refine lv_if_ne (tgt := 111) hx hb dX11_step_104 (by decide) (fun c_104 => ?_) (fun c_104 => ?_)
                          · exact absurd rfl c_104
                          · refine lv_iconst (v := 1) hx hb dX11_step_107 (by decide) ?_
                            refine lv_goto (tgt := 134) hx hb dX11_step_108 (by decide) ?_
                            refine hk_put (ref := "LightcurveHouseModel") X K hM.1 rfl iX11_step_X11 tyX11 tyX11_ok nmX11 hS hM.2.2.2.2.1 33 (by decide) (by decide +kernel) (fun _ h => h) (by decide +kernel) rfl rfl (Nat.le_of_ble_eq_true rfl) dX11_step_134 (fun H35 locsH35 hOH35 hzH35 hqH35 hS => ?_)
                            rw [mf_33] at hOH35
                            have hM := MW.obj hM hOH35 hqH35
                            refine lv_aload_n hx hb dX11_step_137 rfl (lv_at hl 2 rfl) ?_
                            refine hk_get (ref := "LightcurveHouseModel") (v := .int 1) X K hM.1 rfl iX11_step_X11 33 (by decide) (by decide +kernel) (fun _ h => h) rfl dX11_step_138 ?_
                            refine lv_if_le (tgt := 146) hx hb dX11_step_141 (by decide) (fun c_141 => ?_) (fun c_141 => ?_)
                            · exact absurd c_141 (by decide)
                            · refine lv_iconst (v := 0) hx hb dX11_step_144 (by decide) ?_
                              exact hk_iret X hr hlk hQ hS (Nat.le_of_ble_eq_true rfl) (Nat.le_of_ble_eq_true rfl) dX11_step_145 (mfin1 (v := 1) hM (by unfold cd_step; (try dsimp only); rw [if_pos c_2, if_pos c_12, if_neg c_23]) (by decide) rfl rfl agr_thr)
                        · exact absurd (by decide) c_76
                  · subst hv
                    refine lv_if_eq (tgt := 98) hx hb dX11_step_65 (by decide) (fun c_65 => ?_) (fun c_65 => ?_)
                    · refine lv_iconst (v := 0) hx hb dX11_step_98 (by decide) ?_
                      refine lv_istore (lv' := [(9, .int 0), (8, .int 0), (0, .ref mo), (1, .int p0), (2, .int p1), (3, .int p2), (4, .int p3), (5, .int p4), (6, .int p5), (7, .int p6)]) hx hb dX11_step_99 hl (by decide) rfl (fun ls hl => ?_)
                      refine lv_aload_n hx hb dX11_step_101 rfl (lv_at hl 2 rfl) ?_
                      refine lv_iload hx hb dX11_step_102 (lv_at hl 1 rfl) ?_
                      refine lv_if_ne (tgt := 111) hx hb dX11_step_104 (by decide) (fun c_104 => ?_) (fun c_104 => ?_)
                      · exact absurd rfl c_104
                      · refine lv_iconst (v := 1) hx hb dX11_step_107 (by decide) ?_
                        refine lv_goto (tgt := 134) hx hb dX11_step_108 (by decide) ?_
                        refine hk_put (ref := "LightcurveHouseModel") X K hM.1 rfl iX11_step_X11 tyX11 tyX11_ok nmX11 hS hM.2.2.2.2.1 33 (by decide) (by decide +kernel) (fun _ h => h) (by decide +kernel) rfl rfl (Nat.le_of_ble_eq_true rfl) dX11_step_134 (fun H36 locsH36 hOH36 hzH36 hqH36 hS => ?_)
                        rw [mf_33] at hOH36
                        have hM := MW.obj hM hOH36 hqH36
                        refine lv_aload_n hx hb dX11_step_137 rfl (lv_at hl 2 rfl) ?_
                        refine hk_get (ref := "LightcurveHouseModel") (v := .int 1) X K hM.1 rfl iX11_step_X11 33 (by decide) (by decide +kernel) (fun _ h => h) rfl dX11_step_138 ?_
                        refine lv_if_le (tgt := 146) hx hb dX11_step_141 (by decide) (fun c_141 => ?_) (fun c_141 => ?_)
                        · exact absurd c_141 (by decide)
                        · refine lv_iconst (v := 0) hx hb dX11_step_144 (by decide) ?_
                          exact hk_iret X hr hlk hQ hS (Nat.le_of_ble_eq_true rfl) (Nat.le_of_ble_eq_true rfl) dX11_step_145 (mfin1 (v := 1) hM (by unfold cd_step; (try dsimp only); rw [if_pos c_2, if_pos c_12, if_neg c_23]) (by decide) rfl rfl agr_thr)
                    · exact absurd (by decide) c_65
              · subst hv
                refine lv_if_eq (tgt := 98) hx hb dX11_step_54 (by decide) (fun c_54 => ?_) (fun c_54 => ?_)
                · refine lv_iconst (v := 0) hx hb dX11_step_98 (by decide) ?_
                  refine lv_istore (lv' := [(9, .int 0), (8, .int 0), (0, .ref mo), (1, .int p0), (2, .int p1), (3, .int p2), (4, .int p3), (5, .int p4), (6, .int p5), (7, .int p6)]) hx hb dX11_step_99 hl (by decide) rfl (fun ls hl => ?_)
                  refine lv_aload_n hx hb dX11_step_101 rfl (lv_at hl 2 rfl) ?_
                  refine lv_iload hx hb dX11_step_102 (lv_at hl 1 rfl) ?_
                  refine lv_if_ne (tgt := 111) hx hb dX11_step_104 (by decide) (fun c_104 => ?_) (fun c_104 => ?_)
                  · exact absurd rfl c_104
                  · refine lv_iconst (v := 1) hx hb dX11_step_107 (by decide) ?_
                    refine lv_goto (tgt := 134) hx hb dX11_step_108 (by decide) ?_
                    refine hk_put (ref := "LightcurveHouseModel") X K hM.1 rfl iX11_step_X11 tyX11 tyX11_ok nmX11 hS hM.2.2.2.2.1 33 (by decide) (by decide +kernel) (fun _ h => h) (by decide +kernel) rfl rfl (Nat.le_of_ble_eq_true rfl) dX11_step_134 (fun H37 locsH37 hOH37 hzH37 hqH37 hS => ?_)
                    rw [mf_33] at hOH37
                    have hM := MW.obj hM hOH37 hqH37
                    refine lv_aload_n hx hb dX11_step_137 rfl (lv_at hl 2 rfl) ?_
                    refine hk_get (ref := "LightcurveHouseModel") (v := .int 1) X K hM.1 rfl iX11_step_X11 33 (by decide) (by decide +kernel) (fun _ h => h) rfl dX11_step_138 ?_
                    refine lv_if_le (tgt := 146) hx hb dX11_step_141 (by decide) (fun c_141 => ?_) (fun c_141 => ?_)
                    · exact absurd c_141 (by decide)
                    · refine lv_iconst (v := 0) hx hb dX11_step_144 (by decide) ?_
                      exact hk_iret X hr hlk hQ hS (Nat.le_of_ble_eq_true rfl) (Nat.le_of_ble_eq_true rfl) dX11_step_145 (mfin1 (v := 1) hM (by unfold cd_step; (try dsimp only); rw [if_pos c_2, if_pos c_12, if_neg c_23]) (by decide) rfl rfl agr_thr)
                · exact absurd (by decide) c_54
            · exact absurd (by decide) c_26
      · subst hv
        refine lv_if_eq (tgt := 44) hx hb dX11_step_15 (by decide) (fun c_15 => ?_) (fun c_15 => ?_)
        · refine lv_iconst (v := 0) hx hb dX11_step_44 (by decide) ?_
          refine lv_istore (lv' := [(8, .int 0), (0, .ref mo), (1, .int p0), (2, .int p1), (3, .int p2), (4, .int p3), (5, .int p4), (6, .int p5), (7, .int p6)]) hx hb dX11_step_45 hl (by decide) rfl (fun ls hl => ?_)
          refine lv_iload_n hx hb dX11_step_47 rfl (lv_at hl 4 rfl) ?_
          refine lv_iconst (v := 0) hx hb dX11_step_48 (by decide) ?_
          refine lv_ldc hx hb hown (hts (.constant RX11 122 (9999999)) (by decide +kernel)) dX11_step_49 ?_
          refine hk_callS 3 (As := [.int p2, .int 0, .int 9999999]) (rest := []) X K hAE hS hl.1 (c_X11_in E l H0 (a := p2) (lo := 0) (hi := 9999999)) (fun _ h => h.elim) gX11_step_X11_in rfl hd_X11_in rfl ⟨⟨(Nat.le_of_ble_eq_true rfl), (Nat.le_of_ble_eq_true rfl)⟩, (Nat.le_of_ble_eq_true rfl), (Nat.le_of_ble_eq_true rfl)⟩ rfl (Nat.le_of_ble_eq_true rfl) dX11_step_51 (fun v9 H38 locsH38 hp hS hzH38 hkH38 => ?_)
          obtain ⟨hv, hh⟩ := hp
          subst hh
          rcases hv with ⟨hv, c_51⟩ | ⟨hv, c_51⟩
          · subst hv
            refine lv_if_eq (tgt := 98) hx hb dX11_step_54 (by decide) (fun c_54 => ?_) (fun c_54 => ?_)
            · exact absurd c_54 (by decide)
            · refine lv_iload hx hb dX11_step_57 (lv_at hl 6 rfl) ?_
              refine lv_iconst (v := 0) hx hb dX11_step_59 (by decide) ?_
              refine lv_bipush (v := 9) hx hb dX11_step_60 (by decide) ?_
              refine hk_callS 3 (As := [.int p4, .int 0, .int 9]) (rest := []) X K hAE hS hl.1 (c_X11_in E l H0 (a := p4) (lo := 0) (hi := 9)) (fun _ h => h.elim) gX11_step_X11_in rfl hd_X11_in rfl ⟨⟨(Nat.le_of_ble_eq_true rfl), (Nat.le_of_ble_eq_true rfl)⟩, (Nat.le_of_ble_eq_true rfl), (Nat.le_of_ble_eq_true rfl)⟩ rfl (Nat.le_of_ble_eq_true rfl) dX11_step_62 (fun v9 H39 locsH39 hp hS hzH39 hkH39 => ?_)
              obtain ⟨hv, hh⟩ := hp
              subst hh
              rcases hv with ⟨hv, c_62⟩ | ⟨hv, c_62⟩
              · subst hv
                refine lv_if_eq (tgt := 98) hx hb dX11_step_65 (by decide) (fun c_65 => ?_) (fun c_65 => ?_)
                · exact absurd c_65 (by decide)
                · refine lv_iload hx hb dX11_step_68 (lv_at hl 7 rfl) ?_
                  refine lv_iconst (v := 0) hx hb dX11_step_70 (by decide) ?_
                  refine lv_bipush (v := 9) hx hb dX11_step_71 (by decide) ?_
                  refine hk_callS 3 (As := [.int p5, .int 0, .int 9]) (rest := []) X K hAE hS hl.1 (c_X11_in E l H0 (a := p5) (lo := 0) (hi := 9)) (fun _ h => h.elim) gX11_step_X11_in rfl hd_X11_in rfl ⟨⟨(Nat.le_of_ble_eq_true rfl), (Nat.le_of_ble_eq_true rfl)⟩, (Nat.le_of_ble_eq_true rfl), (Nat.le_of_ble_eq_true rfl)⟩ rfl (Nat.le_of_ble_eq_true rfl) dX11_step_73 (fun v9 H40 locsH40 hp hS hzH40 hkH40 => ?_)
                  obtain ⟨hv, hh⟩ := hp
                  subst hh
                  rcases hv with ⟨hv, c_73⟩ | ⟨hv, c_73⟩
                  · subst hv
                    refine lv_if_eq (tgt := 98) hx hb dX11_step_76 (by decide) (fun c_76 => ?_) (fun c_76 => ?_)
                    · exact absurd c_76 (by decide)
                    · refine lv_iload hx hb dX11_step_79 (lv_at hl 6 rfl) ?_
                      refine lv_iload hx hb dX11_step_81 (lv_at hl 7 rfl) ?_
                      refine lv_iadd hx hb dX11_step_83 ?_
                      refine lv_if_le (tgt := 98) hx hb dX11_step_84 (by decide) (fun c_84 => ?_) (fun c_84 => ?_)
                      · refine lv_iconst (v := 0) hx hb dX11_step_98 (by decide) ?_
                        refine lv_istore (lv' := [(9, .int 0), (8, .int 0), (0, .ref mo), (1, .int p0), (2, .int p1), (3, .int p2), (4, .int p3), (5, .int p4), (6, .int p5), (7, .int p6)]) hx hb dX11_step_99 hl (by decide) rfl (fun ls hl => ?_)
                        refine lv_aload_n hx hb dX11_step_101 rfl (lv_at hl 2 rfl) ?_
                        refine lv_iload hx hb dX11_step_102 (lv_at hl 1 rfl) ?_
                        refine lv_if_ne (tgt := 111) hx hb dX11_step_104 (by decide) (fun c_104 => ?_) (fun c_104 => ?_)
                        · exact absurd rfl c_104
                        · refine lv_iconst (v := 1) hx hb dX11_step_107 (by decide) ?_
                          refine lv_goto (tgt := 134) hx hb dX11_step_108 (by decide) ?_
                          refine hk_put (ref := "LightcurveHouseModel") X K hM.1 rfl iX11_step_X11 tyX11 tyX11_ok nmX11 hS hM.2.2.2.2.1 33 (by decide) (by decide +kernel) (fun _ h => h) (by decide +kernel) rfl rfl (Nat.le_of_ble_eq_true rfl) dX11_step_134 (fun H41 locsH41 hOH41 hzH41 hqH41 hS => ?_)
                          rw [mf_33] at hOH41
                          have hM := MW.obj hM hOH41 hqH41
                          refine lv_aload_n hx hb dX11_step_137 rfl (lv_at hl 2 rfl) ?_
                          refine hk_get (ref := "LightcurveHouseModel") (v := .int 1) X K hM.1 rfl iX11_step_X11 33 (by decide) (by decide +kernel) (fun _ h => h) rfl dX11_step_138 ?_
                          refine lv_if_le (tgt := 146) hx hb dX11_step_141 (by decide) (fun c_141 => ?_) (fun c_141 => ?_)
                          · exact absurd c_141 (by decide)
                          · refine lv_iconst (v := 0) hx hb dX11_step_144 (by decide) ?_
                            exact hk_iret X hr hlk hQ hS (Nat.le_of_ble_eq_true rfl) (Nat.le_of_ble_eq_true rfl) dX11_step_145 (mfin1 (v := 1) hM (by unfold cd_step; (try dsimp only); rw [if_pos c_2, if_neg c_12]) (by decide) rfl rfl agr_thr)
                      · refine lv_iload hx hb dX11_step_87 (lv_at hl 5 rfl) ?_
                        refine lv_iload hx hb dX11_step_89 (lv_at hl 8 rfl) ?_
                        refine lv_icmp_eq (tgt := 98) hx hb dX11_step_91 (by decide) (fun c_91 => ?_) (fun c_91 => ?_)
                        · refine lv_iconst (v := 0) hx hb dX11_step_98 (by decide) ?_
                          refine lv_istore (lv' := [(9, .int 0), (8, .int 0), (0, .ref mo), (1, .int p0), (2, .int p1), (3, .int p2), (4, .int p3), (5, .int p4), (6, .int p5), (7, .int p6)]) hx hb dX11_step_99 hl (by decide) rfl (fun ls hl => ?_)
                          refine lv_aload_n hx hb dX11_step_101 rfl (lv_at hl 2 rfl) ?_
                          refine lv_iload hx hb dX11_step_102 (lv_at hl 1 rfl) ?_
                          refine lv_if_ne (tgt := 111) hx hb dX11_step_104 (by decide) (fun c_104 => ?_) (fun c_104 => ?_)
                          · exact absurd rfl c_104
                          · refine lv_iconst (v := 1) hx hb dX11_step_107 (by decide) ?_
                            refine lv_goto (tgt := 134) hx hb dX11_step_108 (by decide) ?_
                            refine hk_put (ref := "LightcurveHouseModel") X K hM.1 rfl iX11_step_X11 tyX11 tyX11_ok nmX11 hS hM.2.2.2.2.1 33 (by decide) (by decide +kernel) (fun _ h => h) (by decide +kernel) rfl rfl (Nat.le_of_ble_eq_true rfl) dX11_step_134 (fun H42 locsH42 hOH42 hzH42 hqH42 hS => ?_)
                            rw [mf_33] at hOH42
                            have hM := MW.obj hM hOH42 hqH42
                            refine lv_aload_n hx hb dX11_step_137 rfl (lv_at hl 2 rfl) ?_
                            refine hk_get (ref := "LightcurveHouseModel") (v := .int 1) X K hM.1 rfl iX11_step_X11 33 (by decide) (by decide +kernel) (fun _ h => h) rfl dX11_step_138 ?_
                            refine lv_if_le (tgt := 146) hx hb dX11_step_141 (by decide) (fun c_141 => ?_) (fun c_141 => ?_)
                            · exact absurd c_141 (by decide)
                            · refine lv_iconst (v := 0) hx hb dX11_step_144 (by decide) ?_
                              exact hk_iret X hr hlk hQ hS (Nat.le_of_ble_eq_true rfl) (Nat.le_of_ble_eq_true rfl) dX11_step_145 (mfin1 (v := 1) hM (by unfold cd_step; (try dsimp only); rw [if_pos c_2, if_neg c_12]) (by decide) rfl rfl agr_thr)
                        · refine lv_iconst (v := 1) hx hb dX11_step_94 (by decide) ?_
                          refine lv_goto (tgt := 99) hx hb dX11_step_95 (by decide) ?_
                          refine lv_istore (lv' := [(9, .int 1), (8, .int 0), (0, .ref mo), (1, .int p0), (2, .int p1), (3, .int p2), (4, .int p3), (5, .int p4), (6, .int p5), (7, .int p6)]) hx hb dX11_step_99 hl (by decide) rfl (fun ls hl => ?_)
                          refine lv_aload_n hx hb dX11_step_101 rfl (lv_at hl 2 rfl) ?_
                          refine lv_iload hx hb dX11_step_102 (lv_at hl 1 rfl) ?_
                          refine lv_if_ne (tgt := 111) hx hb dX11_step_104 (by decide) (fun c_104 => ?_) (fun c_104 => ?_)
                          · exact absurd rfl c_104
                          · refine lv_iconst (v := 1) hx hb dX11_step_107 (by decide) ?_
                            refine lv_goto (tgt := 134) hx hb dX11_step_108 (by decide) ?_
                            refine hk_put (ref := "LightcurveHouseModel") X K hM.1 rfl iX11_step_X11 tyX11 tyX11_ok nmX11 hS hM.2.2.2.2.1 33 (by decide) (by decide +kernel) (fun _ h => h) (by decide +kernel) rfl rfl (Nat.le_of_ble_eq_true rfl) dX11_step_134 (fun H43 locsH43 hOH43 hzH43 hqH43 hS => ?_)
                            rw [mf_33] at hOH43
                            have hM := MW.obj hM hOH43 hqH43
                            refine lv_aload_n hx hb dX11_step_137 rfl (lv_at hl 2 rfl) ?_
                            refine hk_get (ref := "LightcurveHouseModel") (v := .int 1) X K hM.1 rfl iX11_step_X11 33 (by decide) (by decide +kernel) (fun _ h => h) rfl dX11_step_138 ?_
                            refine lv_if_le (tgt := 146) hx hb dX11_step_141 (by decide) (fun c_141 => ?_) (fun c_141 => ?_)
                            · exact absurd c_141 (by decide)
                            · refine lv_iconst (v := 0) hx hb dX11_step_144 (by decide) ?_
                              exact hk_iret X hr hlk hQ hS (Nat.le_of_ble_eq_true rfl) (Nat.le_of_ble_eq_true rfl) dX11_step_145 (mfin1 (v := 1) hM (by unfold cd_step; (try dsimp only); rw [if_pos c_2, if_neg c_12]) (by decide) rfl rfl agr_thr)
                  · subst hv
                    refine lv_if_eq (tgt := 98) hx hb dX11_step_76 (by decide) (fun c_76 => ?_) (fun c_76 => ?_)
                    · refine lv_iconst (v := 0) hx hb dX11_step_98 (by decide) ?_
                      refine lv_istore (lv' := [(9, .int 0), (8, .int 0), (0, .ref mo), (1, .int p0), (2, .int p1), (3, .int p2), (4, .int p3), (5, .int p4), (6, .int p5), (7, .int p6)]) hx hb dX11_step_99 hl (by decide) rfl (fun ls hl => ?_)
                      refine lv_aload_n hx hb dX11_step_101 rfl (lv_at hl 2 rfl) ?_
                      refine lv_iload hx hb dX11_step_102 (lv_at hl 1 rfl) ?_
                      refine lv_if_ne (tgt := 111) hx hb dX11_step_104 (by decide) (fun c_104 => ?_) (fun c_104 => ?_)
                      · exact absurd rfl c_104
                      · refine lv_iconst (v := 1) hx hb dX11_step_107 (by decide) ?_
                        refine lv_goto (tgt := 134) hx hb dX11_step_108 (by decide) ?_
                        refine hk_put (ref := "LightcurveHouseModel") X K hM.1 rfl iX11_step_X11 tyX11 tyX11_ok nmX11 hS hM.2.2.2.2.1 33 (by decide) (by decide +kernel) (fun _ h => h) (by decide +kernel) rfl rfl (Nat.le_of_ble_eq_true rfl) dX11_step_134 (fun H44 locsH44 hOH44 hzH44 hqH44 hS => ?_)
                        rw [mf_33] at hOH44
                        have hM := MW.obj hM hOH44 hqH44
                        refine lv_aload_n hx hb dX11_step_137 rfl (lv_at hl 2 rfl) ?_
                        refine hk_get (ref := "LightcurveHouseModel") (v := .int 1) X K hM.1 rfl iX11_step_X11 33 (by decide) (by decide +kernel) (fun _ h => h) rfl dX11_step_138 ?_
                        refine lv_if_le (tgt := 146) hx hb dX11_step_141 (by decide) (fun c_141 => ?_) (fun c_141 => ?_)
                        · exact absurd c_141 (by decide)
                        · refine lv_iconst (v := 0) hx hb dX11_step_144 (by decide) ?_
                          exact hk_iret X hr hlk hQ hS (Nat.le_of_ble_eq_true rfl) (Nat.le_of_ble_eq_true rfl) dX11_step_145 (mfin1 (v := 1) hM (by unfold cd_step; (try dsimp only); rw [if_pos c_2, if_neg c_12]) (by decide) rfl rfl agr_thr)
                    · exact absurd (by decide) c_76
              · subst hv
                refine lv_if_eq (tgt := 98) hx hb dX11_step_65 (by decide) (fun c_65 => ?_) (fun c_65 => ?_)
                · refine lv_iconst (v := 0) hx hb dX11_step_98 (by decide) ?_
                  refine lv_istore (lv' := [(9, .int 0), (8, .int 0), (0, .ref mo), (1, .int p0), (2, .int p1), (3, .int p2), (4, .int p3), (5, .int p4), (6, .int p5), (7, .int p6)]) hx hb dX11_step_99 hl (by decide) rfl (fun ls hl => ?_)
                  refine lv_aload_n hx hb dX11_step_101 rfl (lv_at hl 2 rfl) ?_
                  refine lv_iload hx hb dX11_step_102 (lv_at hl 1 rfl) ?_
                  refine lv_if_ne (tgt := 111) hx hb dX11_step_104 (by decide) (fun c_104 => ?_) (fun c_104 => ?_)
                  · exact absurd rfl c_104
                  · refine lv_iconst (v := 1) hx hb dX11_step_107 (by decide) ?_
                    refine lv_goto (tgt := 134) hx hb dX11_step_108 (by decide) ?_
                    refine hk_put (ref := "LightcurveHouseModel") X K hM.1 rfl iX11_step_X11 tyX11 tyX11_ok nmX11 hS hM.2.2.2.2.1 33 (by decide) (by decide +kernel) (fun _ h => h) (by decide +kernel) rfl rfl (Nat.le_of_ble_eq_true rfl) dX11_step_134 (fun H45 locsH45 hOH45 hzH45 hqH45 hS => ?_)
                    rw [mf_33] at hOH45
                    have hM := MW.obj hM hOH45 hqH45
                    refine lv_aload_n hx hb dX11_step_137 rfl (lv_at hl 2 rfl) ?_
                    refine hk_get (ref := "LightcurveHouseModel") (v := .int 1) X K hM.1 rfl iX11_step_X11 33 (by decide) (by decide +kernel) (fun _ h => h) rfl dX11_step_138 ?_
                    refine lv_if_le (tgt := 146) hx hb dX11_step_141 (by decide) (fun c_141 => ?_) (fun c_141 => ?_)
                    · exact absurd c_141 (by decide)
                    · refine lv_iconst (v := 0) hx hb dX11_step_144 (by decide) ?_
                      exact hk_iret X hr hlk hQ hS (Nat.le_of_ble_eq_true rfl) (Nat.le_of_ble_eq_true rfl) dX11_step_145 (mfin1 (v := 1) hM (by unfold cd_step; (try dsimp only); rw [if_pos c_2, if_neg c_12]) (by decide) rfl rfl agr_thr)
                · exact absurd (by decide) c_65
          · subst hv
            refine lv_if_eq (tgt := 98) hx hb dX11_step_54 (by decide) (fun c_54 => ?_) (fun c_54 => ?_)
            · refine lv_iconst (v := 0) hx hb dX11_step_98 (by decide) ?_
              refine lv_istore (lv' := [(9, .int 0), (8, .int 0), (0, .ref mo), (1, .int p0), (2, .int p1), (3, .int p2), (4, .int p3), (5, .int p4), (6, .int p5), (7, .int p6)]) hx hb dX11_step_99 hl (by decide) rfl (fun ls hl => ?_)
              refine lv_aload_n hx hb dX11_step_101 rfl (lv_at hl 2 rfl) ?_
              refine lv_iload hx hb dX11_step_102 (lv_at hl 1 rfl) ?_
              refine lv_if_ne (tgt := 111) hx hb dX11_step_104 (by decide) (fun c_104 => ?_) (fun c_104 => ?_)
              · exact absurd rfl c_104
              · refine lv_iconst (v := 1) hx hb dX11_step_107 (by decide) ?_
                refine lv_goto (tgt := 134) hx hb dX11_step_108 (by decide) ?_
                refine hk_put (ref := "LightcurveHouseModel") X K hM.1 rfl iX11_step_X11 tyX11 tyX11_ok nmX11 hS hM.2.2.2.2.1 33 (by decide) (by decide +kernel) (fun _ h => h) (by decide +kernel) rfl rfl (Nat.le_of_ble_eq_true rfl) dX11_step_134 (fun H46 locsH46 hOH46 hzH46 hqH46 hS => ?_)
                rw [mf_33] at hOH46
                have hM := MW.obj hM hOH46 hqH46
                refine lv_aload_n hx hb dX11_step_137 rfl (lv_at hl 2 rfl) ?_
                refine hk_get (ref := "LightcurveHouseModel") (v := .int 1) X K hM.1 rfl iX11_step_X11 33 (by decide) (by decide +kernel) (fun _ h => h) rfl dX11_step_138 ?_
                refine lv_if_le (tgt := 146) hx hb dX11_step_141 (by decide) (fun c_141 => ?_) (fun c_141 => ?_)
                · exact absurd c_141 (by decide)
                · refine lv_iconst (v := 0) hx hb dX11_step_144 (by decide) ?_
                  exact hk_iret X hr hlk hQ hS (Nat.le_of_ble_eq_true rfl) (Nat.le_of_ble_eq_true rfl) dX11_step_145 (mfin1 (v := 1) hM (by unfold cd_step; (try dsimp only); rw [if_pos c_2, if_neg c_12]) (by decide) rfl rfl agr_thr)
            · exact absurd (by decide) c_54
        · exact absurd (by decide) c_15
  · subst hv
    refine lv_if_eq (tgt := 44) hx hb dX11_step_5 (by decide) (fun c_5 => ?_) (fun c_5 => ?_)
    · refine lv_iconst (v := 0) hx hb dX11_step_44 (by decide) ?_
      refine lv_istore (lv' := [(8, .int 0), (0, .ref mo), (1, .int p0), (2, .int p1), (3, .int p2), (4, .int p3), (5, .int p4), (6, .int p5), (7, .int p6)]) hx hb dX11_step_45 hl (by decide) rfl (fun ls hl => ?_)
      refine lv_iload_n hx hb dX11_step_47 rfl (lv_at hl 4 rfl) ?_
      refine lv_iconst (v := 0) hx hb dX11_step_48 (by decide) ?_
      refine lv_ldc hx hb hown (hts (.constant RX11 122 (9999999)) (by decide +kernel)) dX11_step_49 ?_
      refine hk_callS 3 (As := [.int p2, .int 0, .int 9999999]) (rest := []) X K hAE hS hl.1 (c_X11_in E l H0 (a := p2) (lo := 0) (hi := 9999999)) (fun _ h => h.elim) gX11_step_X11_in rfl hd_X11_in rfl ⟨⟨(Nat.le_of_ble_eq_true rfl), (Nat.le_of_ble_eq_true rfl)⟩, (Nat.le_of_ble_eq_true rfl), (Nat.le_of_ble_eq_true rfl)⟩ rfl (Nat.le_of_ble_eq_true rfl) dX11_step_51 (fun v9 H47 locsH47 hp hS hzH47 hkH47 => ?_)
      obtain ⟨hv, hh⟩ := hp
      subst hh
      rcases hv with ⟨hv, c_51⟩ | ⟨hv, c_51⟩
      · subst hv
        refine lv_if_eq (tgt := 98) hx hb dX11_step_54 (by decide) (fun c_54 => ?_) (fun c_54 => ?_)
        · exact absurd c_54 (by decide)
        · refine lv_iload hx hb dX11_step_57 (lv_at hl 6 rfl) ?_
          refine lv_iconst (v := 0) hx hb dX11_step_59 (by decide) ?_
          refine lv_bipush (v := 9) hx hb dX11_step_60 (by decide) ?_
          refine hk_callS 3 (As := [.int p4, .int 0, .int 9]) (rest := []) X K hAE hS hl.1 (c_X11_in E l H0 (a := p4) (lo := 0) (hi := 9)) (fun _ h => h.elim) gX11_step_X11_in rfl hd_X11_in rfl ⟨⟨(Nat.le_of_ble_eq_true rfl), (Nat.le_of_ble_eq_true rfl)⟩, (Nat.le_of_ble_eq_true rfl), (Nat.le_of_ble_eq_true rfl)⟩ rfl (Nat.le_of_ble_eq_true rfl) dX11_step_62 (fun v9 H48 locsH48 hp hS hzH48 hkH48 => ?_)
          obtain ⟨hv, hh⟩ := hp
          subst hh
          rcases hv with ⟨hv, c_62⟩ | ⟨hv, c_62⟩
          · subst hv
            refine lv_if_eq (tgt := 98) hx hb dX11_step_65 (by decide) (fun c_65 => ?_) (fun c_65 => ?_)
            · exact absurd c_65 (by decide)
            · refine lv_iload hx hb dX11_step_68 (lv_at hl 7 rfl) ?_
              refine lv_iconst (v := 0) hx hb dX11_step_70 (by decide) ?_
              refine lv_bipush (v := 9) hx hb dX11_step_71 (by decide) ?_
              refine hk_callS 3 (As := [.int p5, .int 0, .int 9]) (rest := []) X K hAE hS hl.1 (c_X11_in E l H0 (a := p5) (lo := 0) (hi := 9)) (fun _ h => h.elim) gX11_step_X11_in rfl hd_X11_in rfl ⟨⟨(Nat.le_of_ble_eq_true rfl), (Nat.le_of_ble_eq_true rfl)⟩, (Nat.le_of_ble_eq_true rfl), (Nat.le_of_ble_eq_true rfl)⟩ rfl (Nat.le_of_ble_eq_true rfl) dX11_step_73 (fun v9 H49 locsH49 hp hS hzH49 hkH49 => ?_)
              obtain ⟨hv, hh⟩ := hp
              subst hh
              rcases hv with ⟨hv, c_73⟩ | ⟨hv, c_73⟩
              · subst hv
                refine lv_if_eq (tgt := 98) hx hb dX11_step_76 (by decide) (fun c_76 => ?_) (fun c_76 => ?_)
                · exact absurd c_76 (by decide)
                · refine lv_iload hx hb dX11_step_79 (lv_at hl 6 rfl) ?_
                  refine lv_iload hx hb dX11_step_81 (lv_at hl 7 rfl) ?_
                  refine lv_iadd hx hb dX11_step_83 ?_
                  refine lv_if_le (tgt := 98) hx hb dX11_step_84 (by decide) (fun c_84 => ?_) (fun c_84 => ?_)
                  · refine lv_iconst (v := 0) hx hb dX11_step_98 (by decide) ?_
                    refine lv_istore (lv' := [(9, .int 0), (8, .int 0), (0, .ref mo), (1, .int p0), (2, .int p1), (3, .int p2), (4, .int p3), (5, .int p4), (6, .int p5), (7, .int p6)]) hx hb dX11_step_99 hl (by decide) rfl (fun ls hl => ?_)
                    refine lv_aload_n hx hb dX11_step_101 rfl (lv_at hl 2 rfl) ?_
                    refine lv_iload hx hb dX11_step_102 (lv_at hl 1 rfl) ?_
                    refine lv_if_ne (tgt := 111) hx hb dX11_step_104 (by decide) (fun c_104 => ?_) (fun c_104 => ?_)
                    · exact absurd rfl c_104
                    · refine lv_iconst (v := 1) hx hb dX11_step_107 (by decide) ?_
                      refine lv_goto (tgt := 134) hx hb dX11_step_108 (by decide) ?_
                      refine hk_put (ref := "LightcurveHouseModel") X K hM.1 rfl iX11_step_X11 tyX11 tyX11_ok nmX11 hS hM.2.2.2.2.1 33 (by decide) (by decide +kernel) (fun _ h => h) (by decide +kernel) rfl rfl (Nat.le_of_ble_eq_true rfl) dX11_step_134 (fun H50 locsH50 hOH50 hzH50 hqH50 hS => ?_)
                      rw [mf_33] at hOH50
                      have hM := MW.obj hM hOH50 hqH50
                      refine lv_aload_n hx hb dX11_step_137 rfl (lv_at hl 2 rfl) ?_
                      refine hk_get (ref := "LightcurveHouseModel") (v := .int 1) X K hM.1 rfl iX11_step_X11 33 (by decide) (by decide +kernel) (fun _ h => h) rfl dX11_step_138 ?_
                      refine lv_if_le (tgt := 146) hx hb dX11_step_141 (by decide) (fun c_141 => ?_) (fun c_141 => ?_)
                      · exact absurd c_141 (by decide)
                      · refine lv_iconst (v := 0) hx hb dX11_step_144 (by decide) ?_
                        exact hk_iret X hr hlk hQ hS (Nat.le_of_ble_eq_true rfl) (Nat.le_of_ble_eq_true rfl) dX11_step_145 (mfin1 (v := 1) hM (by unfold cd_step; (try dsimp only); rw [if_neg c_2]) (by decide) rfl rfl agr_thr)
                  · refine lv_iload hx hb dX11_step_87 (lv_at hl 5 rfl) ?_
                    refine lv_iload hx hb dX11_step_89 (lv_at hl 8 rfl) ?_
                    refine lv_icmp_eq (tgt := 98) hx hb dX11_step_91 (by decide) (fun c_91 => ?_) (fun c_91 => ?_)
                    · refine lv_iconst (v := 0) hx hb dX11_step_98 (by decide) ?_
                      refine lv_istore (lv' := [(9, .int 0), (8, .int 0), (0, .ref mo), (1, .int p0), (2, .int p1), (3, .int p2), (4, .int p3), (5, .int p4), (6, .int p5), (7, .int p6)]) hx hb dX11_step_99 hl (by decide) rfl (fun ls hl => ?_)
                      refine lv_aload_n hx hb dX11_step_101 rfl (lv_at hl 2 rfl) ?_
                      refine lv_iload hx hb dX11_step_102 (lv_at hl 1 rfl) ?_
                      refine lv_if_ne (tgt := 111) hx hb dX11_step_104 (by decide) (fun c_104 => ?_) (fun c_104 => ?_)
                      · exact absurd rfl c_104
                      · refine lv_iconst (v := 1) hx hb dX11_step_107 (by decide) ?_
                        refine lv_goto (tgt := 134) hx hb dX11_step_108 (by decide) ?_
                        refine hk_put (ref := "LightcurveHouseModel") X K hM.1 rfl iX11_step_X11 tyX11 tyX11_ok nmX11 hS hM.2.2.2.2.1 33 (by decide) (by decide +kernel) (fun _ h => h) (by decide +kernel) rfl rfl (Nat.le_of_ble_eq_true rfl) dX11_step_134 (fun H51 locsH51 hOH51 hzH51 hqH51 hS => ?_)
                        rw [mf_33] at hOH51
                        have hM := MW.obj hM hOH51 hqH51
                        refine lv_aload_n hx hb dX11_step_137 rfl (lv_at hl 2 rfl) ?_
                        refine hk_get (ref := "LightcurveHouseModel") (v := .int 1) X K hM.1 rfl iX11_step_X11 33 (by decide) (by decide +kernel) (fun _ h => h) rfl dX11_step_138 ?_
                        refine lv_if_le (tgt := 146) hx hb dX11_step_141 (by decide) (fun c_141 => ?_) (fun c_141 => ?_)
                        · exact absurd c_141 (by decide)
                        · refine lv_iconst (v := 0) hx hb dX11_step_144 (by decide) ?_
                          exact hk_iret X hr hlk hQ hS (Nat.le_of_ble_eq_true rfl) (Nat.le_of_ble_eq_true rfl) dX11_step_145 (mfin1 (v := 1) hM (by unfold cd_step; (try dsimp only); rw [if_neg c_2]) (by decide) rfl rfl agr_thr)
                    · refine lv_iconst (v := 1) hx hb dX11_step_94 (by decide) ?_
                      refine lv_goto (tgt := 99) hx hb dX11_step_95 (by decide) ?_
                      refine lv_istore (lv' := [(9, .int 1), (8, .int 0), (0, .ref mo), (1, .int p0), (2, .int p1), (3, .int p2), (4, .int p3), (5, .int p4), (6, .int p5), (7, .int p6)]) hx hb dX11_step_99 hl (by decide) rfl (fun ls hl => ?_)
                      refine lv_aload_n hx hb dX11_step_101 rfl (lv_at hl 2 rfl) ?_
                      refine lv_iload hx hb dX11_step_102 (lv_at hl 1 rfl) ?_
                      refine lv_if_ne (tgt := 111) hx hb dX11_step_104 (by decide) (fun c_104 => ?_) (fun c_104 => ?_)
                      · exact absurd rfl c_104
                      · refine lv_iconst (v := 1) hx hb dX11_step_107 (by decide) ?_
                        refine lv_goto (tgt := 134) hx hb dX11_step_108 (by decide) ?_
                        refine hk_put (ref := "LightcurveHouseModel") X K hM.1 rfl iX11_step_X11 tyX11 tyX11_ok nmX11 hS hM.2.2.2.2.1 33 (by decide) (by decide +kernel) (fun _ h => h) (by decide +kernel) rfl rfl (Nat.le_of_ble_eq_true rfl) dX11_step_134 (fun H52 locsH52 hOH52 hzH52 hqH52 hS => ?_)
                        rw [mf_33] at hOH52
                        have hM := MW.obj hM hOH52 hqH52
                        refine lv_aload_n hx hb dX11_step_137 rfl (lv_at hl 2 rfl) ?_
                        refine hk_get (ref := "LightcurveHouseModel") (v := .int 1) X K hM.1 rfl iX11_step_X11 33 (by decide) (by decide +kernel) (fun _ h => h) rfl dX11_step_138 ?_
                        refine lv_if_le (tgt := 146) hx hb dX11_step_141 (by decide) (fun c_141 => ?_) (fun c_141 => ?_)
                        · exact absurd c_141 (by decide)
                        · refine lv_iconst (v := 0) hx hb dX11_step_144 (by decide) ?_
                          exact hk_iret X hr hlk hQ hS (Nat.le_of_ble_eq_true rfl) (Nat.le_of_ble_eq_true rfl) dX11_step_145 (mfin1 (v := 1) hM (by unfold cd_step; (try dsimp only); rw [if_neg c_2]) (by decide) rfl rfl agr_thr)
              · subst hv
                refine lv_if_eq (tgt := 98) hx hb dX11_step_76 (by decide) (fun c_76 => ?_) (fun c_76 => ?_)
                · refine lv_iconst (v := 0) hx hb dX11_step_98 (by decide) ?_
                  refine lv_istore (lv' := [(9, .int 0), (8, .int 0), (0, .ref mo), (1, .int p0), (2, .int p1), (3, .int p2), (4, .int p3), (5, .int p4), (6, .int p5), (7, .int p6)]) hx hb dX11_step_99 hl (by decide) rfl (fun ls hl => ?_)
                  refine lv_aload_n hx hb dX11_step_101 rfl (lv_at hl 2 rfl) ?_
                  refine lv_iload hx hb dX11_step_102 (lv_at hl 1 rfl) ?_
                  refine lv_if_ne (tgt := 111) hx hb dX11_step_104 (by decide) (fun c_104 => ?_) (fun c_104 => ?_)
                  · exact absurd rfl c_104
                  · refine lv_iconst (v := 1) hx hb dX11_step_107 (by decide) ?_
                    refine lv_goto (tgt := 134) hx hb dX11_step_108 (by decide) ?_
                    refine hk_put (ref := "LightcurveHouseModel") X K hM.1 rfl iX11_step_X11 tyX11 tyX11_ok nmX11 hS hM.2.2.2.2.1 33 (by decide) (by decide +kernel) (fun _ h => h) (by decide +kernel) rfl rfl (Nat.le_of_ble_eq_true rfl) dX11_step_134 (fun H53 locsH53 hOH53 hzH53 hqH53 hS => ?_)
                    rw [mf_33] at hOH53
                    have hM := MW.obj hM hOH53 hqH53
                    refine lv_aload_n hx hb dX11_step_137 rfl (lv_at hl 2 rfl) ?_
                    refine hk_get (ref := "LightcurveHouseModel") (v := .int 1) X K hM.1 rfl iX11_step_X11 33 (by decide) (by decide +kernel) (fun _ h => h) rfl dX11_step_138 ?_
                    refine lv_if_le (tgt := 146) hx hb dX11_step_141 (by decide) (fun c_141 => ?_) (fun c_141 => ?_)
                    · exact absurd c_141 (by decide)
                    · refine lv_iconst (v := 0) hx hb dX11_step_144 (by decide) ?_
                      exact hk_iret X hr hlk hQ hS (Nat.le_of_ble_eq_true rfl) (Nat.le_of_ble_eq_true rfl) dX11_step_145 (mfin1 (v := 1) hM (by unfold cd_step; (try dsimp only); rw [if_neg c_2]) (by decide) rfl rfl agr_thr)
                · exact absurd (by decide) c_76
          · subst hv
            refine lv_if_eq (tgt := 98) hx hb dX11_step_65 (by decide) (fun c_65 => ?_) (fun c_65 => ?_)
            · refine lv_iconst (v := 0) hx hb dX11_step_98 (by decide) ?_
              refine lv_istore (lv' := [(9, .int 0), (8, .int 0), (0, .ref mo), (1, .int p0), (2, .int p1), (3, .int p2), (4, .int p3), (5, .int p4), (6, .int p5), (7, .int p6)]) hx hb dX11_step_99 hl (by decide) rfl (fun ls hl => ?_)
              refine lv_aload_n hx hb dX11_step_101 rfl (lv_at hl 2 rfl) ?_
              refine lv_iload hx hb dX11_step_102 (lv_at hl 1 rfl) ?_
              refine lv_if_ne (tgt := 111) hx hb dX11_step_104 (by decide) (fun c_104 => ?_) (fun c_104 => ?_)
              · exact absurd rfl c_104
              · refine lv_iconst (v := 1) hx hb dX11_step_107 (by decide) ?_
                refine lv_goto (tgt := 134) hx hb dX11_step_108 (by decide) ?_
                refine hk_put (ref := "LightcurveHouseModel") X K hM.1 rfl iX11_step_X11 tyX11 tyX11_ok nmX11 hS hM.2.2.2.2.1 33 (by decide) (by decide +kernel) (fun _ h => h) (by decide +kernel) rfl rfl (Nat.le_of_ble_eq_true rfl) dX11_step_134 (fun H54 locsH54 hOH54 hzH54 hqH54 hS => ?_)
                rw [mf_33] at hOH54
                have hM := MW.obj hM hOH54 hqH54
                refine lv_aload_n hx hb dX11_step_137 rfl (lv_at hl 2 rfl) ?_
                refine hk_get (ref := "LightcurveHouseModel") (v := .int 1) X K hM.1 rfl iX11_step_X11 33 (by decide) (by decide +kernel) (fun _ h => h) rfl dX11_step_138 ?_
                refine lv_if_le (tgt := 146) hx hb dX11_step_141 (by decide) (fun c_141 => ?_) (fun c_141 => ?_)
                · exact absurd c_141 (by decide)
                · refine lv_iconst (v := 0) hx hb dX11_step_144 (by decide) ?_
                  exact hk_iret X hr hlk hQ hS (Nat.le_of_ble_eq_true rfl) (Nat.le_of_ble_eq_true rfl) dX11_step_145 (mfin1 (v := 1) hM (by unfold cd_step; (try dsimp only); rw [if_neg c_2]) (by decide) rfl rfl agr_thr)
            · exact absurd (by decide) c_65
      · subst hv
        refine lv_if_eq (tgt := 98) hx hb dX11_step_54 (by decide) (fun c_54 => ?_) (fun c_54 => ?_)
        · refine lv_iconst (v := 0) hx hb dX11_step_98 (by decide) ?_
          refine lv_istore (lv' := [(9, .int 0), (8, .int 0), (0, .ref mo), (1, .int p0), (2, .int p1), (3, .int p2), (4, .int p3), (5, .int p4), (6, .int p5), (7, .int p6)]) hx hb dX11_step_99 hl (by decide) rfl (fun ls hl => ?_)
          refine lv_aload_n hx hb dX11_step_101 rfl (lv_at hl 2 rfl) ?_
          refine lv_iload hx hb dX11_step_102 (lv_at hl 1 rfl) ?_
          refine lv_if_ne (tgt := 111) hx hb dX11_step_104 (by decide) (fun c_104 => ?_) (fun c_104 => ?_)
          · exact absurd rfl c_104
          · refine lv_iconst (v := 1) hx hb dX11_step_107 (by decide) ?_
            refine lv_goto (tgt := 134) hx hb dX11_step_108 (by decide) ?_
            refine hk_put (ref := "LightcurveHouseModel") X K hM.1 rfl iX11_step_X11 tyX11 tyX11_ok nmX11 hS hM.2.2.2.2.1 33 (by decide) (by decide +kernel) (fun _ h => h) (by decide +kernel) rfl rfl (Nat.le_of_ble_eq_true rfl) dX11_step_134 (fun H55 locsH55 hOH55 hzH55 hqH55 hS => ?_)
            rw [mf_33] at hOH55
            have hM := MW.obj hM hOH55 hqH55
            refine lv_aload_n hx hb dX11_step_137 rfl (lv_at hl 2 rfl) ?_
            refine hk_get (ref := "LightcurveHouseModel") (v := .int 1) X K hM.1 rfl iX11_step_X11 33 (by decide) (by decide +kernel) (fun _ h => h) rfl dX11_step_138 ?_
            refine lv_if_le (tgt := 146) hx hb dX11_step_141 (by decide) (fun c_141 => ?_) (fun c_141 => ?_)
            · exact absurd c_141 (by decide)
            · refine lv_iconst (v := 0) hx hb dX11_step_144 (by decide) ?_
              exact hk_iret X hr hlk hQ hS (Nat.le_of_ble_eq_true rfl) (Nat.le_of_ble_eq_true rfl) dX11_step_145 (mfin1 (v := 1) hM (by unfold cd_step; (try dsimp only); rw [if_neg c_2]) (by decide) rfl rfl agr_thr)
        · exact absurd (by decide) c_54
    · exact absurd (by decide) c_5

/-- the entry at a place, or how many, from star k on, m of them ahead -/
def sp_ent (f : Nat → Int32) (place : Int32) : Nat → Nat → Nat → Int32
  | 0, _, m => if place = -1 then nI m else -1
  | n + 1, k, m => if f k = nI k then (if nI m = place then nI k else sp_ent f place n (k + 1) (m + 1)) else sp_ent f place n (k + 1) m
theorem neg1_le {m : Nat} (h : m < 2 ^ 31) : (-1 : Int32) ≤ nI m := by
  rw [i_le, nI_toInt h]
  have e : (-1 : Int32).toInt = -1 := rfl
  omega
def cd_entries (p0 : Int32) (S : mS) : Int32 := if -1 ≤ p0 then 0 else 1
def an_entries (p0 : Int32) (S : mS) : Int32 := sp_ent (S.2.2 3) p0 (S.1 1) 0 0
def st_entries (p0 : Int32) (S : mS) : mS := S
abbrev rmX11_entries : Room := { frames := 0, cells := 0, slots := 0, locals := 0 }
theorem iX11_entries_X11 : ∀ w ∈ wsX110, w ∈ wsX11_entries := by decide +kernel
set_option maxHeartbeats 4000000 in
set_option maxRecDepth 100000 in
theorem c_X11_entries (E : hk_E) (l : Launch) (H0 : Heap) {mo : Nat} {am : Nat → Nat} {Z : Nat → Prop} {cn : Nat → Nat} {sc : Nat → Int32} {μ : Nat → Nat → Int32} (hM : MW E mo am Z cn sc μ H0) (hZ : ∀ q, Z q → hk_A E q) {p0 : Int32} (hns : cn 1 ≤ 12)  : hk_M E l yX11_entries wsX11_entries rmX11_entries (Z) [.ref mo, .int p0] H0 (mpost E mo am Z (cd_entries p0 (cn, sc, μ)) (an_entries p0 (cn, sc, μ)) (cn, sc, μ) (st_entries p0 (cn, sc, μ))) := by
  refine hk_M.ofW (cc := cX11_entries) (maxL := 4) (ret := (some .int)) (by decide +kernel) rfl (Nat.le_of_ble_eq_true rfl) ?_
  intro p e s m args below meth c ls Q hQ X hr hlk hnm K hs9 hS hl
  obtain ⟨hx, hb, hml, hown, hts⟩ := id X
  have hAE : ∀ q, (Z) q → hk_A E q := hZ
  have hl : lv_has ls 4 [(0, .ref mo), (1, .int p0)] := hl
  refine lv_aload_n hx hb dX11_entries_0 rfl (lv_at hl 0 rfl) ?_
  refine lv_iload_n hx hb dX11_entries_1 rfl (lv_at hl 1 rfl) ?_
  refine lv_iconst (v := (-1)) hx hb dX11_entries_2 (by decide) ?_
  refine lv_icmp_ge (tgt := 10) hx hb dX11_entries_3 (by decide) (fun c_3 => ?_) (fun c_3 => ?_)
  · refine lv_iconst (v := 0) hx hb dX11_entries_10 (by decide) ?_
    refine hk_put (ref := "LightcurveHouseModel") X K hM.1 rfl iX11_entries_X11 tyX11 tyX11_ok nmX11 hS hM.2.2.2.2.1 33 (by decide) (by decide +kernel) (fun _ h => h) (by decide +kernel) rfl rfl (Nat.le_of_ble_eq_true rfl) dX11_entries_11 (fun H1 locsH1 hOH1 hzH1 hqH1 hS => ?_)
    rw [mf_33] at hOH1
    have hM := MW.obj hM hOH1 hqH1
    refine lv_iconst (v := 0) hx hb dX11_entries_14 (by decide) ?_
    refine lv_topi (fun z_2 ez_2 => ?_)
    have ez_2 : z_2 = nI 0 := ez_2
    subst ez_2
    refine lv_istore_n (lv' := [(2, .int (nI 0)), (0, .ref mo), (1, .int p0)]) hx hb dX11_entries_15 rfl hl (by decide) rfl (fun ls hl => ?_)
    refine lv_iconst (v := 0) hx hb dX11_entries_16 (by decide) ?_
    refine lv_topi (fun z_3 ez_3 => ?_)
    have ez_3 : z_3 = nI 0 := ez_3
    subst ez_3
    refine lv_istore_n (lv' := [(3, .int (nI 0)), (2, .int (nI 0)), (0, .ref mo), (1, .int p0)]) hx hb dX11_entries_17 rfl hl (by decide) rfl (fun ls hl => ?_)
    have L18 : ∀ (n9 : Nat) (k mm : Nat), cn 1 + 1 ≤ k + n9 → (mm ≤ k ∧ k ≤ cn 1 ∧ sp_ent (μ 3) p0 (cn 1) 0 0 = sp_ent (μ 3) p0 (cn 1 - k) k mm) → ∀ (ls : Array Slot), lv_has ls 4 [(2, .int (nI mm)), (3, .int (nI k)), (0, .ref mo), (1, .int p0)] → W p l e rmX11_entries s m args below meth c H1 locsH1 0 0 Q (F0 m 18 ls []) := by
      intro n9
      induction n9 with
      | zero =>
        intro k mm hm hinv ls hl
        have hi1 := hinv.1
        have hi2 := hinv.2.1
        exact absurd hm (by omega)
      | succ n9 ih =>
        intro k mm hm hinv ls hl
        have hi1 := hinv.1
        have hi2 := hinv.2.1
        refine lv_iload_n hx hb dX11_entries_18 rfl (lv_at hl 1 rfl) ?_
        refine lv_aload_n hx hb dX11_entries_19 rfl (lv_at hl 2 rfl) ?_
        refine hk_get (ref := "LightcurveHouseModel") (v := .int (nI (cn 1))) X K hM.1 rfl iX11_entries_X11 1 (by decide) (by decide +kernel) (fun _ h => h) rfl dX11_entries_20 ?_
        refine lv_icmp_ge (tgt := 52) hx hb dX11_entries_23 (by decide) (fun c_23 => ?_) (fun c_23 => ?_)
        · have hkk : cn 1 ≤ k := (nI_leI (by omega) (by omega)).mp c_23
          refine lv_aload_n hx hb dX11_entries_52 rfl (lv_at hl 2 rfl) ?_
          refine hk_get (ref := "LightcurveHouseModel") (v := .int 0) X K hM.1 rfl iX11_entries_X11 33 (by decide) (by decide +kernel) (fun _ h => h) rfl dX11_entries_53 ?_
          refine lv_if_le (tgt := 63) hx hb dX11_entries_56 (by decide) (fun c_56 => ?_) (fun c_56 => ?_)
          · refine lv_iload_n hx hb dX11_entries_63 rfl (lv_at hl 3 rfl) ?_
            refine lv_iconst (v := (-1)) hx hb dX11_entries_64 (by decide) ?_
            refine lv_icmp_ne (tgt := 72) hx hb dX11_entries_65 (by decide) (fun c_65 => ?_) (fun c_65 => ?_)
            · refine lv_iconst (v := (-1)) hx hb dX11_entries_72 (by decide) ?_
              exact hk_iret X hr hlk hQ hS (Nat.le_of_ble_eq_true rfl) (Nat.le_of_ble_eq_true rfl) dX11_entries_73 (mfin0 hM (by unfold cd_entries; rw [if_pos c_3]) rfl (by show _ = some (Value.int (sp_ent (μ 3) p0 (cn 1) 0 0)); rw [hinv.2.2, show cn 1 - k = 0 from by omega, sp_ent, if_neg c_65]) agr_thr)
            · refine lv_iload_n hx hb dX11_entries_68 rfl (lv_at hl 0 rfl) ?_
              refine lv_goto (tgt := 73) hx hb dX11_entries_69 (by decide) ?_
              exact hk_iret X hr hlk hQ hS (Nat.le_of_ble_eq_true rfl) (Nat.le_of_ble_eq_true rfl) dX11_entries_73 (mfin0 hM (by unfold cd_entries; rw [if_pos c_3]) rfl (by show _ = some (Value.int (sp_ent (μ 3) p0 (cn 1) 0 0)); rw [hinv.2.2, show cn 1 - k = 0 from by omega, sp_ent, if_pos c_65]) agr_thr)
          · exact absurd (by decide) c_56
        · have hkk : k < cn 1 := Nat.lt_of_not_le (fun h => c_23 (nI_le h (by omega)))
          refine lv_aload_n hx hb dX11_entries_26 rfl (lv_at hl 2 rfl) ?_
          refine hk_get (ref := "LightcurveHouseModel") (v := .ref (am 3)) X K hM.1 rfl iX11_entries_X11 3 (by decide) (by decide +kernel) (fun _ h => h) rfl dX11_entries_27 ?_
          refine lv_iload_n hx hb dX11_entries_30 rfl (lv_at hl 1 rfl) ?_
          refine hk_ild (f := (μ 3)) X K hM.a3 (vp_in_nI (by omega) (by omega)) dX11_entries_31 ?_
          rw [show (μ 3) (nI k).toNatClampNeg = μ 3 k from by rw [nI_clamp (show k < 2 ^ 31 by omega)]]
          refine lv_iload_n hx hb dX11_entries_32 rfl (lv_at hl 1 rfl) ?_
          refine lv_icmp_ne (tgt := 46) hx hb dX11_entries_33 (by decide) (fun c_33 => ?_) (fun c_33 => ?_)
          · obtain ⟨k1, ek1⟩ : ∃ y : Int32, y = (nI k) + 1 := ⟨_, rfl⟩
            refine lv_iinc (v := k1) (lv' := [(3, .int k1), (2, .int (nI mm)), (0, .ref mo), (1, .int p0)]) hx hb dX11_entries_46 hl (k := 1) rfl (by rw [ek1]; rfl) (by decide) rfl (fun ls hl => ?_)
            rw [nI_1] at ek1
            subst ek1
            refine lv_goto (tgt := 18) hx hb dX11_entries_49 (by decide) ?_
            exact ih (k + 1) mm (by omega) ⟨by omega, by omega, by rw [hinv.2.2, show cn 1 - k = (cn 1 - (k + 1)) + 1 from by omega, sp_ent, if_neg c_33]⟩ _ (lv_sub hl [1, 0, 2, 3] rfl)
          · refine lv_iload_n hx hb dX11_entries_36 rfl (lv_at hl 0 rfl) ?_
            refine lv_iload_n hx hb dX11_entries_37 rfl (lv_at hl 3 rfl) ?_
            refine lv_icmp_ne (tgt := 43) hx hb dX11_entries_38 (by decide) (fun c_38 => ?_) (fun c_38 => ?_)
            · obtain ⟨m1, em1⟩ : ∃ y : Int32, y = (nI mm) + 1 := ⟨_, rfl⟩
              refine lv_iinc (v := m1) (lv' := [(2, .int m1), (3, .int (nI k)), (0, .ref mo), (1, .int p0)]) hx hb dX11_entries_43 hl (k := 0) rfl (by rw [em1]; rfl) (by decide) rfl (fun ls hl => ?_)
              rw [nI_1] at em1
              subst em1
              obtain ⟨k1, ek1⟩ : ∃ y : Int32, y = (nI k) + 1 := ⟨_, rfl⟩
              refine lv_iinc (v := k1) (lv' := [(3, .int k1), (2, .int (nI (mm + 1))), (0, .ref mo), (1, .int p0)]) hx hb dX11_entries_46 hl (k := 1) rfl (by rw [ek1]; rfl) (by decide) rfl (fun ls hl => ?_)
              rw [nI_1] at ek1
              subst ek1
              refine lv_goto (tgt := 18) hx hb dX11_entries_49 (by decide) ?_
              exact ih (k + 1) (mm + 1) (by omega) ⟨by omega, by omega, by rw [hinv.2.2, show cn 1 - k = (cn 1 - (k + 1)) + 1 from by omega, sp_ent, if_pos c_33, if_neg c_38]⟩ _ (lv_sub hl [1, 0, 2, 3] rfl)
            · refine lv_iload_n hx hb dX11_entries_41 rfl (lv_at hl 1 rfl) ?_
              exact hk_iret X hr hlk hQ hS (Nat.le_of_ble_eq_true rfl) (Nat.le_of_ble_eq_true rfl) dX11_entries_42 (mfin0 hM (by unfold cd_entries; rw [if_pos c_3]) rfl (by show _ = some (Value.int (sp_ent (μ 3) p0 (cn 1) 0 0)); rw [hinv.2.2, show cn 1 - k = (cn 1 - (k + 1)) + 1 from by omega, sp_ent, if_pos c_33, if_pos c_38]) agr_thr)
    exact L18 (cn 1 + 1) 0 0 (by omega) ⟨Nat.le_refl _, Nat.zero_le _, rfl⟩ _ (lv_sub hl [1, 0, 2, 3] rfl)
  · refine lv_iconst (v := 1) hx hb dX11_entries_6 (by decide) ?_
    refine lv_goto (tgt := 11) hx hb dX11_entries_7 (by decide) ?_
    refine hk_put (ref := "LightcurveHouseModel") X K hM.1 rfl iX11_entries_X11 tyX11 tyX11_ok nmX11 hS hM.2.2.2.2.1 33 (by decide) (by decide +kernel) (fun _ h => h) (by decide +kernel) rfl rfl (Nat.le_of_ble_eq_true rfl) dX11_entries_11 (fun H4 locsH4 hOH4 hzH4 hqH4 hS => ?_)
    rw [mf_33] at hOH4
    have hM := MW.obj hM hOH4 hqH4
    refine lv_iconst (v := 0) hx hb dX11_entries_14 (by decide) ?_
    refine lv_topi (fun z_5 ez_5 => ?_)
    have ez_5 : z_5 = nI 0 := ez_5
    subst ez_5
    refine lv_istore_n (lv' := [(2, .int (nI 0)), (0, .ref mo), (1, .int p0)]) hx hb dX11_entries_15 rfl hl (by decide) rfl (fun ls hl => ?_)
    refine lv_iconst (v := 0) hx hb dX11_entries_16 (by decide) ?_
    refine lv_topi (fun z_6 ez_6 => ?_)
    have ez_6 : z_6 = nI 0 := ez_6
    subst ez_6
    refine lv_istore_n (lv' := [(3, .int (nI 0)), (2, .int (nI 0)), (0, .ref mo), (1, .int p0)]) hx hb dX11_entries_17 rfl hl (by decide) rfl (fun ls hl => ?_)
    have L18 : ∀ (n9 : Nat) (k mm : Nat), cn 1 + 1 ≤ k + n9 → (mm ≤ k ∧ k ≤ cn 1 ∧ sp_ent (μ 3) p0 (cn 1) 0 0 = sp_ent (μ 3) p0 (cn 1 - k) k mm) → ∀ (ls : Array Slot), lv_has ls 4 [(2, .int (nI mm)), (3, .int (nI k)), (0, .ref mo), (1, .int p0)] → W p l e rmX11_entries s m args below meth c H4 locsH4 0 0 Q (F0 m 18 ls []) := by
      intro n9
      induction n9 with
      | zero =>
        intro k mm hm hinv ls hl
        have hi1 := hinv.1
        have hi2 := hinv.2.1
        exact absurd hm (by omega)
      | succ n9 ih =>
        intro k mm hm hinv ls hl
        have hi1 := hinv.1
        have hi2 := hinv.2.1
        refine lv_iload_n hx hb dX11_entries_18 rfl (lv_at hl 1 rfl) ?_
        refine lv_aload_n hx hb dX11_entries_19 rfl (lv_at hl 2 rfl) ?_
        refine hk_get (ref := "LightcurveHouseModel") (v := .int (nI (cn 1))) X K hM.1 rfl iX11_entries_X11 1 (by decide) (by decide +kernel) (fun _ h => h) rfl dX11_entries_20 ?_
        refine lv_icmp_ge (tgt := 52) hx hb dX11_entries_23 (by decide) (fun c_23 => ?_) (fun c_23 => ?_)
        · have hkk : cn 1 ≤ k := (nI_leI (by omega) (by omega)).mp c_23
          refine lv_aload_n hx hb dX11_entries_52 rfl (lv_at hl 2 rfl) ?_
          refine hk_get (ref := "LightcurveHouseModel") (v := .int 1) X K hM.1 rfl iX11_entries_X11 33 (by decide) (by decide +kernel) (fun _ h => h) rfl dX11_entries_53 ?_
          refine lv_if_le (tgt := 63) hx hb dX11_entries_56 (by decide) (fun c_56 => ?_) (fun c_56 => ?_)
          · exact absurd c_56 (by decide)
          · refine lv_iconst (v := 0) hx hb dX11_entries_59 (by decide) ?_
            refine lv_goto (tgt := 73) hx hb dX11_entries_60 (by decide) ?_
            exact hk_iret X hr hlk hQ hS (Nat.le_of_ble_eq_true rfl) (Nat.le_of_ble_eq_true rfl) dX11_entries_73 (mfin1 (v := 1) hM (by unfold cd_entries; rw [if_neg c_3]) (by decide) rfl rfl agr_thr)
        · have hkk : k < cn 1 := Nat.lt_of_not_le (fun h => c_23 (nI_le h (by omega)))
          refine lv_aload_n hx hb dX11_entries_26 rfl (lv_at hl 2 rfl) ?_
          refine hk_get (ref := "LightcurveHouseModel") (v := .ref (am 3)) X K hM.1 rfl iX11_entries_X11 3 (by decide) (by decide +kernel) (fun _ h => h) rfl dX11_entries_27 ?_
          refine lv_iload_n hx hb dX11_entries_30 rfl (lv_at hl 1 rfl) ?_
          refine hk_ild (f := (μ 3)) X K hM.a3 (vp_in_nI (by omega) (by omega)) dX11_entries_31 ?_
          rw [show (μ 3) (nI k).toNatClampNeg = μ 3 k from by rw [nI_clamp (show k < 2 ^ 31 by omega)]]
          refine lv_iload_n hx hb dX11_entries_32 rfl (lv_at hl 1 rfl) ?_
          refine lv_icmp_ne (tgt := 46) hx hb dX11_entries_33 (by decide) (fun c_33 => ?_) (fun c_33 => ?_)
          · obtain ⟨k1, ek1⟩ : ∃ y : Int32, y = (nI k) + 1 := ⟨_, rfl⟩
            refine lv_iinc (v := k1) (lv' := [(3, .int k1), (2, .int (nI mm)), (0, .ref mo), (1, .int p0)]) hx hb dX11_entries_46 hl (k := 1) rfl (by rw [ek1]; rfl) (by decide) rfl (fun ls hl => ?_)
            rw [nI_1] at ek1
            subst ek1
            refine lv_goto (tgt := 18) hx hb dX11_entries_49 (by decide) ?_
            exact ih (k + 1) mm (by omega) ⟨by omega, by omega, by rw [hinv.2.2, show cn 1 - k = (cn 1 - (k + 1)) + 1 from by omega, sp_ent, if_neg c_33]⟩ _ (lv_sub hl [1, 0, 2, 3] rfl)
          · refine lv_iload_n hx hb dX11_entries_36 rfl (lv_at hl 0 rfl) ?_
            refine lv_iload_n hx hb dX11_entries_37 rfl (lv_at hl 3 rfl) ?_
            refine lv_icmp_ne (tgt := 43) hx hb dX11_entries_38 (by decide) (fun c_38 => ?_) (fun c_38 => ?_)
            · obtain ⟨m1, em1⟩ : ∃ y : Int32, y = (nI mm) + 1 := ⟨_, rfl⟩
              refine lv_iinc (v := m1) (lv' := [(2, .int m1), (3, .int (nI k)), (0, .ref mo), (1, .int p0)]) hx hb dX11_entries_43 hl (k := 0) rfl (by rw [em1]; rfl) (by decide) rfl (fun ls hl => ?_)
              rw [nI_1] at em1
              subst em1
              obtain ⟨k1, ek1⟩ : ∃ y : Int32, y = (nI k) + 1 := ⟨_, rfl⟩
              refine lv_iinc (v := k1) (lv' := [(3, .int k1), (2, .int (nI (mm + 1))), (0, .ref mo), (1, .int p0)]) hx hb dX11_entries_46 hl (k := 1) rfl (by rw [ek1]; rfl) (by decide) rfl (fun ls hl => ?_)
              rw [nI_1] at ek1
              subst ek1
              refine lv_goto (tgt := 18) hx hb dX11_entries_49 (by decide) ?_
              exact ih (k + 1) (mm + 1) (by omega) ⟨by omega, by omega, by rw [hinv.2.2, show cn 1 - k = (cn 1 - (k + 1)) + 1 from by omega, sp_ent, if_pos c_33, if_neg c_38]⟩ _ (lv_sub hl [1, 0, 2, 3] rfl)
            · exact absurd (by rw [← c_38]; exact neg1_le (by omega)) c_3
    exact L18 (cn 1 + 1) 0 0 (by omega) ⟨Nat.le_refl _, Nat.zero_le _, rfl⟩ _ (lv_sub hl [1, 0, 2, 3] rfl)

