theorem isS_lt {n : Nat} {i : Int32} (hn : n < 2 ^ 31) (h : isS n i) : ix i < n := by
  obtain ⟨j, hj, rfl⟩ := isS_ix hn h
  rw [ix_nI (by omega)]
  exact hj
/-- how many cycles were lost between the first n and one minima -/
def sp_lost (g : Nat → Int32) (P : Int32) : Nat → Int32
  | 0 => 0
  | k + 1 => sp_lost g P k + (if 4 * absd (sp_of g (k + 1) P - sp_of g k P) ≤ P then 0 else 1)
theorem sp_lost_cg {g g' : Nat → Int32} {P : Int32} {m : Nat} (h : ∀ t, t < m → sp_of g t P = sp_of g' t P) (k : Nat) (hk : k < m) : sp_lost g P k = sp_lost g' P k := by
  induction k with
  | zero => rfl
  | succ k ih => rw [sp_lost, sp_lost, ih (by omega), h (k + 1) hk, h k (by omega)]
theorem lost_eq {μ : Nat → Nat → Int32} {e : Int32} {g g' : Nat → Int32} {n : Nat} {P : Int32} : sp_lost (layA μ e g n).1 P ((layA μ e g n).2 - 1) = sp_lost (layA μ e g' n).1 P ((layA μ e g' n).2 - 1) := by
  rw [← (layA_cg (g := g) (g' := g') n).1]
  rcases Nat.eq_zero_or_pos (layA μ e g n).2 with h | h
  · rw [h]; rfl
  · exact sp_lost_cg (fun t ht => of_eq ht) _ (by omega)
def cd_cycle (p0 p1 p2 p3 : Int32) (S : mS) : Int32 := if isS (S.1 1) p0 then (if isS (layS S (S.2.2 3 (ix p0))).2 p2 then (if inr p1 30 1000000 then 0 else 2) else 1) else 1
def an_cycle (p0 p1 p2 p3 : Int32) (S : mS) : Int32 := if p3 = 0 then sp_cy (layS S (S.2.2 3 (ix p0))).1 (ix p2) p1 else sp_of (layS S (S.2.2 3 (ix p0))).1 (ix p2) p1
def st_cycle (p0 p1 p2 p3 : Int32) (S : mS) : mS := S
theorem hd_X11_lays : yX11_lays.cls ≠ "java/lang/invoke/MethodHandle" ∧ yX11_lays.cls ≠ "java/lang/invoke/VarHandle" ∧ (parseMethodDescriptor yX11_lays.desc).map (fun d => d.parameters.length) = some 1 := ⟨by decide, by decide, by decide +kernel⟩
theorem hd_X11_offsetOf : yX11_offsetOf.cls ≠ "java/lang/invoke/MethodHandle" ∧ yX11_offsetOf.cls ≠ "java/lang/invoke/VarHandle" ∧ (parseMethodDescriptor yX11_offsetOf.desc).map (fun d => d.parameters.length) = some 2 := ⟨by decide, by decide, by decide +kernel⟩
abbrev rmX11_cycle : Room := { frames := 2, cells := 0, slots := 0, locals := 48 }
theorem iX11_cycle_X11 : ∀ w ∈ wsX110, w ∈ wsX11_cycle := by decide +kernel
set_option maxHeartbeats 4000000 in
set_option maxRecDepth 100000 in
theorem c_X11_cycle (E : hk_E) (l : Launch) (H0 : Heap) {mo : Nat} {am : Nat → Nat} {Z : Nat → Prop} {cn : Nat → Nat} {sc : Nat → Int32} {μ : Nat → Nat → Int32} (hM : MW E mo am Z cn sc μ H0) (hZ : ∀ q, Z q → hk_A E q) {p0 p1 p2 p3 : Int32} (hI : Inv (cn, sc, μ))  : hk_M E l yX11_cycle wsX11_cycle rmX11_cycle (Z) [.ref mo, .int p0, .int p1, .int p2, .int p3] H0 (mpost E mo am Z (cd_cycle p0 p1 p2 p3 (cn, sc, μ)) (an_cycle p0 p1 p2 p3 (cn, sc, μ)) (cn, sc, μ) (st_cycle p0 p1 p2 p3 (cn, sc, μ))) := by
  refine hk_M.ofW (cc := cX11_cycle) (maxL := 5) (ret := (some .int)) (by decide +kernel) rfl (Nat.le_of_ble_eq_true rfl) ?_
  intro p e s m args below meth c ls Q hQ X hr hlk hnm K hs9 hS hl
  obtain ⟨hx, hb, hml, hown, hts⟩ := id X
  have hAE : ∀ q, (Z) q → hk_A E q := hZ
  have hl : lv_has ls 5 [(0, .ref mo), (1, .int p0), (2, .int p1), (3, .int p2), (4, .int p3)] := hl
  have hnl := hI.1.2.2.1
  have hns := hI.1.1
  have hnp := hI.1.2.1
  dsimp only at hnl hns hnp
  have hni := hI.1.2.2.2.2
  dsimp only at hni
  refine lv_aload_n hx hb dX11_cycle_0 rfl (lv_at hl 0 rfl) ?_
  refine lv_aload_n hx hb dX11_cycle_1 rfl (lv_at hl 0 rfl) ?_
  refine lv_iload_n hx hb dX11_cycle_2 rfl (lv_at hl 1 rfl) ?_
  refine hk_callV 1 (As := [.int p0]) (rest := [.ref mo]) X K hAE hS hl.1 hM.1 rfl (c_X11_isStar E l H0 hM hns (i := p0)) (fun _ h => h.elim) gX11_cycle_X11_isStar rfl ⟨rfl, hd_X11_isStar⟩ rfl ⟨⟨(Nat.le_of_ble_eq_true rfl), (Nat.le_of_ble_eq_true rfl)⟩, (Nat.le_of_ble_eq_true rfl), (Nat.le_of_ble_eq_true rfl)⟩ rfl (Nat.le_of_ble_eq_true rfl) dX11_cycle_3 (fun v9 H1 locsH1 hp hS hzH1 hkH1 => ?_)
  obtain ⟨hv, hh⟩ := hp
  subst hh
  rcases hv with ⟨hv, c_3⟩ | ⟨hv, c_3⟩
  · subst hv
    refine lv_if_eq (tgt := 13) hx hb dX11_cycle_6 (by decide) (fun c_6 => ?_) (fun c_6 => ?_)
    · exact absurd c_6 (by decide)
    · refine lv_iconst (v := 0) hx hb dX11_cycle_9 (by decide) ?_
      refine lv_goto (tgt := 14) hx hb dX11_cycle_10 (by decide) ?_
      refine hk_put (ref := "LightcurveHouseModel") X K hM.1 rfl iX11_cycle_X11 tyX11 tyX11_ok nmX11 hS hM.2.2.2.2.1 33 (by decide) (by decide +kernel) (fun _ h => h) (by decide +kernel) rfl rfl (Nat.le_of_ble_eq_true rfl) dX11_cycle_14 (fun H2 locsH2 hOH2 hzH2 hqH2 hS => ?_)
      rw [mf_33] at hOH2
      have hM := MW.obj hM hOH2 hqH2
      refine lv_aload_n hx hb dX11_cycle_17 rfl (lv_at hl 0 rfl) ?_
      refine hk_get (ref := "LightcurveHouseModel") (v := .int 0) X K hM.1 rfl iX11_cycle_X11 33 (by decide) (by decide +kernel) (fun _ h => h) rfl dX11_cycle_18 ?_
      refine lv_if_ne (tgt := 68) hx hb dX11_cycle_21 (by decide) (fun c_21 => ?_) (fun c_21 => ?_)
      · exact absurd rfl c_21
      · refine lv_aload_n hx hb dX11_cycle_24 rfl (lv_at hl 0 rfl) ?_
        refine lv_aload_n hx hb dX11_cycle_25 rfl (lv_at hl 0 rfl) ?_
        refine hk_get (ref := "LightcurveHouseModel") (v := .ref (am 3)) X K hM.1 rfl iX11_cycle_X11 3 (by decide) (by decide +kernel) (fun _ h => h) rfl dX11_cycle_26 ?_
        refine lv_iload_n hx hb dX11_cycle_29 rfl (lv_at hl 1 rfl) ?_
        refine hk_ild (f := (μ 3)) X K hM.a3 (vp_isS hns (by omega) c_3) dX11_cycle_30 ?_
        refine hk_callV 1 (As := [.int ((μ 3) p0.toNatClampNeg)]) (rest := []) X K hAE hS hl.1 hM.1 rfl (c_X11_lays E l H2 hM hZ hI (e1 := (μ 3) p0.toNatClampNeg)) (fun _ h => h) gX11_cycle_X11_lays rfl ⟨rfl, hd_X11_lays⟩ rfl ⟨⟨(Nat.le_of_ble_eq_true rfl), (Nat.le_of_ble_eq_true rfl)⟩, (Nat.le_of_ble_eq_true rfl), (Nat.le_of_ble_eq_true rfl)⟩ rfl (Nat.le_of_ble_eq_true rfl) dX11_cycle_31 (fun v9 H3 locsH3 hp hS hzH3 hkH3 => ?_)
        obtain ⟨hv, hM⟩ := hp
        subst hv
        have hmm : (layA μ (μ 3 (ix p0)) (μ 39) (cn 29)).2 ≤ 30 := Nat.le_trans (layA_le _) hni
        have hly2 : (layS (cn, sc, μ) (μ 3 (ix p0))).2 = (layA μ (μ 3 (ix p0)) (μ 39) (cn 29)).2 := (layA_cg (g := μ 39) (g' := fun _ => 0) (cn 29)).1.symm
        refine lv_aload_n hx hb dX11_cycle_34 rfl (lv_at hl 0 rfl) ?_
        refine lv_iload_n hx hb dX11_cycle_35 rfl (lv_at hl 3 rfl) ?_
        refine lv_iconst (v := 0) hx hb dX11_cycle_36 (by decide) ?_
        refine lv_aload_n hx hb dX11_cycle_37 rfl (lv_at hl 0 rfl) ?_
        refine hk_get (ref := "LightcurveHouseModel") (v := .int (nI (layA μ (μ 3 (ix p0)) (μ 39) (cn 29)).2)) X K hM.1 rfl iX11_cycle_X11 38 (by decide) (by decide +kernel) (fun _ h => h) rfl dX11_cycle_38 ?_
        refine lv_iconst (v := 1) hx hb dX11_cycle_41 (by decide) ?_
        refine lv_isub hx hb dX11_cycle_42 ?_
        refine hk_callS 3 (As := [.int p2, .int 0, .int ((nI (layA μ (μ 3 (ix p0)) (μ 39) (cn 29)).2) - 1)]) (rest := [.ref mo]) X K hAE hS hl.1 (c_X11_inS E l H3 (a := p2) (n := (layA μ (μ 3 (ix p0)) (μ 39) (cn 29)).2) (by omega)) (fun _ h => h.elim) gX11_cycle_X11_in rfl hd_X11_in rfl ⟨⟨(Nat.le_of_ble_eq_true rfl), (Nat.le_of_ble_eq_true rfl)⟩, (Nat.le_of_ble_eq_true rfl), (Nat.le_of_ble_eq_true rfl)⟩ rfl (Nat.le_of_ble_eq_true rfl) dX11_cycle_43 (fun v9 H4 locsH4 hp hS hzH4 hkH4 => ?_)
        obtain ⟨hv, hh⟩ := hp
        subst hh
        rcases hv with ⟨hv, c_43⟩ | ⟨hv, c_43⟩
        · subst hv
          refine lv_if_ne (tgt := 53) hx hb dX11_cycle_46 (by decide) (fun c_46 => ?_) (fun c_46 => ?_)
          · refine lv_iload_n hx hb dX11_cycle_53 rfl (lv_at hl 2 rfl) ?_
            refine hk_callS 1 (As := [.int p1]) (rest := [.ref mo]) X K hAE hS hl.1 (c_X11_isPeriod E l H3 (a := p1)) (fun _ h => h.elim) gX11_cycle_X11_isPeriod rfl hd_X11_isPeriod rfl ⟨⟨(Nat.le_of_ble_eq_true rfl), (Nat.le_of_ble_eq_true rfl)⟩, (Nat.le_of_ble_eq_true rfl), (Nat.le_of_ble_eq_true rfl)⟩ rfl (Nat.le_of_ble_eq_true rfl) dX11_cycle_54 (fun v9 H5 locsH5 hp hS hzH5 hkH5 => ?_)
            obtain ⟨hv, hh⟩ := hp
            subst hh
            rcases hv with ⟨hv, c_54⟩ | ⟨hv, c_54⟩
            · subst hv
              refine lv_if_ne (tgt := 64) hx hb dX11_cycle_57 (by decide) (fun c_57 => ?_) (fun c_57 => ?_)
              · refine lv_iconst (v := 0) hx hb dX11_cycle_64 (by decide) ?_
                refine hk_put (ref := "LightcurveHouseModel") X K hM.1 rfl iX11_cycle_X11 tyX11 tyX11_ok nmX11 hS hM.2.2.2.2.1 33 (by decide) (by decide +kernel) (fun _ h => h) (by decide +kernel) rfl rfl (Nat.le_of_ble_eq_true rfl) dX11_cycle_65 (fun H6 locsH6 hOH6 hzH6 hqH6 hS => ?_)
                rw [mf_33] at hOH6
                have hM := MW.obj hM hOH6 hqH6
                rw [va_up2] at hM
                refine lv_aload_n hx hb dX11_cycle_68 rfl (lv_at hl 0 rfl) ?_
                refine hk_get (ref := "LightcurveHouseModel") (v := .int 0) X K hM.1 rfl iX11_cycle_X11 33 (by decide) (by decide +kernel) (fun _ h => h) rfl dX11_cycle_69 ?_
                refine lv_if_le (tgt := 79) hx hb dX11_cycle_72 (by decide) (fun c_72 => ?_) (fun c_72 => ?_)
                · refine lv_iload hx hb dX11_cycle_79 (lv_at hl 4 rfl) ?_
                  refine lv_if_eq (tgt := 93) hx hb dX11_cycle_81 (by decide) (fun c_81 => ?_) (fun c_81 => ?_)
                  · refine lv_aload_n hx hb dX11_cycle_93 rfl (lv_at hl 0 rfl) ?_
                    refine lv_iload_n hx hb dX11_cycle_94 rfl (lv_at hl 3 rfl) ?_
                    refine lv_iload_n hx hb dX11_cycle_95 rfl (lv_at hl 2 rfl) ?_
                    refine hk_callV 2 (As := [.int p2, .int p1]) (rest := []) X K hAE hS hl.1 hM.1 rfl (c_X11_cycleOf E l H6 hM (x := p2) (P := p1) (vp_isS hmm (by omega) c_43) c_54) (fun _ h => h.elim) gX11_cycle_X11_cycleOf rfl ⟨rfl, hd_X11_cycleOf⟩ rfl ⟨⟨(Nat.le_of_ble_eq_true rfl), (Nat.le_of_ble_eq_true rfl)⟩, (Nat.le_of_ble_eq_true rfl), (Nat.le_of_ble_eq_true rfl)⟩ rfl (Nat.le_of_ble_eq_true rfl) dX11_cycle_96 (fun v9 H7 locsH7 hp hS hzH7 hkH7 => ?_)
                    obtain ⟨hv, hh⟩ := hp
                    subst hv; subst hh
                    exact hk_iret X hr hlk hQ hS (Nat.le_of_ble_eq_true rfl) (Nat.le_of_ble_eq_true rfl) dX11_cycle_99 (mfin0 hM (by have c43 : isS (layS (cn, sc, μ) (μ 3 (ix p0))).2 p2 := (by rw [hly2]; exact c_43); unfold cd_cycle; rw [if_pos c_3, if_pos c43, if_pos c_54]) rfl (by unfold an_cycle; rw [if_pos c_81]; exact congrArg (fun x => some (Value.int x)) (cy_eq (isS_lt (Nat.lt_of_le_of_lt hmm (by decide)) c_43))) agr_lay)
                  · refine lv_aload_n hx hb dX11_cycle_84 rfl (lv_at hl 0 rfl) ?_
                    refine lv_iload_n hx hb dX11_cycle_85 rfl (lv_at hl 3 rfl) ?_
                    refine lv_iload_n hx hb dX11_cycle_86 rfl (lv_at hl 2 rfl) ?_
                    refine hk_callV 2 (As := [.int p2, .int p1]) (rest := []) X K hAE hS hl.1 hM.1 rfl (c_X11_offsetOf E l H6 hM (x := p2) (P := p1) (vp_isS hmm (by omega) c_43) c_54) (fun _ h => h.elim) gX11_cycle_X11_offsetOf rfl ⟨rfl, hd_X11_offsetOf⟩ rfl ⟨⟨(Nat.le_of_ble_eq_true rfl), (Nat.le_of_ble_eq_true rfl)⟩, (Nat.le_of_ble_eq_true rfl), (Nat.le_of_ble_eq_true rfl)⟩ rfl (Nat.le_of_ble_eq_true rfl) dX11_cycle_87 (fun v9 H8 locsH8 hp hS hzH8 hkH8 => ?_)
                    obtain ⟨hv, hh⟩ := hp
                    subst hv; subst hh
                    refine lv_goto (tgt := 99) hx hb dX11_cycle_90 (by decide) ?_
                    exact hk_iret X hr hlk hQ hS (Nat.le_of_ble_eq_true rfl) (Nat.le_of_ble_eq_true rfl) dX11_cycle_99 (mfin0 hM (by have c43 : isS (layS (cn, sc, μ) (μ 3 (ix p0))).2 p2 := (by rw [hly2]; exact c_43); unfold cd_cycle; rw [if_pos c_3, if_pos c43, if_pos c_54]) rfl (by unfold an_cycle; rw [if_neg c_81]; exact congrArg (fun x => some (Value.int x)) (of_eq (isS_lt (Nat.lt_of_le_of_lt hmm (by decide)) c_43))) agr_lay)
                · exact absurd (by decide) c_72
              · exact absurd c_57 (by decide)
            · subst hv
              refine lv_if_ne (tgt := 64) hx hb dX11_cycle_57 (by decide) (fun c_57 => ?_) (fun c_57 => ?_)
              · exact absurd rfl c_57
              · refine lv_iconst (v := 2) hx hb dX11_cycle_60 (by decide) ?_
                refine lv_goto (tgt := 65) hx hb dX11_cycle_61 (by decide) ?_
                refine hk_put (ref := "LightcurveHouseModel") X K hM.1 rfl iX11_cycle_X11 tyX11 tyX11_ok nmX11 hS hM.2.2.2.2.1 33 (by decide) (by decide +kernel) (fun _ h => h) (by decide +kernel) rfl rfl (Nat.le_of_ble_eq_true rfl) dX11_cycle_65 (fun H9 locsH9 hOH9 hzH9 hqH9 hS => ?_)
                rw [mf_33] at hOH9
                have hM := MW.obj hM hOH9 hqH9
                rw [va_up2] at hM
                refine lv_aload_n hx hb dX11_cycle_68 rfl (lv_at hl 0 rfl) ?_
                refine hk_get (ref := "LightcurveHouseModel") (v := .int 2) X K hM.1 rfl iX11_cycle_X11 33 (by decide) (by decide +kernel) (fun _ h => h) rfl dX11_cycle_69 ?_
                refine lv_if_le (tgt := 79) hx hb dX11_cycle_72 (by decide) (fun c_72 => ?_) (fun c_72 => ?_)
                · exact absurd c_72 (by decide)
                · refine lv_iconst (v := 0) hx hb dX11_cycle_75 (by decide) ?_
                  refine lv_goto (tgt := 99) hx hb dX11_cycle_76 (by decide) ?_
                  exact hk_iret X hr hlk hQ hS (Nat.le_of_ble_eq_true rfl) (Nat.le_of_ble_eq_true rfl) dX11_cycle_99 (mfin1 (v := 2) hM (by have c43 : isS (layS (cn, sc, μ) (μ 3 (ix p0))).2 p2 := (by rw [hly2]; exact c_43); unfold cd_cycle; rw [if_pos c_3, if_pos c43, if_neg c_54]) (by decide) rfl rfl agr_lay)
          · exact absurd c_46 (by decide)
        · subst hv
          refine lv_if_ne (tgt := 53) hx hb dX11_cycle_46 (by decide) (fun c_46 => ?_) (fun c_46 => ?_)
          · exact absurd rfl c_46
          · refine lv_iconst (v := 1) hx hb dX11_cycle_49 (by decide) ?_
            refine lv_goto (tgt := 65) hx hb dX11_cycle_50 (by decide) ?_
            refine hk_put (ref := "LightcurveHouseModel") X K hM.1 rfl iX11_cycle_X11 tyX11 tyX11_ok nmX11 hS hM.2.2.2.2.1 33 (by decide) (by decide +kernel) (fun _ h => h) (by decide +kernel) rfl rfl (Nat.le_of_ble_eq_true rfl) dX11_cycle_65 (fun H10 locsH10 hOH10 hzH10 hqH10 hS => ?_)
            rw [mf_33] at hOH10
            have hM := MW.obj hM hOH10 hqH10
            rw [va_up2] at hM
            refine lv_aload_n hx hb dX11_cycle_68 rfl (lv_at hl 0 rfl) ?_
            refine hk_get (ref := "LightcurveHouseModel") (v := .int 1) X K hM.1 rfl iX11_cycle_X11 33 (by decide) (by decide +kernel) (fun _ h => h) rfl dX11_cycle_69 ?_
            refine lv_if_le (tgt := 79) hx hb dX11_cycle_72 (by decide) (fun c_72 => ?_) (fun c_72 => ?_)
            · exact absurd c_72 (by decide)
            · refine lv_iconst (v := 0) hx hb dX11_cycle_75 (by decide) ?_
              refine lv_goto (tgt := 99) hx hb dX11_cycle_76 (by decide) ?_
              exact hk_iret X hr hlk hQ hS (Nat.le_of_ble_eq_true rfl) (Nat.le_of_ble_eq_true rfl) dX11_cycle_99 (mfin1 (v := 1) hM (by have c43 : ¬ isS (layS (cn, sc, μ) (μ 3 (ix p0))).2 p2 := (by rw [hly2]; exact c_43); unfold cd_cycle; rw [if_pos c_3, if_neg c43]) (by decide) rfl rfl agr_lay)
  · subst hv
    refine lv_if_eq (tgt := 13) hx hb dX11_cycle_6 (by decide) (fun c_6 => ?_) (fun c_6 => ?_)
    · refine lv_iconst (v := 1) hx hb dX11_cycle_13 (by decide) ?_
      refine hk_put (ref := "LightcurveHouseModel") X K hM.1 rfl iX11_cycle_X11 tyX11 tyX11_ok nmX11 hS hM.2.2.2.2.1 33 (by decide) (by decide +kernel) (fun _ h => h) (by decide +kernel) rfl rfl (Nat.le_of_ble_eq_true rfl) dX11_cycle_14 (fun H11 locsH11 hOH11 hzH11 hqH11 hS => ?_)
      rw [mf_33] at hOH11
      have hM := MW.obj hM hOH11 hqH11
      refine lv_aload_n hx hb dX11_cycle_17 rfl (lv_at hl 0 rfl) ?_
      refine hk_get (ref := "LightcurveHouseModel") (v := .int 1) X K hM.1 rfl iX11_cycle_X11 33 (by decide) (by decide +kernel) (fun _ h => h) rfl dX11_cycle_18 ?_
      refine lv_if_ne (tgt := 68) hx hb dX11_cycle_21 (by decide) (fun c_21 => ?_) (fun c_21 => ?_)
      · refine lv_aload_n hx hb dX11_cycle_68 rfl (lv_at hl 0 rfl) ?_
        refine hk_get (ref := "LightcurveHouseModel") (v := .int 1) X K hM.1 rfl iX11_cycle_X11 33 (by decide) (by decide +kernel) (fun _ h => h) rfl dX11_cycle_69 ?_
        refine lv_if_le (tgt := 79) hx hb dX11_cycle_72 (by decide) (fun c_72 => ?_) (fun c_72 => ?_)
        · exact absurd c_72 (by decide)
        · refine lv_iconst (v := 0) hx hb dX11_cycle_75 (by decide) ?_
          refine lv_goto (tgt := 99) hx hb dX11_cycle_76 (by decide) ?_
          exact hk_iret X hr hlk hQ hS (Nat.le_of_ble_eq_true rfl) (Nat.le_of_ble_eq_true rfl) dX11_cycle_99 (mfin1 (v := 1) hM (by unfold cd_cycle; rw [if_neg c_3]) (by decide) rfl rfl agr_thr)
      · exact absurd c_21 (by decide)
    · exact absurd (by decide) c_6

def cd_lost (p0 p1 : Int32) (S : mS) : Int32 := if isS (S.1 1) p0 then (if inr p1 30 1000000 then 0 else 2) else 1
def an_lost (p0 p1 : Int32) (S : mS) : Int32 := sp_lost (layS S (S.2.2 3 (ix p0))).1 p1 ((layS S (S.2.2 3 (ix p0))).2 - 1)
def st_lost (p0 p1 : Int32) (S : mS) : mS := S
abbrev rmX11_lost : Room := { frames := 2, cells := 0, slots := 0, locals := 48 }
theorem iX11_lost_X11 : ∀ w ∈ wsX110, w ∈ wsX11_lost := by decide +kernel
set_option maxHeartbeats 4000000 in
set_option maxRecDepth 100000 in
theorem c_X11_lost (E : hk_E) (l : Launch) (H0 : Heap) {mo : Nat} {am : Nat → Nat} {Z : Nat → Prop} {cn : Nat → Nat} {sc : Nat → Int32} {μ : Nat → Nat → Int32} (hM : MW E mo am Z cn sc μ H0) (hZ : ∀ q, Z q → hk_A E q) {p0 p1 : Int32} (hI : Inv (cn, sc, μ))  : hk_M E l yX11_lost wsX11_lost rmX11_lost (Z) [.ref mo, .int p0, .int p1] H0 (mpost E mo am Z (cd_lost p0 p1 (cn, sc, μ)) (an_lost p0 p1 (cn, sc, μ)) (cn, sc, μ) (st_lost p0 p1 (cn, sc, μ))) := by
  refine hk_M.ofW (cc := cX11_lost) (maxL := 6) (ret := (some .int)) (by decide +kernel) rfl (Nat.le_of_ble_eq_true rfl) ?_
  intro p e s m args below meth c ls Q hQ X hr hlk hnm K hs9 hS hl
  obtain ⟨hx, hb, hml, hown, hts⟩ := id X
  have hAE : ∀ q, (Z) q → hk_A E q := hZ
  have hl : lv_has ls 6 [(0, .ref mo), (1, .int p0), (2, .int p1)] := hl
  have hnl := hI.1.2.2.1
  have hns := hI.1.1
  have hnp := hI.1.2.1
  dsimp only at hnl hns hnp
  have hni := hI.1.2.2.2.2
  dsimp only at hni
  refine lv_aload_n hx hb dX11_lost_0 rfl (lv_at hl 0 rfl) ?_
  refine lv_aload_n hx hb dX11_lost_1 rfl (lv_at hl 0 rfl) ?_
  refine lv_iload_n hx hb dX11_lost_2 rfl (lv_at hl 1 rfl) ?_
  refine hk_callV 1 (As := [.int p0]) (rest := [.ref mo]) X K hAE hS hl.1 hM.1 rfl (c_X11_isStar E l H0 hM hns (i := p0)) (fun _ h => h.elim) gX11_lost_X11_isStar rfl ⟨rfl, hd_X11_isStar⟩ rfl ⟨⟨(Nat.le_of_ble_eq_true rfl), (Nat.le_of_ble_eq_true rfl)⟩, (Nat.le_of_ble_eq_true rfl), (Nat.le_of_ble_eq_true rfl)⟩ rfl (Nat.le_of_ble_eq_true rfl) dX11_lost_3 (fun v9 H1 locsH1 hp hS hzH1 hkH1 => ?_)
  obtain ⟨hv, hh⟩ := hp
  subst hh
  rcases hv with ⟨hv, c_3⟩ | ⟨hv, c_3⟩
  · subst hv
    refine lv_if_ne (tgt := 13) hx hb dX11_lost_6 (by decide) (fun c_6 => ?_) (fun c_6 => ?_)
    · refine lv_iload_n hx hb dX11_lost_13 rfl (lv_at hl 2 rfl) ?_
      refine hk_callS 1 (As := [.int p1]) (rest := [.ref mo]) X K hAE hS hl.1 (c_X11_isPeriod E l H0 (a := p1)) (fun _ h => h.elim) gX11_lost_X11_isPeriod rfl hd_X11_isPeriod rfl ⟨⟨(Nat.le_of_ble_eq_true rfl), (Nat.le_of_ble_eq_true rfl)⟩, (Nat.le_of_ble_eq_true rfl), (Nat.le_of_ble_eq_true rfl)⟩ rfl (Nat.le_of_ble_eq_true rfl) dX11_lost_14 (fun v9 H2 locsH2 hp hS hzH2 hkH2 => ?_)
      obtain ⟨hv, hh⟩ := hp
      subst hh
      rcases hv with ⟨hv, c_14⟩ | ⟨hv, c_14⟩
      · subst hv
        refine lv_if_ne (tgt := 24) hx hb dX11_lost_17 (by decide) (fun c_17 => ?_) (fun c_17 => ?_)
        · refine lv_iconst (v := 0) hx hb dX11_lost_24 (by decide) ?_
          refine hk_put (ref := "LightcurveHouseModel") X K hM.1 rfl iX11_lost_X11 tyX11 tyX11_ok nmX11 hS hM.2.2.2.2.1 33 (by decide) (by decide +kernel) (fun _ h => h) (by decide +kernel) rfl rfl (Nat.le_of_ble_eq_true rfl) dX11_lost_25 (fun H3 locsH3 hOH3 hzH3 hqH3 hS => ?_)
          rw [mf_33] at hOH3
          have hM := MW.obj hM hOH3 hqH3
          refine lv_aload_n hx hb dX11_lost_28 rfl (lv_at hl 0 rfl) ?_
          refine hk_get (ref := "LightcurveHouseModel") (v := .int 0) X K hM.1 rfl iX11_lost_X11 33 (by decide) (by decide +kernel) (fun _ h => h) rfl dX11_lost_29 ?_
          refine lv_if_le (tgt := 37) hx hb dX11_lost_32 (by decide) (fun c_32 => ?_) (fun c_32 => ?_)
          · refine lv_aload_n hx hb dX11_lost_37 rfl (lv_at hl 0 rfl) ?_
            refine lv_aload_n hx hb dX11_lost_38 rfl (lv_at hl 0 rfl) ?_
            refine hk_get (ref := "LightcurveHouseModel") (v := .ref (am 3)) X K hM.1 rfl iX11_lost_X11 3 (by decide) (by decide +kernel) (fun _ h => h) rfl dX11_lost_39 ?_
            refine lv_iload_n hx hb dX11_lost_42 rfl (lv_at hl 1 rfl) ?_
            refine hk_ild (f := (μ 3)) X K hM.a3 (vp_isS hns (by omega) c_3) dX11_lost_43 ?_
            refine hk_callV 1 (As := [.int ((μ 3) p0.toNatClampNeg)]) (rest := []) X K hAE hS hl.1 hM.1 rfl (c_X11_lays E l H3 hM hZ hI (e1 := (μ 3) p0.toNatClampNeg)) (fun _ h => h) gX11_lost_X11_lays rfl ⟨rfl, hd_X11_lays⟩ rfl ⟨⟨(Nat.le_of_ble_eq_true rfl), (Nat.le_of_ble_eq_true rfl)⟩, (Nat.le_of_ble_eq_true rfl), (Nat.le_of_ble_eq_true rfl)⟩ rfl (Nat.le_of_ble_eq_true rfl) dX11_lost_44 (fun v9 H4 locsH4 hp hS hzH4 hkH4 => ?_)
            obtain ⟨hv, hM⟩ := hp
            subst hv
            have hmm : (layA μ (μ 3 (ix p0)) (μ 39) (cn 29)).2 ≤ 30 := Nat.le_trans (layA_le _) hni
            have hly2 : (layS (cn, sc, μ) (μ 3 (ix p0))).2 = (layA μ (μ 3 (ix p0)) (μ 39) (cn 29)).2 := (layA_cg (g := μ 39) (g' := fun _ => 0) (cn 29)).1.symm
            refine lv_iconst (v := 0) hx hb dX11_lost_47 (by decide) ?_
            refine lv_istore_n (lv' := [(3, .int 0), (0, .ref mo), (1, .int p0), (2, .int p1)]) hx hb dX11_lost_48 rfl hl (by decide) rfl (fun ls hl => ?_)
            refine lv_iconst (v := 1) hx hb dX11_lost_49 (by decide) ?_
            refine lv_topi (fun z_5 ez_5 => ?_)
            have ez_5 : z_5 = nI 1 := ez_5
            subst ez_5
            refine lv_istore (lv' := [(4, .int (nI 1)), (3, .int 0), (0, .ref mo), (1, .int p0), (2, .int p1)]) hx hb dX11_lost_50 hl (by decide) rfl (fun ls hl => ?_)
            have L52 : ∀ (n9 : Nat) (k : Nat) (locs : List Loc), (layA μ (μ 3 (ix p0)) (μ 39) (cn 29)).2 + 1 ≤ k + n9 → (k ≤ (layA μ (μ 3 (ix p0)) (μ 39) (cn 29)).2 - 1 ∧ va_S Z s.heap H4 locs) → ∀ (ls : Array Slot), lv_has ls 6 [(4, .int (nI (k + 1))), (3, .int (sp_lost (layA μ (μ 3 (ix p0)) (μ 39) (cn 29)).1 p1 k)), (0, .ref mo), (1, .int p0), (2, .int p1)] → W p l e rmX11_lost s m args below meth c H4 locs 0 0 Q (F0 m 52 ls []) := by
              intro n9
              induction n9 with
              | zero =>
                intro k locs hm hinv ls hl
                obtain ⟨hi1, hS⟩ := hinv
                exact absurd hm (by omega)
              | succ n9 ih =>
                intro k locs hm hinv ls hl
                obtain ⟨hi1, hS⟩ := hinv
                refine lv_iload hx hb dX11_lost_52 (lv_at hl 0 rfl) ?_
                refine lv_aload_n hx hb dX11_lost_54 rfl (lv_at hl 2 rfl) ?_
                refine hk_get (ref := "LightcurveHouseModel") (v := .int (nI (layA μ (μ 3 (ix p0)) (μ 39) (cn 29)).2)) X K hM.1 rfl iX11_lost_X11 38 (by decide) (by decide +kernel) (fun _ h => h) rfl dX11_lost_55 ?_
                refine lv_icmp_ge (tgt := 113) hx hb dX11_lost_58 (by decide) (fun c_58 => ?_) (fun c_58 => ?_)
                · have hkk : (layA μ (μ 3 (ix p0)) (μ 39) (cn 29)).2 ≤ (k + 1) := (nI_leI (by omega) (by omega)).mp c_58
                  refine lv_iload_n hx hb dX11_lost_113 rfl (lv_at hl 1 rfl) ?_
                  exact hk_iret X hr hlk hQ hS (Nat.le_of_ble_eq_true rfl) (Nat.le_of_ble_eq_true rfl) dX11_lost_114 (by
                    have hkn : k = (layA μ (μ 3 (ix p0)) (μ 39) (cn 29)).2 - 1 := by omega
                    subst hkn
                    exact mfin0 hM (by unfold cd_lost; rw [if_pos c_3, if_pos c_14]) rfl (congrArg (fun x => some (Value.int x)) lost_eq) agr_lay)
                · have hkk : (k + 1) < (layA μ (μ 3 (ix p0)) (μ 39) (cn 29)).2 := Nat.lt_of_not_le (fun h => c_58 (nI_le h (by omega)))
                  refine lv_aload_n hx hb dX11_lost_61 rfl (lv_at hl 2 rfl) ?_
                  refine lv_iload hx hb dX11_lost_62 (lv_at hl 0 rfl) ?_
                  refine lv_iload_n hx hb dX11_lost_64 rfl (lv_at hl 4 rfl) ?_
                  refine hk_callV 2 (As := [.int (nI (k + 1)), .int p1]) (rest := []) X K hAE hS hl.1 hM.1 rfl (c_X11_offsetOf E l H4 hM (x := nI (k + 1)) (P := p1) (vp_in_nI (by omega) (by omega)) c_14) (fun _ h => h.elim) gX11_lost_X11_offsetOf rfl ⟨rfl, hd_X11_offsetOf⟩ rfl ⟨⟨(Nat.le_of_ble_eq_true rfl), (Nat.le_of_ble_eq_true rfl)⟩, (Nat.le_of_ble_eq_true rfl), (Nat.le_of_ble_eq_true rfl)⟩ rfl (Nat.le_of_ble_eq_true rfl) dX11_lost_65 (fun v9 H6 locsH6 hp hS hzH6 hkH6 => ?_)
                  obtain ⟨hv, hh⟩ := hp
                  rw [ix_nI (show (k + 1) < 2 ^ 31 by omega)] at hv
                  subst hv; subst hh
                  refine lv_aload_n hx hb dX11_lost_68 rfl (lv_at hl 2 rfl) ?_
                  refine lv_iload hx hb dX11_lost_69 (lv_at hl 0 rfl) ?_
                  refine lv_iconst (v := 1) hx hb dX11_lost_71 (by decide) ?_
                  refine lv_isub hx hb dX11_lost_72 ?_
                  refine lv_topi (fun im eim => ?_)
                  rw [nI_pred] at eim
                  subst eim
                  refine lv_iload_n hx hb dX11_lost_73 rfl (lv_at hl 4 rfl) ?_
                  refine hk_callV 2 (As := [.int (nI k), .int p1]) (rest := [.int (sp_of (layA μ (μ 3 (ix p0)) (μ 39) (cn 29)).1 (k + 1) p1)]) X K hAE hS hl.1 hM.1 rfl (c_X11_offsetOf E l H4 hM (x := nI k) (P := p1) (vp_in_nI (by omega) (by omega)) c_14) (fun _ h => h.elim) gX11_lost_X11_offsetOf rfl ⟨rfl, hd_X11_offsetOf⟩ rfl ⟨⟨(Nat.le_of_ble_eq_true rfl), (Nat.le_of_ble_eq_true rfl)⟩, (Nat.le_of_ble_eq_true rfl), (Nat.le_of_ble_eq_true rfl)⟩ rfl (Nat.le_of_ble_eq_true rfl) dX11_lost_74 (fun v9 H7 locsH7 hp hS hzH7 hkH7 => ?_)
                  obtain ⟨hv, hh⟩ := hp
                  rw [ix_nI (show k < 2 ^ 31 by omega)] at hv
                  subst hv; subst hh
                  refine lv_isub hx hb dX11_lost_77 ?_
                  refine lv_topi (fun dd edd => ?_)
                  refine lv_istore (lv' := [(5, .int dd), (4, .int (nI (k + 1))), (3, .int (sp_lost (layA μ (μ 3 (ix p0)) (μ 39) (cn 29)).1 p1 k)), (0, .ref mo), (1, .int p0), (2, .int p1)]) hx hb dX11_lost_78 hl (by decide) rfl (fun ls hl => ?_)
                  have edd : dd = sp_of (layA μ (μ 3 (ix p0)) (μ 39) (cn 29)).1 (k + 1) p1 - sp_of (layA μ (μ 3 (ix p0)) (μ 39) (cn 29)).1 k p1 := edd
                  refine lv_iload_n hx hb dX11_lost_80 rfl (lv_at hl 2 rfl) ?_
                  refine lv_iconst (v := 4) hx hb dX11_lost_81 (by decide) ?_
                  refine lv_iload hx hb dX11_lost_82 (lv_at hl 0 rfl) ?_
                  refine lv_if_ge (tgt := 93) hx hb dX11_lost_84 (by decide) (fun c_84 => ?_) (fun c_84 => ?_)
                  · refine lv_iload hx hb dX11_lost_93 (lv_at hl 0 rfl) ?_
                    refine lv_imul hx hb dX11_lost_95 ?_
                    refine lv_iload_n hx hb dX11_lost_96 rfl (lv_at hl 5 rfl) ?_
                    refine lv_icmp_le (tgt := 104) hx hb dX11_lost_97 (by decide) (fun c_97 => ?_) (fun c_97 => ?_)
                    · refine lv_iconst (v := 0) hx hb dX11_lost_104 (by decide) ?_
                      refine lv_iadd hx hb dX11_lost_105 ?_
                      refine lv_topi (fun s1 es1 => ?_)
                      have es1 : s1 = sp_lost (layA μ (μ 3 (ix p0)) (μ 39) (cn 29)).1 p1 (k + 1) := es1.trans (by rw [sp_lost]; unfold absd; rw [← edd, if_pos c_84, if_pos c_97])
                      subst es1
                      refine lv_istore_n (lv' := [(3, .int (sp_lost (layA μ (μ 3 (ix p0)) (μ 39) (cn 29)).1 p1 (k + 1))), (5, .int dd), (4, .int (nI (k + 1))), (0, .ref mo), (1, .int p0), (2, .int p1)]) hx hb dX11_lost_106 rfl hl (by decide) rfl (fun ls hl => ?_)
                      obtain ⟨k1, ek1⟩ : ∃ y : Int32, y = (nI (k + 1)) + 1 := ⟨_, rfl⟩
                      refine lv_iinc (v := k1) (lv' := [(4, .int k1), (3, .int (sp_lost (layA μ (μ 3 (ix p0)) (μ 39) (cn 29)).1 p1 (k + 1))), (5, .int dd), (0, .ref mo), (1, .int p0), (2, .int p1)]) hx hb dX11_lost_107 hl (k := 2) rfl (by rw [ek1]; rfl) (by decide) rfl (fun ls hl => ?_)
                      rw [nI_1] at ek1
                      subst ek1
                      refine lv_goto (tgt := 52) hx hb dX11_lost_110 (by decide) ?_
                      exact ih (k + 1) locsH7 (by omega) ⟨by omega, hS⟩ _ (lv_sub hl [0, 1, 3, 4, 5] rfl)
                    · refine lv_iconst (v := 1) hx hb dX11_lost_100 (by decide) ?_
                      refine lv_goto (tgt := 105) hx hb dX11_lost_101 (by decide) ?_
                      refine lv_iadd hx hb dX11_lost_105 ?_
                      refine lv_topi (fun s1 es1 => ?_)
                      have es1 : s1 = sp_lost (layA μ (μ 3 (ix p0)) (μ 39) (cn 29)).1 p1 (k + 1) := es1.trans (by rw [sp_lost]; unfold absd; rw [← edd, if_pos c_84, if_neg c_97])
                      subst es1
                      refine lv_istore_n (lv' := [(3, .int (sp_lost (layA μ (μ 3 (ix p0)) (μ 39) (cn 29)).1 p1 (k + 1))), (5, .int dd), (4, .int (nI (k + 1))), (0, .ref mo), (1, .int p0), (2, .int p1)]) hx hb dX11_lost_106 rfl hl (by decide) rfl (fun ls hl => ?_)
                      obtain ⟨k1, ek1⟩ : ∃ y : Int32, y = (nI (k + 1)) + 1 := ⟨_, rfl⟩
                      refine lv_iinc (v := k1) (lv' := [(4, .int k1), (3, .int (sp_lost (layA μ (μ 3 (ix p0)) (μ 39) (cn 29)).1 p1 (k + 1))), (5, .int dd), (0, .ref mo), (1, .int p0), (2, .int p1)]) hx hb dX11_lost_107 hl (k := 2) rfl (by rw [ek1]; rfl) (by decide) rfl (fun ls hl => ?_)
                      rw [nI_1] at ek1
                      subst ek1
                      refine lv_goto (tgt := 52) hx hb dX11_lost_110 (by decide) ?_
                      exact ih (k + 1) locsH7 (by omega) ⟨by omega, hS⟩ _ (lv_sub hl [0, 1, 3, 4, 5] rfl)
                  · refine lv_iload hx hb dX11_lost_87 (lv_at hl 0 rfl) ?_
                    refine lv_ineg hx hb dX11_lost_89 ?_
                    refine lv_goto (tgt := 95) hx hb dX11_lost_90 (by decide) ?_
                    refine lv_imul hx hb dX11_lost_95 ?_
                    refine lv_iload_n hx hb dX11_lost_96 rfl (lv_at hl 5 rfl) ?_
                    refine lv_icmp_le (tgt := 104) hx hb dX11_lost_97 (by decide) (fun c_97 => ?_) (fun c_97 => ?_)
                    · refine lv_iconst (v := 0) hx hb dX11_lost_104 (by decide) ?_
                      refine lv_iadd hx hb dX11_lost_105 ?_
                      refine lv_topi (fun s1 es1 => ?_)
                      have es1 : s1 = sp_lost (layA μ (μ 3 (ix p0)) (μ 39) (cn 29)).1 p1 (k + 1) := es1.trans (by rw [sp_lost]; unfold absd; rw [← edd, if_neg c_84, if_pos c_97])
                      subst es1
                      refine lv_istore_n (lv' := [(3, .int (sp_lost (layA μ (μ 3 (ix p0)) (μ 39) (cn 29)).1 p1 (k + 1))), (5, .int dd), (4, .int (nI (k + 1))), (0, .ref mo), (1, .int p0), (2, .int p1)]) hx hb dX11_lost_106 rfl hl (by decide) rfl (fun ls hl => ?_)
                      obtain ⟨k1, ek1⟩ : ∃ y : Int32, y = (nI (k + 1)) + 1 := ⟨_, rfl⟩
                      refine lv_iinc (v := k1) (lv' := [(4, .int k1), (3, .int (sp_lost (layA μ (μ 3 (ix p0)) (μ 39) (cn 29)).1 p1 (k + 1))), (5, .int dd), (0, .ref mo), (1, .int p0), (2, .int p1)]) hx hb dX11_lost_107 hl (k := 2) rfl (by rw [ek1]; rfl) (by decide) rfl (fun ls hl => ?_)
                      rw [nI_1] at ek1
                      subst ek1
                      refine lv_goto (tgt := 52) hx hb dX11_lost_110 (by decide) ?_
                      exact ih (k + 1) locsH7 (by omega) ⟨by omega, hS⟩ _ (lv_sub hl [0, 1, 3, 4, 5] rfl)
                    · refine lv_iconst (v := 1) hx hb dX11_lost_100 (by decide) ?_
                      refine lv_goto (tgt := 105) hx hb dX11_lost_101 (by decide) ?_
                      refine lv_iadd hx hb dX11_lost_105 ?_
                      refine lv_topi (fun s1 es1 => ?_)
                      have es1 : s1 = sp_lost (layA μ (μ 3 (ix p0)) (μ 39) (cn 29)).1 p1 (k + 1) := es1.trans (by rw [sp_lost]; unfold absd; rw [← edd, if_neg c_84, if_neg c_97])
                      subst es1
                      refine lv_istore_n (lv' := [(3, .int (sp_lost (layA μ (μ 3 (ix p0)) (μ 39) (cn 29)).1 p1 (k + 1))), (5, .int dd), (4, .int (nI (k + 1))), (0, .ref mo), (1, .int p0), (2, .int p1)]) hx hb dX11_lost_106 rfl hl (by decide) rfl (fun ls hl => ?_)
                      obtain ⟨k1, ek1⟩ : ∃ y : Int32, y = (nI (k + 1)) + 1 := ⟨_, rfl⟩
                      refine lv_iinc (v := k1) (lv' := [(4, .int k1), (3, .int (sp_lost (layA μ (μ 3 (ix p0)) (μ 39) (cn 29)).1 p1 (k + 1))), (5, .int dd), (0, .ref mo), (1, .int p0), (2, .int p1)]) hx hb dX11_lost_107 hl (k := 2) rfl (by rw [ek1]; rfl) (by decide) rfl (fun ls hl => ?_)
                      rw [nI_1] at ek1
                      subst ek1
                      refine lv_goto (tgt := 52) hx hb dX11_lost_110 (by decide) ?_
                      exact ih (k + 1) locsH7 (by omega) ⟨by omega, hS⟩ _ (lv_sub hl [0, 1, 3, 4, 5] rfl)
            exact L52 ((layA μ (μ 3 (ix p0)) (μ 39) (cn 29)).2 + 1) 0 locsH4 (by omega) ⟨Nat.zero_le _, hS⟩ _ (lv_sub hl [0, 1, 2, 3, 4] rfl)
          · exact absurd (by decide) c_32
        · exact absurd c_17 (by decide)
      · subst hv
        refine lv_if_ne (tgt := 24) hx hb dX11_lost_17 (by decide) (fun c_17 => ?_) (fun c_17 => ?_)
        · exact absurd rfl c_17
        · refine lv_iconst (v := 2) hx hb dX11_lost_20 (by decide) ?_
          refine lv_goto (tgt := 25) hx hb dX11_lost_21 (by decide) ?_
          refine hk_put (ref := "LightcurveHouseModel") X K hM.1 rfl iX11_lost_X11 tyX11 tyX11_ok nmX11 hS hM.2.2.2.2.1 33 (by decide) (by decide +kernel) (fun _ h => h) (by decide +kernel) rfl rfl (Nat.le_of_ble_eq_true rfl) dX11_lost_25 (fun H8 locsH8 hOH8 hzH8 hqH8 hS => ?_)
          rw [mf_33] at hOH8
          have hM := MW.obj hM hOH8 hqH8
          refine lv_aload_n hx hb dX11_lost_28 rfl (lv_at hl 0 rfl) ?_
          refine hk_get (ref := "LightcurveHouseModel") (v := .int 2) X K hM.1 rfl iX11_lost_X11 33 (by decide) (by decide +kernel) (fun _ h => h) rfl dX11_lost_29 ?_
          refine lv_if_le (tgt := 37) hx hb dX11_lost_32 (by decide) (fun c_32 => ?_) (fun c_32 => ?_)
          · exact absurd c_32 (by decide)
          · refine lv_iconst (v := 0) hx hb dX11_lost_35 (by decide) ?_
            exact hk_iret X hr hlk hQ hS (Nat.le_of_ble_eq_true rfl) (Nat.le_of_ble_eq_true rfl) dX11_lost_36 (mfin1 (v := 2) hM (by unfold cd_lost; rw [if_pos c_3, if_neg c_14]) (by decide) rfl rfl agr_thr)
    · exact absurd c_6 (by decide)
  · subst hv
    refine lv_if_ne (tgt := 13) hx hb dX11_lost_6 (by decide) (fun c_6 => ?_) (fun c_6 => ?_)
    · exact absurd rfl c_6
    · refine lv_iconst (v := 1) hx hb dX11_lost_9 (by decide) ?_
      refine lv_goto (tgt := 25) hx hb dX11_lost_10 (by decide) ?_
      refine hk_put (ref := "LightcurveHouseModel") X K hM.1 rfl iX11_lost_X11 tyX11 tyX11_ok nmX11 hS hM.2.2.2.2.1 33 (by decide) (by decide +kernel) (fun _ h => h) (by decide +kernel) rfl rfl (Nat.le_of_ble_eq_true rfl) dX11_lost_25 (fun H9 locsH9 hOH9 hzH9 hqH9 hS => ?_)
      rw [mf_33] at hOH9
      have hM := MW.obj hM hOH9 hqH9
      refine lv_aload_n hx hb dX11_lost_28 rfl (lv_at hl 0 rfl) ?_
      refine hk_get (ref := "LightcurveHouseModel") (v := .int 1) X K hM.1 rfl iX11_lost_X11 33 (by decide) (by decide +kernel) (fun _ h => h) rfl dX11_lost_29 ?_
      refine lv_if_le (tgt := 37) hx hb dX11_lost_32 (by decide) (fun c_32 => ?_) (fun c_32 => ?_)
      · exact absurd c_32 (by decide)
      · refine lv_iconst (v := 0) hx hb dX11_lost_35 (by decide) ?_
        exact hk_iret X hr hlk hQ hS (Nat.le_of_ble_eq_true rfl) (Nat.le_of_ble_eq_true rfl) dX11_lost_36 (mfin1 (v := 1) hM (by unfold cd_lost; rw [if_neg c_3]) (by decide) rfl rfl agr_thr)

