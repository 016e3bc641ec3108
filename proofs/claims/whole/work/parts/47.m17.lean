theorem ft_eq2 {μ : Nat → Nat → Int32} {L : List Nat} {fL fT : Nat → Int32} {claim what : Int32} (hg : gRow μ L fL fT) (h0 : 0 < L.length) : some (Value.int (sp_ftA fL fT L.length claim what)) = some (Value.int (sp_ft μ L claim what)) := by rw [ft_eq hg h0]
/-- the sum of the votes of the first n rules -/
def sp_vt (μ : Nat → Nat → Int32) (F : Int32 → Int32) (kd : Int32) : Nat → Int32
  | 0 => 0
  | i + 1 => sp_vt μ F kd i + (if μ 23 i = kd ∧ μ 28 i = 0 ∧ inr (F (μ 24 i)) (μ 25 i) (μ 26 i) then μ 27 i else 0)
theorem sp_vt_cg {μ : Nat → Nat → Int32} {F F' : Int32 → Int32} {kd : Int32} (h : ∀ w, F w = F' w) (n : Nat) : sp_vt μ F kd n = sp_vt μ F' kd n := by
  rw [show F = F' from funext h]
def clmS (S : mS) (e : Int32) : Int32 := sp_clm (S.2.2 3) (S.2.2 4) e (S.1 1) 0
def selS (S : mS) (e : Int32) : List Nat := sp_sel S.2.2 e (-1) (S.1 12)
def ftS (S : mS) (e what : Int32) : Int32 := sp_ft S.2.2 (selS S e) (clmS S e) what
def vtS (S : mS) (e kd : Int32) : Int32 := sp_vt S.2.2 (fun w => ftS S e w) kd (S.1 22)
theorem sp_vt_scr {μ : Nat → Nat → Int32} {f g : Nat → Int32} {F : Int32 → Int32} {kd : Int32} (n : Nat) : sp_vt (scr μ f g) F kd n = sp_vt μ F kd n := by
  induction n with
  | zero => rfl
  | succ n ih =>
    rw [sp_vt, sp_vt, ih]
    rfl
theorem vt_eq2 {cn : Nat → Nat} {sc : Nat → Int32} {μ : Nat → Nat → Int32} {e : Int32} {fL fT : Nat → Int32} {kd : Int32} (hg : gRow μ (sp_sel μ e (-1) (cn 12)) fL fT) (h0 : 0 < (sp_sel μ e (-1) (cn 12)).length) : some (Value.int (sp_vt (scr μ fL fT) (fun w => sp_ftA (scr μ fL fT 35) (scr μ fL fT 36) (va_up cn 34 (sp_sel μ e (-1) (cn 12)).length 34) (sp_clm (scr μ fL fT 3) (scr μ fL fT 4) e (va_up cn 34 (sp_sel μ e (-1) (cn 12)).length 1) 0) w) kd (va_up cn 34 (sp_sel μ e (-1) (cn 12)).length 22))) = some (Value.int (vtS (cn, sc, μ) e kd)) := by
  show some (Value.int (sp_vt (scr μ fL fT) (fun w => sp_ftA fL fT (sp_sel μ e (-1) (cn 12)).length (sp_clm (μ 3) (μ 4) e (cn 1) 0) w) kd (cn 22))) = _
  unfold vtS ftS selS clmS
  rw [sp_vt_scr, sp_vt_cg (fun w => ft_eq hg h0)]
/-- the kind with most votes above 0, of the first n -/
def sp_kd (V : Nat → Int32) : Nat → Int32 × Int32
  | 0 => (-1, 0)
  | k + 1 => (if (sp_kd V k).2 < V k then nI k else (sp_kd V k).1, if (sp_kd V k).2 < V k then V k else (sp_kd V k).2)
def cd_feature (p0 p1 : Int32) (S : mS) : Int32 := if isS (S.1 1) p0 then (if inr p1 0 2 then (if sp_hf S (S.2.2 3 (ix p0)) = 0 then 3 else 0) else 2) else 1
def an_feature (p0 p1 : Int32) (S : mS) : Int32 := ftS S (S.2.2 3 (ix p0)) p1
def st_feature (p0 p1 : Int32) (S : mS) : mS := S
theorem hd_X11_featureOf : yX11_featureOf.cls ≠ "java/lang/invoke/MethodHandle" ∧ yX11_featureOf.cls ≠ "java/lang/invoke/VarHandle" ∧ (parseMethodDescriptor yX11_featureOf.desc).map (fun d => d.parameters.length) = some 2 := ⟨by decide, by decide, by decide +kernel⟩
theorem hd_X11_hasFeatures : yX11_hasFeatures.cls ≠ "java/lang/invoke/MethodHandle" ∧ yX11_hasFeatures.cls ≠ "java/lang/invoke/VarHandle" ∧ (parseMethodDescriptor yX11_hasFeatures.desc).map (fun d => d.parameters.length) = some 1 := ⟨by decide, by decide, by decide +kernel⟩
abbrev rmX11_feature : Room := { frames := 5, cells := 0, slots := 0, locals := 109 }
theorem iX11_feature_X11 : ∀ w ∈ wsX110, w ∈ wsX11_feature := by decide +kernel
set_option maxHeartbeats 4000000 in
set_option maxRecDepth 100000 in
theorem c_X11_feature (E : hk_E) (l : Launch) (H0 : Heap) {mo : Nat} {am : Nat → Nat} {Z : Nat → Prop} {cn : Nat → Nat} {sc : Nat → Int32} {μ : Nat → Nat → Int32} (hM : MW E mo am Z cn sc μ H0) (hZ : ∀ q, Z q → hk_A E q) {p0 p1 : Int32} (hI : Inv (cn, sc, μ))  : hk_M E l yX11_feature wsX11_feature rmX11_feature (Z) [.ref mo, .int p0, .int p1] H0 (mpost E mo am Z (cd_feature p0 p1 (cn, sc, μ)) (an_feature p0 p1 (cn, sc, μ)) (cn, sc, μ) (st_feature p0 p1 (cn, sc, μ))) := by
  refine hk_M.ofW (cc := cX11_feature) (maxL := 3) (ret := (some .int)) (by decide +kernel) rfl (Nat.le_of_ble_eq_true rfl) ?_
  intro p e s m args below meth c ls Q hQ X hr hlk hnm K hs9 hS hl
  obtain ⟨hx, hb, hml, hown, hts⟩ := id X
  have hAE : ∀ q, (Z) q → hk_A E q := hZ
  have hl : lv_has ls 3 [(0, .ref mo), (1, .int p0), (2, .int p1)] := hl
  have hnl := hI.1.2.2.1
  have hns := hI.1.1
  have hnp := hI.1.2.1
  dsimp only at hnl hns hnp
  refine lv_aload_n hx hb dX11_feature_0 rfl (lv_at hl 0 rfl) ?_
  refine lv_aload_n hx hb dX11_feature_1 rfl (lv_at hl 0 rfl) ?_
  refine lv_iload_n hx hb dX11_feature_2 rfl (lv_at hl 1 rfl) ?_
  refine hk_callV 1 (As := [.int p0]) (rest := [.ref mo]) X K hAE hS hl.1 hM.1 rfl (c_X11_isStar E l H0 hM hns (i := p0)) (fun _ h => h.elim) gX11_feature_X11_isStar rfl ⟨rfl, hd_X11_isStar⟩ rfl ⟨⟨(Nat.le_of_ble_eq_true rfl), (Nat.le_of_ble_eq_true rfl)⟩, (Nat.le_of_ble_eq_true rfl), (Nat.le_of_ble_eq_true rfl)⟩ rfl (Nat.le_of_ble_eq_true rfl) dX11_feature_3 (fun v9 H1 locsH1 hp hS hzH1 hkH1 => ?_)
  obtain ⟨hv, hh⟩ := hp
  subst hh
  rcases hv with ⟨hv, c_3⟩ | ⟨hv, c_3⟩
  · subst hv
    refine lv_if_ne (tgt := 13) hx hb dX11_feature_6 (by decide) (fun c_6 => ?_) (fun c_6 => ?_)
    · refine lv_iload_n hx hb dX11_feature_13 rfl (lv_at hl 2 rfl) ?_
      refine lv_iconst (v := 0) hx hb dX11_feature_14 (by decide) ?_
      refine lv_iconst (v := 2) hx hb dX11_feature_15 (by decide) ?_
      refine hk_callS 3 (As := [.int p1, .int 0, .int 2]) (rest := [.ref mo]) X K hAE hS hl.1 (c_X11_in E l H0 (a := p1) (lo := 0) (hi := 2)) (fun _ h => h.elim) gX11_feature_X11_in rfl hd_X11_in rfl ⟨⟨(Nat.le_of_ble_eq_true rfl), (Nat.le_of_ble_eq_true rfl)⟩, (Nat.le_of_ble_eq_true rfl), (Nat.le_of_ble_eq_true rfl)⟩ rfl (Nat.le_of_ble_eq_true rfl) dX11_feature_16 (fun v9 H2 locsH2 hp hS hzH2 hkH2 => ?_)
      obtain ⟨hv, hh⟩ := hp
      subst hh
      rcases hv with ⟨hv, c_16⟩ | ⟨hv, c_16⟩
      · subst hv
        refine lv_if_ne (tgt := 26) hx hb dX11_feature_19 (by decide) (fun c_19 => ?_) (fun c_19 => ?_)
        · refine lv_aload_n hx hb dX11_feature_26 rfl (lv_at hl 0 rfl) ?_
          refine lv_aload_n hx hb dX11_feature_27 rfl (lv_at hl 0 rfl) ?_
          refine hk_get (ref := "LightcurveHouseModel") (v := .ref (am 3)) X K hM.1 rfl iX11_feature_X11 3 (by decide) (by decide +kernel) (fun _ h => h) rfl dX11_feature_28 ?_
          refine lv_iload_n hx hb dX11_feature_31 rfl (lv_at hl 1 rfl) ?_
          refine hk_ild (f := (μ 3)) X K hM.a3 (vp_isS hns (by omega) c_3) dX11_feature_32 ?_
          refine hk_callV 1 (As := [.int ((μ 3) p0.toNatClampNeg)]) (rest := [.ref mo]) X K hAE hS hl.1 hM.1 rfl (c_X11_hasFeatures E l H0 hM hZ hI (e1 := (μ 3) p0.toNatClampNeg)) (fun _ h => h) gX11_feature_X11_hasFeatures rfl ⟨rfl, hd_X11_hasFeatures⟩ rfl ⟨⟨(Nat.le_of_ble_eq_true rfl), (Nat.le_of_ble_eq_true rfl)⟩, (Nat.le_of_ble_eq_true rfl), (Nat.le_of_ble_eq_true rfl)⟩ rfl (Nat.le_of_ble_eq_true rfl) dX11_feature_33 (fun v9 H3 locsH3 hp hS hzH3 hkH3 => ?_)
          obtain ⟨hv, fL, fT, hg, hM⟩ := hp
          subst hv
          refine lv_if_ne (tgt := 43) hx hb dX11_feature_36 (by decide) (fun c_36 => ?_) (fun c_36 => ?_)
          · refine lv_iconst (v := 0) hx hb dX11_feature_43 (by decide) ?_
            refine hk_put (ref := "LightcurveHouseModel") X K hM.1 rfl iX11_feature_X11 tyX11 tyX11_ok nmX11 hS hM.2.2.2.2.1 33 (by decide) (by decide +kernel) (fun _ h => h) (by decide +kernel) rfl rfl (Nat.le_of_ble_eq_true rfl) dX11_feature_44 (fun H4 locsH4 hOH4 hzH4 hqH4 hS => ?_)
            rw [mf_33] at hOH4
            have hM := MW.obj hM hOH4 hqH4
            refine lv_aload_n hx hb dX11_feature_47 rfl (lv_at hl 0 rfl) ?_
            refine hk_get (ref := "LightcurveHouseModel") (v := .int 0) X K hM.1 rfl iX11_feature_X11 33 (by decide) (by decide +kernel) (fun _ h => h) rfl dX11_feature_48 ?_
            refine lv_if_le (tgt := 58) hx hb dX11_feature_51 (by decide) (fun c_51 => ?_) (fun c_51 => ?_)
            · refine lv_aload_n hx hb dX11_feature_58 rfl (lv_at hl 0 rfl) ?_
              refine lv_aload_n hx hb dX11_feature_59 rfl (lv_at hl 0 rfl) ?_
              refine hk_get (ref := "LightcurveHouseModel") (v := .ref (am 3)) X K hM.1 rfl iX11_feature_X11 3 (by decide) (by decide +kernel) (fun _ h => h) rfl dX11_feature_60 ?_
              refine lv_iload_n hx hb dX11_feature_63 rfl (lv_at hl 1 rfl) ?_
              refine hk_ild (f := (μ 3)) X K hM.a3 (vp_isS hns (by omega) c_3) dX11_feature_64 ?_
              refine lv_iload_n hx hb dX11_feature_65 rfl (lv_at hl 2 rfl) ?_
              refine hk_callV 2 (As := [.int ((μ 3) p0.toNatClampNeg), .int p1]) (rest := []) X K hAE hS hl.1 hM.1 rfl (c_X11_featureOf E l H4 hM hns (show _ ≤ 80 from sel80 hnl) (e1 := (μ 3) p0.toNatClampNeg) (what := p1) (sp_hf_1 c_36).2) (fun _ h => h.elim) gX11_feature_X11_featureOf rfl ⟨rfl, hd_X11_featureOf⟩ rfl ⟨⟨(Nat.le_of_ble_eq_true rfl), (Nat.le_of_ble_eq_true rfl)⟩, (Nat.le_of_ble_eq_true rfl), (Nat.le_of_ble_eq_true rfl)⟩ rfl (Nat.le_of_ble_eq_true rfl) dX11_feature_66 (fun v9 H5 locsH5 hp hS hzH5 hkH5 => ?_)
              obtain ⟨hv, hh⟩ := hp
              have hv := hv.trans (ft_eq2 hg (sp_hf_1 c_36).1)
              subst hv; subst hh
              exact hk_iret X hr hlk hQ hS (Nat.le_of_ble_eq_true rfl) (Nat.le_of_ble_eq_true rfl) dX11_feature_69 (mfin0 hM (by unfold cd_feature; rw [if_pos c_3, if_pos c_16, if_neg c_36]) rfl rfl agr_scr)
            · exact absurd (by decide) c_51
          · refine lv_iconst (v := 3) hx hb dX11_feature_39 (by decide) ?_
            refine lv_goto (tgt := 44) hx hb dX11_feature_40 (by decide) ?_
            refine hk_put (ref := "LightcurveHouseModel") X K hM.1 rfl iX11_feature_X11 tyX11 tyX11_ok nmX11 hS hM.2.2.2.2.1 33 (by decide) (by decide +kernel) (fun _ h => h) (by decide +kernel) rfl rfl (Nat.le_of_ble_eq_true rfl) dX11_feature_44 (fun H6 locsH6 hOH6 hzH6 hqH6 hS => ?_)
            rw [mf_33] at hOH6
            have hM := MW.obj hM hOH6 hqH6
            refine lv_aload_n hx hb dX11_feature_47 rfl (lv_at hl 0 rfl) ?_
            refine hk_get (ref := "LightcurveHouseModel") (v := .int 3) X K hM.1 rfl iX11_feature_X11 33 (by decide) (by decide +kernel) (fun _ h => h) rfl dX11_feature_48 ?_
            refine lv_if_le (tgt := 58) hx hb dX11_feature_51 (by decide) (fun c_51 => ?_) (fun c_51 => ?_)
            · exact absurd c_51 (by decide)
            · refine lv_iconst (v := 0) hx hb dX11_feature_54 (by decide) ?_
              refine lv_goto (tgt := 69) hx hb dX11_feature_55 (by decide) ?_
              exact hk_iret X hr hlk hQ hS (Nat.le_of_ble_eq_true rfl) (Nat.le_of_ble_eq_true rfl) dX11_feature_69 (mfin1 (v := 3) hM (by unfold cd_feature; rw [if_pos c_3, if_pos c_16, if_pos c_36]) (by decide) rfl rfl agr_scr)
        · exact absurd c_19 (by decide)
      · subst hv
        refine lv_if_ne (tgt := 26) hx hb dX11_feature_19 (by decide) (fun c_19 => ?_) (fun c_19 => ?_)
        · exact absurd rfl c_19
        · refine lv_iconst (v := 2) hx hb dX11_feature_22 (by decide) ?_
          refine lv_goto (tgt := 44) hx hb dX11_feature_23 (by decide) ?_
          refine hk_put (ref := "LightcurveHouseModel") X K hM.1 rfl iX11_feature_X11 tyX11 tyX11_ok nmX11 hS hM.2.2.2.2.1 33 (by decide) (by decide +kernel) (fun _ h => h) (by decide +kernel) rfl rfl (Nat.le_of_ble_eq_true rfl) dX11_feature_44 (fun H7 locsH7 hOH7 hzH7 hqH7 hS => ?_)
          rw [mf_33] at hOH7
          have hM := MW.obj hM hOH7 hqH7
          refine lv_aload_n hx hb dX11_feature_47 rfl (lv_at hl 0 rfl) ?_
          refine hk_get (ref := "LightcurveHouseModel") (v := .int 2) X K hM.1 rfl iX11_feature_X11 33 (by decide) (by decide +kernel) (fun _ h => h) rfl dX11_feature_48 ?_
          refine lv_if_le (tgt := 58) hx hb dX11_feature_51 (by decide) (fun c_51 => ?_) (fun c_51 => ?_)
          · exact absurd c_51 (by decide)
          · refine lv_iconst (v := 0) hx hb dX11_feature_54 (by decide) ?_
            refine lv_goto (tgt := 69) hx hb dX11_feature_55 (by decide) ?_
            exact hk_iret X hr hlk hQ hS (Nat.le_of_ble_eq_true rfl) (Nat.le_of_ble_eq_true rfl) dX11_feature_69 (mfin1 (v := 2) hM (by unfold cd_feature; rw [if_pos c_3, if_neg c_16]) (by decide) rfl rfl agr_thr)
    · exact absurd c_6 (by decide)
  · subst hv
    refine lv_if_ne (tgt := 13) hx hb dX11_feature_6 (by decide) (fun c_6 => ?_) (fun c_6 => ?_)
    · exact absurd rfl c_6
    · refine lv_iconst (v := 1) hx hb dX11_feature_9 (by decide) ?_
      refine lv_goto (tgt := 44) hx hb dX11_feature_10 (by decide) ?_
      refine hk_put (ref := "LightcurveHouseModel") X K hM.1 rfl iX11_feature_X11 tyX11 tyX11_ok nmX11 hS hM.2.2.2.2.1 33 (by decide) (by decide +kernel) (fun _ h => h) (by decide +kernel) rfl rfl (Nat.le_of_ble_eq_true rfl) dX11_feature_44 (fun H8 locsH8 hOH8 hzH8 hqH8 hS => ?_)
      rw [mf_33] at hOH8
      have hM := MW.obj hM hOH8 hqH8
      refine lv_aload_n hx hb dX11_feature_47 rfl (lv_at hl 0 rfl) ?_
      refine hk_get (ref := "LightcurveHouseModel") (v := .int 1) X K hM.1 rfl iX11_feature_X11 33 (by decide) (by decide +kernel) (fun _ h => h) rfl dX11_feature_48 ?_
      refine lv_if_le (tgt := 58) hx hb dX11_feature_51 (by decide) (fun c_51 => ?_) (fun c_51 => ?_)
      · exact absurd c_51 (by decide)
      · refine lv_iconst (v := 0) hx hb dX11_feature_54 (by decide) ?_
        refine lv_goto (tgt := 69) hx hb dX11_feature_55 (by decide) ?_
        exact hk_iret X hr hlk hQ hS (Nat.le_of_ble_eq_true rfl) (Nat.le_of_ble_eq_true rfl) dX11_feature_69 (mfin1 (v := 1) hM (by unfold cd_feature; rw [if_neg c_3]) (by decide) rfl rfl agr_thr)

abbrev rmX11_votesFor : Room := { frames := 2, cells := 0, slots := 0, locals := 50 }
theorem iX11_votesFor_X11 : ∀ w ∈ wsX110, w ∈ wsX11_votesFor := by decide +kernel
set_option maxHeartbeats 4000000 in
set_option maxRecDepth 100000 in
theorem c_X11_votesFor (E : hk_E) (l : Launch) (H0 : Heap) {mo : Nat} {am : Nat → Nat} {Z : Nat → Prop} {cn : Nat → Nat} {sc : Nat → Int32} {μ : Nat → Nat → Int32} (hM : MW E mo am Z cn sc μ H0) (hns : cn 1 ≤ 12) (hm8 : cn 34 ≤ 80) (hnr : cn 22 ≤ 8) {e1 kd : Int32} (hcl : 0 < sp_clm (μ 3) (μ 4) e1 (cn 1) 0) : hk_M E l yX11_votesFor wsX11_votesFor rmX11_votesFor (fun _ => False) [.ref mo, .int e1, .int kd] H0 (fun z H1 => z = some (.int (sp_vt μ (fun w => sp_ftA (μ 35) (μ 36) (cn 34) (sp_clm (μ 3) (μ 4) e1 (cn 1) 0) w) kd (cn 22))) ∧ H0 = H1) := by
  refine hk_M.ofW (cc := cX11_votesFor) (maxL := 6) (ret := (some .int)) (by decide +kernel) rfl (Nat.le_of_ble_eq_true rfl) ?_
  intro p e s m args below meth c ls Q hQ X hr hlk hnm K hs9 hS hl
  obtain ⟨hx, hb, hml, hown, hts⟩ := id X
  have hAE : ∀ q, (fun _ => False) q → hk_A E q := fun _ h => h.elim
  have hl : lv_has ls 6 [(0, .ref mo), (1, .int e1), (2, .int kd)] := hl
  refine lv_iconst (v := 0) hx hb dX11_votesFor_0 (by decide) ?_
  refine lv_istore_n (lv' := [(3, .int 0), (0, .ref mo), (1, .int e1), (2, .int kd)]) hx hb dX11_votesFor_1 rfl hl (by decide) rfl (fun ls hl => ?_)
  refine lv_iconst (v := 0) hx hb dX11_votesFor_2 (by decide) ?_
  refine lv_topi (fun z_1 ez_1 => ?_)
  have ez_1 : z_1 = nI 0 := ez_1
  subst ez_1
  refine lv_istore (lv' := [(4, .int (nI 0)), (3, .int 0), (0, .ref mo), (1, .int e1), (2, .int kd)]) hx hb dX11_votesFor_3 hl (by decide) rfl (fun ls hl => ?_)
  have L5 : ∀ (n9 : Nat) (k : Nat) (locs : List Loc), cn 22 + 1 ≤ k + n9 → (k ≤ cn 22 ∧ va_S (fun _ => False) s.heap H0 locs) → ∀ (ls : Array Slot), lv_has ls 6 [(4, .int (nI k)), (3, .int (sp_vt μ (fun w => sp_ftA (μ 35) (μ 36) (cn 34) (sp_clm (μ 3) (μ 4) e1 (cn 1) 0) w) kd k)), (0, .ref mo), (1, .int e1), (2, .int kd)] → W p l e rmX11_votesFor s m args below meth c H0 locs 0 0 Q (F0 m 5 ls []) := by
    intro n9
    induction n9 with
    | zero =>
      intro k locs hm hinv ls hl
      obtain ⟨hi1, hS⟩ := hinv
      exact absurd hm (by omega)
    | succ n9 ih =>
      intro k locs hm hinv ls hl
      obtain ⟨hi1, hS⟩ := hinv
      refine lv_iload hx hb dX11_votesFor_5 (lv_at hl 0 rfl) ?_
      refine lv_aload_n hx hb dX11_votesFor_7 rfl (lv_at hl 2 rfl) ?_
      refine hk_get (ref := "LightcurveHouseModel") (v := .int (nI (cn 22))) X K hM.1 rfl iX11_votesFor_X11 22 (by decide) (by decide +kernel) (fun _ h => h) rfl dX11_votesFor_8 ?_
      refine lv_icmp_ge (tgt := 99) hx hb dX11_votesFor_11 (by decide) (fun c_11 => ?_) (fun c_11 => ?_)
      · have hkk : cn 22 ≤ k := (nI_leI (by omega) (by omega)).mp c_11
        refine lv_iload_n hx hb dX11_votesFor_99 rfl (lv_at hl 1 rfl) ?_
        exact hk_iret X hr hlk hQ hS (Nat.le_of_ble_eq_true rfl) (Nat.le_of_ble_eq_true rfl) dX11_votesFor_100 (by
          have hkn : k = cn 22 := by omega
          subst hkn
          exact ⟨rfl, rfl⟩)
      · have hkk : k < cn 22 := Nat.lt_of_not_le (fun h => c_11 (nI_le h (by omega)))
        refine lv_aload_n hx hb dX11_votesFor_14 rfl (lv_at hl 2 rfl) ?_
        refine hk_get (ref := "LightcurveHouseModel") (v := .ref (am 23)) X K hM.1 rfl iX11_votesFor_X11 23 (by decide) (by decide +kernel) (fun _ h => h) rfl dX11_votesFor_15 ?_
        refine lv_iload hx hb dX11_votesFor_18 (lv_at hl 0 rfl) ?_
        refine hk_ild X K hM.a23 (vp_in_nI (by omega) (by omega)) dX11_votesFor_20 ?_
        rw [show (μ 23) (nI k).toNatClampNeg = μ 23 k from by rw [nI_clamp (show k < 2 ^ 31 by omega)]]
        refine lv_iload_n hx hb dX11_votesFor_21 rfl (lv_at hl 4 rfl) ?_
        refine lv_icmp_ne (tgt := 71) hx hb dX11_votesFor_22 (by decide) (fun c_22 => ?_) (fun c_22 => ?_)
        · refine lv_iconst (v := 0) hx hb dX11_votesFor_71 (by decide) ?_
          refine lv_istore (lv' := [(5, .int 0), (4, .int (nI k)), (3, .int (sp_vt μ (fun w => sp_ftA (μ 35) (μ 36) (cn 34) (sp_clm (μ 3) (μ 4) e1 (cn 1) 0) w) kd k)), (0, .ref mo), (1, .int e1), (2, .int kd)]) hx hb dX11_votesFor_72 hl (by decide) rfl (fun ls hl => ?_)
          refine lv_iload_n hx hb dX11_votesFor_74 rfl (lv_at hl 2 rfl) ?_
          refine lv_iload hx hb dX11_votesFor_75 (lv_at hl 0 rfl) ?_
          refine lv_if_eq (tgt := 90) hx hb dX11_votesFor_77 (by decide) (fun c_77 => ?_) (fun c_77 => ?_)
          · refine lv_iconst (v := 0) hx hb dX11_votesFor_90 (by decide) ?_
            refine lv_iadd hx hb dX11_votesFor_91 ?_
            refine lv_topi (fun s1 es1 => ?_)
            have es1 : s1 = sp_vt μ (fun w => sp_ftA (μ 35) (μ 36) (cn 34) (sp_clm (μ 3) (μ 4) e1 (cn 1) 0) w) kd (k + 1) := es1.trans (by rw [sp_vt, if_neg (fun g => c_22 g.1)])
            subst es1
            refine lv_istore_n (lv' := [(3, .int (sp_vt μ (fun w => sp_ftA (μ 35) (μ 36) (cn 34) (sp_clm (μ 3) (μ 4) e1 (cn 1) 0) w) kd (k + 1))), (5, .int 0), (4, .int (nI k)), (0, .ref mo), (1, .int e1), (2, .int kd)]) hx hb dX11_votesFor_92 rfl hl (by decide) rfl (fun ls hl => ?_)
            obtain ⟨k1, ek1⟩ : ∃ y : Int32, y = (nI k) + 1 := ⟨_, rfl⟩
            refine lv_iinc (v := k1) (lv' := [(4, .int k1), (3, .int (sp_vt μ (fun w => sp_ftA (μ 35) (μ 36) (cn 34) (sp_clm (μ 3) (μ 4) e1 (cn 1) 0) w) kd (k + 1))), (5, .int 0), (0, .ref mo), (1, .int e1), (2, .int kd)]) hx hb dX11_votesFor_93 hl (k := 2) rfl (by rw [ek1]; rfl) (by decide) rfl (fun ls hl => ?_)
            rw [nI_1] at ek1
            subst ek1
            refine lv_goto (tgt := 5) hx hb dX11_votesFor_96 (by decide) ?_
            exact ih (k + 1) locs (by omega) ⟨by omega, hS⟩ _ (lv_sub hl [0, 1, 3, 4, 5] rfl)
          · exact absurd (by decide) c_77
        · refine lv_aload_n hx hb dX11_votesFor_25 rfl (lv_at hl 2 rfl) ?_
          refine hk_get (ref := "LightcurveHouseModel") (v := .ref (am 28)) X K hM.1 rfl iX11_votesFor_X11 28 (by decide) (by decide +kernel) (fun _ h => h) rfl dX11_votesFor_26 ?_
          refine lv_iload hx hb dX11_votesFor_29 (lv_at hl 0 rfl) ?_
          refine hk_zld X K hM.a28 (vp_in_nI (by omega) (by omega)) dX11_votesFor_31 ?_
          rw [show (μ 28) (nI k).toNatClampNeg = μ 28 k from by rw [nI_clamp (show k < 2 ^ 31 by omega)]]
          refine lv_if_ne (tgt := 71) hx hb dX11_votesFor_32 (by decide) (fun c_32 => ?_) (fun c_32 => ?_)
          · refine lv_iconst (v := 0) hx hb dX11_votesFor_71 (by decide) ?_
            refine lv_istore (lv' := [(5, .int 0), (4, .int (nI k)), (3, .int (sp_vt μ (fun w => sp_ftA (μ 35) (μ 36) (cn 34) (sp_clm (μ 3) (μ 4) e1 (cn 1) 0) w) kd k)), (0, .ref mo), (1, .int e1), (2, .int kd)]) hx hb dX11_votesFor_72 hl (by decide) rfl (fun ls hl => ?_)
            refine lv_iload_n hx hb dX11_votesFor_74 rfl (lv_at hl 2 rfl) ?_
            refine lv_iload hx hb dX11_votesFor_75 (lv_at hl 0 rfl) ?_
            refine lv_if_eq (tgt := 90) hx hb dX11_votesFor_77 (by decide) (fun c_77 => ?_) (fun c_77 => ?_)
            · refine lv_iconst (v := 0) hx hb dX11_votesFor_90 (by decide) ?_
              refine lv_iadd hx hb dX11_votesFor_91 ?_
              refine lv_topi (fun s1 es1 => ?_)
              have es1 : s1 = sp_vt μ (fun w => sp_ftA (μ 35) (μ 36) (cn 34) (sp_clm (μ 3) (μ 4) e1 (cn 1) 0) w) kd (k + 1) := es1.trans (by rw [sp_vt, if_neg (fun g => c_32 g.2.1)])
              subst es1
              refine lv_istore_n (lv' := [(3, .int (sp_vt μ (fun w => sp_ftA (μ 35) (μ 36) (cn 34) (sp_clm (μ 3) (μ 4) e1 (cn 1) 0) w) kd (k + 1))), (5, .int 0), (4, .int (nI k)), (0, .ref mo), (1, .int e1), (2, .int kd)]) hx hb dX11_votesFor_92 rfl hl (by decide) rfl (fun ls hl => ?_)
              obtain ⟨k1, ek1⟩ : ∃ y : Int32, y = (nI k) + 1 := ⟨_, rfl⟩
              refine lv_iinc (v := k1) (lv' := [(4, .int k1), (3, .int (sp_vt μ (fun w => sp_ftA (μ 35) (μ 36) (cn 34) (sp_clm (μ 3) (μ 4) e1 (cn 1) 0) w) kd (k + 1))), (5, .int 0), (0, .ref mo), (1, .int e1), (2, .int kd)]) hx hb dX11_votesFor_93 hl (k := 2) rfl (by rw [ek1]; rfl) (by decide) rfl (fun ls hl => ?_)
              rw [nI_1] at ek1
              subst ek1
              refine lv_goto (tgt := 5) hx hb dX11_votesFor_96 (by decide) ?_
              exact ih (k + 1) locs (by omega) ⟨by omega, hS⟩ _ (lv_sub hl [0, 1, 3, 4, 5] rfl)
            · exact absurd (by decide) c_77
          · refine lv_aload_n hx hb dX11_votesFor_35 rfl (lv_at hl 2 rfl) ?_
            refine lv_iload_n hx hb dX11_votesFor_36 rfl (lv_at hl 3 rfl) ?_
            refine lv_aload_n hx hb dX11_votesFor_37 rfl (lv_at hl 2 rfl) ?_
            refine hk_get (ref := "LightcurveHouseModel") (v := .ref (am 24)) X K hM.1 rfl iX11_votesFor_X11 24 (by decide) (by decide +kernel) (fun _ h => h) rfl dX11_votesFor_38 ?_
            refine lv_iload hx hb dX11_votesFor_41 (lv_at hl 0 rfl) ?_
            refine hk_ild X K hM.a24 (vp_in_nI (by omega) (by omega)) dX11_votesFor_43 ?_
            rw [show (μ 24) (nI k).toNatClampNeg = μ 24 k from by rw [nI_clamp (show k < 2 ^ 31 by omega)]]
            refine hk_callV 2 (As := [.int e1, .int (μ 24 k)]) (rest := []) X K hAE hS hl.1 hM.1 rfl (c_X11_featureOf E l H0 hM hns hm8 (e1 := e1) (what := μ 24 k) hcl) (fun _ h => h.elim) gX11_votesFor_X11_featureOf rfl ⟨rfl, hd_X11_featureOf⟩ rfl ⟨⟨(Nat.le_of_ble_eq_true rfl), (Nat.le_of_ble_eq_true rfl)⟩, (Nat.le_of_ble_eq_true rfl), (Nat.le_of_ble_eq_true rfl)⟩ rfl (Nat.le_of_ble_eq_true rfl) dX11_votesFor_44 (fun v9 H2 locsH2 hp hS hzH2 hkH2 => ?_)
            obtain ⟨hv, hh⟩ := hp
            subst hv; subst hh
            refine lv_aload_n hx hb dX11_votesFor_47 rfl (lv_at hl 2 rfl) ?_
            refine hk_get (ref := "LightcurveHouseModel") (v := .ref (am 25)) X K hM.1 rfl iX11_votesFor_X11 25 (by decide) (by decide +kernel) (fun _ h => h) rfl dX11_votesFor_48 ?_
            refine lv_iload hx hb dX11_votesFor_51 (lv_at hl 0 rfl) ?_
            refine hk_ild X K hM.a25 (vp_in_nI (by omega) (by omega)) dX11_votesFor_53 ?_
            rw [show (μ 25) (nI k).toNatClampNeg = μ 25 k from by rw [nI_clamp (show k < 2 ^ 31 by omega)]]
            refine lv_aload_n hx hb dX11_votesFor_54 rfl (lv_at hl 2 rfl) ?_
            refine hk_get (ref := "LightcurveHouseModel") (v := .ref (am 26)) X K hM.1 rfl iX11_votesFor_X11 26 (by decide) (by decide +kernel) (fun _ h => h) rfl dX11_votesFor_55 ?_
            refine lv_iload hx hb dX11_votesFor_58 (lv_at hl 0 rfl) ?_
            refine hk_ild X K hM.a26 (vp_in_nI (by omega) (by omega)) dX11_votesFor_60 ?_
            rw [show (μ 26) (nI k).toNatClampNeg = μ 26 k from by rw [nI_clamp (show k < 2 ^ 31 by omega)]]
            refine hk_callS 3 (As := [.int (sp_ftA (μ 35) (μ 36) (cn 34) (sp_clm (μ 3) (μ 4) e1 (cn 1) 0) (μ 24 k)), .int (μ 25 k), .int (μ 26 k)]) (rest := []) X K hAE hS hl.1 (c_X11_in E l H0 (a := sp_ftA (μ 35) (μ 36) (cn 34) (sp_clm (μ 3) (μ 4) e1 (cn 1) 0) (μ 24 k)) (lo := μ 25 k) (hi := μ 26 k)) (fun _ h => h.elim) gX11_votesFor_X11_in rfl hd_X11_in rfl ⟨⟨(Nat.le_of_ble_eq_true rfl), (Nat.le_of_ble_eq_true rfl)⟩, (Nat.le_of_ble_eq_true rfl), (Nat.le_of_ble_eq_true rfl)⟩ rfl (Nat.le_of_ble_eq_true rfl) dX11_votesFor_61 (fun v9 H3 locsH3 hp hS hzH3 hkH3 => ?_)
            obtain ⟨hv, hh⟩ := hp
            subst hh
            rcases hv with ⟨hv, c_61⟩ | ⟨hv, c_61⟩
            · subst hv
              refine lv_if_eq (tgt := 71) hx hb dX11_votesFor_64 (by decide) (fun c_64 => ?_) (fun c_64 => ?_)
              · exact absurd c_64 (by decide)
              · refine lv_iconst (v := 1) hx hb dX11_votesFor_67 (by decide) ?_
                refine lv_goto (tgt := 72) hx hb dX11_votesFor_68 (by decide) ?_
                refine lv_istore (lv' := [(5, .int 1), (4, .int (nI k)), (3, .int (sp_vt μ (fun w => sp_ftA (μ 35) (μ 36) (cn 34) (sp_clm (μ 3) (μ 4) e1 (cn 1) 0) w) kd k)), (0, .ref mo), (1, .int e1), (2, .int kd)]) hx hb dX11_votesFor_72 hl (by decide) rfl (fun ls hl => ?_)
                refine lv_iload_n hx hb dX11_votesFor_74 rfl (lv_at hl 2 rfl) ?_
                refine lv_iload hx hb dX11_votesFor_75 (lv_at hl 0 rfl) ?_
                refine lv_if_eq (tgt := 90) hx hb dX11_votesFor_77 (by decide) (fun c_77 => ?_) (fun c_77 => ?_)
                · exact absurd c_77 (by decide)
                · refine lv_aload_n hx hb dX11_votesFor_80 rfl (lv_at hl 3 rfl) ?_
                  refine hk_get (ref := "LightcurveHouseModel") (v := .ref (am 27)) X K hM.1 rfl iX11_votesFor_X11 27 (by decide) (by decide +kernel) (fun _ h => h) rfl dX11_votesFor_81 ?_
                  refine lv_iload hx hb dX11_votesFor_84 (lv_at hl 1 rfl) ?_
                  refine hk_ild X K hM.a27 (vp_in_nI (by omega) (by omega)) dX11_votesFor_86 ?_
                  rw [show (μ 27) (nI k).toNatClampNeg = μ 27 k from by rw [nI_clamp (show k < 2 ^ 31 by omega)]]
                  refine lv_goto (tgt := 91) hx hb dX11_votesFor_87 (by decide) ?_
                  refine lv_iadd hx hb dX11_votesFor_91 ?_
                  refine lv_topi (fun s1 es1 => ?_)
                  have es1 : s1 = sp_vt μ (fun w => sp_ftA (μ 35) (μ 36) (cn 34) (sp_clm (μ 3) (μ 4) e1 (cn 1) 0) w) kd (k + 1) := es1.trans (by rw [sp_vt, if_pos ⟨c_22, c_32, c_61⟩])
                  subst es1
                  refine lv_istore_n (lv' := [(3, .int (sp_vt μ (fun w => sp_ftA (μ 35) (μ 36) (cn 34) (sp_clm (μ 3) (μ 4) e1 (cn 1) 0) w) kd (k + 1))), (5, .int 1), (4, .int (nI k)), (0, .ref mo), (1, .int e1), (2, .int kd)]) hx hb dX11_votesFor_92 rfl hl (by decide) rfl (fun ls hl => ?_)
                  obtain ⟨k1, ek1⟩ : ∃ y : Int32, y = (nI k) + 1 := ⟨_, rfl⟩
                  refine lv_iinc (v := k1) (lv' := [(4, .int k1), (3, .int (sp_vt μ (fun w => sp_ftA (μ 35) (μ 36) (cn 34) (sp_clm (μ 3) (μ 4) e1 (cn 1) 0) w) kd (k + 1))), (5, .int 1), (0, .ref mo), (1, .int e1), (2, .int kd)]) hx hb dX11_votesFor_93 hl (k := 2) rfl (by rw [ek1]; rfl) (by decide) rfl (fun ls hl => ?_)
                  rw [nI_1] at ek1
                  subst ek1
                  refine lv_goto (tgt := 5) hx hb dX11_votesFor_96 (by decide) ?_
                  exact ih (k + 1) locsH3 (by omega) ⟨by omega, hS⟩ _ (lv_sub hl [0, 1, 3, 4, 5] rfl)
            · subst hv
              refine lv_if_eq (tgt := 71) hx hb dX11_votesFor_64 (by decide) (fun c_64 => ?_) (fun c_64 => ?_)
              · refine lv_iconst (v := 0) hx hb dX11_votesFor_71 (by decide) ?_
                refine lv_istore (lv' := [(5, .int 0), (4, .int (nI k)), (3, .int (sp_vt μ (fun w => sp_ftA (μ 35) (μ 36) (cn 34) (sp_clm (μ 3) (μ 4) e1 (cn 1) 0) w) kd k)), (0, .ref mo), (1, .int e1), (2, .int kd)]) hx hb dX11_votesFor_72 hl (by decide) rfl (fun ls hl => ?_)
                refine lv_iload_n hx hb dX11_votesFor_74 rfl (lv_at hl 2 rfl) ?_
                refine lv_iload hx hb dX11_votesFor_75 (lv_at hl 0 rfl) ?_
                refine lv_if_eq (tgt := 90) hx hb dX11_votesFor_77 (by decide) (fun c_77 => ?_) (fun c_77 => ?_)
                · refine lv_iconst (v := 0) hx hb dX11_votesFor_90 (by decide) ?_
                  refine lv_iadd hx hb dX11_votesFor_91 ?_
                  refine lv_topi (fun s1 es1 => ?_)
                  have es1 : s1 = sp_vt μ (fun w => sp_ftA (μ 35) (μ 36) (cn 34) (sp_clm (μ 3) (μ 4) e1 (cn 1) 0) w) kd (k + 1) := es1.trans (by rw [sp_vt, if_neg (fun g => c_61 g.2.2)])
                  subst es1
                  refine lv_istore_n (lv' := [(3, .int (sp_vt μ (fun w => sp_ftA (μ 35) (μ 36) (cn 34) (sp_clm (μ 3) (μ 4) e1 (cn 1) 0) w) kd (k + 1))), (5, .int 0), (4, .int (nI k)), (0, .ref mo), (1, .int e1), (2, .int kd)]) hx hb dX11_votesFor_92 rfl hl (by decide) rfl (fun ls hl => ?_)
                  obtain ⟨k1, ek1⟩ : ∃ y : Int32, y = (nI k) + 1 := ⟨_, rfl⟩
                  refine lv_iinc (v := k1) (lv' := [(4, .int k1), (3, .int (sp_vt μ (fun w => sp_ftA (μ 35) (μ 36) (cn 34) (sp_clm (μ 3) (μ 4) e1 (cn 1) 0) w) kd (k + 1))), (5, .int 0), (0, .ref mo), (1, .int e1), (2, .int kd)]) hx hb dX11_votesFor_93 hl (k := 2) rfl (by rw [ek1]; rfl) (by decide) rfl (fun ls hl => ?_)
                  rw [nI_1] at ek1
                  subst ek1
                  refine lv_goto (tgt := 5) hx hb dX11_votesFor_96 (by decide) ?_
                  exact ih (k + 1) locsH3 (by omega) ⟨by omega, hS⟩ _ (lv_sub hl [0, 1, 3, 4, 5] rfl)
                · exact absurd (by decide) c_77
              · exact absurd (by decide) c_64
  exact L5 (cn 22 + 1) 0 [] (by omega) ⟨Nat.zero_le _, hS⟩ _ (lv_sub hl [0, 1, 2, 3, 4] rfl)

def cd_votes (p0 p1 : Int32) (S : mS) : Int32 := if isS (S.1 1) p0 then (if inr p1 0 4 then (if sp_hf S (S.2.2 3 (ix p0)) = 0 then 3 else 0) else 2) else 1
def an_votes (p0 p1 : Int32) (S : mS) : Int32 := vtS S (S.2.2 3 (ix p0)) p1
def st_votes (p0 p1 : Int32) (S : mS) : mS := S
theorem hd_X11_votesFor : yX11_votesFor.cls ≠ "java/lang/invoke/MethodHandle" ∧ yX11_votesFor.cls ≠ "java/lang/invoke/VarHandle" ∧ (parseMethodDescriptor yX11_votesFor.desc).map (fun d => d.parameters.length) = some 2 := ⟨by decide, by decide, by decide +kernel⟩
abbrev rmX11_votes : Room := { frames := 5, cells := 0, slots := 0, locals := 109 }
theorem iX11_votes_X11 : ∀ w ∈ wsX110, w ∈ wsX11_votes := by decide +kernel
set_option maxHeartbeats 4000000 in
set_option maxRecDepth 100000 in
theorem c_X11_votes (E : hk_E) (l : Launch) (H0 : Heap) {mo : Nat} {am : Nat → Nat} {Z : Nat → Prop} {cn : Nat → Nat} {sc : Nat → Int32} {μ : Nat → Nat → Int32} (hM : MW E mo am Z cn sc μ H0) (hZ : ∀ q, Z q → hk_A E q) {p0 p1 : Int32} (hI : Inv (cn, sc, μ))  : hk_M E l yX11_votes wsX11_votes rmX11_votes (Z) [.ref mo, .int p0, .int p1] H0 (mpost E mo am Z (cd_votes p0 p1 (cn, sc, μ)) (an_votes p0 p1 (cn, sc, μ)) (cn, sc, μ) (st_votes p0 p1 (cn, sc, μ))) := by
  refine hk_M.ofW (cc := cX11_votes) (maxL := 3) (ret := (some .int)) (by decide +kernel) rfl (Nat.le_of_ble_eq_true rfl) ?_
  intro p e s m args below meth c ls Q hQ X hr hlk hnm K hs9 hS hl
  obtain ⟨hx, hb, hml, hown, hts⟩ := id X
  have hAE : ∀ q, (Z) q → hk_A E q := hZ
  have hl : lv_has ls 3 [(0, .ref mo), (1, .int p0), (2, .int p1)] := hl
  have hnl := hI.1.2.2.1
  have hns := hI.1.1
  have hnp := hI.1.2.1
  dsimp only at hnl hns hnp
  have hnr := hI.1.2.2.2.1
  dsimp only at hnr
  refine lv_aload_n hx hb dX11_votes_0 rfl (lv_at hl 0 rfl) ?_
  refine lv_aload_n hx hb dX11_votes_1 rfl (lv_at hl 0 rfl) ?_
  refine lv_iload_n hx hb dX11_votes_2 rfl (lv_at hl 1 rfl) ?_
  refine hk_callV 1 (As := [.int p0]) (rest := [.ref mo]) X K hAE hS hl.1 hM.1 rfl (c_X11_isStar E l H0 hM hns (i := p0)) (fun _ h => h.elim) gX11_votes_X11_isStar rfl ⟨rfl, hd_X11_isStar⟩ rfl ⟨⟨(Nat.le_of_ble_eq_true rfl), (Nat.le_of_ble_eq_true rfl)⟩, (Nat.le_of_ble_eq_true rfl), (Nat.le_of_ble_eq_true rfl)⟩ rfl (Nat.le_of_ble_eq_true rfl) dX11_votes_3 (fun v9 H1 locsH1 hp hS hzH1 hkH1 => ?_)
  obtain ⟨hv, hh⟩ := hp
  subst hh
  rcases hv with ⟨hv, c_3⟩ | ⟨hv, c_3⟩
  · subst hv
    refine lv_if_ne (tgt := 13) hx hb dX11_votes_6 (by decide) (fun c_6 => ?_) (fun c_6 => ?_)
    · refine lv_iload_n hx hb dX11_votes_13 rfl (lv_at hl 2 rfl) ?_
      refine lv_iconst (v := 0) hx hb dX11_votes_14 (by decide) ?_
      refine lv_iconst (v := 4) hx hb dX11_votes_15 (by decide) ?_
      refine hk_callS 3 (As := [.int p1, .int 0, .int 4]) (rest := [.ref mo]) X K hAE hS hl.1 (c_X11_in E l H0 (a := p1) (lo := 0) (hi := 4)) (fun _ h => h.elim) gX11_votes_X11_in rfl hd_X11_in rfl ⟨⟨(Nat.le_of_ble_eq_true rfl), (Nat.le_of_ble_eq_true rfl)⟩, (Nat.le_of_ble_eq_true rfl), (Nat.le_of_ble_eq_true rfl)⟩ rfl (Nat.le_of_ble_eq_true rfl) dX11_votes_16 (fun v9 H2 locsH2 hp hS hzH2 hkH2 => ?_)
      obtain ⟨hv, hh⟩ := hp
      subst hh
      rcases hv with ⟨hv, c_16⟩ | ⟨hv, c_16⟩
      · subst hv
        refine lv_if_ne (tgt := 26) hx hb dX11_votes_19 (by decide) (fun c_19 => ?_) (fun c_19 => ?_)
        · refine lv_aload_n hx hb dX11_votes_26 rfl (lv_at hl 0 rfl) ?_
          refine lv_aload_n hx hb dX11_votes_27 rfl (lv_at hl 0 rfl) ?_
          refine hk_get (ref := "LightcurveHouseModel") (v := .ref (am 3)) X K hM.1 rfl iX11_votes_X11 3 (by decide) (by decide +kernel) (fun _ h => h) rfl dX11_votes_28 ?_
          refine lv_iload_n hx hb dX11_votes_31 rfl (lv_at hl 1 rfl) ?_
          refine hk_ild (f := (μ 3)) X K hM.a3 (vp_isS hns (by omega) c_3) dX11_votes_32 ?_
          refine hk_callV 1 (As := [.int ((μ 3) p0.toNatClampNeg)]) (rest := [.ref mo]) X K hAE hS hl.1 hM.1 rfl (c_X11_hasFeatures E l H0 hM hZ hI (e1 := (μ 3) p0.toNatClampNeg)) (fun _ h => h) gX11_votes_X11_hasFeatures rfl ⟨rfl, hd_X11_hasFeatures⟩ rfl ⟨⟨(Nat.le_of_ble_eq_true rfl), (Nat.le_of_ble_eq_true rfl)⟩, (Nat.le_of_ble_eq_true rfl), (Nat.le_of_ble_eq_true rfl)⟩ rfl (Nat.le_of_ble_eq_true rfl) dX11_votes_33 (fun v9 H3 locsH3 hp hS hzH3 hkH3 => ?_)
          obtain ⟨hv, fL, fT, hg, hM⟩ := hp
          subst hv
          refine lv_if_ne (tgt := 43) hx hb dX11_votes_36 (by decide) (fun c_36 => ?_) (fun c_36 => ?_)
          · refine lv_iconst (v := 0) hx hb dX11_votes_43 (by decide) ?_
            refine hk_put (ref := "LightcurveHouseModel") X K hM.1 rfl iX11_votes_X11 tyX11 tyX11_ok nmX11 hS hM.2.2.2.2.1 33 (by decide) (by decide +kernel) (fun _ h => h) (by decide +kernel) rfl rfl (Nat.le_of_ble_eq_true rfl) dX11_votes_44 (fun H4 locsH4 hOH4 hzH4 hqH4 hS => ?_)
            rw [mf_33] at hOH4
            have hM := MW.obj hM hOH4 hqH4
            refine lv_aload_n hx hb dX11_votes_47 rfl (lv_at hl 0 rfl) ?_
            refine hk_get (ref := "LightcurveHouseModel") (v := .int 0) X K hM.1 rfl iX11_votes_X11 33 (by decide) (by decide +kernel) (fun _ h => h) rfl dX11_votes_48 ?_
            refine lv_if_le (tgt := 58) hx hb dX11_votes_51 (by decide) (fun c_51 => ?_) (fun c_51 => ?_)
            · refine lv_aload_n hx hb dX11_votes_58 rfl (lv_at hl 0 rfl) ?_
              refine lv_aload_n hx hb dX11_votes_59 rfl (lv_at hl 0 rfl) ?_
              refine hk_get (ref := "LightcurveHouseModel") (v := .ref (am 3)) X K hM.1 rfl iX11_votes_X11 3 (by decide) (by decide +kernel) (fun _ h => h) rfl dX11_votes_60 ?_
              refine lv_iload_n hx hb dX11_votes_63 rfl (lv_at hl 1 rfl) ?_
              refine hk_ild (f := (μ 3)) X K hM.a3 (vp_isS hns (by omega) c_3) dX11_votes_64 ?_
              refine lv_iload_n hx hb dX11_votes_65 rfl (lv_at hl 2 rfl) ?_
              refine hk_callV 2 (As := [.int ((μ 3) p0.toNatClampNeg), .int p1]) (rest := []) X K hAE hS hl.1 hM.1 rfl (c_X11_votesFor E l H4 hM hns (show _ ≤ 80 from sel80 hnl) hnr (e1 := (μ 3) p0.toNatClampNeg) (kd := p1) (sp_hf_1 c_36).2) (fun _ h => h.elim) gX11_votes_X11_votesFor rfl ⟨rfl, hd_X11_votesFor⟩ rfl ⟨⟨(Nat.le_of_ble_eq_true rfl), (Nat.le_of_ble_eq_true rfl)⟩, (Nat.le_of_ble_eq_true rfl), (Nat.le_of_ble_eq_true rfl)⟩ rfl (Nat.le_of_ble_eq_true rfl) dX11_votes_66 (fun v9 H5 locsH5 hp hS hzH5 hkH5 => ?_)
              obtain ⟨hv, hh⟩ := hp
              have hv := hv.trans (vt_eq2 (sc := sc) hg (sp_hf_1 c_36).1)
              subst hv; subst hh
              exact hk_iret X hr hlk hQ hS (Nat.le_of_ble_eq_true rfl) (Nat.le_of_ble_eq_true rfl) dX11_votes_69 (mfin0 hM (by unfold cd_votes; rw [if_pos c_3, if_pos c_16, if_neg c_36]) rfl rfl agr_scr)
            · exact absurd (by decide) c_51
          · refine lv_iconst (v := 3) hx hb dX11_votes_39 (by decide) ?_
            refine lv_goto (tgt := 44) hx hb dX11_votes_40 (by decide) ?_
            refine hk_put (ref := "LightcurveHouseModel") X K hM.1 rfl iX11_votes_X11 tyX11 tyX11_ok nmX11 hS hM.2.2.2.2.1 33 (by decide) (by decide +kernel) (fun _ h => h) (by decide +kernel) rfl rfl (Nat.le_of_ble_eq_true rfl) dX11_votes_44 (fun H6 locsH6 hOH6 hzH6 hqH6 hS => ?_)
            rw [mf_33] at hOH6
            have hM := MW.obj hM hOH6 hqH6
            refine lv_aload_n hx hb dX11_votes_47 rfl (lv_at hl 0 rfl) ?_
            refine hk_get (ref := "LightcurveHouseModel") (v := .int 3) X K hM.1 rfl iX11_votes_X11 33 (by decide) (by decide +kernel) (fun _ h => h) rfl dX11_votes_48 ?_
            refine lv_if_le (tgt := 58) hx hb dX11_votes_51 (by decide) (fun c_51 => ?_) (fun c_51 => ?_)
            · exact absurd c_51 (by decide)
            · refine lv_iconst (v := 0) hx hb dX11_votes_54 (by decide) ?_
              refine lv_goto (tgt := 69) hx hb dX11_votes_55 (by decide) ?_
              exact hk_iret X hr hlk hQ hS (Nat.le_of_ble_eq_true rfl) (Nat.le_of_ble_eq_true rfl) dX11_votes_69 (mfin1 (v := 3) hM (by unfold cd_votes; rw [if_pos c_3, if_pos c_16, if_pos c_36]) (by decide) rfl rfl agr_scr)
        · exact absurd c_19 (by decide)
      · subst hv
        refine lv_if_ne (tgt := 26) hx hb dX11_votes_19 (by decide) (fun c_19 => ?_) (fun c_19 => ?_)
        · exact absurd rfl c_19
        · refine lv_iconst (v := 2) hx hb dX11_votes_22 (by decide) ?_
          refine lv_goto (tgt := 44) hx hb dX11_votes_23 (by decide) ?_
          refine hk_put (ref := "LightcurveHouseModel") X K hM.1 rfl iX11_votes_X11 tyX11 tyX11_ok nmX11 hS hM.2.2.2.2.1 33 (by decide) (by decide +kernel) (fun _ h => h) (by decide +kernel) rfl rfl (Nat.le_of_ble_eq_true rfl) dX11_votes_44 (fun H7 locsH7 hOH7 hzH7 hqH7 hS => ?_)
          rw [mf_33] at hOH7
          have hM := MW.obj hM hOH7 hqH7
          refine lv_aload_n hx hb dX11_votes_47 rfl (lv_at hl 0 rfl) ?_
          refine hk_get (ref := "LightcurveHouseModel") (v := .int 2) X K hM.1 rfl iX11_votes_X11 33 (by decide) (by decide +kernel) (fun _ h => h) rfl dX11_votes_48 ?_
          refine lv_if_le (tgt := 58) hx hb dX11_votes_51 (by decide) (fun c_51 => ?_) (fun c_51 => ?_)
          · exact absurd c_51 (by decide)
          · refine lv_iconst (v := 0) hx hb dX11_votes_54 (by decide) ?_
            refine lv_goto (tgt := 69) hx hb dX11_votes_55 (by decide) ?_
            exact hk_iret X hr hlk hQ hS (Nat.le_of_ble_eq_true rfl) (Nat.le_of_ble_eq_true rfl) dX11_votes_69 (mfin1 (v := 2) hM (by unfold cd_votes; rw [if_pos c_3, if_neg c_16]) (by decide) rfl rfl agr_thr)
    · exact absurd c_6 (by decide)
  · subst hv
    refine lv_if_ne (tgt := 13) hx hb dX11_votes_6 (by decide) (fun c_6 => ?_) (fun c_6 => ?_)
    · exact absurd rfl c_6
    · refine lv_iconst (v := 1) hx hb dX11_votes_9 (by decide) ?_
      refine lv_goto (tgt := 44) hx hb dX11_votes_10 (by decide) ?_
      refine hk_put (ref := "LightcurveHouseModel") X K hM.1 rfl iX11_votes_X11 tyX11 tyX11_ok nmX11 hS hM.2.2.2.2.1 33 (by decide) (by decide +kernel) (fun _ h => h) (by decide +kernel) rfl rfl (Nat.le_of_ble_eq_true rfl) dX11_votes_44 (fun H8 locsH8 hOH8 hzH8 hqH8 hS => ?_)
      rw [mf_33] at hOH8
      have hM := MW.obj hM hOH8 hqH8
      refine lv_aload_n hx hb dX11_votes_47 rfl (lv_at hl 0 rfl) ?_
      refine hk_get (ref := "LightcurveHouseModel") (v := .int 1) X K hM.1 rfl iX11_votes_X11 33 (by decide) (by decide +kernel) (fun _ h => h) rfl dX11_votes_48 ?_
      refine lv_if_le (tgt := 58) hx hb dX11_votes_51 (by decide) (fun c_51 => ?_) (fun c_51 => ?_)
      · exact absurd c_51 (by decide)
      · refine lv_iconst (v := 0) hx hb dX11_votes_54 (by decide) ?_
        refine lv_goto (tgt := 69) hx hb dX11_votes_55 (by decide) ?_
        exact hk_iret X hr hlk hQ hS (Nat.le_of_ble_eq_true rfl) (Nat.le_of_ble_eq_true rfl) dX11_votes_69 (mfin1 (v := 1) hM (by unfold cd_votes; rw [if_neg c_3]) (by decide) rfl rfl agr_thr)

