abbrev rmX11_modulusOf : Room := { frames := 2, cells := 0, slots := 0, locals := 43 }
theorem iX11_modulusOf_X11 : ∀ w ∈ wsX110, w ∈ wsX11_modulusOf := by decide +kernel
set_option maxHeartbeats 4000000 in
set_option maxRecDepth 100000 in
theorem c_X11_modulusOf (E : hk_E) (l : Launch) (H0 : Heap) {mo : Nat} {am : Nat → Nat} {Z : Nat → Prop} {cn : Nat → Nat} {sc : Nat → Int32} {μ : Nat → Nat → Int32} (hM : MW E mo am Z cn sc μ H0) (hns : cn 1 ≤ 12) (hm8 : cn 34 ≤ 80) (h0 : 0 < cn 34) {e1 : Int32} (he : vp_in e1 12) (hcl : 0 < sp_clm (μ 3) (μ 4) e1 (cn 1) 0) : hk_M E l yX11_modulusOf wsX11_modulusOf rmX11_modulusOf (fun _ => False) [.ref mo, .int e1] H0 (fun z H1 => z = some (.int (qd (sp_sm (μ 35) (cn 34)) (nI (cn 34)) - μ 5 (ix e1) - sc 32 + 75 * nI (sp_hlv (sp_clm (μ 3) (μ 4) e1 (cn 1) 0)))) ∧ H0 = H1) := by
  refine hk_M.ofW (cc := cX11_modulusOf) (maxL := 4) (ret := (some .int)) (by decide +kernel) rfl (Nat.le_of_ble_eq_true rfl) ?_
  intro p e s m args below meth c ls Q hQ X hr hlk hnm K hs9 hS hl
  obtain ⟨hx, hb, hml, hown, hts⟩ := id X
  have hAE : ∀ q, (fun _ => False) q → hk_A E q := fun _ h => h.elim
  have hl : lv_has ls 4 [(0, .ref mo), (1, .int e1)] := hl
  refine lv_iconst (v := 0) hx hb dX11_modulusOf_0 (by decide) ?_
  refine lv_topi (fun z_1 ez_1 => ?_)
  have ez_1 : z_1 = nI 0 := ez_1
  subst ez_1
  refine lv_istore_n (lv' := [(2, .int (nI 0)), (0, .ref mo), (1, .int e1)]) hx hb dX11_modulusOf_1 rfl hl (by decide) rfl (fun ls hl => ?_)
  refine lv_aload_n hx hb dX11_modulusOf_2 rfl (lv_at hl 1 rfl) ?_
  refine lv_iload_n hx hb dX11_modulusOf_3 rfl (lv_at hl 2 rfl) ?_
  refine hk_callV 1 (As := [.int e1]) (rest := []) X K hAE hS hl.1 hM.1 rfl (c_X11_claimOf E l H0 hM hns (e1 := e1)) (fun _ h => h.elim) gX11_modulusOf_X11_claimOf rfl ⟨rfl, hd_X11_claimOf⟩ rfl ⟨⟨(Nat.le_of_ble_eq_true rfl), (Nat.le_of_ble_eq_true rfl)⟩, (Nat.le_of_ble_eq_true rfl), (Nat.le_of_ble_eq_true rfl)⟩ rfl (Nat.le_of_ble_eq_true rfl) dX11_modulusOf_4 (fun v9 H2 locsH2 hp hS hzH2 hkH2 => ?_)
  obtain ⟨hv, hh⟩ := hp
  subst hv; subst hh
  refine lv_istore_n (lv' := [(3, .int (sp_clm (μ 3) (μ 4) e1 (cn 1) 0)), (2, .int (nI 0)), (0, .ref mo), (1, .int e1)]) hx hb dX11_modulusOf_7 rfl hl (by decide) rfl (fun ls hl => ?_)
  obtain ⟨n0, hn0, en0⟩ : ∃ n0 : Nat, n0 < 2 ^ 31 ∧ sp_clm (μ 3) (μ 4) e1 (cn 1) 0 = nI n0 := nI_of (fun h => absurd h (Int32.not_lt.mpr (Int32.le_of_lt hcl)))
  rw [en0] at hl
  have L8 : ∀ (n9 : Nat) (f n k : Nat), f + 1 ≤ n9 → (n < 2 ^ f ∧ n < 2 ^ 31 ∧ f + k ≤ 31 ∧ hlvN 31 n0 = k + hlvN f n) → ∀ (ls : Array Slot), lv_has ls 4 [(3, .int (nI n)), (2, .int (nI k)), (0, .ref mo), (1, .int e1)] → W p l e rmX11_modulusOf s m args below meth c H0 locsH2 0 0 Q (F0 m 8 ls []) := by
    intro n9
    induction n9 with
    | zero =>
      intro f n k hm hinv ls hl
      have hi2 := hinv.2.1
      exact absurd hm (by omega)
    | succ n9 ih =>
      intro f n k hm hinv ls hl
      have hi2 := hinv.2.1
      refine lv_iload_n hx hb dX11_modulusOf_8 rfl (lv_at hl 0 rfl) ?_
      refine lv_iconst (v := 1) hx hb dX11_modulusOf_9 (by decide) ?_
      refine lv_topi (fun z_3 ez_3 => ?_)
      have ez_3 : z_3 = nI 1 := ez_3
      subst ez_3
      refine lv_icmp_le (tgt := 23) hx hb dX11_modulusOf_10 (by decide) (fun c_10 => ?_) (fun c_10 => ?_)
      · have hn1 : n ≤ 1 := (nI_leI (by omega) (by decide)).mp c_10
        have hk : hlvN 31 n0 = k := by rw [hinv.2.2.2, hlvN_0 hn1, Nat.add_zero]
        refine lv_aload_n hx hb dX11_modulusOf_23 rfl (lv_at hl 2 rfl) ?_
        refine hk_callV 0 (As := []) (rest := []) X K hAE hS hl.1 hM.1 rfl (c_X11_meanOf E l H0 hM h0 hm8) (fun _ h => h.elim) gX11_modulusOf_X11_meanOf rfl ⟨rfl, hd_X11_meanOf⟩ rfl ⟨⟨(Nat.le_of_ble_eq_true rfl), (Nat.le_of_ble_eq_true rfl)⟩, (Nat.le_of_ble_eq_true rfl), (Nat.le_of_ble_eq_true rfl)⟩ rfl (Nat.le_of_ble_eq_true rfl) dX11_modulusOf_24 (fun v9 H4 locsH4 hp hS hzH4 hkH4 => ?_)
        obtain ⟨hv, hh⟩ := hp
        subst hv; subst hh
        refine lv_aload_n hx hb dX11_modulusOf_27 rfl (lv_at hl 2 rfl) ?_
        refine hk_get (ref := "LightcurveHouseModel") (v := .ref (am 5)) X K hM.1 rfl iX11_modulusOf_X11 5 (by decide) (by decide +kernel) (fun _ h => h) rfl dX11_modulusOf_28 ?_
        refine lv_iload_n hx hb dX11_modulusOf_31 rfl (lv_at hl 3 rfl) ?_
        refine hk_ild X K hM.a5 he dX11_modulusOf_32 ?_
        refine lv_isub hx hb dX11_modulusOf_33 ?_
        refine lv_aload_n hx hb dX11_modulusOf_34 rfl (lv_at hl 2 rfl) ?_
        refine hk_get (ref := "LightcurveHouseModel") (v := .int (sc 32)) X K hM.1 rfl iX11_modulusOf_X11 32 (by decide) (by decide +kernel) (fun _ h => h) rfl dX11_modulusOf_35 ?_
        refine lv_isub hx hb dX11_modulusOf_38 ?_
        refine lv_bipush (v := 75) hx hb dX11_modulusOf_39 (by decide) ?_
        refine lv_iload_n hx hb dX11_modulusOf_41 rfl (lv_at hl 1 rfl) ?_
        refine lv_imul hx hb dX11_modulusOf_42 ?_
        refine lv_iadd hx hb dX11_modulusOf_43 ?_
        exact hk_iret X hr hlk hQ hS (Nat.le_of_ble_eq_true rfl) (Nat.le_of_ble_eq_true rfl) dX11_modulusOf_44 (⟨by unfold sp_hlv; rw [en0, ix_nI hn0, hk], rfl⟩)
      · have hn1 : ¬ n ≤ 1 := fun h => c_10 (nI_le h (by decide))
        obtain ⟨f7, rfl, h7, h8⟩ := hlvN_1 hn1 hinv.1
        obtain ⟨k1, ek1⟩ : ∃ y : Int32, y = (nI k) + 1 := ⟨_, rfl⟩
        refine lv_iinc (v := k1) (lv' := [(2, .int k1), (3, .int (nI n)), (0, .ref mo), (1, .int e1)]) hx hb dX11_modulusOf_13 hl (k := 1) rfl (by rw [ek1]; rfl) (by decide) rfl (fun ls hl => ?_)
        rw [nI_1] at ek1
        subst ek1
        refine lv_iload_n hx hb dX11_modulusOf_16 rfl (lv_at hl 1 rfl) ?_
        refine lv_iconst (v := 2) hx hb dX11_modulusOf_17 (by decide) ?_
        refine lv_topi (fun z_5 ez_5 => ?_)
        have ez_5 : z_5 = nI 2 := ez_5
        subst ez_5
        refine lv_idiv hx hb dX11_modulusOf_18 (by decide) ?_
        refine lv_topi (fun dv edv => ?_)
        rw [pk_div hi2 (by decide) (by decide)] at edv
        subst edv
        refine lv_istore_n (lv' := [(3, .int (nI (n / 2))), (2, .int (nI (k + 1))), (0, .ref mo), (1, .int e1)]) hx hb dX11_modulusOf_19 rfl hl (by decide) rfl (fun ls hl => ?_)
        refine lv_goto (tgt := 8) hx hb dX11_modulusOf_20 (by decide) ?_
        exact ih f7 (n / 2) (k + 1) (by omega) ⟨h7, by omega, by omega, by rw [hinv.2.2.2, h8]; omega⟩ _ (lv_sub hl [0, 1, 2, 3] rfl)
  exact L8 (31 + 1) 31 n0 0 (by omega) ⟨hn0, hn0, by omega, by rw [Nat.zero_add]⟩ _ (lv_sub hl [0, 1, 2, 3] rfl)

/-- the modulus of an entry -/
def mdS (S : mS) (e : Int32) : Int32 := sp_mn S.2.2 (selS S e) - S.2.2 5 (ix e) - S.2.1 32 + 75 * nI (sp_hlv (clmS S e))
theorem md_eq2 {cn : Nat → Nat} {sc sc' : Nat → Int32} {μ : Nat → Nat → Int32} {e : Int32} {fL fT : Nat → Int32} (hg : gRow μ (sp_sel μ e (-1) (cn 12)) fL fT) (hsc : sc' 32 = sc 32) : some (Value.int (qd (sp_sm (scr μ fL fT 35) (va_up cn 34 (sp_sel μ e (-1) (cn 12)).length 34)) (nI (va_up cn 34 (sp_sel μ e (-1) (cn 12)).length 34)) - scr μ fL fT 5 (ix e) - sc' 32 + 75 * nI (sp_hlv (sp_clm (scr μ fL fT 3) (scr μ fL fT 4) e (va_up cn 34 (sp_sel μ e (-1) (cn 12)).length 1) 0)))) = some (Value.int (mdS (cn, sc, μ) e)) := by
  show some (Value.int (qd (sp_sm fL (sp_sel μ e (-1) (cn 12)).length) (nI (sp_sel μ e (-1) (cn 12)).length) - μ 5 (ix e) - sc' 32 + 75 * nI (sp_hlv (sp_clm (μ 3) (μ 4) e (cn 1) 0)))) = some (Value.int (sp_mn μ (sp_sel μ e (-1) (cn 12)) - μ 5 (ix e) - sc 32 + 75 * nI (sp_hlv (sp_clm (μ 3) (μ 4) e (cn 1) 0))))
  rw [hsc]
  unfold sp_mn
  rw [sp_sm_cg _ (fun i hi => (hg i hi).1)]
def cd_modulus (p0 : Int32) (S : mS) : Int32 := if isS (S.1 1) p0 then (if sp_hf S (S.2.2 3 (ix p0)) = 0 then 2 else 0) else 1
def an_modulus (p0 : Int32) (S : mS) : Int32 := mdS S (S.2.2 3 (ix p0))
def st_modulus (p0 : Int32) (S : mS) : mS := S
theorem hd_X11_modulusOf : yX11_modulusOf.cls ≠ "java/lang/invoke/MethodHandle" ∧ yX11_modulusOf.cls ≠ "java/lang/invoke/VarHandle" ∧ (parseMethodDescriptor yX11_modulusOf.desc).map (fun d => d.parameters.length) = some 1 := ⟨by decide, by decide, by decide +kernel⟩
abbrev rmX11_modulus : Room := { frames := 5, cells := 0, slots := 0, locals := 109 }
theorem iX11_modulus_X11 : ∀ w ∈ wsX110, w ∈ wsX11_modulus := by decide +kernel
set_option maxHeartbeats 4000000 in
set_option maxRecDepth 100000 in
theorem c_X11_modulus (E : hk_E) (l : Launch) (H0 : Heap) {mo : Nat} {am : Nat → Nat} {Z : Nat → Prop} {cn : Nat → Nat} {sc : Nat → Int32} {μ : Nat → Nat → Int32} (hM : MW E mo am Z cn sc μ H0) (hZ : ∀ q, Z q → hk_A E q) {p0 : Int32} (hI : Inv (cn, sc, μ))  : hk_M E l yX11_modulus wsX11_modulus rmX11_modulus (Z) [.ref mo, .int p0] H0 (mpost E mo am Z (cd_modulus p0 (cn, sc, μ)) (an_modulus p0 (cn, sc, μ)) (cn, sc, μ) (st_modulus p0 (cn, sc, μ))) := by
  refine hk_M.ofW (cc := cX11_modulus) (maxL := 2) (ret := (some .int)) (by decide +kernel) rfl (Nat.le_of_ble_eq_true rfl) ?_
  intro p e s m args below meth c ls Q hQ X hr hlk hnm K hs9 hS hl
  obtain ⟨hx, hb, hml, hown, hts⟩ := id X
  have hAE : ∀ q, (Z) q → hk_A E q := hZ
  have hl : lv_has ls 2 [(0, .ref mo), (1, .int p0)] := hl
  have hnl := hI.1.2.2.1
  have hns := hI.1.1
  have hnp := hI.1.2.1
  dsimp only at hnl hns hnp
  refine lv_aload_n hx hb dX11_modulus_0 rfl (lv_at hl 0 rfl) ?_
  refine lv_aload_n hx hb dX11_modulus_1 rfl (lv_at hl 0 rfl) ?_
  refine lv_iload_n hx hb dX11_modulus_2 rfl (lv_at hl 1 rfl) ?_
  refine hk_callV 1 (As := [.int p0]) (rest := [.ref mo]) X K hAE hS hl.1 hM.1 rfl (c_X11_isStar E l H0 hM hns (i := p0)) (fun _ h => h.elim) gX11_modulus_X11_isStar rfl ⟨rfl, hd_X11_isStar⟩ rfl ⟨⟨(Nat.le_of_ble_eq_true rfl), (Nat.le_of_ble_eq_true rfl)⟩, (Nat.le_of_ble_eq_true rfl), (Nat.le_of_ble_eq_true rfl)⟩ rfl (Nat.le_of_ble_eq_true rfl) dX11_modulus_3 (fun v9 H1 locsH1 hp hS hzH1 hkH1 => ?_)
  obtain ⟨hv, hh⟩ := hp
  subst hh
  rcases hv with ⟨hv, c_3⟩ | ⟨hv, c_3⟩
  · subst hv
    refine lv_if_ne (tgt := 13) hx hb dX11_modulus_6 (by decide) (fun c_6 => ?_) (fun c_6 => ?_)
    · refine lv_aload_n hx hb dX11_modulus_13 rfl (lv_at hl 0 rfl) ?_
      refine lv_aload_n hx hb dX11_modulus_14 rfl (lv_at hl 0 rfl) ?_
      refine hk_get (ref := "LightcurveHouseModel") (v := .ref (am 3)) X K hM.1 rfl iX11_modulus_X11 3 (by decide) (by decide +kernel) (fun _ h => h) rfl dX11_modulus_15 ?_
      refine lv_iload_n hx hb dX11_modulus_18 rfl (lv_at hl 1 rfl) ?_
      refine hk_ild (f := (μ 3)) X K hM.a3 (vp_isS hns (by omega) c_3) dX11_modulus_19 ?_
      refine hk_callV 1 (As := [.int ((μ 3) p0.toNatClampNeg)]) (rest := [.ref mo]) X K hAE hS hl.1 hM.1 rfl (c_X11_hasFeatures E l H0 hM hZ hI (e1 := (μ 3) p0.toNatClampNeg)) (fun _ h => h) gX11_modulus_X11_hasFeatures rfl ⟨rfl, hd_X11_hasFeatures⟩ rfl ⟨⟨(Nat.le_of_ble_eq_true rfl), (Nat.le_of_ble_eq_true rfl)⟩, (Nat.le_of_ble_eq_true rfl), (Nat.le_of_ble_eq_true rfl)⟩ rfl (Nat.le_of_ble_eq_true rfl) dX11_modulus_20 (fun v9 H2 locsH2 hp hS hzH2 hkH2 => ?_)
      obtain ⟨hv, fL, fT, hg, hM⟩ := hp
      subst hv
      refine lv_if_ne (tgt := 30) hx hb dX11_modulus_23 (by decide) (fun c_23 => ?_) (fun c_23 => ?_)
      · refine lv_iconst (v := 0) hx hb dX11_modulus_30 (by decide) ?_
        refine hk_put (ref := "LightcurveHouseModel") X K hM.1 rfl iX11_modulus_X11 tyX11 tyX11_ok nmX11 hS hM.2.2.2.2.1 33 (by decide) (by decide +kernel) (fun _ h => h) (by decide +kernel) rfl rfl (Nat.le_of_ble_eq_true rfl) dX11_modulus_31 (fun H3 locsH3 hOH3 hzH3 hqH3 hS => ?_)
        rw [mf_33] at hOH3
        have hM := MW.obj hM hOH3 hqH3
        refine lv_aload_n hx hb dX11_modulus_34 rfl (lv_at hl 0 rfl) ?_
        refine hk_get (ref := "LightcurveHouseModel") (v := .int 0) X K hM.1 rfl iX11_modulus_X11 33 (by decide) (by decide +kernel) (fun _ h => h) rfl dX11_modulus_35 ?_
        refine lv_if_le (tgt := 45) hx hb dX11_modulus_38 (by decide) (fun c_38 => ?_) (fun c_38 => ?_)
        · refine lv_aload_n hx hb dX11_modulus_45 rfl (lv_at hl 0 rfl) ?_
          refine lv_aload_n hx hb dX11_modulus_46 rfl (lv_at hl 0 rfl) ?_
          refine hk_get (ref := "LightcurveHouseModel") (v := .ref (am 3)) X K hM.1 rfl iX11_modulus_X11 3 (by decide) (by decide +kernel) (fun _ h => h) rfl dX11_modulus_47 ?_
          refine lv_iload_n hx hb dX11_modulus_50 rfl (lv_at hl 1 rfl) ?_
          refine hk_ild (f := (μ 3)) X K hM.a3 (vp_isS hns (by omega) c_3) dX11_modulus_51 ?_
          refine hk_callV 1 (As := [.int ((μ 3) p0.toNatClampNeg)]) (rest := []) X K hAE hS hl.1 hM.1 rfl (c_X11_modulusOf E l H3 hM hns (show _ ≤ 80 from sel80 hnl) (sp_hf_1 c_23).1 (e1 := (μ 3) p0.toNatClampNeg) (by obtain ⟨e9, he, h9⟩ := hI.ent c_3; rw [h9]; exact vp_in_nI (by omega) (by decide)) (sp_hf_1 c_23).2) (fun _ h => h.elim) gX11_modulus_X11_modulusOf rfl ⟨rfl, hd_X11_modulusOf⟩ rfl ⟨⟨(Nat.le_of_ble_eq_true rfl), (Nat.le_of_ble_eq_true rfl)⟩, (Nat.le_of_ble_eq_true rfl), (Nat.le_of_ble_eq_true rfl)⟩ rfl (Nat.le_of_ble_eq_true rfl) dX11_modulus_52 (fun v9 H4 locsH4 hp hS hzH4 hkH4 => ?_)
          obtain ⟨hv, hh⟩ := hp
          have hv := hv.trans (md_eq2 (sc := sc) hg rfl)
          subst hv; subst hh
          exact hk_iret X hr hlk hQ hS (Nat.le_of_ble_eq_true rfl) (Nat.le_of_ble_eq_true rfl) dX11_modulus_55 (mfin0 hM (by unfold cd_modulus; rw [if_pos c_3, if_neg c_23]) rfl rfl agr_scr)
        · exact absurd (by decide) c_38
      · refine lv_iconst (v := 2) hx hb dX11_modulus_26 (by decide) ?_
        refine lv_goto (tgt := 31) hx hb dX11_modulus_27 (by decide) ?_
        refine hk_put (ref := "LightcurveHouseModel") X K hM.1 rfl iX11_modulus_X11 tyX11 tyX11_ok nmX11 hS hM.2.2.2.2.1 33 (by decide) (by decide +kernel) (fun _ h => h) (by decide +kernel) rfl rfl (Nat.le_of_ble_eq_true rfl) dX11_modulus_31 (fun H5 locsH5 hOH5 hzH5 hqH5 hS => ?_)
        rw [mf_33] at hOH5
        have hM := MW.obj hM hOH5 hqH5
        refine lv_aload_n hx hb dX11_modulus_34 rfl (lv_at hl 0 rfl) ?_
        refine hk_get (ref := "LightcurveHouseModel") (v := .int 2) X K hM.1 rfl iX11_modulus_X11 33 (by decide) (by decide +kernel) (fun _ h => h) rfl dX11_modulus_35 ?_
        refine lv_if_le (tgt := 45) hx hb dX11_modulus_38 (by decide) (fun c_38 => ?_) (fun c_38 => ?_)
        · exact absurd c_38 (by decide)
        · refine lv_iconst (v := 0) hx hb dX11_modulus_41 (by decide) ?_
          refine lv_goto (tgt := 55) hx hb dX11_modulus_42 (by decide) ?_
          exact hk_iret X hr hlk hQ hS (Nat.le_of_ble_eq_true rfl) (Nat.le_of_ble_eq_true rfl) dX11_modulus_55 (mfin1 (v := 2) hM (by unfold cd_modulus; rw [if_pos c_3, if_pos c_23]) (by decide) rfl rfl agr_scr)
    · exact absurd c_6 (by decide)
  · subst hv
    refine lv_if_ne (tgt := 13) hx hb dX11_modulus_6 (by decide) (fun c_6 => ?_) (fun c_6 => ?_)
    · exact absurd rfl c_6
    · refine lv_iconst (v := 1) hx hb dX11_modulus_9 (by decide) ?_
      refine lv_goto (tgt := 31) hx hb dX11_modulus_10 (by decide) ?_
      refine hk_put (ref := "LightcurveHouseModel") X K hM.1 rfl iX11_modulus_X11 tyX11 tyX11_ok nmX11 hS hM.2.2.2.2.1 33 (by decide) (by decide +kernel) (fun _ h => h) (by decide +kernel) rfl rfl (Nat.le_of_ble_eq_true rfl) dX11_modulus_31 (fun H6 locsH6 hOH6 hzH6 hqH6 hS => ?_)
      rw [mf_33] at hOH6
      have hM := MW.obj hM hOH6 hqH6
      refine lv_aload_n hx hb dX11_modulus_34 rfl (lv_at hl 0 rfl) ?_
      refine hk_get (ref := "LightcurveHouseModel") (v := .int 1) X K hM.1 rfl iX11_modulus_X11 33 (by decide) (by decide +kernel) (fun _ h => h) rfl dX11_modulus_35 ?_
      refine lv_if_le (tgt := 45) hx hb dX11_modulus_38 (by decide) (fun c_38 => ?_) (fun c_38 => ?_)
      · exact absurd c_38 (by decide)
      · refine lv_iconst (v := 0) hx hb dX11_modulus_41 (by decide) ?_
        refine lv_goto (tgt := 55) hx hb dX11_modulus_42 (by decide) ?_
        exact hk_iret X hr hlk hQ hS (Nat.le_of_ble_eq_true rfl) (Nat.le_of_ble_eq_true rfl) dX11_modulus_55 (mfin1 (v := 1) hM (by unfold cd_modulus; rw [if_neg c_3]) (by decide) rfl rfl agr_thr)

