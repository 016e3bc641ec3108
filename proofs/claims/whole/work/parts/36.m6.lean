theorem sp_ren_w {f : Nat → Int32} {e : Int32} {j k : Nat} : sp_ren f e (f j) k j = f j := by
  unfold sp_ren
  by_cases h : j < k ∧ f j = e
  · rw [if_pos h]
  · rw [if_neg h]
/-- how many of the first n stars have entry e -/
def sp_cnt (f : Nat → Int32) (e : Int32) : Nat → Nat
  | 0 => 0
  | n + 1 => sp_cnt f e n + (if f n = e then 1 else 0)
theorem sp_cnt_le {f : Nat → Int32} {e : Int32} (n : Nat) : sp_cnt f e n ≤ n := by
  induction n with
  | zero => exact Nat.le_refl _
  | succ n ih =>
    rw [sp_cnt]
    by_cases h : f n = e
    · rw [if_pos h]; omega
    · rw [if_neg h]; omega
/-- the entries when those of e come to those of w, and then of the lowest star -/
def sp_low1 (f : Nat → Int32) (w e : Int32) (n : Nat) : Int32 := sp_low (sp_ren f e w n) w n (-1)
def sp_mrg (f : Nat → Int32) (w e : Int32) (n : Nat) : Nat → Int32 := sp_ren (sp_ren f e w n) w (sp_low1 f w e n) n
def sp_spl (f : Nat → Int32) (j : Nat) (x : Int32) (n : Nat) : Nat → Int32 := upd (sp_ren (upd f j 12) (f j) (sp_low (upd f j 12) (f j) n (-1)) n) j x
def cd_merge (p0 p1 : Int32) (S : mS) : Int32 := if isS (S.1 1) p0 then (if isS (S.1 1) p1 then (if S.2.2 3 (ix p0) = S.2.2 3 (ix p1) then 2 else 0) else 1) else 1
def an_merge (p0 p1 : Int32) (S : mS) : Int32 := sp_low1 (S.2.2 3) (S.2.2 3 (ix p0)) (S.2.2 3 (ix p1)) (S.1 1)
def st_merge (p0 p1 : Int32) (S : mS) : mS := (S.1, S.2.1, va_up S.2.2 3 (sp_mrg (S.2.2 3) (S.2.2 3 (ix p0)) (S.2.2 3 (ix p1)) (S.1 1)))
theorem hd_X11_renumbers : yX11_renumbers.cls ≠ "java/lang/invoke/MethodHandle" ∧ yX11_renumbers.cls ≠ "java/lang/invoke/VarHandle" ∧ (parseMethodDescriptor yX11_renumbers.desc).map (fun d => d.parameters.length) = some 1 := ⟨by decide, by decide, by decide +kernel⟩
abbrev rmX11_merge : Room := { frames := 2, cells := 0, slots := 0, locals := 43 }
theorem iX11_merge_X11 : ∀ w ∈ wsX110, w ∈ wsX11_merge := by decide +kernel
set_option maxHeartbeats 4000000 in
set_option maxRecDepth 100000 in
theorem c_X11_merge (E : hk_E) (l : Launch) (H0 : Heap) {mo : Nat} {am : Nat → Nat} {Z : Nat → Prop} {cn : Nat → Nat} {sc : Nat → Int32} {μ : Nat → Nat → Int32} (hM : MW E mo am Z cn sc μ H0) (hZ : ∀ q, Z q → hk_A E q) {p0 p1 : Int32} (hns : cn 1 ≤ 12)  : hk_M E l yX11_merge wsX11_merge rmX11_merge (Z) [.ref mo, .int p0, .int p1] H0 (mpost E mo am Z (cd_merge p0 p1 (cn, sc, μ)) (an_merge p0 p1 (cn, sc, μ)) (cn, sc, μ) (st_merge p0 p1 (cn, sc, μ))) := by
  refine hk_M.ofW (cc := cX11_merge) (maxL := 5) (ret := (some .int)) (by decide +kernel) rfl (Nat.le_of_ble_eq_true rfl) ?_
  intro p e s m args below meth c ls Q hQ X hr hlk hnm K hs9 hS hl
  obtain ⟨hx, hb, hml, hown, hts⟩ := id X
  have hAE : ∀ q, (Z) q → hk_A E q := hZ
  have hl : lv_has ls 5 [(0, .ref mo), (1, .int p0), (2, .int p1)] := hl
  refine lv_aload_n hx hb dX11_merge_0 rfl (lv_at hl 0 rfl) ?_
  refine lv_aload_n hx hb dX11_merge_1 rfl (lv_at hl 0 rfl) ?_
  refine lv_iload_n hx hb dX11_merge_2 rfl (lv_at hl 1 rfl) ?_
  refine hk_callV 1 (As := [.int p0]) (rest := [.ref mo]) X K hAE hS hl.1 hM.1 rfl (c_X11_isStar E l H0 hM hns (i := p0)) (fun _ h => h.elim) gX11_merge_X11_isStar rfl ⟨rfl, hd_X11_isStar⟩ rfl ⟨⟨(Nat.le_of_ble_eq_true rfl), (Nat.le_of_ble_eq_true rfl)⟩, (Nat.le_of_ble_eq_true rfl), (Nat.le_of_ble_eq_true rfl)⟩ rfl (Nat.le_of_ble_eq_true rfl) dX11_merge_3 (fun v9 H1 locsH1 hp hS hzH1 hkH1 => ?_)
  obtain ⟨hv, hh⟩ := hp
  subst hh
  rcases hv with ⟨hv, c_3⟩ | ⟨hv, c_3⟩
  · subst hv
    refine lv_if_eq (tgt := 17) hx hb dX11_merge_6 (by decide) (fun c_6 => ?_) (fun c_6 => ?_)
    · exact absurd c_6 (by decide)
    · refine lv_aload_n hx hb dX11_merge_9 rfl (lv_at hl 0 rfl) ?_
      refine lv_iload_n hx hb dX11_merge_10 rfl (lv_at hl 2 rfl) ?_
      refine hk_callV 1 (As := [.int p1]) (rest := [.ref mo]) X K hAE hS hl.1 hM.1 rfl (c_X11_isStar E l H0 hM hns (i := p1)) (fun _ h => h.elim) gX11_merge_X11_isStar rfl ⟨rfl, hd_X11_isStar⟩ rfl ⟨⟨(Nat.le_of_ble_eq_true rfl), (Nat.le_of_ble_eq_true rfl)⟩, (Nat.le_of_ble_eq_true rfl), (Nat.le_of_ble_eq_true rfl)⟩ rfl (Nat.le_of_ble_eq_true rfl) dX11_merge_11 (fun v9 H2 locsH2 hp hS hzH2 hkH2 => ?_)
      obtain ⟨hv, hh⟩ := hp
      subst hh
      rcases hv with ⟨hv, c_11⟩ | ⟨hv, c_11⟩
      · subst hv
        refine lv_if_ne (tgt := 21) hx hb dX11_merge_14 (by decide) (fun c_14 => ?_) (fun c_14 => ?_)
        · refine lv_aload_n hx hb dX11_merge_21 rfl (lv_at hl 0 rfl) ?_
          refine hk_get (ref := "LightcurveHouseModel") (v := .ref (am 3)) X K hM.1 rfl iX11_merge_X11 3 (by decide) (by decide +kernel) (fun _ h => h) rfl dX11_merge_22 ?_
          refine lv_iload_n hx hb dX11_merge_25 rfl (lv_at hl 1 rfl) ?_
          refine hk_ild (f := (μ 3)) X K hM.a3 (vp_isS hns (by omega) c_3) dX11_merge_26 ?_
          refine lv_aload_n hx hb dX11_merge_27 rfl (lv_at hl 0 rfl) ?_
          refine hk_get (ref := "LightcurveHouseModel") (v := .ref (am 3)) X K hM.1 rfl iX11_merge_X11 3 (by decide) (by decide +kernel) (fun _ h => h) rfl dX11_merge_28 ?_
          refine lv_iload_n hx hb dX11_merge_31 rfl (lv_at hl 2 rfl) ?_
          refine hk_ild (f := (μ 3)) X K hM.a3 (vp_isS hns (by omega) c_11) dX11_merge_32 ?_
          refine lv_icmp_ne (tgt := 40) hx hb dX11_merge_33 (by decide) (fun c_33 => ?_) (fun c_33 => ?_)
          · refine lv_iconst (v := 0) hx hb dX11_merge_40 (by decide) ?_
            refine hk_put (ref := "LightcurveHouseModel") X K hM.1 rfl iX11_merge_X11 tyX11 tyX11_ok nmX11 hS hM.2.2.2.2.1 33 (by decide) (by decide +kernel) (fun _ h => h) (by decide +kernel) rfl rfl (Nat.le_of_ble_eq_true rfl) dX11_merge_41 (fun H3 locsH3 hOH3 hzH3 hqH3 hS => ?_)
            rw [mf_33] at hOH3
            have hM := MW.obj hM hOH3 hqH3
            refine lv_aload_n hx hb dX11_merge_44 rfl (lv_at hl 0 rfl) ?_
            refine hk_get (ref := "LightcurveHouseModel") (v := .int 0) X K hM.1 rfl iX11_merge_X11 33 (by decide) (by decide +kernel) (fun _ h => h) rfl dX11_merge_45 ?_
            refine lv_if_le (tgt := 53) hx hb dX11_merge_48 (by decide) (fun c_48 => ?_) (fun c_48 => ?_)
            · refine lv_aload_n hx hb dX11_merge_53 rfl (lv_at hl 0 rfl) ?_
              refine hk_get (ref := "LightcurveHouseModel") (v := .ref (am 3)) X K hM.1 rfl iX11_merge_X11 3 (by decide) (by decide +kernel) (fun _ h => h) rfl dX11_merge_54 ?_
              refine lv_iload_n hx hb dX11_merge_57 rfl (lv_at hl 2 rfl) ?_
              refine hk_ild (f := (μ 3)) X K hM.a3 (vp_isS hns (by omega) c_11) dX11_merge_58 ?_
              refine lv_istore_n (lv' := [(3, .int ((μ 3) p1.toNatClampNeg)), (0, .ref mo), (1, .int p0), (2, .int p1)]) hx hb dX11_merge_59 rfl hl (by decide) rfl (fun ls hl => ?_)
              refine lv_iconst (v := 0) hx hb dX11_merge_60 (by decide) ?_
              refine lv_istore (lv' := [(4, .int 0), (3, .int ((μ 3) p1.toNatClampNeg)), (0, .ref mo), (1, .int p0), (2, .int p1)]) hx hb dX11_merge_61 hl (by decide) rfl (fun ls hl => ?_)
              have L63 : ∀ (n9 : Nat) (k : Nat) (H : Heap) (locs : List Loc), cn 1 + 1 ≤ k + n9 → (k ≤ cn 1 ∧ MW E mo am Z cn (va_up sc 33 0) (va_up μ 3 (sp_ren (μ 3) (μ 3 (ix p1)) (μ 3 (ix p0)) k)) H ∧ va_S Z s.heap H locs) → ∀ (ls : Array Slot), lv_has ls 5 [(4, .int (nI k)), (3, .int (μ 3 (ix p1))), (0, .ref mo), (1, .int p0), (2, .int p1)] → W p l e rmX11_merge s m args below meth c H locs 0 0 Q (F0 m 63 ls []) := by
                intro n9
                induction n9 with
                | zero =>
                  intro k H locs hm hinv ls hl
                  have hi1 := hinv.1
                  have hM := hinv.2.1
                  have hS := hinv.2.2
                  exact absurd hm (by omega)
                | succ n9 ih =>
                  intro k H locs hm hinv ls hl
                  have hi1 := hinv.1
                  have hM := hinv.2.1
                  have hS := hinv.2.2
                  refine lv_iload hx hb dX11_merge_63 (lv_at hl 0 rfl) ?_
                  refine lv_aload_n hx hb dX11_merge_65 rfl (lv_at hl 2 rfl) ?_
                  refine hk_get (ref := "LightcurveHouseModel") (v := .int (nI (cn 1))) X K hM.1 rfl iX11_merge_X11 1 (by decide) (by decide +kernel) (fun _ h => h) rfl dX11_merge_66 ?_
                  refine lv_icmp_ge (tgt := 112) hx hb dX11_merge_69 (by decide) (fun c_69 => ?_) (fun c_69 => ?_)
                  · have hkk : cn 1 ≤ k := (nI_leI (by omega) (by omega)).mp c_69
                    refine lv_aload_n hx hb dX11_merge_112 rfl (lv_at hl 2 rfl) ?_
                    refine lv_aload_n hx hb dX11_merge_113 rfl (lv_at hl 2 rfl) ?_
                    refine hk_get (ref := "LightcurveHouseModel") (v := .ref (am 3)) X K hM.1 rfl iX11_merge_X11 3 (by decide) (by decide +kernel) (fun _ h => h) rfl dX11_merge_114 ?_
                    refine lv_iload_n hx hb dX11_merge_117 rfl (lv_at hl 3 rfl) ?_
                    refine hk_ild (f := (sp_ren (μ 3) (μ 3 (ix p1)) (μ 3 (ix p0)) k)) X K hM.a3 (vp_isS hns (by omega) c_3) dX11_merge_118 ?_
                    rw [show (sp_ren (μ 3) (μ 3 (ix p1)) (μ 3 (ix p0)) k) p0.toNatClampNeg = μ 3 (ix p0) from sp_ren_w]
                    refine hk_callV 1 (As := [.int (μ 3 (ix p0))]) (rest := []) X K hAE hS hl.1 hM.1 rfl (c_X11_renumbers E l H hM hZ hns (p0 := μ 3 (ix p0))) (fun _ h => h) gX11_merge_X11_renumbers rfl ⟨rfl, hd_X11_renumbers⟩ rfl ⟨⟨(Nat.le_of_ble_eq_true rfl), (Nat.le_of_ble_eq_true rfl)⟩, (Nat.le_of_ble_eq_true rfl), (Nat.le_of_ble_eq_true rfl)⟩ rfl (Nat.le_of_ble_eq_true rfl) dX11_merge_119 (fun v9 H4 locsH4 hp hS hzH4 hkH4 => ?_)
                    obtain ⟨hv, hM⟩ := hp
                    subst hv
                    exact hk_iret X hr hlk hQ hS (Nat.le_of_ble_eq_true rfl) (Nat.le_of_ble_eq_true rfl) dX11_merge_122 (by
                      have hkn : k = cn 1 := by omega
                      subst hkn
                      rw [va_up2] at hM
                      exact mfin0 hM (by unfold cd_merge; rw [if_pos c_3, if_pos c_11, if_neg c_33]) rfl rfl agr_thr)
                  · have hkk : k < cn 1 := Nat.lt_of_not_le (fun h => c_69 (nI_le h (by omega)))
                    refine lv_aload_n hx hb dX11_merge_72 rfl (lv_at hl 2 rfl) ?_
                    refine hk_get (ref := "LightcurveHouseModel") (v := .ref (am 3)) X K hM.1 rfl iX11_merge_X11 3 (by decide) (by decide +kernel) (fun _ h => h) rfl dX11_merge_73 ?_
                    refine lv_iload hx hb dX11_merge_76 (lv_at hl 0 rfl) ?_
                    refine lv_aload_n hx hb dX11_merge_78 rfl (lv_at hl 2 rfl) ?_
                    refine hk_get (ref := "LightcurveHouseModel") (v := .ref (am 3)) X K hM.1 rfl iX11_merge_X11 3 (by decide) (by decide +kernel) (fun _ h => h) rfl dX11_merge_79 ?_
                    refine lv_iload hx hb dX11_merge_82 (lv_at hl 0 rfl) ?_
                    refine hk_ild (f := (sp_ren (μ 3) (μ 3 (ix p1)) (μ 3 (ix p0)) k)) X K hM.a3 (vp_in_nI (by omega) (by omega)) dX11_merge_84 ?_
                    rw [show (sp_ren (μ 3) (μ 3 (ix p1)) (μ 3 (ix p0)) k) (nI k).toNatClampNeg = (sp_ren (μ 3) (μ 3 (ix p1)) (μ 3 (ix p0)) k) k from by rw [nI_clamp (show k < 2 ^ 31 by omega)]]
                    refine lv_iload_n hx hb dX11_merge_85 rfl (lv_at hl 1 rfl) ?_
                    refine lv_icmp_ne (tgt := 98) hx hb dX11_merge_86 (by decide) (fun c_86 => ?_) (fun c_86 => ?_)
                    · refine lv_aload_n hx hb dX11_merge_98 rfl (lv_at hl 2 rfl) ?_
                      refine hk_get (ref := "LightcurveHouseModel") (v := .ref (am 3)) X K hM.1 rfl iX11_merge_X11 3 (by decide) (by decide +kernel) (fun _ h => h) rfl dX11_merge_99 ?_
                      refine lv_iload hx hb dX11_merge_102 (lv_at hl 0 rfl) ?_
                      refine hk_ild (f := (sp_ren (μ 3) (μ 3 (ix p1)) (μ 3 (ix p0)) k)) X K hM.a3 (vp_in_nI (by omega) (by omega)) dX11_merge_104 ?_
                      rw [show (sp_ren (μ 3) (μ 3 (ix p1)) (μ 3 (ix p0)) k) (nI k).toNatClampNeg = μ 3 k from by rw [nI_clamp (show k < 2 ^ 31 by omega), sp_ren_at]]
                      refine hk_ist (f := (sp_ren (μ 3) (μ 3 (ix p1)) (μ 3 (ix p0)) k)) X K hM.a3 hS (hM.2.2.2.2.2 3 (by decide)) (vp_in_nI (by omega) (by omega)) dX11_merge_105 (fun H5 locsH5 hIH5 hzH5 hqH5 hS => ?_)
                      rw [show (nI k).toNatClampNeg = k from nI_clamp (by omega)] at hIH5
                      have hM := MW.set hM 3 (by decide) hIH5 hqH5
                      obtain ⟨k1, ek1⟩ : ∃ y : Int32, y = (nI k) + 1 := ⟨_, rfl⟩
                      refine lv_iinc (v := k1) (lv' := [(4, .int k1), (3, .int (μ 3 (ix p1))), (0, .ref mo), (1, .int p0), (2, .int p1)]) hx hb dX11_merge_106 hl (k := 0) rfl (by rw [ek1]; rfl) (by decide) rfl (fun ls hl => ?_)
                      rw [nI_1] at ek1
                      subst ek1
                      refine lv_goto (tgt := 63) hx hb dX11_merge_109 (by decide) ?_
                      exact ih (k + 1) H5 locsH5 (by omega) ⟨by omega, by have h9 := hM; rw [va_up2] at h9; rw [← sp_ren_up, if_neg (fun g => c_86 (sp_ren_at.trans g))]; exact h9, hS⟩ _ (lv_sub hl [0, 1, 2, 3, 4] rfl)
                    · refine lv_aload_n hx hb dX11_merge_89 rfl (lv_at hl 2 rfl) ?_
                      refine hk_get (ref := "LightcurveHouseModel") (v := .ref (am 3)) X K hM.1 rfl iX11_merge_X11 3 (by decide) (by decide +kernel) (fun _ h => h) rfl dX11_merge_90 ?_
                      refine lv_iload_n hx hb dX11_merge_93 rfl (lv_at hl 3 rfl) ?_
                      refine hk_ild (f := (sp_ren (μ 3) (μ 3 (ix p1)) (μ 3 (ix p0)) k)) X K hM.a3 (vp_isS hns (by omega) c_3) dX11_merge_94 ?_
                      rw [show (sp_ren (μ 3) (μ 3 (ix p1)) (μ 3 (ix p0)) k) p0.toNatClampNeg = μ 3 (ix p0) from sp_ren_w]
                      refine lv_goto (tgt := 105) hx hb dX11_merge_95 (by decide) ?_
                      refine hk_ist (f := (sp_ren (μ 3) (μ 3 (ix p1)) (μ 3 (ix p0)) k)) X K hM.a3 hS (hM.2.2.2.2.2 3 (by decide)) (vp_in_nI (by omega) (by omega)) dX11_merge_105 (fun H6 locsH6 hIH6 hzH6 hqH6 hS => ?_)
                      rw [show (nI k).toNatClampNeg = k from nI_clamp (by omega)] at hIH6
                      have hM := MW.set hM 3 (by decide) hIH6 hqH6
                      obtain ⟨k1, ek1⟩ : ∃ y : Int32, y = (nI k) + 1 := ⟨_, rfl⟩
                      refine lv_iinc (v := k1) (lv' := [(4, .int k1), (3, .int (μ 3 (ix p1))), (0, .ref mo), (1, .int p0), (2, .int p1)]) hx hb dX11_merge_106 hl (k := 0) rfl (by rw [ek1]; rfl) (by decide) rfl (fun ls hl => ?_)
                      rw [nI_1] at ek1
                      subst ek1
                      refine lv_goto (tgt := 63) hx hb dX11_merge_109 (by decide) ?_
                      exact ih (k + 1) H6 locsH6 (by omega) ⟨by omega, by have h9 := hM; rw [va_up2] at h9; rw [← sp_ren_up, if_pos (sp_ren_at.symm.trans c_86)]; exact h9, hS⟩ _ (lv_sub hl [0, 1, 2, 3, 4] rfl)
              exact L63 (cn 1 + 1) 0 H3 locsH3 (by omega) ⟨Nat.zero_le _, by rw [sp_ren_0, va_same]; exact hM, hS⟩ _ (lv_sub hl [0, 1, 2, 3, 4] rfl)
            · exact absurd (by decide) c_48
          · refine lv_iconst (v := 2) hx hb dX11_merge_36 (by decide) ?_
            refine lv_goto (tgt := 41) hx hb dX11_merge_37 (by decide) ?_
            refine hk_put (ref := "LightcurveHouseModel") X K hM.1 rfl iX11_merge_X11 tyX11 tyX11_ok nmX11 hS hM.2.2.2.2.1 33 (by decide) (by decide +kernel) (fun _ h => h) (by decide +kernel) rfl rfl (Nat.le_of_ble_eq_true rfl) dX11_merge_41 (fun H7 locsH7 hOH7 hzH7 hqH7 hS => ?_)
            rw [mf_33] at hOH7
            have hM := MW.obj hM hOH7 hqH7
            refine lv_aload_n hx hb dX11_merge_44 rfl (lv_at hl 0 rfl) ?_
            refine hk_get (ref := "LightcurveHouseModel") (v := .int 2) X K hM.1 rfl iX11_merge_X11 33 (by decide) (by decide +kernel) (fun _ h => h) rfl dX11_merge_45 ?_
            refine lv_if_le (tgt := 53) hx hb dX11_merge_48 (by decide) (fun c_48 => ?_) (fun c_48 => ?_)
            · exact absurd c_48 (by decide)
            · refine lv_iconst (v := 0) hx hb dX11_merge_51 (by decide) ?_
              exact hk_iret X hr hlk hQ hS (Nat.le_of_ble_eq_true rfl) (Nat.le_of_ble_eq_true rfl) dX11_merge_52 (mfin1 (v := 2) hM (by unfold cd_merge; rw [if_pos c_3, if_pos c_11, if_pos c_33]) (by decide) rfl rfl agr_thr)
        · exact absurd c_14 (by decide)
      · subst hv
        refine lv_if_ne (tgt := 21) hx hb dX11_merge_14 (by decide) (fun c_14 => ?_) (fun c_14 => ?_)
        · exact absurd rfl c_14
        · refine lv_iconst (v := 1) hx hb dX11_merge_17 (by decide) ?_
          refine lv_goto (tgt := 41) hx hb dX11_merge_18 (by decide) ?_
          refine hk_put (ref := "LightcurveHouseModel") X K hM.1 rfl iX11_merge_X11 tyX11 tyX11_ok nmX11 hS hM.2.2.2.2.1 33 (by decide) (by decide +kernel) (fun _ h => h) (by decide +kernel) rfl rfl (Nat.le_of_ble_eq_true rfl) dX11_merge_41 (fun H8 locsH8 hOH8 hzH8 hqH8 hS => ?_)
          rw [mf_33] at hOH8
          have hM := MW.obj hM hOH8 hqH8
          refine lv_aload_n hx hb dX11_merge_44 rfl (lv_at hl 0 rfl) ?_
          refine hk_get (ref := "LightcurveHouseModel") (v := .int 1) X K hM.1 rfl iX11_merge_X11 33 (by decide) (by decide +kernel) (fun _ h => h) rfl dX11_merge_45 ?_
          refine lv_if_le (tgt := 53) hx hb dX11_merge_48 (by decide) (fun c_48 => ?_) (fun c_48 => ?_)
          · exact absurd c_48 (by decide)
          · refine lv_iconst (v := 0) hx hb dX11_merge_51 (by decide) ?_
            exact hk_iret X hr hlk hQ hS (Nat.le_of_ble_eq_true rfl) (Nat.le_of_ble_eq_true rfl) dX11_merge_52 (mfin1 (v := 1) hM (by unfold cd_merge; rw [if_pos c_3, if_neg c_11]) (by decide) rfl rfl agr_thr)
  · subst hv
    refine lv_if_eq (tgt := 17) hx hb dX11_merge_6 (by decide) (fun c_6 => ?_) (fun c_6 => ?_)
    · refine lv_iconst (v := 1) hx hb dX11_merge_17 (by decide) ?_
      refine lv_goto (tgt := 41) hx hb dX11_merge_18 (by decide) ?_
      refine hk_put (ref := "LightcurveHouseModel") X K hM.1 rfl iX11_merge_X11 tyX11 tyX11_ok nmX11 hS hM.2.2.2.2.1 33 (by decide) (by decide +kernel) (fun _ h => h) (by decide +kernel) rfl rfl (Nat.le_of_ble_eq_true rfl) dX11_merge_41 (fun H9 locsH9 hOH9 hzH9 hqH9 hS => ?_)
      rw [mf_33] at hOH9
      have hM := MW.obj hM hOH9 hqH9
      refine lv_aload_n hx hb dX11_merge_44 rfl (lv_at hl 0 rfl) ?_
      refine hk_get (ref := "LightcurveHouseModel") (v := .int 1) X K hM.1 rfl iX11_merge_X11 33 (by decide) (by decide +kernel) (fun _ h => h) rfl dX11_merge_45 ?_
      refine lv_if_le (tgt := 53) hx hb dX11_merge_48 (by decide) (fun c_48 => ?_) (fun c_48 => ?_)
      · exact absurd c_48 (by decide)
      · refine lv_iconst (v := 0) hx hb dX11_merge_51 (by decide) ?_
        exact hk_iret X hr hlk hQ hS (Nat.le_of_ble_eq_true rfl) (Nat.le_of_ble_eq_true rfl) dX11_merge_52 (mfin1 (v := 1) hM (by unfold cd_merge; rw [if_neg c_3]) (by decide) rfl rfl agr_thr)
    · exact absurd (by decide) c_6

def cd_split (p0 : Int32) (S : mS) : Int32 := if isS (S.1 1) p0 then (if nI (sp_cnt (S.2.2 3) (S.2.2 3 (ix p0)) (S.1 1)) = 1 then 2 else 0) else 1
def an_split (p0 : Int32) (S : mS) : Int32 := sp_low (upd (S.2.2 3) (ix p0) 12) (S.2.2 3 (ix p0)) (S.1 1) (-1)
def st_split (p0 : Int32) (S : mS) : mS := (S.1, S.2.1, va_up S.2.2 3 (sp_spl (S.2.2 3) (ix p0) p0 (S.1 1)))
theorem sp_cnt_1 {f : Nat → Int32} {e : Int32} {k : Nat} (h : f k = e) : nI (sp_cnt f e k) + 1 = nI (sp_cnt f e (k + 1)) := by rw [sp_cnt, if_pos h, nI_1]
theorem sp_cnt_0 {f : Nat → Int32} {e : Int32} {k : Nat} (h : ¬ f k = e) : nI (sp_cnt f e k) + 0 = nI (sp_cnt f e (k + 1)) := by rw [sp_cnt, if_neg h, Nat.add_zero, Int32.add_zero]
abbrev rmX11_split : Room := { frames := 2, cells := 0, slots := 0, locals := 43 }
theorem iX11_split_X11 : ∀ w ∈ wsX110, w ∈ wsX11_split := by decide +kernel
set_option maxHeartbeats 4000000 in
set_option maxRecDepth 100000 in
theorem c_X11_split (E : hk_E) (l : Launch) (H0 : Heap) {mo : Nat} {am : Nat → Nat} {Z : Nat → Prop} {cn : Nat → Nat} {sc : Nat → Int32} {μ : Nat → Nat → Int32} (hM : MW E mo am Z cn sc μ H0) (hZ : ∀ q, Z q → hk_A E q) {p0 : Int32} (hns : cn 1 ≤ 12)  : hk_M E l yX11_split wsX11_split rmX11_split (Z) [.ref mo, .int p0] H0 (mpost E mo am Z (cd_split p0 (cn, sc, μ)) (an_split p0 (cn, sc, μ)) (cn, sc, μ) (st_split p0 (cn, sc, μ))) := by
  refine hk_M.ofW (cc := cX11_split) (maxL := 5) (ret := (some .int)) (by decide +kernel) rfl (Nat.le_of_ble_eq_true rfl) ?_
  intro p e s m args below meth c ls Q hQ X hr hlk hnm K hs9 hS hl
  obtain ⟨hx, hb, hml, hown, hts⟩ := id X
  have hAE : ∀ q, (Z) q → hk_A E q := hZ
  have hl : lv_has ls 5 [(0, .ref mo), (1, .int p0)] := hl
  refine lv_aload_n hx hb dX11_split_0 rfl (lv_at hl 0 rfl) ?_
  refine lv_aload_n hx hb dX11_split_1 rfl (lv_at hl 0 rfl) ?_
  refine lv_iload_n hx hb dX11_split_2 rfl (lv_at hl 1 rfl) ?_
  refine hk_callV 1 (As := [.int p0]) (rest := [.ref mo]) X K hAE hS hl.1 hM.1 rfl (c_X11_isStar E l H0 hM hns (i := p0)) (fun _ h => h.elim) gX11_split_X11_isStar rfl ⟨rfl, hd_X11_isStar⟩ rfl ⟨⟨(Nat.le_of_ble_eq_true rfl), (Nat.le_of_ble_eq_true rfl)⟩, (Nat.le_of_ble_eq_true rfl), (Nat.le_of_ble_eq_true rfl)⟩ rfl (Nat.le_of_ble_eq_true rfl) dX11_split_3 (fun v9 H1 locsH1 hp hS hzH1 hkH1 => ?_)
  obtain ⟨hv, hh⟩ := hp
  subst hh
  rcases hv with ⟨hv, c_3⟩ | ⟨hv, c_3⟩
  · subst hv
    refine lv_if_eq (tgt := 13) hx hb dX11_split_6 (by decide) (fun c_6 => ?_) (fun c_6 => ?_)
    · exact absurd c_6 (by decide)
    · refine lv_iconst (v := 0) hx hb dX11_split_9 (by decide) ?_
      refine lv_goto (tgt := 14) hx hb dX11_split_10 (by decide) ?_
      refine hk_put (ref := "LightcurveHouseModel") X K hM.1 rfl iX11_split_X11 tyX11 tyX11_ok nmX11 hS hM.2.2.2.2.1 33 (by decide) (by decide +kernel) (fun _ h => h) (by decide +kernel) rfl rfl (Nat.le_of_ble_eq_true rfl) dX11_split_14 (fun H2 locsH2 hOH2 hzH2 hqH2 hS => ?_)
      rw [mf_33] at hOH2
      have hM := MW.obj hM hOH2 hqH2
      refine lv_iconst (v := 0) hx hb dX11_split_17 (by decide) ?_
      refine lv_topi (fun z_3 ez_3 => ?_)
      have ez_3 : z_3 = nI 0 := ez_3
      subst ez_3
      refine lv_istore_n (lv' := [(2, .int (nI 0)), (0, .ref mo), (1, .int p0)]) hx hb dX11_split_18 rfl hl (by decide) rfl (fun ls hl => ?_)
      refine lv_iconst (v := 0) hx hb dX11_split_19 (by decide) ?_
      refine lv_topi (fun z_4 ez_4 => ?_)
      have ez_4 : z_4 = nI 0 := ez_4
      subst ez_4
      refine lv_istore_n (lv' := [(3, .int (nI 0)), (2, .int (nI 0)), (0, .ref mo), (1, .int p0)]) hx hb dX11_split_20 rfl hl (by decide) rfl (fun ls hl => ?_)
      have L21 : ∀ (n9 : Nat) (k : Nat), cn 1 + 1 ≤ k + n9 → (k ≤ cn 1) → ∀ (ls : Array Slot), lv_has ls 5 [(3, .int (nI k)), (2, .int (nI (sp_cnt (μ 3) (μ 3 (ix p0)) k))), (0, .ref mo), (1, .int p0)] → W p l e rmX11_split s m args below meth c H2 locsH2 0 0 Q (F0 m 21 ls []) := by
        intro n9
        induction n9 with
        | zero =>
          intro k hm hi1 ls hl
          exact absurd hm (by omega)
        | succ n9 ih =>
          intro k hm hi1 ls hl
          refine lv_iload_n hx hb dX11_split_21 rfl (lv_at hl 0 rfl) ?_
          refine lv_aload_n hx hb dX11_split_22 rfl (lv_at hl 2 rfl) ?_
          refine hk_get (ref := "LightcurveHouseModel") (v := .int (nI (cn 1))) X K hM.1 rfl iX11_split_X11 1 (by decide) (by decide +kernel) (fun _ h => h) rfl dX11_split_23 ?_
          refine lv_icmp_ge (tgt := 65) hx hb dX11_split_26 (by decide) (fun c_26 => ?_) (fun c_26 => ?_)
          · have hkk : cn 1 ≤ k := (nI_leI (by omega) (by omega)).mp c_26
            refine lv_aload_n hx hb dX11_split_65 rfl (lv_at hl 2 rfl) ?_
            refine lv_aload_n hx hb dX11_split_66 rfl (lv_at hl 2 rfl) ?_
            refine hk_get (ref := "LightcurveHouseModel") (v := .int 0) X K hM.1 rfl iX11_split_X11 33 (by decide) (by decide +kernel) (fun _ h => h) rfl dX11_split_67 ?_
            refine lv_if_ne (tgt := 82) hx hb dX11_split_70 (by decide) (fun c_70 => ?_) (fun c_70 => ?_)
            · exact absurd rfl c_70
            · refine lv_iload_n hx hb dX11_split_73 rfl (lv_at hl 1 rfl) ?_
              refine lv_iconst (v := 1) hx hb dX11_split_74 (by decide) ?_
              refine lv_icmp_ne (tgt := 82) hx hb dX11_split_75 (by decide) (fun c_75 => ?_) (fun c_75 => ?_)
              · refine lv_aload_n hx hb dX11_split_82 rfl (lv_at hl 2 rfl) ?_
                refine hk_get (ref := "LightcurveHouseModel") (v := .int 0) X K hM.1 rfl iX11_split_X11 33 (by decide) (by decide +kernel) (fun _ h => h) rfl dX11_split_83 ?_
                refine hk_put (ref := "LightcurveHouseModel") X K hM.1 rfl iX11_split_X11 tyX11 tyX11_ok nmX11 hS hM.2.2.2.2.1 33 (by decide) (by decide +kernel) (fun _ h => h) (by decide +kernel) rfl rfl (Nat.le_of_ble_eq_true rfl) dX11_split_86 (fun H5 locsH5 hOH5 hzH5 hqH5 hS => ?_)
                rw [mf_33] at hOH5
                have hM := MW.obj hM hOH5 hqH5
                rw [va_up2] at hM
                refine lv_aload_n hx hb dX11_split_89 rfl (lv_at hl 2 rfl) ?_
                refine hk_get (ref := "LightcurveHouseModel") (v := .int 0) X K hM.1 rfl iX11_split_X11 33 (by decide) (by decide +kernel) (fun _ h => h) rfl dX11_split_90 ?_
                refine lv_if_le (tgt := 98) hx hb dX11_split_93 (by decide) (fun c_93 => ?_) (fun c_93 => ?_)
                · refine lv_aload_n hx hb dX11_split_98 rfl (lv_at hl 2 rfl) ?_
                  refine hk_get (ref := "LightcurveHouseModel") (v := .ref (am 3)) X K hM.1 rfl iX11_split_X11 3 (by decide) (by decide +kernel) (fun _ h => h) rfl dX11_split_99 ?_
                  refine lv_iload_n hx hb dX11_split_102 rfl (lv_at hl 3 rfl) ?_
                  refine hk_ild (f := (μ 3)) X K hM.a3 (vp_isS hns (by omega) c_3) dX11_split_103 ?_
                  refine lv_istore_n (lv' := [(3, .int ((μ 3) p0.toNatClampNeg)), (2, .int (nI (sp_cnt (μ 3) (μ 3 (ix p0)) k))), (0, .ref mo), (1, .int p0)]) hx hb dX11_split_104 rfl hl (by decide) rfl (fun ls hl => ?_)
                  refine lv_aload_n hx hb dX11_split_105 rfl (lv_at hl 2 rfl) ?_
                  refine hk_get (ref := "LightcurveHouseModel") (v := .ref (am 3)) X K hM.1 rfl iX11_split_X11 3 (by decide) (by decide +kernel) (fun _ h => h) rfl dX11_split_106 ?_
                  refine lv_iload_n hx hb dX11_split_109 rfl (lv_at hl 3 rfl) ?_
                  refine lv_bipush (v := 12) hx hb dX11_split_110 (by decide) ?_
                  refine hk_ist (f := (μ 3)) X K hM.a3 hS (hM.2.2.2.2.2 3 (by decide)) (vp_isS hns (by omega) c_3) dX11_split_112 (fun H6 locsH6 hIH6 hzH6 hqH6 hS => ?_)
                  have hM := MW.set hM 3 (by decide) hIH6 hqH6
                  refine lv_aload_n hx hb dX11_split_113 rfl (lv_at hl 2 rfl) ?_
                  refine lv_iload_n hx hb dX11_split_114 rfl (lv_at hl 0 rfl) ?_
                  refine hk_callV 1 (As := [.int ((μ 3) p0.toNatClampNeg)]) (rest := []) X K hAE hS hl.1 hM.1 rfl (c_X11_renumbers E l H6 hM hZ hns (p0 := (μ 3) p0.toNatClampNeg)) (fun _ h => h) gX11_split_X11_renumbers rfl ⟨rfl, hd_X11_renumbers⟩ rfl ⟨⟨(Nat.le_of_ble_eq_true rfl), (Nat.le_of_ble_eq_true rfl)⟩, (Nat.le_of_ble_eq_true rfl), (Nat.le_of_ble_eq_true rfl)⟩ rfl (Nat.le_of_ble_eq_true rfl) dX11_split_115 (fun v9 H7 locsH7 hp hS hzH7 hkH7 => ?_)
                  obtain ⟨hv, hM⟩ := hp
                  subst hv
                  refine lv_istore (lv' := [(4, .int (sp_low (upd (μ 3) p0.toNatClampNeg 12) ((μ 3) p0.toNatClampNeg) (cn 1) (-1))), (3, .int ((μ 3) p0.toNatClampNeg)), (2, .int (nI (sp_cnt (μ 3) (μ 3 (ix p0)) k))), (0, .ref mo), (1, .int p0)]) hx hb dX11_split_118 hl (by decide) rfl (fun ls hl => ?_)
                  refine lv_aload_n hx hb dX11_split_120 rfl (lv_at hl 3 rfl) ?_
                  refine hk_get (ref := "LightcurveHouseModel") (v := .ref (am 3)) X K hM.1 rfl iX11_split_X11 3 (by decide) (by decide +kernel) (fun _ h => h) rfl dX11_split_121 ?_
                  refine lv_iload_n hx hb dX11_split_124 rfl (lv_at hl 4 rfl) ?_
                  refine lv_iload_n hx hb dX11_split_125 rfl (lv_at hl 4 rfl) ?_
                  refine hk_ist (f := (sp_ren (upd (μ 3) p0.toNatClampNeg 12) ((μ 3) p0.toNatClampNeg) (sp_low (upd (μ 3) p0.toNatClampNeg 12) ((μ 3) p0.toNatClampNeg) (cn 1) (-1)) (cn 1))) X K hM.a3 hS (hM.2.2.2.2.2 3 (by decide)) (vp_isS hns (by omega) c_3) dX11_split_126 (fun H8 locsH8 hIH8 hzH8 hqH8 hS => ?_)
                  have hM := MW.set hM 3 (by decide) hIH8 hqH8
                  refine lv_iload hx hb dX11_split_127 (lv_at hl 0 rfl) ?_
                  exact hk_iret X hr hlk hQ hS (Nat.le_of_ble_eq_true rfl) (Nat.le_of_ble_eq_true rfl) dX11_split_129 (by
                    have hkn : k = cn 1 := by omega
                    subst hkn
                    rw [va_up2, va_up2] at hM
                    exact mfin0 hM (by unfold cd_split; rw [if_pos c_3, if_neg c_75]) rfl rfl agr_thr)
                · exact absurd (by decide) c_93
              · refine lv_iconst (v := 2) hx hb dX11_split_78 (by decide) ?_
                refine lv_goto (tgt := 86) hx hb dX11_split_79 (by decide) ?_
                refine hk_put (ref := "LightcurveHouseModel") X K hM.1 rfl iX11_split_X11 tyX11 tyX11_ok nmX11 hS hM.2.2.2.2.1 33 (by decide) (by decide +kernel) (fun _ h => h) (by decide +kernel) rfl rfl (Nat.le_of_ble_eq_true rfl) dX11_split_86 (fun H9 locsH9 hOH9 hzH9 hqH9 hS => ?_)
                rw [mf_33] at hOH9
                have hM := MW.obj hM hOH9 hqH9
                rw [va_up2] at hM
                refine lv_aload_n hx hb dX11_split_89 rfl (lv_at hl 2 rfl) ?_
                refine hk_get (ref := "LightcurveHouseModel") (v := .int 2) X K hM.1 rfl iX11_split_X11 33 (by decide) (by decide +kernel) (fun _ h => h) rfl dX11_split_90 ?_
                refine lv_if_le (tgt := 98) hx hb dX11_split_93 (by decide) (fun c_93 => ?_) (fun c_93 => ?_)
                · exact absurd c_93 (by decide)
                · refine lv_iconst (v := 0) hx hb dX11_split_96 (by decide) ?_
                  exact hk_iret X hr hlk hQ hS (Nat.le_of_ble_eq_true rfl) (Nat.le_of_ble_eq_true rfl) dX11_split_97 (mfin1 (v := 2) hM (by unfold cd_split; rw [if_pos c_3, if_pos (by have h9 := c_75; rw [show k = cn 1 from by omega] at h9; exact h9)]) (by decide) rfl rfl agr_thr)
          · have hkk : k < cn 1 := Nat.lt_of_not_le (fun h => c_26 (nI_le h (by omega)))
            refine lv_aload_n hx hb dX11_split_29 rfl (lv_at hl 2 rfl) ?_
            refine hk_get (ref := "LightcurveHouseModel") (v := .int 0) X K hM.1 rfl iX11_split_X11 33 (by decide) (by decide +kernel) (fun _ h => h) rfl dX11_split_30 ?_
            refine lv_if_ne (tgt := 65) hx hb dX11_split_33 (by decide) (fun c_33 => ?_) (fun c_33 => ?_)
            · exact absurd rfl c_33
            · refine lv_iload_n hx hb dX11_split_36 rfl (lv_at hl 1 rfl) ?_
              refine lv_aload_n hx hb dX11_split_37 rfl (lv_at hl 2 rfl) ?_
              refine hk_get (ref := "LightcurveHouseModel") (v := .ref (am 3)) X K hM.1 rfl iX11_split_X11 3 (by decide) (by decide +kernel) (fun _ h => h) rfl dX11_split_38 ?_
              refine lv_iload_n hx hb dX11_split_41 rfl (lv_at hl 0 rfl) ?_
              refine hk_ild (f := (μ 3)) X K hM.a3 (vp_in_nI (by omega) (by omega)) dX11_split_42 ?_
              rw [show (μ 3) (nI k).toNatClampNeg = μ 3 k from by rw [nI_clamp (show k < 2 ^ 31 by omega)]]
              refine lv_aload_n hx hb dX11_split_43 rfl (lv_at hl 2 rfl) ?_
              refine hk_get (ref := "LightcurveHouseModel") (v := .ref (am 3)) X K hM.1 rfl iX11_split_X11 3 (by decide) (by decide +kernel) (fun _ h => h) rfl dX11_split_44 ?_
              refine lv_iload_n hx hb dX11_split_47 rfl (lv_at hl 3 rfl) ?_
              refine hk_ild (f := (μ 3)) X K hM.a3 (vp_isS hns (by omega) c_3) dX11_split_48 ?_
              refine lv_icmp_ne (tgt := 56) hx hb dX11_split_49 (by decide) (fun c_49 => ?_) (fun c_49 => ?_)
              · refine lv_iconst (v := 0) hx hb dX11_split_56 (by decide) ?_
                refine lv_iadd hx hb dX11_split_57 ?_
                refine lv_topi (fun s1 es1 => ?_)
                rw [sp_cnt_0 c_49] at es1
                subst es1
                refine lv_istore_n (lv' := [(2, .int (nI (sp_cnt (μ 3) (μ 3 (ix p0)) (k + 1)))), (3, .int (nI k)), (0, .ref mo), (1, .int p0)]) hx hb dX11_split_58 rfl hl (by decide) rfl (fun ls hl => ?_)
                obtain ⟨k1, ek1⟩ : ∃ y : Int32, y = (nI k) + 1 := ⟨_, rfl⟩
                refine lv_iinc (v := k1) (lv' := [(3, .int k1), (2, .int (nI (sp_cnt (μ 3) (μ 3 (ix p0)) (k + 1)))), (0, .ref mo), (1, .int p0)]) hx hb dX11_split_59 hl (k := 1) rfl (by rw [ek1]; rfl) (by decide) rfl (fun ls hl => ?_)
                rw [nI_1] at ek1
                subst ek1
                refine lv_goto (tgt := 21) hx hb dX11_split_62 (by decide) ?_
                exact ih (k + 1) (by omega) (by omega) _ (lv_sub hl [0, 1, 2, 3] rfl)
              · refine lv_iconst (v := 1) hx hb dX11_split_52 (by decide) ?_
                refine lv_goto (tgt := 57) hx hb dX11_split_53 (by decide) ?_
                refine lv_iadd hx hb dX11_split_57 ?_
                refine lv_topi (fun s1 es1 => ?_)
                rw [sp_cnt_1 c_49] at es1
                subst es1
                refine lv_istore_n (lv' := [(2, .int (nI (sp_cnt (μ 3) (μ 3 (ix p0)) (k + 1)))), (3, .int (nI k)), (0, .ref mo), (1, .int p0)]) hx hb dX11_split_58 rfl hl (by decide) rfl (fun ls hl => ?_)
                obtain ⟨k1, ek1⟩ : ∃ y : Int32, y = (nI k) + 1 := ⟨_, rfl⟩
                refine lv_iinc (v := k1) (lv' := [(3, .int k1), (2, .int (nI (sp_cnt (μ 3) (μ 3 (ix p0)) (k + 1)))), (0, .ref mo), (1, .int p0)]) hx hb dX11_split_59 hl (k := 1) rfl (by rw [ek1]; rfl) (by decide) rfl (fun ls hl => ?_)
                rw [nI_1] at ek1
                subst ek1
                refine lv_goto (tgt := 21) hx hb dX11_split_62 (by decide) ?_
                exact ih (k + 1) (by omega) (by omega) _ (lv_sub hl [0, 1, 2, 3] rfl)
      exact L21 (cn 1 + 1) 0 (by omega) (Nat.zero_le _) _ (lv_sub hl [0, 1, 2, 3] rfl)
  · subst hv
    refine lv_if_eq (tgt := 13) hx hb dX11_split_6 (by decide) (fun c_6 => ?_) (fun c_6 => ?_)
    · refine lv_iconst (v := 1) hx hb dX11_split_13 (by decide) ?_
      refine hk_put (ref := "LightcurveHouseModel") X K hM.1 rfl iX11_split_X11 tyX11 tyX11_ok nmX11 hS hM.2.2.2.2.1 33 (by decide) (by decide +kernel) (fun _ h => h) (by decide +kernel) rfl rfl (Nat.le_of_ble_eq_true rfl) dX11_split_14 (fun H10 locsH10 hOH10 hzH10 hqH10 hS => ?_)
      rw [mf_33] at hOH10
      have hM := MW.obj hM hOH10 hqH10
      refine lv_iconst (v := 0) hx hb dX11_split_17 (by decide) ?_
      refine lv_topi (fun z_11 ez_11 => ?_)
      have ez_11 : z_11 = nI 0 := ez_11
      subst ez_11
      refine lv_istore_n (lv' := [(2, .int (nI 0)), (0, .ref mo), (1, .int p0)]) hx hb dX11_split_18 rfl hl (by decide) rfl (fun ls hl => ?_)
      refine lv_iconst (v := 0) hx hb dX11_split_19 (by decide) ?_
      refine lv_topi (fun z_12 ez_12 => ?_)
      have ez_12 : z_12 = nI 0 := ez_12
      subst ez_12
      refine lv_istore_n (lv' := [(3, .int (nI 0)), (2, .int (nI 0)), (0, .ref mo), (1, .int p0)]) hx hb dX11_split_20 rfl hl (by decide) rfl (fun ls hl => ?_)
      have L21 : ∀ (n9 : Nat) (k : Nat), cn 1 + 1 ≤ k + n9 → (k ≤ cn 1) → ∀ (ls : Array Slot), lv_has ls 5 [(3, .int (nI k)), (2, .int (nI (sp_cnt (μ 3) (μ 3 (ix p0)) k))), (0, .ref mo), (1, .int p0)] → W p l e rmX11_split s m args below meth c H10 locsH10 0 0 Q (F0 m 21 ls []) := by
        intro n9
        induction n9 with
        | zero =>
          intro k hm hi1 ls hl
          exact absurd hm (by omega)
        | succ n9 ih =>
          intro k hm hi1 ls hl
          refine lv_iload_n hx hb dX11_split_21 rfl (lv_at hl 0 rfl) ?_
          refine lv_aload_n hx hb dX11_split_22 rfl (lv_at hl 2 rfl) ?_
          refine hk_get (ref := "LightcurveHouseModel") (v := .int (nI (cn 1))) X K hM.1 rfl iX11_split_X11 1 (by decide) (by decide +kernel) (fun _ h => h) rfl dX11_split_23 ?_
          refine lv_icmp_ge (tgt := 65) hx hb dX11_split_26 (by decide) (fun c_26 => ?_) (fun c_26 => ?_)
          · have hkk : cn 1 ≤ k := (nI_leI (by omega) (by omega)).mp c_26
            refine lv_aload_n hx hb dX11_split_65 rfl (lv_at hl 2 rfl) ?_
            refine lv_aload_n hx hb dX11_split_66 rfl (lv_at hl 2 rfl) ?_
            refine hk_get (ref := "LightcurveHouseModel") (v := .int 1) X K hM.1 rfl iX11_split_X11 33 (by decide) (by decide +kernel) (fun _ h => h) rfl dX11_split_67 ?_
            refine lv_if_ne (tgt := 82) hx hb dX11_split_70 (by decide) (fun c_70 => ?_) (fun c_70 => ?_)
            · refine lv_aload_n hx hb dX11_split_82 rfl (lv_at hl 2 rfl) ?_
              refine hk_get (ref := "LightcurveHouseModel") (v := .int 1) X K hM.1 rfl iX11_split_X11 33 (by decide) (by decide +kernel) (fun _ h => h) rfl dX11_split_83 ?_
              refine hk_put (ref := "LightcurveHouseModel") X K hM.1 rfl iX11_split_X11 tyX11 tyX11_ok nmX11 hS hM.2.2.2.2.1 33 (by decide) (by decide +kernel) (fun _ h => h) (by decide +kernel) rfl rfl (Nat.le_of_ble_eq_true rfl) dX11_split_86 (fun H13 locsH13 hOH13 hzH13 hqH13 hS => ?_)
              rw [mf_33] at hOH13
              have hM := MW.obj hM hOH13 hqH13
              rw [va_up2] at hM
              refine lv_aload_n hx hb dX11_split_89 rfl (lv_at hl 2 rfl) ?_
              refine hk_get (ref := "LightcurveHouseModel") (v := .int 1) X K hM.1 rfl iX11_split_X11 33 (by decide) (by decide +kernel) (fun _ h => h) rfl dX11_split_90 ?_
              refine lv_if_le (tgt := 98) hx hb dX11_split_93 (by decide) (fun c_93 => ?_) (fun c_93 => ?_)
              · exact absurd c_93 (by decide)
              · refine lv_iconst (v := 0) hx hb dX11_split_96 (by decide) ?_
                exact hk_iret X hr hlk hQ hS (Nat.le_of_ble_eq_true rfl) (Nat.le_of_ble_eq_true rfl) dX11_split_97 (mfin1 (v := 1) hM (by unfold cd_split; rw [if_neg c_3]) (by decide) rfl rfl agr_thr)
            · exact absurd c_70 (by decide)
          · have hkk : k < cn 1 := Nat.lt_of_not_le (fun h => c_26 (nI_le h (by omega)))
            refine lv_aload_n hx hb dX11_split_29 rfl (lv_at hl 2 rfl) ?_
            refine hk_get (ref := "LightcurveHouseModel") (v := .int 1) X K hM.1 rfl iX11_split_X11 33 (by decide) (by decide +kernel) (fun _ h => h) rfl dX11_split_30 ?_
            refine lv_if_ne (tgt := 65) hx hb dX11_split_33 (by decide) (fun c_33 => ?_) (fun c_33 => ?_)
            · refine lv_aload_n hx hb dX11_split_65 rfl (lv_at hl 2 rfl) ?_
              refine lv_aload_n hx hb dX11_split_66 rfl (lv_at hl 2 rfl) ?_
              refine hk_get (ref := "LightcurveHouseModel") (v := .int 1) X K hM.1 rfl iX11_split_X11 33 (by decide) (by decide +kernel) (fun _ h => h) rfl dX11_split_67 ?_
              refine lv_if_ne (tgt := 82) hx hb dX11_split_70 (by decide) (fun c_70 => ?_) (fun c_70 => ?_)
              · refine lv_aload_n hx hb dX11_split_82 rfl (lv_at hl 2 rfl) ?_
                refine hk_get (ref := "LightcurveHouseModel") (v := .int 1) X K hM.1 rfl iX11_split_X11 33 (by decide) (by decide +kernel) (fun _ h => h) rfl dX11_split_83 ?_
                refine hk_put (ref := "LightcurveHouseModel") X K hM.1 rfl iX11_split_X11 tyX11 tyX11_ok nmX11 hS hM.2.2.2.2.1 33 (by decide) (by decide +kernel) (fun _ h => h) (by decide +kernel) rfl rfl (Nat.le_of_ble_eq_true rfl) dX11_split_86 (fun H14 locsH14 hOH14 hzH14 hqH14 hS => ?_)
                rw [mf_33] at hOH14
                have hM := MW.obj hM hOH14 hqH14
                rw [va_up2] at hM
                refine lv_aload_n hx hb dX11_split_89 rfl (lv_at hl 2 rfl) ?_
                refine hk_get (ref := "LightcurveHouseModel") (v := .int 1) X K hM.1 rfl iX11_split_X11 33 (by decide) (by decide +kernel) (fun _ h => h) rfl dX11_split_90 ?_
                refine lv_if_le (tgt := 98) hx hb dX11_split_93 (by decide) (fun c_93 => ?_) (fun c_93 => ?_)
                · exact absurd c_93 (by decide)
                · refine lv_iconst (v := 0) hx hb dX11_split_96 (by decide) ?_
                  exact hk_iret X hr hlk hQ hS (Nat.le_of_ble_eq_true rfl) (Nat.le_of_ble_eq_true rfl) dX11_split_97 (mfin1 (v := 1) hM (by unfold cd_split; rw [if_neg c_3]) (by decide) rfl rfl agr_thr)
              · exact absurd c_70 (by decide)
            · exact absurd c_33 (by decide)
      exact L21 (cn 1 + 1) 0 (by omega) (Nat.zero_le _) _ (lv_sub hl [0, 1, 2, 3] rfl)
    · exact absurd (by decide) c_6

