abbrev rmX11_featureOf : Room := { frames := 1, cells := 0, slots := 0, locals := 23 }
theorem iX11_featureOf_X11 : ∀ w ∈ wsX110, w ∈ wsX11_featureOf := by decide +kernel
set_option maxHeartbeats 4000000 in
set_option maxRecDepth 100000 in
theorem c_X11_featureOf (E : hk_E) (l : Launch) (H0 : Heap) {mo : Nat} {am : Nat → Nat} {Z : Nat → Prop} {cn : Nat → Nat} {sc : Nat → Int32} {μ : Nat → Nat → Int32} (hM : MW E mo am Z cn sc μ H0) (hns : cn 1 ≤ 12) (hm8 : cn 34 ≤ 80) {e1 what : Int32} (hcl : 0 < sp_clm (μ 3) (μ 4) e1 (cn 1) 0) : hk_M E l yX11_featureOf wsX11_featureOf rmX11_featureOf (fun _ => False) [.ref mo, .int e1, .int what] H0 (fun z H1 => z = some (.int (sp_ftA (μ 35) (μ 36) (cn 34) (sp_clm (μ 3) (μ 4) e1 (cn 1) 0) what)) ∧ H0 = H1) := by
  refine hk_M.ofW (cc := cX11_featureOf) (maxL := 8) (ret := (some .int)) (by decide +kernel) rfl (Nat.le_of_ble_eq_true rfl) ?_
  intro p e s m args below meth c ls Q hQ X hr hlk hnm K hs9 hS hl
  obtain ⟨hx, hb, hml, hown, hts⟩ := id X
  have hAE : ∀ q, (fun _ => False) q → hk_A E q := fun _ h => h.elim
  have hl : lv_has ls 8 [(0, .ref mo), (1, .int e1), (2, .int what)] := hl
  refine lv_iconst (v := 0) hx hb dX11_featureOf_0 (by decide) ?_
  refine lv_topi (fun z_1 ez_1 => ?_)
  have ez_1 : z_1 = nI 0 := ez_1
  subst ez_1
  refine lv_istore_n (lv' := [(3, .int (nI 0)), (0, .ref mo), (1, .int e1), (2, .int what)]) hx hb dX11_featureOf_1 rfl hl (by decide) rfl (fun ls hl => ?_)
  refine lv_iconst (v := 0) hx hb dX11_featureOf_2 (by decide) ?_
  refine lv_topi (fun z_2 ez_2 => ?_)
  have ez_2 : z_2 = nI 0 := ez_2
  subst ez_2
  refine lv_istore (lv' := [(4, .int (nI 0)), (3, .int (nI 0)), (0, .ref mo), (1, .int e1), (2, .int what)]) hx hb dX11_featureOf_3 hl (by decide) rfl (fun ls hl => ?_)
  refine lv_iconst (v := 1) hx hb dX11_featureOf_5 (by decide) ?_
  refine lv_topi (fun z_3 ez_3 => ?_)
  have ez_3 : z_3 = nI 1 := ez_3
  subst ez_3
  refine lv_istore (lv' := [(5, .int (nI 1)), (4, .int (nI 0)), (3, .int (nI 0)), (0, .ref mo), (1, .int e1), (2, .int what)]) hx hb dX11_featureOf_6 hl (by decide) rfl (fun ls hl => ?_)
  have L8 : ∀ (n9 : Nat) (k : Nat), cn 34 + 1 ≤ k + n9 → (k ≤ cn 34 - 1) → ∀ (ls : Array Slot), lv_has ls 8 [(5, .int (nI (k + 1))), (4, .int (nI (sp_fa (μ 35) (μ 36) k))), (3, .int (nI (sp_br (μ 35) (μ 36) k))), (0, .ref mo), (1, .int e1), (2, .int what)] → W p l e rmX11_featureOf s m args below meth c H0 [] 0 0 Q (F0 m 8 ls []) := by
    intro n9
    induction n9 with
    | zero =>
      intro k hm hi1 ls hl
      have hbr : (sp_br (μ 35) (μ 36) k) ≤ k := sp_br_le k
      have hfa : (sp_fa (μ 35) (μ 36) k) ≤ k := sp_fa_le k
      exact absurd hm (by omega)
    | succ n9 ih =>
      intro k hm hi1 ls hl
      have hbr : (sp_br (μ 35) (μ 36) k) ≤ k := sp_br_le k
      have hfa : (sp_fa (μ 35) (μ 36) k) ≤ k := sp_fa_le k
      refine lv_iload hx hb dX11_featureOf_8 (lv_at hl 0 rfl) ?_
      refine lv_aload_n hx hb dX11_featureOf_10 rfl (lv_at hl 3 rfl) ?_
      refine hk_get (ref := "LightcurveHouseModel") (v := .int (nI (cn 34))) X K hM.1 rfl iX11_featureOf_X11 34 (by decide) (by decide +kernel) (fun _ h => h) rfl dX11_featureOf_11 ?_
      refine lv_icmp_ge (tgt := 125) hx hb dX11_featureOf_14 (by decide) (fun c_14 => ?_) (fun c_14 => ?_)
      · have hkk : cn 34 ≤ (k + 1) := (nI_leI (by omega) (by omega)).mp c_14
        refine lv_aload_n hx hb dX11_featureOf_125 rfl (lv_at hl 3 rfl) ?_
        refine lv_iload_n hx hb dX11_featureOf_126 rfl (lv_at hl 4 rfl) ?_
        refine hk_callV 1 (As := [.int e1]) (rest := []) X K hAE hS hl.1 hM.1 rfl (c_X11_claimOf E l H0 hM hns (e1 := e1)) (fun _ h => h.elim) gX11_featureOf_X11_claimOf rfl ⟨rfl, hd_X11_claimOf⟩ rfl ⟨⟨(Nat.le_of_ble_eq_true rfl), (Nat.le_of_ble_eq_true rfl)⟩, (Nat.le_of_ble_eq_true rfl), (Nat.le_of_ble_eq_true rfl)⟩ rfl (Nat.le_of_ble_eq_true rfl) dX11_featureOf_127 (fun v9 H4 locsH4 hp hS hzH4 hkH4 => ?_)
        obtain ⟨hv, hh⟩ := hp
        subst hv; subst hh
        refine lv_istore (lv' := [(5, .int (sp_clm (μ 3) (μ 4) e1 (cn 1) 0)), (4, .int (nI (sp_fa (μ 35) (μ 36) k))), (3, .int (nI (sp_br (μ 35) (μ 36) k))), (0, .ref mo), (1, .int e1), (2, .int what)]) hx hb dX11_featureOf_130 hl (by decide) rfl (fun ls hl => ?_)
        refine lv_iload_n hx hb dX11_featureOf_132 rfl (lv_at hl 5 rfl) ?_
        refine lv_if_ne (tgt := 153) hx hb dX11_featureOf_133 (by decide) (fun c_133 => ?_) (fun c_133 => ?_)
        · refine lv_iload_n hx hb dX11_featureOf_153 rfl (lv_at hl 5 rfl) ?_
          refine lv_iconst (v := 1) hx hb dX11_featureOf_154 (by decide) ?_
          refine lv_icmp_ne (tgt := 163) hx hb dX11_featureOf_155 (by decide) (fun c_155 => ?_) (fun c_155 => ?_)
          · refine lv_aload_n hx hb dX11_featureOf_163 rfl (lv_at hl 3 rfl) ?_
            refine hk_get (ref := "LightcurveHouseModel") (v := .ref (am 36)) X K hM.1 rfl iX11_featureOf_X11 36 (by decide) (by decide +kernel) (fun _ h => h) rfl dX11_featureOf_164 ?_
            refine lv_iload_n hx hb dX11_featureOf_167 rfl (lv_at hl 2 rfl) ?_
            refine hk_ild X K hM.a36 (vp_in_nI (by omega) (by omega)) dX11_featureOf_168 ?_
            rw [show (μ 36) (nI (sp_br (μ 35) (μ 36) k)).toNatClampNeg = μ 36 (sp_br (μ 35) (μ 36) k) from by rw [nI_clamp (show (sp_br (μ 35) (μ 36) k) < 2 ^ 31 by omega)]]
            refine lv_aload_n hx hb dX11_featureOf_169 rfl (lv_at hl 3 rfl) ?_
            refine hk_get (ref := "LightcurveHouseModel") (v := .ref (am 36)) X K hM.1 rfl iX11_featureOf_X11 36 (by decide) (by decide +kernel) (fun _ h => h) rfl dX11_featureOf_170 ?_
            refine lv_iload hx hb dX11_featureOf_173 (lv_at hl 1 rfl) ?_
            refine hk_ild X K hM.a36 (vp_in_nI (by omega) (by omega)) dX11_featureOf_175 ?_
            rw [show (μ 36) (nI (sp_fa (μ 35) (μ 36) k)).toNatClampNeg = μ 36 (sp_fa (μ 35) (μ 36) k) from by rw [nI_clamp (show (sp_fa (μ 35) (μ 36) k) < 2 ^ 31 by omega)]]
            refine lv_isub hx hb dX11_featureOf_176 ?_
            refine lv_iload hx hb dX11_featureOf_177 (lv_at hl 0 rfl) ?_
            refine hk_callS 2 (As := [.int ((μ 36 (sp_br (μ 35) (μ 36) k)) - (μ 36 (sp_fa (μ 35) (μ 36) k))), .int (sp_clm (μ 3) (μ 4) e1 (cn 1) 0)]) (rest := []) X K hAE hS hl.1 (c_X11_remainder E l H0 (n := (μ 36 (sp_br (μ 35) (μ 36) k)) - (μ 36 (sp_fa (μ 35) (μ 36) k))) (d := sp_clm (μ 3) (μ 4) e1 (cn 1) 0) hcl) (fun _ h => h.elim) gX11_featureOf_X11_remainder rfl hd_X11_remainder rfl ⟨⟨(Nat.le_of_ble_eq_true rfl), (Nat.le_of_ble_eq_true rfl)⟩, (Nat.le_of_ble_eq_true rfl), (Nat.le_of_ble_eq_true rfl)⟩ rfl (Nat.le_of_ble_eq_true rfl) dX11_featureOf_179 (fun v9 H5 locsH5 hp hS hzH5 hkH5 => ?_)
            obtain ⟨hv, hh⟩ := hp
            subst hv; subst hh
            refine lv_bipush (v := 100) hx hb dX11_featureOf_182 (by decide) ?_
            refine lv_imul hx hb dX11_featureOf_184 ?_
            refine lv_iload hx hb dX11_featureOf_185 (lv_at hl 0 rfl) ?_
            refine lv_idiv hx hb dX11_featureOf_187 (fun h => by rw [h] at hcl; exact absurd hcl (by decide)) ?_
            exact hk_iret X hr hlk hQ hS (Nat.le_of_ble_eq_true rfl) (Nat.le_of_ble_eq_true rfl) dX11_featureOf_188 (by
              have hkn : k = cn 34 - 1 := by omega
              subst hkn
              exact ⟨by unfold sp_ftA; rw [if_neg c_133, if_neg c_155], rfl⟩)
          · refine lv_iload hx hb dX11_featureOf_158 (lv_at hl 0 rfl) ?_
            refine lv_goto (tgt := 188) hx hb dX11_featureOf_160 (by decide) ?_
            exact hk_iret X hr hlk hQ hS (Nat.le_of_ble_eq_true rfl) (Nat.le_of_ble_eq_true rfl) dX11_featureOf_188 (by
              have hkn : k = cn 34 - 1 := by omega
              subst hkn
              exact ⟨by unfold sp_ftA; rw [if_neg c_133, if_pos c_155], rfl⟩)
        · refine lv_aload_n hx hb dX11_featureOf_136 rfl (lv_at hl 3 rfl) ?_
          refine hk_get (ref := "LightcurveHouseModel") (v := .ref (am 35)) X K hM.1 rfl iX11_featureOf_X11 35 (by decide) (by decide +kernel) (fun _ h => h) rfl dX11_featureOf_137 ?_
          refine lv_iload hx hb dX11_featureOf_140 (lv_at hl 1 rfl) ?_
          refine hk_ild X K hM.a35 (vp_in_nI (by omega) (by omega)) dX11_featureOf_142 ?_
          rw [show (μ 35) (nI (sp_fa (μ 35) (μ 36) k)).toNatClampNeg = μ 35 (sp_fa (μ 35) (μ 36) k) from by rw [nI_clamp (show (sp_fa (μ 35) (μ 36) k) < 2 ^ 31 by omega)]]
          refine lv_aload_n hx hb dX11_featureOf_143 rfl (lv_at hl 3 rfl) ?_
          refine hk_get (ref := "LightcurveHouseModel") (v := .ref (am 35)) X K hM.1 rfl iX11_featureOf_X11 35 (by decide) (by decide +kernel) (fun _ h => h) rfl dX11_featureOf_144 ?_
          refine lv_iload_n hx hb dX11_featureOf_147 rfl (lv_at hl 2 rfl) ?_
          refine hk_ild X K hM.a35 (vp_in_nI (by omega) (by omega)) dX11_featureOf_148 ?_
          rw [show (μ 35) (nI (sp_br (μ 35) (μ 36) k)).toNatClampNeg = μ 35 (sp_br (μ 35) (μ 36) k) from by rw [nI_clamp (show (sp_br (μ 35) (μ 36) k) < 2 ^ 31 by omega)]]
          refine lv_isub hx hb dX11_featureOf_149 ?_
          refine lv_goto (tgt := 188) hx hb dX11_featureOf_150 (by decide) ?_
          exact hk_iret X hr hlk hQ hS (Nat.le_of_ble_eq_true rfl) (Nat.le_of_ble_eq_true rfl) dX11_featureOf_188 (by
            have hkn : k = cn 34 - 1 := by omega
            subst hkn
            exact ⟨by unfold sp_ftA; rw [if_pos c_133], rfl⟩)
      · have hkk : (k + 1) < cn 34 := Nat.lt_of_not_le (fun h => c_14 (nI_le h (by omega)))
        refine lv_aload_n hx hb dX11_featureOf_17 rfl (lv_at hl 3 rfl) ?_
        refine hk_get (ref := "LightcurveHouseModel") (v := .ref (am 35)) X K hM.1 rfl iX11_featureOf_X11 35 (by decide) (by decide +kernel) (fun _ h => h) rfl dX11_featureOf_18 ?_
        refine lv_iload hx hb dX11_featureOf_21 (lv_at hl 0 rfl) ?_
        refine hk_ild X K hM.a35 (vp_in_nI (by omega) (by omega)) dX11_featureOf_23 ?_
        rw [show (μ 35) (nI (k + 1)).toNatClampNeg = μ 35 (k + 1) from by rw [nI_clamp (show (k + 1) < 2 ^ 31 by omega)]]
        refine lv_aload_n hx hb dX11_featureOf_24 rfl (lv_at hl 3 rfl) ?_
        refine hk_get (ref := "LightcurveHouseModel") (v := .ref (am 35)) X K hM.1 rfl iX11_featureOf_X11 35 (by decide) (by decide +kernel) (fun _ h => h) rfl dX11_featureOf_25 ?_
        refine lv_iload_n hx hb dX11_featureOf_28 rfl (lv_at hl 2 rfl) ?_
        refine hk_ild X K hM.a35 (vp_in_nI (by omega) (by omega)) dX11_featureOf_29 ?_
        rw [show (μ 35) (nI (sp_br (μ 35) (μ 36) k)).toNatClampNeg = μ 35 (sp_br (μ 35) (μ 36) k) from by rw [nI_clamp (show (sp_br (μ 35) (μ 36) k) < 2 ^ 31 by omega)]]
        refine lv_isub hx hb dX11_featureOf_30 ?_
        refine lv_topi (fun d6 ed6 => ?_)
        refine lv_istore (lv' := [(6, .int d6), (5, .int (nI (k + 1))), (4, .int (nI (sp_fa (μ 35) (μ 36) k))), (3, .int (nI (sp_br (μ 35) (μ 36) k))), (0, .ref mo), (1, .int e1), (2, .int what)]) hx hb dX11_featureOf_31 hl (by decide) rfl (fun ls hl => ?_)
        refine lv_aload_n hx hb dX11_featureOf_33 rfl (lv_at hl 4 rfl) ?_
        refine hk_get (ref := "LightcurveHouseModel") (v := .ref (am 35)) X K hM.1 rfl iX11_featureOf_X11 35 (by decide) (by decide +kernel) (fun _ h => h) rfl dX11_featureOf_34 ?_
        refine lv_iload hx hb dX11_featureOf_37 (lv_at hl 2 rfl) ?_
        refine hk_ild X K hM.a35 (vp_in_nI (by omega) (by omega)) dX11_featureOf_39 ?_
        rw [show (μ 35) (nI (sp_fa (μ 35) (μ 36) k)).toNatClampNeg = μ 35 (sp_fa (μ 35) (μ 36) k) from by rw [nI_clamp (show (sp_fa (μ 35) (μ 36) k) < 2 ^ 31 by omega)]]
        refine lv_aload_n hx hb dX11_featureOf_40 rfl (lv_at hl 4 rfl) ?_
        refine hk_get (ref := "LightcurveHouseModel") (v := .ref (am 35)) X K hM.1 rfl iX11_featureOf_X11 35 (by decide) (by decide +kernel) (fun _ h => h) rfl dX11_featureOf_41 ?_
        refine lv_iload hx hb dX11_featureOf_44 (lv_at hl 1 rfl) ?_
        refine hk_ild X K hM.a35 (vp_in_nI (by omega) (by omega)) dX11_featureOf_46 ?_
        rw [show (μ 35) (nI (k + 1)).toNatClampNeg = μ 35 (k + 1) from by rw [nI_clamp (show (k + 1) < 2 ^ 31 by omega)]]
        refine lv_isub hx hb dX11_featureOf_47 ?_
        refine lv_topi (fun d7 ed7 => ?_)
        refine lv_istore (lv' := [(7, .int d7), (6, .int d6), (5, .int (nI (k + 1))), (4, .int (nI (sp_fa (μ 35) (μ 36) k))), (3, .int (nI (sp_br (μ 35) (μ 36) k))), (0, .ref mo), (1, .int e1), (2, .int what)]) hx hb dX11_featureOf_48 hl (by decide) rfl (fun ls hl => ?_)
        refine lv_iload hx hb dX11_featureOf_50 (lv_at hl 1 rfl) ?_
        refine lv_if_lt (tgt := 76) hx hb dX11_featureOf_52 (by decide) (fun c_52 => ?_) (fun c_52 => ?_)
        · refine lv_iload hx hb dX11_featureOf_76 (lv_at hl 2 rfl) ?_
          refine lv_goto (tgt := 82) hx hb dX11_featureOf_78 (by decide) ?_
          refine lv_topi (fun b3 eb3 => ?_)
          refine lv_istore_n (lv' := [(3, .int b3), (7, .int d7), (6, .int d6), (5, .int (nI (k + 1))), (4, .int (nI (sp_fa (μ 35) (μ 36) k))), (0, .ref mo), (1, .int e1), (2, .int what)]) hx hb dX11_featureOf_82 rfl hl (by decide) rfl (fun ls hl => ?_)
          have eb3 : b3 = nI (sp_br (μ 35) (μ 36) (k + 1)) := eb3.trans (by rw [sp_br, if_pos (by rw [← ed6]; exact Or.inl c_52)])
          subst eb3
          refine lv_iload hx hb dX11_featureOf_83 (lv_at hl 1 rfl) ?_
          refine lv_if_lt (tgt := 110) hx hb dX11_featureOf_85 (by decide) (fun c_85 => ?_) (fun c_85 => ?_)
          · refine lv_iload hx hb dX11_featureOf_110 (lv_at hl 3 rfl) ?_
            refine lv_goto (tgt := 117) hx hb dX11_featureOf_112 (by decide) ?_
            refine lv_topi (fun b4 eb4 => ?_)
            refine lv_istore (lv' := [(4, .int b4), (3, .int (nI (sp_br (μ 35) (μ 36) (k + 1)))), (7, .int d7), (6, .int d6), (5, .int (nI (k + 1))), (0, .ref mo), (1, .int e1), (2, .int what)]) hx hb dX11_featureOf_117 hl (by decide) rfl (fun ls hl => ?_)
            have eb4 : b4 = nI (sp_fa (μ 35) (μ 36) (k + 1)) := eb4.trans (by rw [sp_fa, if_pos (by rw [← ed7]; exact Or.inl c_85)])
            subst eb4
            obtain ⟨k1, ek1⟩ : ∃ y : Int32, y = (nI (k + 1)) + 1 := ⟨_, rfl⟩
            refine lv_iinc (v := k1) (lv' := [(5, .int k1), (4, .int (nI (sp_fa (μ 35) (μ 36) (k + 1)))), (3, .int (nI (sp_br (μ 35) (μ 36) (k + 1)))), (7, .int d7), (6, .int d6), (0, .ref mo), (1, .int e1), (2, .int what)]) hx hb dX11_featureOf_119 hl (k := 4) rfl (by rw [ek1]; rfl) (by decide) rfl (fun ls hl => ?_)
            rw [nI_1] at ek1
            subst ek1
            refine lv_goto (tgt := 8) hx hb dX11_featureOf_122 (by decide) ?_
            exact ih (k + 1) (by omega) (by omega) _ (lv_sub hl [0, 1, 2, 5, 6, 7] rfl)
          · refine lv_iload hx hb dX11_featureOf_88 (lv_at hl 1 rfl) ?_
            refine lv_if_ne (tgt := 115) hx hb dX11_featureOf_90 (by decide) (fun c_90 => ?_) (fun c_90 => ?_)
            · refine lv_iload hx hb dX11_featureOf_115 (lv_at hl 4 rfl) ?_
              refine lv_topi (fun b4 eb4 => ?_)
              refine lv_istore (lv' := [(4, .int b4), (3, .int (nI (sp_br (μ 35) (μ 36) (k + 1)))), (7, .int d7), (6, .int d6), (5, .int (nI (k + 1))), (0, .ref mo), (1, .int e1), (2, .int what)]) hx hb dX11_featureOf_117 hl (by decide) rfl (fun ls hl => ?_)
              have eb4 : b4 = nI (sp_fa (μ 35) (μ 36) (k + 1)) := eb4.trans (by rw [sp_fa, if_neg (fun g => by rw [← ed7] at g; exact g.elim c_85 (fun g => c_90 g.1))])
              subst eb4
              obtain ⟨k1, ek1⟩ : ∃ y : Int32, y = (nI (k + 1)) + 1 := ⟨_, rfl⟩
              refine lv_iinc (v := k1) (lv' := [(5, .int k1), (4, .int (nI (sp_fa (μ 35) (μ 36) (k + 1)))), (3, .int (nI (sp_br (μ 35) (μ 36) (k + 1)))), (7, .int d7), (6, .int d6), (0, .ref mo), (1, .int e1), (2, .int what)]) hx hb dX11_featureOf_119 hl (k := 4) rfl (by rw [ek1]; rfl) (by decide) rfl (fun ls hl => ?_)
              rw [nI_1] at ek1
              subst ek1
              refine lv_goto (tgt := 8) hx hb dX11_featureOf_122 (by decide) ?_
              exact ih (k + 1) (by omega) (by omega) _ (lv_sub hl [0, 1, 2, 5, 6, 7] rfl)
            · refine lv_aload_n hx hb dX11_featureOf_93 rfl (lv_at hl 5 rfl) ?_
              refine hk_get (ref := "LightcurveHouseModel") (v := .ref (am 36)) X K hM.1 rfl iX11_featureOf_X11 36 (by decide) (by decide +kernel) (fun _ h => h) rfl dX11_featureOf_94 ?_
              refine lv_iload hx hb dX11_featureOf_97 (lv_at hl 3 rfl) ?_
              refine hk_ild X K hM.a36 (vp_in_nI (by omega) (by omega)) dX11_featureOf_99 ?_
              rw [show (μ 36) (nI (k + 1)).toNatClampNeg = μ 36 (k + 1) from by rw [nI_clamp (show (k + 1) < 2 ^ 31 by omega)]]
              refine lv_aload_n hx hb dX11_featureOf_100 rfl (lv_at hl 5 rfl) ?_
              refine hk_get (ref := "LightcurveHouseModel") (v := .ref (am 36)) X K hM.1 rfl iX11_featureOf_X11 36 (by decide) (by decide +kernel) (fun _ h => h) rfl dX11_featureOf_101 ?_
              refine lv_iload hx hb dX11_featureOf_104 (lv_at hl 4 rfl) ?_
              refine hk_ild X K hM.a36 (vp_in_nI (by omega) (by omega)) dX11_featureOf_106 ?_
              rw [show (μ 36) (nI (sp_fa (μ 35) (μ 36) k)).toNatClampNeg = μ 36 (sp_fa (μ 35) (μ 36) k) from by rw [nI_clamp (show (sp_fa (μ 35) (μ 36) k) < 2 ^ 31 by omega)]]
              refine lv_icmp_ge (tgt := 115) hx hb dX11_featureOf_107 (by decide) (fun c_107 => ?_) (fun c_107 => ?_)
              · refine lv_iload hx hb dX11_featureOf_115 (lv_at hl 4 rfl) ?_
                refine lv_topi (fun b4 eb4 => ?_)
                refine lv_istore (lv' := [(4, .int b4), (3, .int (nI (sp_br (μ 35) (μ 36) (k + 1)))), (7, .int d7), (6, .int d6), (5, .int (nI (k + 1))), (0, .ref mo), (1, .int e1), (2, .int what)]) hx hb dX11_featureOf_117 hl (by decide) rfl (fun ls hl => ?_)
                have eb4 : b4 = nI (sp_fa (μ 35) (μ 36) (k + 1)) := eb4.trans (by rw [sp_fa, if_neg (fun g => by rw [← ed7] at g; exact g.elim c_85 (fun g => absurd g.2 (Int32.not_lt.mpr c_107)))])
                subst eb4
                obtain ⟨k1, ek1⟩ : ∃ y : Int32, y = (nI (k + 1)) + 1 := ⟨_, rfl⟩
                refine lv_iinc (v := k1) (lv' := [(5, .int k1), (4, .int (nI (sp_fa (μ 35) (μ 36) (k + 1)))), (3, .int (nI (sp_br (μ 35) (μ 36) (k + 1)))), (7, .int d7), (6, .int d6), (0, .ref mo), (1, .int e1), (2, .int what)]) hx hb dX11_featureOf_119 hl (k := 4) rfl (by rw [ek1]; rfl) (by decide) rfl (fun ls hl => ?_)
                rw [nI_1] at ek1
                subst ek1
                refine lv_goto (tgt := 8) hx hb dX11_featureOf_122 (by decide) ?_
                exact ih (k + 1) (by omega) (by omega) _ (lv_sub hl [0, 1, 2, 5, 6, 7] rfl)
              · refine lv_iload hx hb dX11_featureOf_110 (lv_at hl 3 rfl) ?_
                refine lv_goto (tgt := 117) hx hb dX11_featureOf_112 (by decide) ?_
                refine lv_topi (fun b4 eb4 => ?_)
                refine lv_istore (lv' := [(4, .int b4), (3, .int (nI (sp_br (μ 35) (μ 36) (k + 1)))), (7, .int d7), (6, .int d6), (5, .int (nI (k + 1))), (0, .ref mo), (1, .int e1), (2, .int what)]) hx hb dX11_featureOf_117 hl (by decide) rfl (fun ls hl => ?_)
                have eb4 : b4 = nI (sp_fa (μ 35) (μ 36) (k + 1)) := eb4.trans (by rw [sp_fa, if_pos (by rw [← ed7]; exact Or.inr ⟨c_90, Int32.not_le.mp c_107⟩)])
                subst eb4
                obtain ⟨k1, ek1⟩ : ∃ y : Int32, y = (nI (k + 1)) + 1 := ⟨_, rfl⟩
                refine lv_iinc (v := k1) (lv' := [(5, .int k1), (4, .int (nI (sp_fa (μ 35) (μ 36) (k + 1)))), (3, .int (nI (sp_br (μ 35) (μ 36) (k + 1)))), (7, .int d7), (6, .int d6), (0, .ref mo), (1, .int e1), (2, .int what)]) hx hb dX11_featureOf_119 hl (k := 4) rfl (by rw [ek1]; rfl) (by decide) rfl (fun ls hl => ?_)
                rw [nI_1] at ek1
                subst ek1
                refine lv_goto (tgt := 8) hx hb dX11_featureOf_122 (by decide) ?_
                exact ih (k + 1) (by omega) (by omega) _ (lv_sub hl [0, 1, 2, 5, 6, 7] rfl)
        · refine lv_iload hx hb dX11_featureOf_55 (lv_at hl 1 rfl) ?_
          refine lv_if_ne (tgt := 81) hx hb dX11_featureOf_57 (by decide) (fun c_57 => ?_) (fun c_57 => ?_)
          · refine lv_iload_n hx hb dX11_featureOf_81 rfl (lv_at hl 4 rfl) ?_
            refine lv_topi (fun b3 eb3 => ?_)
            refine lv_istore_n (lv' := [(3, .int b3), (7, .int d7), (6, .int d6), (5, .int (nI (k + 1))), (4, .int (nI (sp_fa (μ 35) (μ 36) k))), (0, .ref mo), (1, .int e1), (2, .int what)]) hx hb dX11_featureOf_82 rfl hl (by decide) rfl (fun ls hl => ?_)
            have eb3 : b3 = nI (sp_br (μ 35) (μ 36) (k + 1)) := eb3.trans (by rw [sp_br, if_neg (fun g => by rw [← ed6] at g; exact g.elim c_52 (fun g => c_57 g.1))])
            subst eb3
            refine lv_iload hx hb dX11_featureOf_83 (lv_at hl 1 rfl) ?_
            refine lv_if_lt (tgt := 110) hx hb dX11_featureOf_85 (by decide) (fun c_85 => ?_) (fun c_85 => ?_)
            · refine lv_iload hx hb dX11_featureOf_110 (lv_at hl 3 rfl) ?_
              refine lv_goto (tgt := 117) hx hb dX11_featureOf_112 (by decide) ?_
              refine lv_topi (fun b4 eb4 => ?_)
              refine lv_istore (lv' := [(4, .int b4), (3, .int (nI (sp_br (μ 35) (μ 36) (k + 1)))), (7, .int d7), (6, .int d6), (5, .int (nI (k + 1))), (0, .ref mo), (1, .int e1), (2, .int what)]) hx hb dX11_featureOf_117 hl (by decide) rfl (fun ls hl => ?_)
              have eb4 : b4 = nI (sp_fa (μ 35) (μ 36) (k + 1)) := eb4.trans (by rw [sp_fa, if_pos (by rw [← ed7]; exact Or.inl c_85)])
              subst eb4
              obtain ⟨k1, ek1⟩ : ∃ y : Int32, y = (nI (k + 1)) + 1 := ⟨_, rfl⟩
              refine lv_iinc (v := k1) (lv' := [(5, .int k1), (4, .int (nI (sp_fa (μ 35) (μ 36) (k + 1)))), (3, .int (nI (sp_br (μ 35) (μ 36) (k + 1)))), (7, .int d7), (6, .int d6), (0, .ref mo), (1, .int e1), (2, .int what)]) hx hb dX11_featureOf_119 hl (k := 4) rfl (by rw [ek1]; rfl) (by decide) rfl (fun ls hl => ?_)
              rw [nI_1] at ek1
              subst ek1
              refine lv_goto (tgt := 8) hx hb dX11_featureOf_122 (by decide) ?_
              exact ih (k + 1) (by omega) (by omega) _ (lv_sub hl [0, 1, 2, 5, 6, 7] rfl)
            · refine lv_iload hx hb dX11_featureOf_88 (lv_at hl 1 rfl) ?_
              refine lv_if_ne (tgt := 115) hx hb dX11_featureOf_90 (by decide) (fun c_90 => ?_) (fun c_90 => ?_)
              · refine lv_iload hx hb dX11_featureOf_115 (lv_at hl 4 rfl) ?_
                refine lv_topi (fun b4 eb4 => ?_)
                refine lv_istore (lv' := [(4, .int b4), (3, .int (nI (sp_br (μ 35) (μ 36) (k + 1)))), (7, .int d7), (6, .int d6), (5, .int (nI (k + 1))), (0, .ref mo), (1, .int e1), (2, .int what)]) hx hb dX11_featureOf_117 hl (by decide) rfl (fun ls hl => ?_)
                have eb4 : b4 = nI (sp_fa (μ 35) (μ 36) (k + 1)) := eb4.trans (by rw [sp_fa, if_neg (fun g => by rw [← ed7] at g; exact g.elim c_85 (fun g => c_90 g.1))])
                subst eb4
                obtain ⟨k1, ek1⟩ : ∃ y : Int32, y = (nI (k + 1)) + 1 := ⟨_, rfl⟩
                refine lv_iinc (v := k1) (lv' := [(5, .int k1), (4, .int (nI (sp_fa (μ 35) (μ 36) (k + 1)))), (3, .int (nI (sp_br (μ 35) (μ 36) (k + 1)))), (7, .int d7), (6, .int d6), (0, .ref mo), (1, .int e1), (2, .int what)]) hx hb dX11_featureOf_119 hl (k := 4) rfl (by rw [ek1]; rfl) (by decide) rfl (fun ls hl => ?_)
                rw [nI_1] at ek1
                subst ek1
                refine lv_goto (tgt := 8) hx hb dX11_featureOf_122 (by decide) ?_
                exact ih (k + 1) (by omega) (by omega) _ (lv_sub hl [0, 1, 2, 5, 6, 7] rfl)
              · refine lv_aload_n hx hb dX11_featureOf_93 rfl (lv_at hl 5 rfl) ?_
                refine hk_get (ref := "LightcurveHouseModel") (v := .ref (am 36)) X K hM.1 rfl iX11_featureOf_X11 36 (by decide) (by decide +kernel) (fun _ h => h) rfl dX11_featureOf_94 ?_
                refine lv_iload hx hb dX11_featureOf_97 (lv_at hl 3 rfl) ?_
                refine hk_ild X K hM.a36 (vp_in_nI (by omega) (by omega)) dX11_featureOf_99 ?_
                rw [show (μ 36) (nI (k + 1)).toNatClampNeg = μ 36 (k + 1) from by rw [nI_clamp (show (k + 1) < 2 ^ 31 by omega)]]
                refine lv_aload_n hx hb dX11_featureOf_100 rfl (lv_at hl 5 rfl) ?_
                refine hk_get (ref := "LightcurveHouseModel") (v := .ref (am 36)) X K hM.1 rfl iX11_featureOf_X11 36 (by decide) (by decide +kernel) (fun _ h => h) rfl dX11_featureOf_101 ?_
                refine lv_iload hx hb dX11_featureOf_104 (lv_at hl 4 rfl) ?_
                refine hk_ild X K hM.a36 (vp_in_nI (by omega) (by omega)) dX11_featureOf_106 ?_
                rw [show (μ 36) (nI (sp_fa (μ 35) (μ 36) k)).toNatClampNeg = μ 36 (sp_fa (μ 35) (μ 36) k) from by rw [nI_clamp (show (sp_fa (μ 35) (μ 36) k) < 2 ^ 31 by omega)]]
                refine lv_icmp_ge (tgt := 115) hx hb dX11_featureOf_107 (by decide) (fun c_107 => ?_) (fun c_107 => ?_)
                · refine lv_iload hx hb dX11_featureOf_115 (lv_at hl 4 rfl) ?_
                  refine lv_topi (fun b4 eb4 => ?_)
                  refine lv_istore (lv' := [(4, .int b4), (3, .int (nI (sp_br (μ 35) (μ 36) (k + 1)))), (7, .int d7), (6, .int d6), (5, .int (nI (k + 1))), (0, .ref mo), (1, .int e1), (2, .int what)]) hx hb dX11_featureOf_117 hl (by decide) rfl (fun ls hl => ?_)
                  have eb4 : b4 = nI (sp_fa (μ 35) (μ 36) (k + 1)) := eb4.trans (by rw [sp_fa, if_neg (fun g => by rw [← ed7] at g; exact g.elim c_85 (fun g => absurd g.2 (Int32.not_lt.mpr c_107)))])
                  subst eb4
                  obtain ⟨k1, ek1⟩ : ∃ y : Int32, y = (nI (k + 1)) + 1 := ⟨_, rfl⟩
                  refine lv_iinc (v := k1) (lv' := [(5, .int k1), (4, .int (nI (sp_fa (μ 35) (μ 36) (k + 1)))), (3, .int (nI (sp_br (μ 35) (μ 36) (k + 1)))), (7, .int d7), (6, .int d6), (0, .ref mo), (1, .int e1), (2, .int what)]) hx hb dX11_featureOf_119 hl (k := 4) rfl (by rw [ek1]; rfl) (by decide) rfl (fun ls hl => ?_)
                  rw [nI_1] at ek1
                  subst ek1
                  refine lv_goto (tgt := 8) hx hb dX11_featureOf_122 (by decide) ?_
                  exact ih (k + 1) (by omega) (by omega) _ (lv_sub hl [0, 1, 2, 5, 6, 7] rfl)
                · refine lv_iload hx hb dX11_featureOf_110 (lv_at hl 3 rfl) ?_
                  refine lv_goto (tgt := 117) hx hb dX11_featureOf_112 (by decide) ?_
                  refine lv_topi (fun b4 eb4 => ?_)
                  refine lv_istore (lv' := [(4, .int b4), (3, .int (nI (sp_br (μ 35) (μ 36) (k + 1)))), (7, .int d7), (6, .int d6), (5, .int (nI (k + 1))), (0, .ref mo), (1, .int e1), (2, .int what)]) hx hb dX11_featureOf_117 hl (by decide) rfl (fun ls hl => ?_)
                  have eb4 : b4 = nI (sp_fa (μ 35) (μ 36) (k + 1)) := eb4.trans (by rw [sp_fa, if_pos (by rw [← ed7]; exact Or.inr ⟨c_90, Int32.not_le.mp c_107⟩)])
                  subst eb4
                  obtain ⟨k1, ek1⟩ : ∃ y : Int32, y = (nI (k + 1)) + 1 := ⟨_, rfl⟩
                  refine lv_iinc (v := k1) (lv' := [(5, .int k1), (4, .int (nI (sp_fa (μ 35) (μ 36) (k + 1)))), (3, .int (nI (sp_br (μ 35) (μ 36) (k + 1)))), (7, .int d7), (6, .int d6), (0, .ref mo), (1, .int e1), (2, .int what)]) hx hb dX11_featureOf_119 hl (k := 4) rfl (by rw [ek1]; rfl) (by decide) rfl (fun ls hl => ?_)
                  rw [nI_1] at ek1
                  subst ek1
                  refine lv_goto (tgt := 8) hx hb dX11_featureOf_122 (by decide) ?_
                  exact ih (k + 1) (by omega) (by omega) _ (lv_sub hl [0, 1, 2, 5, 6, 7] rfl)
          · refine lv_aload_n hx hb dX11_featureOf_60 rfl (lv_at hl 5 rfl) ?_
            refine hk_get (ref := "LightcurveHouseModel") (v := .ref (am 36)) X K hM.1 rfl iX11_featureOf_X11 36 (by decide) (by decide +kernel) (fun _ h => h) rfl dX11_featureOf_61 ?_
            refine lv_iload hx hb dX11_featureOf_64 (lv_at hl 2 rfl) ?_
            refine hk_ild X K hM.a36 (vp_in_nI (by omega) (by omega)) dX11_featureOf_66 ?_
            rw [show (μ 36) (nI (k + 1)).toNatClampNeg = μ 36 (k + 1) from by rw [nI_clamp (show (k + 1) < 2 ^ 31 by omega)]]
            refine lv_aload_n hx hb dX11_featureOf_67 rfl (lv_at hl 5 rfl) ?_
            refine hk_get (ref := "LightcurveHouseModel") (v := .ref (am 36)) X K hM.1 rfl iX11_featureOf_X11 36 (by decide) (by decide +kernel) (fun _ h => h) rfl dX11_featureOf_68 ?_
            refine lv_iload_n hx hb dX11_featureOf_71 rfl (lv_at hl 4 rfl) ?_
            refine hk_ild X K hM.a36 (vp_in_nI (by omega) (by omega)) dX11_featureOf_72 ?_
            rw [show (μ 36) (nI (sp_br (μ 35) (μ 36) k)).toNatClampNeg = μ 36 (sp_br (μ 35) (μ 36) k) from by rw [nI_clamp (show (sp_br (μ 35) (μ 36) k) < 2 ^ 31 by omega)]]
            refine lv_icmp_ge (tgt := 81) hx hb dX11_featureOf_73 (by decide) (fun c_73 => ?_) (fun c_73 => ?_)
            · refine lv_iload_n hx hb dX11_featureOf_81 rfl (lv_at hl 4 rfl) ?_
              refine lv_topi (fun b3 eb3 => ?_)
              refine lv_istore_n (lv' := [(3, .int b3), (7, .int d7), (6, .int d6), (5, .int (nI (k + 1))), (4, .int (nI (sp_fa (μ 35) (μ 36) k))), (0, .ref mo), (1, .int e1), (2, .int what)]) hx hb dX11_featureOf_82 rfl hl (by decide) rfl (fun ls hl => ?_)
              have eb3 : b3 = nI (sp_br (μ 35) (μ 36) (k + 1)) := eb3.trans (by rw [sp_br, if_neg (fun g => by rw [← ed6] at g; exact g.elim c_52 (fun g => absurd g.2 (Int32.not_lt.mpr c_73)))])
              subst eb3
              refine lv_iload hx hb dX11_featureOf_83 (lv_at hl 1 rfl) ?_
              refine lv_if_lt (tgt := 110) hx hb dX11_featureOf_85 (by decide) (fun c_85 => ?_) (fun c_85 => ?_)
              · refine lv_iload hx hb dX11_featureOf_110 (lv_at hl 3 rfl) ?_
                refine lv_goto (tgt := 117) hx hb dX11_featureOf_112 (by decide) ?_
                refine lv_topi (fun b4 eb4 => ?_)
                refine lv_istore (lv' := [(4, .int b4), (3, .int (nI (sp_br (μ 35) (μ 36) (k + 1)))), (7, .int d7), (6, .int d6), (5, .int (nI (k + 1))), (0, .ref mo), (1, .int e1), (2, .int what)]) hx hb dX11_featureOf_117 hl (by decide) rfl (fun ls hl => ?_)
                have eb4 : b4 = nI (sp_fa (μ 35) (μ 36) (k + 1)) := eb4.trans (by rw [sp_fa, if_pos (by rw [← ed7]; exact Or.inl c_85)])
                subst eb4
                obtain ⟨k1, ek1⟩ : ∃ y : Int32, y = (nI (k + 1)) + 1 := ⟨_, rfl⟩
                refine lv_iinc (v := k1) (lv' := [(5, .int k1), (4, .int (nI (sp_fa (μ 35) (μ 36) (k + 1)))), (3, .int (nI (sp_br (μ 35) (μ 36) (k + 1)))), (7, .int d7), (6, .int d6), (0, .ref mo), (1, .int e1), (2, .int what)]) hx hb dX11_featureOf_119 hl (k := 4) rfl (by rw [ek1]; rfl) (by decide) rfl (fun ls hl => ?_)
                rw [nI_1] at ek1
                subst ek1
                refine lv_goto (tgt := 8) hx hb dX11_featureOf_122 (by decide) ?_
                exact ih (k + 1) (by omega) (by omega) _ (lv_sub hl [0, 1, 2, 5, 6, 7] rfl)
              · refine lv_iload hx hb dX11_featureOf_88 (lv_at hl 1 rfl) ?_
                refine lv_if_ne (tgt := 115) hx hb dX11_featureOf_90 (by decide) (fun c_90 => ?_) (fun c_90 => ?_)
                · refine lv_iload hx hb dX11_featureOf_115 (lv_at hl 4 rfl) ?_
                  refine lv_topi (fun b4 eb4 => ?_)
                  refine lv_istore (lv' := [(4, .int b4), (3, .int (nI (sp_br (μ 35) (μ 36) (k + 1)))), (7, .int d7), (6, .int d6), (5, .int (nI (k + 1))), (0, .ref mo), (1, .int e1), (2, .int what)]) hx hb dX11_featureOf_117 hl (by decide) rfl (fun ls hl => ?_)
                  have eb4 : b4 = nI (sp_fa (μ 35) (μ 36) (k + 1)) := eb4.trans (by rw [sp_fa, if_neg (fun g => by rw [← ed7] at g; exact g.elim c_85 (fun g => c_90 g.1))])
                  subst eb4
                  obtain ⟨k1, ek1⟩ : ∃ y : Int32, y = (nI (k + 1)) + 1 := ⟨_, rfl⟩
                  refine lv_iinc (v := k1) (lv' := [(5, .int k1), (4, .int (nI (sp_fa (μ 35) (μ 36) (k + 1)))), (3, .int (nI (sp_br (μ 35) (μ 36) (k + 1)))), (7, .int d7), (6, .int d6), (0, .ref mo), (1, .int e1), (2, .int what)]) hx hb dX11_featureOf_119 hl (k := 4) rfl (by rw [ek1]; rfl) (by decide) rfl (fun ls hl => ?_)
                  rw [nI_1] at ek1
                  subst ek1
                  refine lv_goto (tgt := 8) hx hb dX11_featureOf_122 (by decide) ?_
                  exact ih (k + 1) (by omega) (by omega) _ (lv_sub hl [0, 1, 2, 5, 6, 7] rfl)
                · refine lv_aload_n hx hb dX11_featureOf_93 rfl (lv_at hl 5 rfl) ?_
                  refine hk_get (ref := "LightcurveHouseModel") (v := .ref (am 36)) X K hM.1 rfl iX11_featureOf_X11 36 (by decide) (by decide +kernel) (fun _ h => h) rfl dX11_featureOf_94 ?_
                  refine lv_iload hx hb dX11_featureOf_97 (lv_at hl 3 rfl) ?_
                  refine hk_ild X K hM.a36 (vp_in_nI (by omega) (by omega)) dX11_featureOf_99 ?_
                  rw [show (μ 36) (nI (k + 1)).toNatClampNeg = μ 36 (k + 1) from by rw [nI_clamp (show (k + 1) < 2 ^ 31 by omega)]]
                  refine lv_aload_n hx hb dX11_featureOf_100 rfl (lv_at hl 5 rfl) ?_
                  refine hk_get (ref := "LightcurveHouseModel") (v := .ref (am 36)) X K hM.1 rfl iX11_featureOf_X11 36 (by decide) (by decide +kernel) (fun _ h => h) rfl dX11_featureOf_101 ?_
                  refine lv_iload hx hb dX11_featureOf_104 (lv_at hl 4 rfl) ?_
                  refine hk_ild X K hM.a36 (vp_in_nI (by omega) (by omega)) dX11_featureOf_106 ?_
                  rw [show (μ 36) (nI (sp_fa (μ 35) (μ 36) k)).toNatClampNeg = μ 36 (sp_fa (μ 35) (μ 36) k) from by rw [nI_clamp (show (sp_fa (μ 35) (μ 36) k) < 2 ^ 31 by omega)]]
                  refine lv_icmp_ge (tgt := 115) hx hb dX11_featureOf_107 (by decide) (fun c_107 => ?_) (fun c_107 => ?_)
                  · refine lv_iload hx hb dX11_featureOf_115 (lv_at hl 4 rfl) ?_
                    refine lv_topi (fun b4 eb4 => ?_)
                    refine lv_istore (lv' := [(4, .int b4), (3, .int (nI (sp_br (μ 35) (μ 36) (k + 1)))), (7, .int d7), (6, .int d6), (5, .int (nI (k + 1))), (0, .ref mo), (1, .int e1), (2, .int what)]) hx hb dX11_featureOf_117 hl (by decide) rfl (fun ls hl => ?_)
                    have eb4 : b4 = nI (sp_fa (μ 35) (μ 36) (k + 1)) := eb4.trans (by rw [sp_fa, if_neg (fun g => by rw [← ed7] at g; exact g.elim c_85 (fun g => absurd g.2 (Int32.not_lt.mpr c_107)))])
                    subst eb4
                    obtain ⟨k1, ek1⟩ : ∃ y : Int32, y = (nI (k + 1)) + 1 := ⟨_, rfl⟩
                    refine lv_iinc (v := k1) (lv' := [(5, .int k1), (4, .int (nI (sp_fa (μ 35) (μ 36) (k + 1)))), (3, .int (nI (sp_br (μ 35) (μ 36) (k + 1)))), (7, .int d7), (6, .int d6), (0, .ref mo), (1, .int e1), (2, .int what)]) hx hb dX11_featureOf_119 hl (k := 4) rfl (by rw [ek1]; rfl) (by decide) rfl (fun ls hl => ?_)
                    rw [nI_1] at ek1
                    subst ek1
                    refine lv_goto (tgt := 8) hx hb dX11_featureOf_122 (by decide) ?_
                    exact ih (k + 1) (by omega) (by omega) _ (lv_sub hl [0, 1, 2, 5, 6, 7] rfl)
                  · refine lv_iload hx hb dX11_featureOf_110 (lv_at hl 3 rfl) ?_
                    refine lv_goto (tgt := 117) hx hb dX11_featureOf_112 (by decide) ?_
                    refine lv_topi (fun b4 eb4 => ?_)
                    refine lv_istore (lv' := [(4, .int b4), (3, .int (nI (sp_br (μ 35) (μ 36) (k + 1)))), (7, .int d7), (6, .int d6), (5, .int (nI (k + 1))), (0, .ref mo), (1, .int e1), (2, .int what)]) hx hb dX11_featureOf_117 hl (by decide) rfl (fun ls hl => ?_)
                    have eb4 : b4 = nI (sp_fa (μ 35) (μ 36) (k + 1)) := eb4.trans (by rw [sp_fa, if_pos (by rw [← ed7]; exact Or.inr ⟨c_90, Int32.not_le.mp c_107⟩)])
                    subst eb4
                    obtain ⟨k1, ek1⟩ : ∃ y : Int32, y = (nI (k + 1)) + 1 := ⟨_, rfl⟩
                    refine lv_iinc (v := k1) (lv' := [(5, .int k1), (4, .int (nI (sp_fa (μ 35) (μ 36) (k + 1)))), (3, .int (nI (sp_br (μ 35) (μ 36) (k + 1)))), (7, .int d7), (6, .int d6), (0, .ref mo), (1, .int e1), (2, .int what)]) hx hb dX11_featureOf_119 hl (k := 4) rfl (by rw [ek1]; rfl) (by decide) rfl (fun ls hl => ?_)
                    rw [nI_1] at ek1
                    subst ek1
                    refine lv_goto (tgt := 8) hx hb dX11_featureOf_122 (by decide) ?_
                    exact ih (k + 1) (by omega) (by omega) _ (lv_sub hl [0, 1, 2, 5, 6, 7] rfl)
            · refine lv_iload hx hb dX11_featureOf_76 (lv_at hl 2 rfl) ?_
              refine lv_goto (tgt := 82) hx hb dX11_featureOf_78 (by decide) ?_
              refine lv_topi (fun b3 eb3 => ?_)
              refine lv_istore_n (lv' := [(3, .int b3), (7, .int d7), (6, .int d6), (5, .int (nI (k + 1))), (4, .int (nI (sp_fa (μ 35) (μ 36) k))), (0, .ref mo), (1, .int e1), (2, .int what)]) hx hb dX11_featureOf_82 rfl hl (by decide) rfl (fun ls hl => ?_)
              have eb3 : b3 = nI (sp_br (μ 35) (μ 36) (k + 1)) := eb3.trans (by rw [sp_br, if_pos (by rw [← ed6]; exact Or.inr ⟨c_57, Int32.not_le.mp c_73⟩)])
              subst eb3
              refine lv_iload hx hb dX11_featureOf_83 (lv_at hl 1 rfl) ?_
              refine lv_if_lt (tgt := 110) hx hb dX11_featureOf_85 (by decide) (fun c_85 => ?_) (fun c_85 => ?_)
              · refine lv_iload hx hb dX11_featureOf_110 (lv_at hl 3 rfl) ?_
                refine lv_goto (tgt := 117) hx hb dX11_featureOf_112 (by decide) ?_
                refine lv_topi (fun b4 eb4 => ?_)
                refine lv_istore (lv' := [(4, .int b4), (3, .int (nI (sp_br (μ 35) (μ 36) (k + 1)))), (7, .int d7), (6, .int d6), (5, .int (nI (k + 1))), (0, .ref mo), (1, .int e1), (2, .int what)]) hx hb dX11_featureOf_117 hl (by decide) rfl (fun ls hl => ?_)
                have eb4 : b4 = nI (sp_fa (μ 35) (μ 36) (k + 1)) := eb4.trans (by rw [sp_fa, if_pos (by rw [← ed7]; exact Or.inl c_85)])
                subst eb4
                obtain ⟨k1, ek1⟩ : ∃ y : Int32, y = (nI (k + 1)) + 1 := ⟨_, rfl⟩
                refine lv_iinc (v := k1) (lv' := [(5, .int k1), (4, .int (nI (sp_fa (μ 35) (μ 36) (k + 1)))), (3, .int (nI (sp_br (μ 35) (μ 36) (k + 1)))), (7, .int d7), (6, .int d6), (0, .ref mo), (1, .int e1), (2, .int what)]) hx hb dX11_featureOf_119 hl (k := 4) rfl (by rw [ek1]; rfl) (by decide) rfl (fun ls hl => ?_)
                rw [nI_1] at ek1
                subst ek1
                refine lv_goto (tgt := 8) hx hb dX11_featureOf_122 (by decide) ?_
                exact ih (k + 1) (by omega) (by omega) _ (lv_sub hl [0, 1, 2, 5, 6, 7] rfl)
              · refine lv_iload hx hb dX11_featureOf_88 (lv_at hl 1 rfl) ?_
                refine lv_if_ne (tgt := 115) hx hb dX11_featureOf_90 (by decide) (fun c_90 => ?_) (fun c_90 => ?_)
                · refine lv_iload hx hb dX11_featureOf_115 (lv_at hl 4 rfl) ?_
                  refine lv_topi (fun b4 eb4 => ?_)
                  refine lv_istore (lv' := [(4, .int b4), (3, .int (nI (sp_br (μ 35) (μ 36) (k + 1)))), (7, .int d7), (6, .int d6), (5, .int (nI (k + 1))), (0, .ref mo), (1, .int e1), (2, .int what)]) hx hb dX11_featureOf_117 hl (by decide) rfl (fun ls hl => ?_)
                  have eb4 : b4 = nI (sp_fa (μ 35) (μ 36) (k + 1)) := eb4.trans (by rw [sp_fa, if_neg (fun g => by rw [← ed7] at g; exact g.elim c_85 (fun g => c_90 g.1))])
                  subst eb4
                  obtain ⟨k1, ek1⟩ : ∃ y : Int32, y = (nI (k + 1)) + 1 := ⟨_, rfl⟩
                  refine lv_iinc (v := k1) (lv' := [(5, .int k1), (4, .int (nI (sp_fa (μ 35) (μ 36) (k + 1)))), (3, .int (nI (sp_br (μ 35) (μ 36) (k + 1)))), (7, .int d7), (6, .int d6), (0, .ref mo), (1, .int e1), (2, .int what)]) hx hb dX11_featureOf_119 hl (k := 4) rfl (by rw [ek1]; rfl) (by decide) rfl (fun ls hl => ?_)
                  rw [nI_1] at ek1
                  subst ek1
                  refine lv_goto (tgt := 8) hx hb dX11_featureOf_122 (by decide) ?_
                  exact ih (k + 1) (by omega) (by omega) _ (lv_sub hl [0, 1, 2, 5, 6, 7] rfl)
                · refine lv_aload_n hx hb dX11_featureOf_93 rfl (lv_at hl 5 rfl) ?_
                  refine hk_get (ref := "LightcurveHouseModel") (v := .ref (am 36)) X K hM.1 rfl iX11_featureOf_X11 36 (by decide) (by decide +kernel) (fun _ h => h) rfl dX11_featureOf_94 ?_
                  refine lv_iload hx hb dX11_featureOf_97 (lv_at hl 3 rfl) ?_
                  refine hk_ild X K hM.a36 (vp_in_nI (by omega) (by omega)) dX11_featureOf_99 ?_
                  rw [show (μ 36) (nI (k + 1)).toNatClampNeg = μ 36 (k + 1) from by rw [nI_clamp (show (k + 1) < 2 ^ 31 by omega)]]
                  refine lv_aload_n hx hb dX11_featureOf_100 rfl (lv_at hl 5 rfl) ?_
                  refine hk_get (ref := "LightcurveHouseModel") (v := .ref (am 36)) X K hM.1 rfl iX11_featureOf_X11 36 (by decide) (by decide +kernel) (fun _ h => h) rfl dX11_featureOf_101 ?_
                  refine lv_iload hx hb dX11_featureOf_104 (lv_at hl 4 rfl) ?_
                  refine hk_ild X K hM.a36 (vp_in_nI (by omega) (by omega)) dX11_featureOf_106 ?_
                  rw [show (μ 36) (nI (sp_fa (μ 35) (μ 36) k)).toNatClampNeg = μ 36 (sp_fa (μ 35) (μ 36) k) from by rw [nI_clamp (show (sp_fa (μ 35) (μ 36) k) < 2 ^ 31 by omega)]]
                  refine lv_icmp_ge (tgt := 115) hx hb dX11_featureOf_107 (by decide) (fun c_107 => ?_) (fun c_107 => ?_)
                  · refine lv_iload hx hb dX11_featureOf_115 (lv_at hl 4 rfl) ?_
                    refine lv_topi (fun b4 eb4 => ?_)
                    refine lv_istore (lv' := [(4, .int b4), (3, .int (nI (sp_br (μ 35) (μ 36) (k + 1)))), (7, .int d7), (6, .int d6), (5, .int (nI (k + 1))), (0, .ref mo), (1, .int e1), (2, .int what)]) hx hb dX11_featureOf_117 hl (by decide) rfl (fun ls hl => ?_)
                    have eb4 : b4 = nI (sp_fa (μ 35) (μ 36) (k + 1)) := eb4.trans (by rw [sp_fa, if_neg (fun g => by rw [← ed7] at g; exact g.elim c_85 (fun g => absurd g.2 (Int32.not_lt.mpr c_107)))])
                    subst eb4
                    obtain ⟨k1, ek1⟩ : ∃ y : Int32, y = (nI (k + 1)) + 1 := ⟨_, rfl⟩
                    refine lv_iinc (v := k1) (lv' := [(5, .int k1), (4, .int (nI (sp_fa (μ 35) (μ 36) (k + 1)))), (3, .int (nI (sp_br (μ 35) (μ 36) (k + 1)))), (7, .int d7), (6, .int d6), (0, .ref mo), (1, .int e1), (2, .int what)]) hx hb dX11_featureOf_119 hl (k := 4) rfl (by rw [ek1]; rfl) (by decide) rfl (fun ls hl => ?_)
                    rw [nI_1] at ek1
                    subst ek1
                    refine lv_goto (tgt := 8) hx hb dX11_featureOf_122 (by decide) ?_
                    exact ih (k + 1) (by omega) (by omega) _ (lv_sub hl [0, 1, 2, 5, 6, 7] rfl)
                  · refine lv_iload hx hb dX11_featureOf_110 (lv_at hl 3 rfl) ?_
                    refine lv_goto (tgt := 117) hx hb dX11_featureOf_112 (by decide) ?_
                    refine lv_topi (fun b4 eb4 => ?_)
                    refine lv_istore (lv' := [(4, .int b4), (3, .int (nI (sp_br (μ 35) (μ 36) (k + 1)))), (7, .int d7), (6, .int d6), (5, .int (nI (k + 1))), (0, .ref mo), (1, .int e1), (2, .int what)]) hx hb dX11_featureOf_117 hl (by decide) rfl (fun ls hl => ?_)
                    have eb4 : b4 = nI (sp_fa (μ 35) (μ 36) (k + 1)) := eb4.trans (by rw [sp_fa, if_pos (by rw [← ed7]; exact Or.inr ⟨c_90, Int32.not_le.mp c_107⟩)])
                    subst eb4
                    obtain ⟨k1, ek1⟩ : ∃ y : Int32, y = (nI (k + 1)) + 1 := ⟨_, rfl⟩
                    refine lv_iinc (v := k1) (lv' := [(5, .int k1), (4, .int (nI (sp_fa (μ 35) (μ 36) (k + 1)))), (3, .int (nI (sp_br (μ 35) (μ 36) (k + 1)))), (7, .int d7), (6, .int d6), (0, .ref mo), (1, .int e1), (2, .int what)]) hx hb dX11_featureOf_119 hl (k := 4) rfl (by rw [ek1]; rfl) (by decide) rfl (fun ls hl => ?_)
                    rw [nI_1] at ek1
                    subst ek1
                    refine lv_goto (tgt := 8) hx hb dX11_featureOf_122 (by decide) ?_
                    exact ih (k + 1) (by omega) (by omega) _ (lv_sub hl [0, 1, 2, 5, 6, 7] rfl)
  exact L8 (cn 34 + 1) 0 (by omega) (Nat.zero_le _) _ (lv_sub hl [0, 1, 2, 3, 4, 5] rfl)

