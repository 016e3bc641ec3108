/-- where a time comes among the first of f, from behind -/
def jpT (f : Nat → Int32) (t : Int32) : Nat → Nat
  | 0 => 0
  | j + 1 => if f j ≤ t then j + 1 else jpT f t j
def sp_mt (μ : Nat → Nat → Int32) (i : Nat) : Int32 := μ 31 i + sp_late μ (μ 31 i) (ix (μ 30 i))
/-- the times of an entry's minima, in order, and how many -/
def layA (μ : Nat → Nat → Int32) (e : Int32) (g : Nat → Int32) : Nat → (Nat → Int32) × Nat
  | 0 => (g, 0)
  | i + 1 => if μ 3 (ix (μ 30 i)) = e then (insA (layA μ e g i).1 (jpT (layA μ e g i).1 (sp_mt μ i) (layA μ e g i).2) (sp_mt μ i) (layA μ e g i).2, (layA μ e g i).2 + 1) else layA μ e g i
theorem layA_y {μ : Nat → Nat → Int32} {e : Int32} {g G : Nat → Int32} {i m j : Nat} (h : layA μ e g i = (G, m)) (c : μ 3 (ix (μ 30 i)) = e) (hj : jpT G (sp_mt μ i) m = j) : layA μ e g (i + 1) = (insA G j (sp_mt μ i) m, m + 1) := by
  rw [layA, if_pos c, h]
  show (insA G (jpT G (sp_mt μ i) m) (sp_mt μ i) m, m + 1) = _
  rw [hj]
theorem layA_n {μ : Nat → Nat → Int32} {e : Int32} {g : Nat → Int32} {i : Nat} {x : (Nat → Int32) × Nat} (h : layA μ e g i = x) (c : ¬ μ 3 (ix (μ 30 i)) = e) : layA μ e g (i + 1) = x := by
  rw [layA, if_neg c, h]
theorem up_rf {α : Type} {f : Nat → α} {k : Nat} : va_up f k (f k) = f := va_same
theorem sp_late_39 {μ : Nat → Nat → Int32} {g : Nat → Int32} {a : Int32} {b : Nat} : sp_late (va_up μ 39 g) a b = sp_late μ a b := rfl
abbrev rmX11_lays : Room := { frames := 1, cells := 0, slots := 0, locals := 24 }
theorem iX11_lays_X11 : ∀ w ∈ wsX110, w ∈ wsX11_lays := by decide +kernel
set_option maxHeartbeats 4000000 in
set_option maxRecDepth 100000 in
theorem c_X11_lays (E : hk_E) (l : Launch) (H0 : Heap) {mo : Nat} {am : Nat → Nat} {Z : Nat → Prop} {cn : Nat → Nat} {sc : Nat → Int32} {μ : Nat → Nat → Int32} (hM : MW E mo am Z cn sc μ H0) (hZ : ∀ q, Z q → hk_A E q) (hI : Inv (cn, sc, μ)) {e1 : Int32} : hk_M E l yX11_lays wsX11_lays rmX11_lays (Z) [.ref mo, .int e1] H0 (fun z H1 => z = none ∧ MW E mo am Z (va_up cn 38 (layA μ e1 (μ 39) (cn 29)).2) sc (va_up μ 39 (layA μ e1 (μ 39) (cn 29)).1) H1) := by
  refine hk_M.ofW (cc := cX11_lays) (maxL := 5) (ret := none) (by decide +kernel) rfl (Nat.le_of_ble_eq_true rfl) ?_
  intro p e s m args below meth c ls Q hQ X hr hlk hnm K hs9 hS hl
  obtain ⟨hx, hb, hml, hown, hts⟩ := id X
  have hAE : ∀ q, (Z) q → hk_A E q := hZ
  have hl : lv_has ls 5 [(0, .ref mo), (1, .int e1)] := hl
  have hnl := hI.1.2.2.1
  have hns := hI.1.1
  have hnp := hI.1.2.1
  dsimp only at hnl hns hnp
  have hni := hI.1.2.2.2.2
  dsimp only at hni
  refine lv_aload_n hx hb dX11_lays_0 rfl (lv_at hl 0 rfl) ?_
  refine lv_iconst (v := 0) hx hb dX11_lays_1 (by decide) ?_
  refine lv_topi (fun z_1 ez_1 => ?_)
  have ez_1 : z_1 = nI 0 := ez_1
  subst ez_1
  refine hk_put (ref := "LightcurveHouseModel") X K hM.1 rfl iX11_lays_X11 tyX11 tyX11_ok nmX11 hS hM.2.2.2.2.1 38 (by decide) (by decide +kernel) (fun _ h => h) (by decide +kernel) rfl rfl (Nat.le_of_ble_eq_true rfl) dX11_lays_2 (fun H2 locsH2 hOH2 hzH2 hqH2 hS => ?_)
  rw [mf_38] at hOH2
  have hM := MW.obj hM hOH2 hqH2
  refine lv_iconst (v := 0) hx hb dX11_lays_5 (by decide) ?_
  refine lv_topi (fun z_3 ez_3 => ?_)
  have ez_3 : z_3 = nI 0 := ez_3
  subst ez_3
  refine lv_istore_n (lv' := [(2, .int (nI 0)), (0, .ref mo), (1, .int e1)]) hx hb dX11_lays_6 rfl hl (by decide) rfl (fun ls hl => ?_)
  have L7 : ∀ (n9 : Nat) (k mm : Nat) (G : Nat → Int32) (H : Heap) (locs : List Loc), cn 29 + 1 ≤ k + n9 → (k ≤ cn 29 ∧ mm ≤ k ∧ layA μ e1 (μ 39) k = (G, mm) ∧ MW E mo am Z (va_up cn 38 mm) sc (va_up μ 39 G) H ∧ va_S Z s.heap H locs) → ∀ (ls : Array Slot), lv_has ls 5 [(2, .int (nI k)), (0, .ref mo), (1, .int e1)] → W p l e rmX11_lays s m args below meth c H locs 0 0 Q (F0 m 7 ls []) := by
    intro n9
    induction n9 with
    | zero =>
      intro k mm G H locs hm hinv ls hl
      obtain ⟨hi1, hmk, hly, hM, hS⟩ := hinv
      exact absurd hm (by omega)
    | succ n9 ih =>
      intro k mm G H locs hm hinv ls hl
      obtain ⟨hi1, hmk, hly, hM, hS⟩ := hinv
      refine lv_iload_n hx hb dX11_lays_7 rfl (lv_at hl 0 rfl) ?_
      refine lv_aload_n hx hb dX11_lays_8 rfl (lv_at hl 1 rfl) ?_
      refine hk_get (ref := "LightcurveHouseModel") (v := .int (nI (cn 29))) X K hM.1 rfl iX11_lays_X11 29 (by decide) (by decide +kernel) (fun _ h => h) rfl dX11_lays_9 ?_
      refine lv_icmp_ge (tgt := 124) hx hb dX11_lays_12 (by decide) (fun c_12 => ?_) (fun c_12 => ?_)
      · have hkk : cn 29 ≤ k := (nI_leI (by omega) (by omega)).mp c_12
        exact hk_vret X hr hlk hQ hS (Nat.le_of_ble_eq_true rfl) (Nat.le_of_ble_eq_true rfl) dX11_lays_124 (by
          have hkn : k = cn 29 := by omega
          subst hkn
          exact ⟨rfl, by rw [hly]; exact hM⟩)
      · have hkk : k < cn 29 := Nat.lt_of_not_le (fun h => c_12 (nI_le h (by omega)))
        refine lv_aload_n hx hb dX11_lays_15 rfl (lv_at hl 1 rfl) ?_
        refine hk_get (ref := "LightcurveHouseModel") (v := .ref (am 3)) X K hM.1 rfl iX11_lays_X11 3 (by decide) (by decide +kernel) (fun _ h => h) rfl dX11_lays_16 ?_
        refine lv_aload_n hx hb dX11_lays_19 rfl (lv_at hl 1 rfl) ?_
        refine hk_get (ref := "LightcurveHouseModel") (v := .ref (am 30)) X K hM.1 rfl iX11_lays_X11 30 (by decide) (by decide +kernel) (fun _ h => h) rfl dX11_lays_20 ?_
        refine lv_iload_n hx hb dX11_lays_23 rfl (lv_at hl 0 rfl) ?_
        refine hk_ild (f := (μ 30)) X K hM.a30 (vp_in_nI (by omega) (by omega)) dX11_lays_24 ?_
        rw [show (μ 30) (nI k).toNatClampNeg = μ 30 k from by rw [nI_clamp (show k < 2 ^ 31 by omega)]]
        refine hk_ild (f := (μ 3)) X K hM.a3 (vp_isS hns (by omega) (hI.2.2.2.2.2.2.2 k hkk).1) dX11_lays_25 ?_
        refine lv_iload_n hx hb dX11_lays_26 rfl (lv_at hl 2 rfl) ?_
        refine lv_icmp_ne (tgt := 118) hx hb dX11_lays_27 (by decide) (fun c_27 => ?_) (fun c_27 => ?_)
        · obtain ⟨k1, ek1⟩ : ∃ y : Int32, y = (nI k) + 1 := ⟨_, rfl⟩
          refine lv_iinc (v := k1) (lv' := [(2, .int k1), (0, .ref mo), (1, .int e1)]) hx hb dX11_lays_118 hl (k := 0) rfl (by rw [ek1]; rfl) (by decide) rfl (fun ls hl => ?_)
          rw [nI_1] at ek1
          subst ek1
          refine lv_goto (tgt := 7) hx hb dX11_lays_121 (by decide) ?_
          exact ih (k + 1) mm G H locs (by omega) ⟨by omega, by omega, layA_n hly c_27, hM, hS⟩ _ (lv_sub hl [0, 1, 2] rfl)
        · refine lv_aload_n hx hb dX11_lays_30 rfl (lv_at hl 1 rfl) ?_
          refine hk_get (ref := "LightcurveHouseModel") (v := .ref (am 31)) X K hM.1 rfl iX11_lays_X11 31 (by decide) (by decide +kernel) (fun _ h => h) rfl dX11_lays_31 ?_
          refine lv_iload_n hx hb dX11_lays_34 rfl (lv_at hl 0 rfl) ?_
          refine hk_ild (f := (μ 31)) X K hM.a31 (vp_in_nI (by omega) (by omega)) dX11_lays_35 ?_
          rw [show (μ 31) (nI k).toNatClampNeg = μ 31 k from by rw [nI_clamp (show k < 2 ^ 31 by omega)]]
          refine lv_aload_n hx hb dX11_lays_36 rfl (lv_at hl 1 rfl) ?_
          refine lv_aload_n hx hb dX11_lays_37 rfl (lv_at hl 1 rfl) ?_
          refine hk_get (ref := "LightcurveHouseModel") (v := .ref (am 31)) X K hM.1 rfl iX11_lays_X11 31 (by decide) (by decide +kernel) (fun _ h => h) rfl dX11_lays_38 ?_
          refine lv_iload_n hx hb dX11_lays_41 rfl (lv_at hl 0 rfl) ?_
          refine hk_ild (f := (μ 31)) X K hM.a31 (vp_in_nI (by omega) (by omega)) dX11_lays_42 ?_
          rw [show (μ 31) (nI k).toNatClampNeg = μ 31 k from by rw [nI_clamp (show k < 2 ^ 31 by omega)]]
          refine lv_aload_n hx hb dX11_lays_43 rfl (lv_at hl 1 rfl) ?_
          refine hk_get (ref := "LightcurveHouseModel") (v := .ref (am 30)) X K hM.1 rfl iX11_lays_X11 30 (by decide) (by decide +kernel) (fun _ h => h) rfl dX11_lays_44 ?_
          refine lv_iload_n hx hb dX11_lays_47 rfl (lv_at hl 0 rfl) ?_
          refine hk_ild (f := (μ 30)) X K hM.a30 (vp_in_nI (by omega) (by omega)) dX11_lays_48 ?_
          rw [show (μ 30) (nI k).toNatClampNeg = μ 30 k from by rw [nI_clamp (show k < 2 ^ 31 by omega)]]
          refine hk_callV 2 (As := [.int (μ 31 k), .int (μ 30 k)]) (rest := [.int (μ 31 k)]) X K hAE hS hl.1 hM.1 rfl (c_X11_late E l H hM hns (mi := μ 31 k) (hI.2.2.2.2.2.2.2 k hkk).1) (fun _ h => h.elim) gX11_lays_X11_late rfl ⟨rfl, hd_X11_late⟩ rfl ⟨⟨(Nat.le_of_ble_eq_true rfl), (Nat.le_of_ble_eq_true rfl)⟩, (Nat.le_of_ble_eq_true rfl), (Nat.le_of_ble_eq_true rfl)⟩ rfl (Nat.le_of_ble_eq_true rfl) dX11_lays_49 (fun v9 H4 locsH4 hp hS hzH4 hkH4 => ?_)
          obtain ⟨hv, hh⟩ := hp
          rw [sp_late_39] at hv
          subst hv; subst hh
          refine lv_iadd hx hb dX11_lays_52 ?_
          refine lv_topi (fun tt ett => ?_)
          refine lv_istore_n (lv' := [(3, .int tt), (2, .int (nI k)), (0, .ref mo), (1, .int e1)]) hx hb dX11_lays_53 rfl hl (by decide) rfl (fun ls hl => ?_)
          have ett : tt = sp_mt μ k := ett
          subst ett
          refine lv_aload_n hx hb dX11_lays_54 rfl (lv_at hl 2 rfl) ?_
          refine hk_get (ref := "LightcurveHouseModel") (v := .int (nI mm)) X K hM.1 rfl iX11_lays_X11 38 (by decide) (by decide +kernel) (fun _ h => h) rfl dX11_lays_55 ?_
          refine lv_istore (lv' := [(4, .int (nI mm)), (3, .int (sp_mt μ k)), (2, .int (nI k)), (0, .ref mo), (1, .int e1)]) hx hb dX11_lays_58 hl (by decide) rfl (fun ls hl => ?_)
          have L60 : ∀ (n8 : Nat) (j : Nat) (H : Heap) (locs : List Loc), j + 1 ≤ n8 → (j ≤ mm ∧ jpT G (sp_mt μ k) mm = jpT G (sp_mt μ k) j ∧ MW E mo am Z (va_up cn 38 mm) sc (va_up μ 39 (shf G j mm)) H ∧ va_S Z s.heap H locs) → ∀ (ls : Array Slot), lv_has ls 5 [(4, .int (nI j)), (3, .int (sp_mt μ k)), (2, .int (nI k)), (0, .ref mo), (1, .int e1)] → W p l e rmX11_lays s m args below meth c H locs 0 0 Q (F0 m 60 ls []) := by
            intro n8
            induction n8 with
            | zero =>
              intro j H locs hm8j hinv8 ls hl
              obtain ⟨hjk, hjp, hM, hS⟩ := hinv8
              exact absurd hm8j (by omega)
            | succ n8 ih8 =>
              intro j H locs hm8j hinv8 ls hl
              obtain ⟨hjk, hjp, hM, hS⟩ := hinv8
              refine lv_iload hx hb dX11_lays_60 (lv_at hl 0 rfl) ?_
              refine lv_if_le (tgt := 100) hx hb dX11_lays_62 (by decide) (fun c_62 => ?_) (fun c_62 => ?_)
              · have hj0 : j = 0 := Nat.le_zero.mp ((nI_leI (a := j) (b := 0) (by omega) (by decide)).mp (by rw [nI_0]; exact c_62))
                subst hj0
                refine lv_aload_n hx hb dX11_lays_100 rfl (lv_at hl 3 rfl) ?_
                refine hk_get (ref := "LightcurveHouseModel") (v := .ref (am 39)) X K hM.1 rfl iX11_lays_X11 39 (by decide) (by decide +kernel) (fun _ h => h) rfl dX11_lays_101 ?_
                refine lv_iload hx hb dX11_lays_104 (lv_at hl 0 rfl) ?_
                refine lv_iload_n hx hb dX11_lays_106 rfl (lv_at hl 1 rfl) ?_
                refine hk_ist (f := (shf G 0 mm)) X K hM.a39 hS (hM.2.2.2.2.2 39 (by decide)) (vp_in_nI (by omega) (by omega)) dX11_lays_107 (fun H5 locsH5 hIH5 hzH5 hqH5 hS => ?_)
                rw [show (nI 0).toNatClampNeg = 0 from nI_clamp (by omega)] at hIH5
                have hM := MW.set hM 39 (by decide) hIH5 hqH5
                rw [va_up2] at hM
                refine lv_aload_n hx hb dX11_lays_108 rfl (lv_at hl 3 rfl) ?_
                refine lv_dup hx hb dX11_lays_109 rfl ?_
                refine hk_get (ref := "LightcurveHouseModel") (v := .int (nI mm)) X K hM.1 rfl iX11_lays_X11 38 (by decide) (by decide +kernel) (fun _ h => h) rfl dX11_lays_110 ?_
                refine lv_iconst (v := 1) hx hb dX11_lays_113 (by decide) ?_
                refine lv_iadd hx hb dX11_lays_114 ?_
                refine lv_topi (fun qa eqa => ?_)
                rw [nI_1] at eqa
                subst eqa
                refine hk_put (ref := "LightcurveHouseModel") X K hM.1 rfl iX11_lays_X11 tyX11 tyX11_ok nmX11 hS hM.2.2.2.2.1 38 (by decide) (by decide +kernel) (fun _ h => h) (by decide +kernel) rfl rfl (Nat.le_of_ble_eq_true rfl) dX11_lays_115 (fun H6 locsH6 hOH6 hzH6 hqH6 hS => ?_)
                rw [mf_38] at hOH6
                have hM := MW.obj hM hOH6 hqH6
                rw [va_up2] at hM
                obtain ⟨k1, ek1⟩ : ∃ y : Int32, y = (nI k) + 1 := ⟨_, rfl⟩
                refine lv_iinc (v := k1) (lv' := [(2, .int k1), (4, .int (nI 0)), (3, .int (sp_mt μ k)), (0, .ref mo), (1, .int e1)]) hx hb dX11_lays_118 hl (k := 2) rfl (by rw [ek1]; rfl) (by decide) rfl (fun ls hl => ?_)
                rw [nI_1] at ek1
                subst ek1
                refine lv_goto (tgt := 7) hx hb dX11_lays_121 (by decide) ?_
                exact ih (k + 1) (mm + 1) (insA G 0 (sp_mt μ k) mm) H6 locsH6 (by omega) ⟨by omega, by omega, layA_y hly c_27 (by rw [hjp, jpT]), hM, hS⟩ _ (lv_sub hl [0, 3, 4] rfl)
              · obtain ⟨j7, rfl⟩ : ∃ j7, j = j7 + 1 := ⟨j - 1, (Nat.succ_pred_eq_of_ne_zero (fun h => by subst h; exact absurd (by decide) c_62)).symm⟩
                refine lv_aload_n hx hb dX11_lays_65 rfl (lv_at hl 3 rfl) ?_
                refine hk_get (ref := "LightcurveHouseModel") (v := .ref (am 39)) X K hM.1 rfl iX11_lays_X11 39 (by decide) (by decide +kernel) (fun _ h => h) rfl dX11_lays_66 ?_
                refine lv_iload hx hb dX11_lays_69 (lv_at hl 0 rfl) ?_
                refine lv_iconst (v := 1) hx hb dX11_lays_71 (by decide) ?_
                refine lv_isub hx hb dX11_lays_72 ?_
                refine lv_topi (fun jm ejm => ?_)
                rw [nI_pred] at ejm
                subst ejm
                refine hk_ild (f := (shf G (j7 + 1) mm)) X K hM.a39 (vp_in_nI (by omega) (by omega)) dX11_lays_73 ?_
                rw [show (shf G (j7 + 1) mm) (nI j7).toNatClampNeg = G j7 from by rw [nI_clamp (show j7 < 2 ^ 31 by omega), shf_at]]
                refine lv_iload_n hx hb dX11_lays_74 rfl (lv_at hl 1 rfl) ?_
                refine lv_icmp_le (tgt := 100) hx hb dX11_lays_75 (by decide) (fun c_75 => ?_) (fun c_75 => ?_)
                · refine lv_aload_n hx hb dX11_lays_100 rfl (lv_at hl 3 rfl) ?_
                  refine hk_get (ref := "LightcurveHouseModel") (v := .ref (am 39)) X K hM.1 rfl iX11_lays_X11 39 (by decide) (by decide +kernel) (fun _ h => h) rfl dX11_lays_101 ?_
                  refine lv_iload hx hb dX11_lays_104 (lv_at hl 0 rfl) ?_
                  refine lv_iload_n hx hb dX11_lays_106 rfl (lv_at hl 1 rfl) ?_
                  refine hk_ist (f := (shf G (j7 + 1) mm)) X K hM.a39 hS (hM.2.2.2.2.2 39 (by decide)) (vp_in_nI (by omega) (by omega)) dX11_lays_107 (fun H7 locsH7 hIH7 hzH7 hqH7 hS => ?_)
                  rw [show (nI (j7 + 1)).toNatClampNeg = (j7 + 1) from nI_clamp (by omega)] at hIH7
                  have hM := MW.set hM 39 (by decide) hIH7 hqH7
                  rw [va_up2] at hM
                  refine lv_aload_n hx hb dX11_lays_108 rfl (lv_at hl 3 rfl) ?_
                  refine lv_dup hx hb dX11_lays_109 rfl ?_
                  refine hk_get (ref := "LightcurveHouseModel") (v := .int (nI mm)) X K hM.1 rfl iX11_lays_X11 38 (by decide) (by decide +kernel) (fun _ h => h) rfl dX11_lays_110 ?_
                  refine lv_iconst (v := 1) hx hb dX11_lays_113 (by decide) ?_
                  refine lv_iadd hx hb dX11_lays_114 ?_
                  refine lv_topi (fun qa eqa => ?_)
                  rw [nI_1] at eqa
                  subst eqa
                  refine hk_put (ref := "LightcurveHouseModel") X K hM.1 rfl iX11_lays_X11 tyX11 tyX11_ok nmX11 hS hM.2.2.2.2.1 38 (by decide) (by decide +kernel) (fun _ h => h) (by decide +kernel) rfl rfl (Nat.le_of_ble_eq_true rfl) dX11_lays_115 (fun H8 locsH8 hOH8 hzH8 hqH8 hS => ?_)
                  rw [mf_38] at hOH8
                  have hM := MW.obj hM hOH8 hqH8
                  rw [va_up2] at hM
                  obtain ⟨k1, ek1⟩ : ∃ y : Int32, y = (nI k) + 1 := ⟨_, rfl⟩
                  refine lv_iinc (v := k1) (lv' := [(2, .int k1), (4, .int (nI (j7 + 1))), (3, .int (sp_mt μ k)), (0, .ref mo), (1, .int e1)]) hx hb dX11_lays_118 hl (k := 2) rfl (by rw [ek1]; rfl) (by decide) rfl (fun ls hl => ?_)
                  rw [nI_1] at ek1
                  subst ek1
                  refine lv_goto (tgt := 7) hx hb dX11_lays_121 (by decide) ?_
                  exact ih (k + 1) (mm + 1) (insA G (j7 + 1) (sp_mt μ k) mm) H8 locsH8 (by omega) ⟨by omega, by omega, layA_y hly c_27 (by rw [hjp, jpT, if_pos c_75]), hM, hS⟩ _ (lv_sub hl [0, 3, 4] rfl)
                · refine lv_aload_n hx hb dX11_lays_78 rfl (lv_at hl 3 rfl) ?_
                  refine hk_get (ref := "LightcurveHouseModel") (v := .ref (am 39)) X K hM.1 rfl iX11_lays_X11 39 (by decide) (by decide +kernel) (fun _ h => h) rfl dX11_lays_79 ?_
                  refine lv_iload hx hb dX11_lays_82 (lv_at hl 0 rfl) ?_
                  refine lv_aload_n hx hb dX11_lays_84 rfl (lv_at hl 3 rfl) ?_
                  refine hk_get (ref := "LightcurveHouseModel") (v := .ref (am 39)) X K hM.1 rfl iX11_lays_X11 39 (by decide) (by decide +kernel) (fun _ h => h) rfl dX11_lays_85 ?_
                  refine lv_iload hx hb dX11_lays_88 (lv_at hl 0 rfl) ?_
                  refine lv_iconst (v := 1) hx hb dX11_lays_90 (by decide) ?_
                  refine lv_isub hx hb dX11_lays_91 ?_
                  refine lv_topi (fun jm2 ejm2 => ?_)
                  rw [nI_pred] at ejm2
                  subst ejm2
                  refine hk_ild (f := (shf G (j7 + 1) mm)) X K hM.a39 (vp_in_nI (by omega) (by omega)) dX11_lays_92 ?_
                  rw [show (shf G (j7 + 1) mm) (nI j7).toNatClampNeg = G j7 from by rw [nI_clamp (show j7 < 2 ^ 31 by omega), shf_at]]
                  refine hk_ist (f := (shf G (j7 + 1) mm)) X K hM.a39 hS (hM.2.2.2.2.2 39 (by decide)) (vp_in_nI (by omega) (by omega)) dX11_lays_93 (fun H9 locsH9 hIH9 hzH9 hqH9 hS => ?_)
                  rw [show (nI (j7 + 1)).toNatClampNeg = (j7 + 1) from nI_clamp (by omega)] at hIH9
                  have hM := MW.set hM 39 (by decide) hIH9 hqH9
                  obtain ⟨jd, ejd⟩ : ∃ y : Int32, y = (nI (j7 + 1)) + (-1) := ⟨_, rfl⟩
                  refine lv_iinc (v := jd) (lv' := [(4, .int jd), (3, .int (sp_mt μ k)), (2, .int (nI k)), (0, .ref mo), (1, .int e1)]) hx hb dX11_lays_94 hl (k := 0) rfl (by rw [ejd]; rfl) (by decide) rfl (fun ls hl => ?_)
                  rw [add_m1, nI_pred] at ejd
                  subst ejd
                  refine lv_goto (tgt := 60) hx hb dX11_lays_97 (by decide) ?_
                  exact ih8 j7 H9 locsH9 (by omega) ⟨by omega, by rw [hjp, jpT, if_neg c_75], by have h9 := hM; rw [va_up2, shf_dn (by omega)] at h9; exact h9, hS⟩ _ (lv_sub hl [0, 1, 2, 3, 4] rfl)
          exact L60 (mm + 1) mm H locsH4 (by omega) ⟨Nat.le_refl _, rfl, by rw [shf_0]; exact hM, hS⟩ _ (lv_sub hl [0, 1, 2, 3, 4] rfl)
  exact L7 (cn 29 + 1) 0 0 (μ 39) H2 locsH2 (by omega) ⟨Nat.zero_le _, Nat.le_refl _, rfl, by rw [va_same]; exact hM, hS⟩ _ (lv_sub hl [0, 1, 2] rfl)

