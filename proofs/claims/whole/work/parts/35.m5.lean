/-- the lowest of n stars whose entry is e, or what was found so far -/
def sp_low (f : Nat → Int32) (e : Int32) : Nat → Int32 → Int32
  | 0, a => a
  | n + 1, a => sp_low f e n (if f n = e then nI n else a)
/-- those of the first j stars whose entry is e get v -/
def sp_ren (f : Nat → Int32) (e v : Int32) (j : Nat) : Nat → Int32 := fun i => if i < j ∧ f i = e then v else f i
theorem sp_ren_up {f : Nat → Int32} {e v : Int32} {j : Nat} : upd (sp_ren f e v j) j (if f j = e then v else f j) = sp_ren f e v (j + 1) := by
  funext i
  unfold upd sp_ren
  by_cases h : i = j
  · subst h
    rw [if_pos rfl]
    by_cases h2 : f i = e
    · rw [if_pos h2, if_pos ⟨by omega, h2⟩]
    · rw [if_neg h2, if_neg (fun g => h2 g.2)]
  · rw [if_neg h]
    by_cases h2 : i < j ∧ f i = e
    · rw [if_pos h2, if_pos ⟨by omega, h2.2⟩]
    · rw [if_neg h2, if_neg (fun g => h2 ⟨by omega, g.2⟩)]
theorem sp_ren_0 {f : Nat → Int32} {e v : Int32} : sp_ren f e v 0 = f := by
  funext i
  unfold sp_ren
  rw [if_neg (fun g => absurd g.1 (Nat.not_lt_zero _))]
theorem sp_ren_at {f : Nat → Int32} {e v : Int32} {j : Nat} : sp_ren f e v j j = f j := by
  unfold sp_ren
  rw [if_neg (fun g => absurd g.1 (Nat.lt_irrefl _))]
theorem va_up2 {α : Type} {f : Nat → α} {k : Nat} {v w : α} : va_up (va_up f k v) k w = va_up f k w := by
  funext j
  unfold va_up
  by_cases h : j = k
  · rw [if_pos h, if_pos h]
  · rw [if_neg h, if_neg h, if_neg h]
theorem va_same {α : Type} {f : Nat → α} {k : Nat} : va_up f k (f k) = f := by
  funext j
  unfold va_up
  by_cases h : j = k
  · rw [if_pos h, h]
  · rw [if_neg h]
theorem add_m1 (x : Int32) : x + (-1) = x - 1 := by rw [Int32.sub_eq_add_neg]
abbrev rmX11_renumbers : Room := { frames := 0, cells := 0, slots := 0, locals := 0 }
theorem iX11_renumbers_X11 : ∀ w ∈ wsX110, w ∈ wsX11_renumbers := by decide +kernel
set_option maxHeartbeats 4000000 in
set_option maxRecDepth 100000 in
theorem c_X11_renumbers (E : hk_E) (l : Launch) (H0 : Heap) {mo : Nat} {am : Nat → Nat} {Z : Nat → Prop} {cn : Nat → Nat} {sc : Nat → Int32} {μ : Nat → Nat → Int32} (hM : MW E mo am Z cn sc μ H0) (hZ : ∀ q, Z q → hk_A E q) (hns : cn 1 ≤ 12) {p0 : Int32} : hk_M E l yX11_renumbers wsX11_renumbers rmX11_renumbers (Z) [.ref mo, .int p0] H0 (fun z H1 => z = some (.int (sp_low (μ 3) p0 (cn 1) (-1))) ∧ MW E mo am Z cn sc (va_up μ 3 (sp_ren (μ 3) p0 (sp_low (μ 3) p0 (cn 1) (-1)) (cn 1))) H1) := by
  refine hk_M.ofW (cc := cX11_renumbers) (maxL := 4) (ret := (some .int)) (by decide +kernel) rfl (Nat.le_of_ble_eq_true rfl) ?_
  intro p e s m args below meth c ls Q hQ X hr hlk hnm K hs9 hS hl
  obtain ⟨hx, hb, hml, hown, hts⟩ := id X
  have hAE : ∀ q, (Z) q → hk_A E q := hZ
  have hl : lv_has ls 4 [(0, .ref mo), (1, .int p0)] := hl
  refine lv_iconst (v := (-1)) hx hb dX11_renumbers_0 (by decide) ?_
  refine lv_istore_n (lv' := [(2, .int (-1)), (0, .ref mo), (1, .int p0)]) hx hb dX11_renumbers_1 rfl hl (by decide) rfl (fun ls hl => ?_)
  refine lv_aload_n hx hb dX11_renumbers_2 rfl (lv_at hl 1 rfl) ?_
  refine hk_get (ref := "LightcurveHouseModel") (v := .int (nI (cn 1))) X K hM.1 rfl iX11_renumbers_X11 1 (by decide) (by decide +kernel) (fun _ h => h) rfl dX11_renumbers_3 ?_
  refine lv_iconst (v := 1) hx hb dX11_renumbers_6 (by decide) ?_
  refine lv_isub hx hb dX11_renumbers_7 ?_
  refine lv_istore_n (lv' := [(3, .int ((nI (cn 1)) - 1)), (2, .int (-1)), (0, .ref mo), (1, .int p0)]) hx hb dX11_renumbers_8 rfl hl (by decide) rfl (fun ls hl => ?_)
  have L9 : ∀ (n9 : Nat) (k : Nat) (lw : Int32), k + 1 ≤ n9 → (k ≤ cn 1 ∧ sp_low (μ 3) p0 (cn 1) (-1) = sp_low (μ 3) p0 k lw) → ∀ (ls : Array Slot), lv_has ls 4 [(3, .int (nI k - 1)), (2, .int lw), (0, .ref mo), (1, .int p0)] → W p l e rmX11_renumbers s m args below meth c H0 [] 0 0 Q (F0 m 9 ls []) := by
    intro n9
    induction n9 with
    | zero =>
      intro k lw hm hinv ls hl
      have hi1 := hinv.1
      exact absurd hm (by omega)
    | succ n9 ih =>
      intro k lw hm hinv ls hl
      have hi1 := hinv.1
      refine lv_iload_n hx hb dX11_renumbers_9 rfl (lv_at hl 0 rfl) ?_
      refine lv_if_lt (tgt := 35) hx hb dX11_renumbers_10 (by decide) (fun c_10 => ?_) (fun c_10 => ?_)
      · have hk0 : k = 0 := by
          cases k with
          | zero => rfl
          | succ j9 => rw [nI_pred] at c_10; exact absurd c_10 (nI_pos (by omega))
        have hlw : sp_low (μ 3) p0 (cn 1) (-1) = lw := by rw [hinv.2, hk0, sp_low]
        refine lv_iconst (v := 0) hx hb dX11_renumbers_35 (by decide) ?_
        refine lv_topi (fun z_1 ez_1 => ?_)
        have ez_1 : z_1 = nI 0 := ez_1
        subst ez_1
        refine lv_istore_n (lv' := [(3, .int (nI 0)), (2, .int lw), (0, .ref mo), (1, .int p0)]) hx hb dX11_renumbers_36 rfl hl (by decide) rfl (fun ls hl => ?_)
        have L37 : ∀ (n9 : Nat) (k : Nat) (H : Heap) (locs : List Loc), cn 1 + 1 ≤ k + n9 → (k ≤ cn 1 ∧ MW E mo am Z cn sc (va_up μ 3 (sp_ren (μ 3) p0 lw k)) H ∧ va_S Z s.heap H locs) → ∀ (ls : Array Slot), lv_has ls 4 [(3, .int (nI k)), (2, .int lw), (0, .ref mo), (1, .int p0)] → W p l e rmX11_renumbers s m args below meth c H locs 0 0 Q (F0 m 37 ls []) := by
          intro n9
          induction n9 with
          | zero =>
            intro k H locs hm hinv ls hl
            have hi1 := hinv.1
            have hM := hinv.2.1
            have hS := hinv.2.2
            exact absurd hm (by omega)
          | succ n9 ih =>
            intro k H locs hm hinv ls hl
            have hi1 := hinv.1
            have hM := hinv.2.1
            have hS := hinv.2.2
            refine lv_iload_n hx hb dX11_renumbers_37 rfl (lv_at hl 0 rfl) ?_
            refine lv_aload_n hx hb dX11_renumbers_38 rfl (lv_at hl 2 rfl) ?_
            refine hk_get (ref := "LightcurveHouseModel") (v := .int (nI (cn 1))) X K hM.1 rfl iX11_renumbers_X11 1 (by decide) (by decide +kernel) (fun _ h => h) rfl dX11_renumbers_39 ?_
            refine lv_icmp_ge (tgt := 77) hx hb dX11_renumbers_42 (by decide) (fun c_42 => ?_) (fun c_42 => ?_)
            · have hkk : cn 1 ≤ k := (nI_leI (by omega) (by omega)).mp c_42
              refine lv_iload_n hx hb dX11_renumbers_77 rfl (lv_at hl 1 rfl) ?_
              exact hk_iret X hr hlk hQ hS (Nat.le_of_ble_eq_true rfl) (Nat.le_of_ble_eq_true rfl) dX11_renumbers_78 (⟨by rw [hlw], by rw [hlw, ← show k = cn 1 from by omega]; exact hM⟩)
            · have hkk : k < cn 1 := Nat.lt_of_not_le (fun h => c_42 (nI_le h (by omega)))
              refine lv_aload_n hx hb dX11_renumbers_45 rfl (lv_at hl 2 rfl) ?_
              refine hk_get (ref := "LightcurveHouseModel") (v := .ref (am 3)) X K hM.1 rfl iX11_renumbers_X11 3 (by decide) (by decide +kernel) (fun _ h => h) rfl dX11_renumbers_46 ?_
              refine lv_iload_n hx hb dX11_renumbers_49 rfl (lv_at hl 0 rfl) ?_
              refine lv_aload_n hx hb dX11_renumbers_50 rfl (lv_at hl 2 rfl) ?_
              refine hk_get (ref := "LightcurveHouseModel") (v := .ref (am 3)) X K hM.1 rfl iX11_renumbers_X11 3 (by decide) (by decide +kernel) (fun _ h => h) rfl dX11_renumbers_51 ?_
              refine lv_iload_n hx hb dX11_renumbers_54 rfl (lv_at hl 0 rfl) ?_
              refine hk_ild (f := (sp_ren (μ 3) p0 lw k)) X K hM.a3 (vp_in_nI (by omega) (by omega)) dX11_renumbers_55 ?_
              rw [show (sp_ren (μ 3) p0 lw k) (nI k).toNatClampNeg = (sp_ren (μ 3) p0 lw k) k from by rw [nI_clamp (show k < 2 ^ 31 by omega)]]
              refine lv_iload_n hx hb dX11_renumbers_56 rfl (lv_at hl 3 rfl) ?_
              refine lv_icmp_ne (tgt := 64) hx hb dX11_renumbers_57 (by decide) (fun c_57 => ?_) (fun c_57 => ?_)
              · refine lv_aload_n hx hb dX11_renumbers_64 rfl (lv_at hl 2 rfl) ?_
                refine hk_get (ref := "LightcurveHouseModel") (v := .ref (am 3)) X K hM.1 rfl iX11_renumbers_X11 3 (by decide) (by decide +kernel) (fun _ h => h) rfl dX11_renumbers_65 ?_
                refine lv_iload_n hx hb dX11_renumbers_68 rfl (lv_at hl 0 rfl) ?_
                refine hk_ild (f := (sp_ren (μ 3) p0 lw k)) X K hM.a3 (vp_in_nI (by omega) (by omega)) dX11_renumbers_69 ?_
                rw [show (sp_ren (μ 3) p0 lw k) (nI k).toNatClampNeg = μ 3 k from by rw [nI_clamp (show k < 2 ^ 31 by omega), sp_ren_at]]
                refine hk_ist (f := (sp_ren (μ 3) p0 lw k)) X K hM.a3 hS (hM.2.2.2.2.2 3 (by decide)) (vp_in_nI (by omega) (by omega)) dX11_renumbers_70 (fun H2 locsH2 hIH2 hzH2 hqH2 hS => ?_)
                rw [show (nI k).toNatClampNeg = k from nI_clamp (by omega)] at hIH2
                have hM := MW.set hM 3 (by decide) hIH2 hqH2
                obtain ⟨k1, ek1⟩ : ∃ y : Int32, y = (nI k) + 1 := ⟨_, rfl⟩
                refine lv_iinc (v := k1) (lv' := [(3, .int k1), (2, .int lw), (0, .ref mo), (1, .int p0)]) hx hb dX11_renumbers_71 hl (k := 0) rfl (by rw [ek1]; rfl) (by decide) rfl (fun ls hl => ?_)
                rw [nI_1] at ek1
                subst ek1
                refine lv_goto (tgt := 37) hx hb dX11_renumbers_74 (by decide) ?_
                exact ih (k + 1) H2 locsH2 (by omega) ⟨by omega, by have h9 := hM; rw [va_up2] at h9; rw [← sp_ren_up, if_neg (fun g => c_57 (sp_ren_at.trans g))]; exact h9, hS⟩ _ (lv_sub hl [0, 1, 2, 3] rfl)
              · refine lv_iload_n hx hb dX11_renumbers_60 rfl (lv_at hl 1 rfl) ?_
                refine lv_goto (tgt := 70) hx hb dX11_renumbers_61 (by decide) ?_
                refine hk_ist (f := (sp_ren (μ 3) p0 lw k)) X K hM.a3 hS (hM.2.2.2.2.2 3 (by decide)) (vp_in_nI (by omega) (by omega)) dX11_renumbers_70 (fun H3 locsH3 hIH3 hzH3 hqH3 hS => ?_)
                rw [show (nI k).toNatClampNeg = k from nI_clamp (by omega)] at hIH3
                have hM := MW.set hM 3 (by decide) hIH3 hqH3
                obtain ⟨k1, ek1⟩ : ∃ y : Int32, y = (nI k) + 1 := ⟨_, rfl⟩
                refine lv_iinc (v := k1) (lv' := [(3, .int k1), (2, .int lw), (0, .ref mo), (1, .int p0)]) hx hb dX11_renumbers_71 hl (k := 0) rfl (by rw [ek1]; rfl) (by decide) rfl (fun ls hl => ?_)
                rw [nI_1] at ek1
                subst ek1
                refine lv_goto (tgt := 37) hx hb dX11_renumbers_74 (by decide) ?_
                exact ih (k + 1) H3 locsH3 (by omega) ⟨by omega, by have h9 := hM; rw [va_up2] at h9; rw [← sp_ren_up, if_pos (sp_ren_at.symm.trans c_57)]; exact h9, hS⟩ _ (lv_sub hl [0, 1, 2, 3] rfl)
        exact L37 (cn 1 + 1) 0 H0 [] (by omega) ⟨Nat.zero_le _, by rw [sp_ren_0, va_same]; exact hM, hS⟩ _ (lv_sub hl [0, 1, 2, 3] rfl)
      · obtain ⟨k7, rfl⟩ : ∃ k7, k = k7 + 1 := ⟨k - 1, (Nat.succ_pred_eq_of_ne_zero (fun h => by subst h; exact absurd (by decide) c_10)).symm⟩
        rw [nI_pred] at hl
        refine lv_aload_n hx hb dX11_renumbers_13 rfl (lv_at hl 2 rfl) ?_
        refine hk_get (ref := "LightcurveHouseModel") (v := .ref (am 3)) X K hM.1 rfl iX11_renumbers_X11 3 (by decide) (by decide +kernel) (fun _ h => h) rfl dX11_renumbers_14 ?_
        refine lv_iload_n hx hb dX11_renumbers_17 rfl (lv_at hl 0 rfl) ?_
        refine hk_ild (f := (μ 3)) X K hM.a3 (vp_in_nI (by omega) (by omega)) dX11_renumbers_18 ?_
        rw [show (μ 3) (nI k7).toNatClampNeg = μ 3 k7 from by rw [nI_clamp (show k7 < 2 ^ 31 by omega)]]
        refine lv_iload_n hx hb dX11_renumbers_19 rfl (lv_at hl 3 rfl) ?_
        refine lv_icmp_ne (tgt := 27) hx hb dX11_renumbers_20 (by decide) (fun c_20 => ?_) (fun c_20 => ?_)
        · refine lv_iload_n hx hb dX11_renumbers_27 rfl (lv_at hl 1 rfl) ?_
          refine lv_istore_n (lv' := [(2, .int lw), (3, .int (nI k7)), (0, .ref mo), (1, .int p0)]) hx hb dX11_renumbers_28 rfl hl (by decide) rfl (fun ls hl => ?_)
          obtain ⟨kd, ekd⟩ : ∃ y : Int32, y = (nI k7) + (-1) := ⟨_, rfl⟩
          refine lv_iinc (v := kd) (lv' := [(3, .int kd), (2, .int lw), (0, .ref mo), (1, .int p0)]) hx hb dX11_renumbers_29 hl (k := 1) rfl (by rw [ekd]; rfl) (by decide) rfl (fun ls hl => ?_)
          rw [add_m1] at ekd
          subst ekd
          refine lv_goto (tgt := 9) hx hb dX11_renumbers_32 (by decide) ?_
          exact ih k7 lw (by omega) ⟨by omega, by rw [hinv.2, sp_low, if_neg c_20]⟩ _ (lv_sub hl [0, 1, 2, 3] rfl)
        · refine lv_iload_n hx hb dX11_renumbers_23 rfl (lv_at hl 0 rfl) ?_
          refine lv_goto (tgt := 28) hx hb dX11_renumbers_24 (by decide) ?_
          refine lv_istore_n (lv' := [(2, .int (nI k7)), (3, .int (nI k7)), (0, .ref mo), (1, .int p0)]) hx hb dX11_renumbers_28 rfl hl (by decide) rfl (fun ls hl => ?_)
          obtain ⟨kd, ekd⟩ : ∃ y : Int32, y = (nI k7) + (-1) := ⟨_, rfl⟩
          refine lv_iinc (v := kd) (lv' := [(3, .int kd), (2, .int (nI k7)), (0, .ref mo), (1, .int p0)]) hx hb dX11_renumbers_29 hl (k := 1) rfl (by rw [ekd]; rfl) (by decide) rfl (fun ls hl => ?_)
          rw [add_m1] at ekd
          subst ekd
          refine lv_goto (tgt := 9) hx hb dX11_renumbers_32 (by decide) ?_
          exact ih k7 (nI k7) (by omega) ⟨by omega, by rw [hinv.2, sp_low, if_pos c_20]⟩ _ (lv_sub hl [0, 1, 2, 3] rfl)
  exact L9 (cn 1 + 1) (cn 1) (-1) (by omega) ⟨Nat.le_refl _, rfl⟩ _ (lv_sub hl [0, 1, 2, 3] rfl)

