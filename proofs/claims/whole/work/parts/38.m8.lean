/-- a look that belongs to one of two entries -/
abbrev selp (μ : Nat → Nat → Int32) (e1 e2 : Int32) (k : Nat) : Prop := μ 21 k = 0 ∧ (μ 3 (ix (μ 14 k)) = e1 ∨ μ 3 (ix (μ 14 k)) = e2)
/-- the first n looks' choice -/
def sp_sel (μ : Nat → Nat → Int32) (e1 e2 : Int32) : Nat → List Nat
  | 0 => []
  | n + 1 => if selp μ e1 e2 n then sp_sel μ e1 e2 n ++ [n] else sp_sel μ e1 e2 n
theorem sp_sel_le {μ : Nat → Nat → Int32} {e1 e2 : Int32} (n : Nat) : (sp_sel μ e1 e2 n).length ≤ n := by
  induction n with
  | zero => exact Nat.le_refl _
  | succ n ih =>
    rw [sp_sel]
    by_cases h : selp μ e1 e2 n
    · rw [if_pos h, List.length_append]; show _ + 1 ≤ _; omega
    · rw [if_neg h]; omega
/-- what the gathered rows hold -/
def gRow (μ : Nat → Nat → Int32) (L : List Nat) (fL fT : Nat → Int32) : Prop := ∀ i, i < L.length → fL i = sp_light μ (L.getD i 0) ∧ fT i = sp_time μ (L.getD i 0)
theorem gRow.nil {μ : Nat → Nat → Int32} {fL fT : Nat → Int32} : gRow μ [] fL fT := fun _ h => absurd h (Nat.not_lt_zero _)
theorem gRow.take {μ : Nat → Nat → Int32} {L : List Nat} {fL fT : Nat → Int32} {k : Nat} (h : gRow μ L fL fT) : gRow μ (L ++ [k]) (upd fL L.length (sp_light μ k)) (upd fT L.length (sp_time μ k)) := by
  intro i hi
  rw [List.length_append] at hi
  have hi2 : i < L.length + 1 := hi
  by_cases e : i = L.length
  · subst e
    have hg : (L ++ [k]).getD L.length 0 = k := by
      rw [List.getD_eq_getElem?_getD, List.getElem?_append_right (Nat.le_refl _), Nat.sub_self]; rfl
    rw [hg]
    exact ⟨if_pos rfl, if_pos rfl⟩
  · have hlt : i < L.length := by omega
    have hg : (L ++ [k]).getD i 0 = L.getD i 0 := by
      rw [List.getD_eq_getElem?_getD, List.getElem?_append_left hlt, ← List.getD_eq_getElem?_getD]
    rw [hg]
    have h9 := h i hlt
    exact ⟨(if_neg e).trans h9.1, (if_neg e).trans h9.2⟩
abbrev scr (μ : Nat → Nat → Int32) (f g : Nat → Int32) : Nat → Nat → Int32 := va_up (va_up μ 35 f) 36 g
theorem scr_35 {μ : Nat → Nat → Int32} {f g h : Nat → Int32} : va_up (scr μ f g) 35 h = scr μ h g := by
  funext j
  show va_up (va_up (va_up μ 35 f) 36 g) 35 h j = va_up (va_up μ 35 h) 36 g j
  unfold va_up
  by_cases h1 : j = 35
  · rw [if_pos h1, if_neg (by omega), if_pos h1]
  · rw [if_neg h1]
    by_cases h2 : j = 36
    · rw [if_pos h2, if_pos h2]
    · rw [if_neg h2, if_neg h2, if_neg h1, if_neg h1]
theorem scr_36 {μ : Nat → Nat → Int32} {f g h : Nat → Int32} : va_up (scr μ f g) 36 h = scr μ f h := va_up2
theorem scr_id {μ : Nat → Nat → Int32} : scr μ (μ 35) (μ 36) = μ := by
  funext j
  show va_up (va_up μ 35 (μ 35)) 36 (μ 36) j = μ j
  unfold va_up
  by_cases h2 : j = 36
  · rw [if_pos h2, h2]
  · rw [if_neg h2]
    by_cases h1 : j = 35
    · rw [if_pos h1, h1]
    · rw [if_neg h1]
theorem Inv.agr {S T : mS} (h : Inv S) (a : agr S T) : Inv T := by
  obtain ⟨cn, sc, μ⟩ := S
  obtain ⟨cn', sc', μ'⟩ := T
  have c : ∀ k, k < 33 → cn k = cn' k := fun k hk => (a k hk).1
  have m : ∀ k, k < 33 → μ k = μ' k := fun k hk => (a k hk).2.2
  unfold Inv at h ⊢
  dsimp only at h ⊢
  rw [← c 1 (by decide), ← c 8 (by decide), ← c 12 (by decide), ← c 22 (by decide), ← c 29 (by decide), ← m 0 (by decide), ← m 2 (by decide), ← m 3 (by decide), ← m 4 (by decide), ← m 6 (by decide), ← m 9 (by decide), ← m 10 (by decide), ← m 11 (by decide), ← m 13 (by decide), ← m 14 (by decide), ← m 15 (by decide), ← m 16 (by decide), ← m 17 (by decide), ← m 18 (by decide), ← m 19 (by decide), ← m 20 (by decide), ← m 21 (by decide), ← m 24 (by decide), ← m 28 (by decide), ← m 30 (by decide), ← m 31 (by decide)]
  exact h
theorem scr_agr {cn cn' : Nat → Nat} {sc sc' : Nat → Int32} {μ : Nat → Nat → Int32} {f g : Nat → Int32} (hc : ∀ k, k < 33 → cn k = cn' k) (hs : ∀ k, k < 33 → sc k = sc' k) : agr (cn, sc, μ) (cn', sc', scr μ f g) := fun k hk => ⟨hc k hk, hs k hk, by
  show μ k = va_up (va_up μ 35 f) 36 g k
  unfold va_up
  rw [if_neg (by omega), if_neg (by omega)]⟩
theorem up34 {cn : Nat → Nat} {m k : Nat} (hk : k < 33) : cn k = va_up cn 34 m k := (if_neg (show ¬ k = 34 by omega)).symm
theorem Inv.scr {cn : Nat → Nat} {sc : Nat → Int32} {μ : Nat → Nat → Int32} {m : Nat} {f g : Nat → Int32} (h : Inv (cn, sc, μ)) : Inv (va_up cn 34 m, sc, scr μ f g) := h.agr (scr_agr (fun _ => up34) (fun _ _ => rfl))
theorem sp_light_scr {μ : Nat → Nat → Int32} {f g : Nat → Int32} {k : Nat} : sp_light (scr μ f g) k = sp_light μ k := rfl
theorem sp_time_scr {μ : Nat → Nat → Int32} {f g : Nat → Int32} {k : Nat} : sp_time (scr μ f g) k = sp_time μ k := rfl

abbrev rmX11_gathers : Room := { frames := 3, cells := 0, slots := 0, locals := 64 }
theorem iX11_gathers_X11 : ∀ w ∈ wsX110, w ∈ wsX11_gathers := by decide +kernel
set_option maxHeartbeats 4000000 in
set_option maxRecDepth 100000 in
theorem c_X11_gathers (E : hk_E) (l : Launch) (H0 : Heap) {mo : Nat} {am : Nat → Nat} {Z : Nat → Prop} {cn : Nat → Nat} {sc : Nat → Int32} {μ : Nat → Nat → Int32} (hM : MW E mo am Z cn sc μ H0) (hZ : ∀ q, Z q → hk_A E q) (hI : Inv (cn, sc, μ)) {e1 e2 : Int32} : hk_M E l yX11_gathers wsX11_gathers rmX11_gathers (Z) [.ref mo, .int e1, .int e2] H0 (fun z H1 => z = none ∧ ∃ (fL fT : Nat → Int32), gRow μ (sp_sel μ e1 e2 (cn 12)) fL fT ∧ MW E mo am Z (va_up cn 34 (sp_sel μ e1 e2 (cn 12)).length) sc (scr μ fL fT) H1) := by
  refine hk_M.ofW (cc := cX11_gathers) (maxL := 5) (ret := none) (by decide +kernel) rfl (Nat.le_of_ble_eq_true rfl) ?_
  intro p e s m args below meth c ls Q hQ X hr hlk hnm K hs9 hS hl
  obtain ⟨hx, hb, hml, hown, hts⟩ := id X
  have hAE : ∀ q, (Z) q → hk_A E q := hZ
  have hl : lv_has ls 5 [(0, .ref mo), (1, .int e1), (2, .int e2)] := hl
  have hnl := hI.1.2.2.1
  have hns := hI.1.1
  have hnp := hI.1.2.1
  dsimp only at hnl hns hnp
  refine lv_aload_n hx hb dX11_gathers_0 rfl (lv_at hl 0 rfl) ?_
  refine lv_iconst (v := 0) hx hb dX11_gathers_1 (by decide) ?_
  refine lv_topi (fun z_1 ez_1 => ?_)
  have ez_1 : z_1 = nI 0 := ez_1
  subst ez_1
  refine hk_put (ref := "LightcurveHouseModel") X K hM.1 rfl iX11_gathers_X11 tyX11 tyX11_ok nmX11 hS hM.2.2.2.2.1 34 (by decide) (by decide +kernel) (fun _ h => h) (by decide +kernel) rfl rfl (Nat.le_of_ble_eq_true rfl) dX11_gathers_2 (fun H2 locsH2 hOH2 hzH2 hqH2 hS => ?_)
  rw [mf_34] at hOH2
  have hM := MW.obj hM hOH2 hqH2
  refine lv_iconst (v := 0) hx hb dX11_gathers_5 (by decide) ?_
  refine lv_topi (fun z_3 ez_3 => ?_)
  have ez_3 : z_3 = nI 0 := ez_3
  subst ez_3
  refine lv_istore_n (lv' := [(3, .int (nI 0)), (0, .ref mo), (1, .int e1), (2, .int e2)]) hx hb dX11_gathers_6 rfl hl (by decide) rfl (fun ls hl => ?_)
  have L7 : ∀ (n9 : Nat) (k mm : Nat) (fL fT : Nat → Int32) (H : Heap) (locs : List Loc), cn 12 + 1 ≤ k + n9 → (k ≤ cn 12 ∧ mm = (sp_sel μ e1 e2 k).length ∧ gRow μ (sp_sel μ e1 e2 k) fL fT ∧ MW E mo am Z (va_up cn 34 mm) sc (scr μ fL fT) H ∧ va_S Z s.heap H locs) → ∀ (ls : Array Slot), lv_has ls 5 [(3, .int (nI k)), (0, .ref mo), (1, .int e1), (2, .int e2)] → W p l e rmX11_gathers s m args below meth c H locs 0 0 Q (F0 m 7 ls []) := by
    intro n9
    induction n9 with
    | zero =>
      intro k mm fL fT H locs hm hinv ls hl
      obtain ⟨hi1, hmm, hg, hM, hS⟩ := hinv
      have hmk : mm ≤ k := by rw [hmm]; exact sp_sel_le k
      exact absurd hm (by omega)
    | succ n9 ih =>
      intro k mm fL fT H locs hm hinv ls hl
      obtain ⟨hi1, hmm, hg, hM, hS⟩ := hinv
      have hmk : mm ≤ k := by rw [hmm]; exact sp_sel_le k
      refine lv_iload_n hx hb dX11_gathers_7 rfl (lv_at hl 0 rfl) ?_
      refine lv_aload_n hx hb dX11_gathers_8 rfl (lv_at hl 1 rfl) ?_
      refine hk_get (ref := "LightcurveHouseModel") (v := .int (nI (cn 12))) X K hM.1 rfl iX11_gathers_X11 12 (by decide) (by decide +kernel) (fun _ h => h) rfl dX11_gathers_9 ?_
      refine lv_icmp_ge (tgt := 93) hx hb dX11_gathers_12 (by decide) (fun c_12 => ?_) (fun c_12 => ?_)
      · have hkk : cn 12 ≤ k := (nI_leI (by omega) (by omega)).mp c_12
        exact hk_vret X hr hlk hQ hS (Nat.le_of_ble_eq_true rfl) (Nat.le_of_ble_eq_true rfl) dX11_gathers_93 (by
          have hkn : k = cn 12 := by omega
          subst hkn
          subst hmm
          exact ⟨rfl, fL, fT, hg, hM⟩)
      · have hk : k < cn 12 := Nat.lt_of_not_le (fun h => c_12 (nI_le h (by omega)))
        refine lv_aload_n hx hb dX11_gathers_15 rfl (lv_at hl 1 rfl) ?_
        refine hk_get (ref := "LightcurveHouseModel") (v := .ref (am 3)) X K hM.1 rfl iX11_gathers_X11 3 (by decide) (by decide +kernel) (fun _ h => h) rfl dX11_gathers_16 ?_
        refine lv_aload_n hx hb dX11_gathers_19 rfl (lv_at hl 1 rfl) ?_
        refine hk_get (ref := "LightcurveHouseModel") (v := .ref (am 14)) X K hM.1 rfl iX11_gathers_X11 14 (by decide) (by decide +kernel) (fun _ h => h) rfl dX11_gathers_20 ?_
        refine lv_iload_n hx hb dX11_gathers_23 rfl (lv_at hl 0 rfl) ?_
        refine hk_ild (f := (μ 14)) X K hM.a14 (vp_in_nI (by omega) (by omega)) dX11_gathers_24 ?_
        rw [show (μ 14) (nI k).toNatClampNeg = μ 14 k from by rw [nI_clamp (show k < 2 ^ 31 by omega)]]
        refine hk_ild (f := (μ 3)) X K hM.a3 (vp_isS hns (by omega) (hI.2.2.2.2.2.1 k hk).1) dX11_gathers_25 ?_
        refine lv_istore (lv' := [(4, .int ((μ 3) (μ 14 k).toNatClampNeg)), (3, .int (nI k)), (0, .ref mo), (1, .int e1), (2, .int e2)]) hx hb dX11_gathers_26 hl (by decide) rfl (fun ls hl => ?_)
        refine lv_aload_n hx hb dX11_gathers_28 rfl (lv_at hl 2 rfl) ?_
        refine hk_get (ref := "LightcurveHouseModel") (v := .ref (am 21)) X K hM.1 rfl iX11_gathers_X11 21 (by decide) (by decide +kernel) (fun _ h => h) rfl dX11_gathers_29 ?_
        refine lv_iload_n hx hb dX11_gathers_32 rfl (lv_at hl 1 rfl) ?_
        refine hk_zld (f := (μ 21)) X K hM.a21 (vp_in_nI (by omega) (by omega)) dX11_gathers_33 ?_
        rw [show (μ 21) (nI k).toNatClampNeg = μ 21 k from by rw [nI_clamp (show k < 2 ^ 31 by omega)]]
        refine lv_if_ne (tgt := 87) hx hb dX11_gathers_34 (by decide) (fun c_34 => ?_) (fun c_34 => ?_)
        · obtain ⟨k1, ek1⟩ : ∃ y : Int32, y = (nI k) + 1 := ⟨_, rfl⟩
          refine lv_iinc (v := k1) (lv' := [(3, .int k1), (4, .int ((μ 3) (μ 14 k).toNatClampNeg)), (0, .ref mo), (1, .int e1), (2, .int e2)]) hx hb dX11_gathers_87 hl (k := 1) rfl (by rw [ek1]; rfl) (by decide) rfl (fun ls hl => ?_)
          rw [nI_1] at ek1
          subst ek1
          refine lv_goto (tgt := 7) hx hb dX11_gathers_90 (by decide) ?_
          exact ih (k + 1) mm fL fT H locs (by omega) ⟨by omega, by rw [sp_sel, if_neg (fun g => c_34 g.1)]; exact hmm, by rw [sp_sel, if_neg (fun g => c_34 g.1)]; exact hg, hM, hS⟩ _ (lv_sub hl [0, 2, 3, 4] rfl)
        · refine lv_iload hx hb dX11_gathers_37 (lv_at hl 0 rfl) ?_
          refine lv_iload_n hx hb dX11_gathers_39 rfl (lv_at hl 3 rfl) ?_
          refine lv_icmp_eq (tgt := 49) hx hb dX11_gathers_40 (by decide) (fun c_40 => ?_) (fun c_40 => ?_)
          · refine lv_aload_n hx hb dX11_gathers_49 rfl (lv_at hl 2 rfl) ?_
            refine hk_get (ref := "LightcurveHouseModel") (v := .ref (am 35)) X K hM.1 rfl iX11_gathers_X11 35 (by decide) (by decide +kernel) (fun _ h => h) rfl dX11_gathers_50 ?_
            refine lv_aload_n hx hb dX11_gathers_53 rfl (lv_at hl 2 rfl) ?_
            refine hk_get (ref := "LightcurveHouseModel") (v := .int (nI mm)) X K hM.1 rfl iX11_gathers_X11 34 (by decide) (by decide +kernel) (fun _ h => h) rfl dX11_gathers_54 ?_
            refine lv_aload_n hx hb dX11_gathers_57 rfl (lv_at hl 2 rfl) ?_
            refine lv_iload_n hx hb dX11_gathers_58 rfl (lv_at hl 1 rfl) ?_
            refine hk_callV 1 (As := [.int (nI k)]) (rest := [.int (nI mm), .ref (am 35)]) X K hAE hS hl.1 hM.1 rfl (c_X11_light E l H hM (Inv.scr hI) hk) (fun _ h => h.elim) gX11_gathers_X11_light rfl ⟨rfl, hd_X11_light⟩ rfl ⟨⟨(Nat.le_of_ble_eq_true rfl), (Nat.le_of_ble_eq_true rfl)⟩, (Nat.le_of_ble_eq_true rfl), (Nat.le_of_ble_eq_true rfl)⟩ rfl (Nat.le_of_ble_eq_true rfl) dX11_gathers_59 (fun v9 H4 locsH4 hp hS hzH4 hkH4 => ?_)
            obtain ⟨hv, hh⟩ := hp
            rw [sp_light_scr] at hv
            subst hv; subst hh
            refine hk_ist (f := fL) X K hM.a35 hS (hM.2.2.2.2.2 35 (by decide)) (vp_in_nI (by omega) (by omega)) dX11_gathers_62 (fun H5 locsH5 hIH5 hzH5 hqH5 hS => ?_)
            rw [show (nI mm).toNatClampNeg = mm from nI_clamp (by omega)] at hIH5
            have hM := MW.set hM 35 (by decide) hIH5 hqH5
            rw [scr_35] at hM
            refine lv_aload_n hx hb dX11_gathers_63 rfl (lv_at hl 2 rfl) ?_
            refine hk_get (ref := "LightcurveHouseModel") (v := .ref (am 36)) X K hM.1 rfl iX11_gathers_X11 36 (by decide) (by decide +kernel) (fun _ h => h) rfl dX11_gathers_64 ?_
            refine lv_aload_n hx hb dX11_gathers_67 rfl (lv_at hl 2 rfl) ?_
            refine hk_get (ref := "LightcurveHouseModel") (v := .int (nI mm)) X K hM.1 rfl iX11_gathers_X11 34 (by decide) (by decide +kernel) (fun _ h => h) rfl dX11_gathers_68 ?_
            refine lv_aload_n hx hb dX11_gathers_71 rfl (lv_at hl 2 rfl) ?_
            refine lv_iload_n hx hb dX11_gathers_72 rfl (lv_at hl 1 rfl) ?_
            refine hk_callV 1 (As := [.int (nI k)]) (rest := [.int (nI mm), .ref (am 36)]) X K hAE hS hl.1 hM.1 rfl (c_X11_time E l H5 hM (Inv.scr hI) hk) (fun _ h => h.elim) gX11_gathers_X11_time rfl ⟨rfl, hd_X11_time⟩ rfl ⟨⟨(Nat.le_of_ble_eq_true rfl), (Nat.le_of_ble_eq_true rfl)⟩, (Nat.le_of_ble_eq_true rfl), (Nat.le_of_ble_eq_true rfl)⟩ rfl (Nat.le_of_ble_eq_true rfl) dX11_gathers_73 (fun v9 H6 locsH6 hp hS hzH6 hkH6 => ?_)
            obtain ⟨hv, hh⟩ := hp
            rw [sp_time_scr] at hv
            subst hv; subst hh
            refine hk_ist (f := fT) X K hM.a36 hS (hM.2.2.2.2.2 36 (by decide)) (vp_in_nI (by omega) (by omega)) dX11_gathers_76 (fun H7 locsH7 hIH7 hzH7 hqH7 hS => ?_)
            rw [show (nI mm).toNatClampNeg = mm from nI_clamp (by omega)] at hIH7
            have hM := MW.set hM 36 (by decide) hIH7 hqH7
            rw [scr_36] at hM
            refine lv_aload_n hx hb dX11_gathers_77 rfl (lv_at hl 2 rfl) ?_
            refine lv_dup hx hb dX11_gathers_78 rfl ?_
            refine hk_get (ref := "LightcurveHouseModel") (v := .int (nI mm)) X K hM.1 rfl iX11_gathers_X11 34 (by decide) (by decide +kernel) (fun _ h => h) rfl dX11_gathers_79 ?_
            refine lv_iconst (v := 1) hx hb dX11_gathers_82 (by decide) ?_
            refine lv_iadd hx hb dX11_gathers_83 ?_
            refine lv_topi (fun qa eqa => ?_)
            rw [nI_1] at eqa
            subst eqa
            refine hk_put (ref := "LightcurveHouseModel") X K hM.1 rfl iX11_gathers_X11 tyX11 tyX11_ok nmX11 hS hM.2.2.2.2.1 34 (by decide) (by decide +kernel) (fun _ h => h) (by decide +kernel) rfl rfl (Nat.le_of_ble_eq_true rfl) dX11_gathers_84 (fun H8 locsH8 hOH8 hzH8 hqH8 hS => ?_)
            rw [mf_34] at hOH8
            have hM := MW.obj hM hOH8 hqH8
            rw [va_up2] at hM
            obtain ⟨k1, ek1⟩ : ∃ y : Int32, y = (nI k) + 1 := ⟨_, rfl⟩
            refine lv_iinc (v := k1) (lv' := [(3, .int k1), (4, .int ((μ 3) (μ 14 k).toNatClampNeg)), (0, .ref mo), (1, .int e1), (2, .int e2)]) hx hb dX11_gathers_87 hl (k := 1) rfl (by rw [ek1]; rfl) (by decide) rfl (fun ls hl => ?_)
            rw [nI_1] at ek1
            subst ek1
            refine lv_goto (tgt := 7) hx hb dX11_gathers_90 (by decide) ?_
            exact ih (k + 1) (mm + 1) (upd fL mm (sp_light μ k)) (upd fT mm (sp_time μ k)) H8 locsH8 (by omega) ⟨by omega, by rw [sp_sel, if_pos ⟨c_34, Or.inl c_40⟩, List.length_append, hmm]; rfl, by rw [sp_sel, if_pos ⟨c_34, Or.inl c_40⟩, hmm]; exact hg.take, hM, hS⟩ _ (lv_sub hl [0, 2, 3, 4] rfl)
          · refine lv_iload hx hb dX11_gathers_43 (lv_at hl 0 rfl) ?_
            refine lv_iload_n hx hb dX11_gathers_45 rfl (lv_at hl 4 rfl) ?_
            refine lv_icmp_ne (tgt := 87) hx hb dX11_gathers_46 (by decide) (fun c_46 => ?_) (fun c_46 => ?_)
            · obtain ⟨k1, ek1⟩ : ∃ y : Int32, y = (nI k) + 1 := ⟨_, rfl⟩
              refine lv_iinc (v := k1) (lv' := [(3, .int k1), (4, .int ((μ 3) (μ 14 k).toNatClampNeg)), (0, .ref mo), (1, .int e1), (2, .int e2)]) hx hb dX11_gathers_87 hl (k := 1) rfl (by rw [ek1]; rfl) (by decide) rfl (fun ls hl => ?_)
              rw [nI_1] at ek1
              subst ek1
              refine lv_goto (tgt := 7) hx hb dX11_gathers_90 (by decide) ?_
              exact ih (k + 1) mm fL fT H locs (by omega) ⟨by omega, by rw [sp_sel, if_neg (fun g => g.2.elim c_40 c_46)]; exact hmm, by rw [sp_sel, if_neg (fun g => g.2.elim c_40 c_46)]; exact hg, hM, hS⟩ _ (lv_sub hl [0, 2, 3, 4] rfl)
            · refine lv_aload_n hx hb dX11_gathers_49 rfl (lv_at hl 2 rfl) ?_
              refine hk_get (ref := "LightcurveHouseModel") (v := .ref (am 35)) X K hM.1 rfl iX11_gathers_X11 35 (by decide) (by decide +kernel) (fun _ h => h) rfl dX11_gathers_50 ?_
              refine lv_aload_n hx hb dX11_gathers_53 rfl (lv_at hl 2 rfl) ?_
              refine hk_get (ref := "LightcurveHouseModel") (v := .int (nI mm)) X K hM.1 rfl iX11_gathers_X11 34 (by decide) (by decide +kernel) (fun _ h => h) rfl dX11_gathers_54 ?_
              refine lv_aload_n hx hb dX11_gathers_57 rfl (lv_at hl 2 rfl) ?_
              refine lv_iload_n hx hb dX11_gathers_58 rfl (lv_at hl 1 rfl) ?_
              refine hk_callV 1 (As := [.int (nI k)]) (rest := [.int (nI mm), .ref (am 35)]) X K hAE hS hl.1 hM.1 rfl (c_X11_light E l H hM (Inv.scr hI) hk) (fun _ h => h.elim) gX11_gathers_X11_light rfl ⟨rfl, hd_X11_light⟩ rfl ⟨⟨(Nat.le_of_ble_eq_true rfl), (Nat.le_of_ble_eq_true rfl)⟩, (Nat.le_of_ble_eq_true rfl), (Nat.le_of_ble_eq_true rfl)⟩ rfl (Nat.le_of_ble_eq_true rfl) dX11_gathers_59 (fun v9 H9 locsH9 hp hS hzH9 hkH9 => ?_)
              obtain ⟨hv, hh⟩ := hp
              rw [sp_light_scr] at hv
              subst hv; subst hh
              refine hk_ist (f := fL) X K hM.a35 hS (hM.2.2.2.2.2 35 (by decide)) (vp_in_nI (by omega) (by omega)) dX11_gathers_62 (fun H10 locsH10 hIH10 hzH10 hqH10 hS => ?_)
              rw [show (nI mm).toNatClampNeg = mm from nI_clamp (by omega)] at hIH10
              have hM := MW.set hM 35 (by decide) hIH10 hqH10
              rw [scr_35] at hM
              refine lv_aload_n hx hb dX11_gathers_63 rfl (lv_at hl 2 rfl) ?_
              refine hk_get (ref := "LightcurveHouseModel") (v := .ref (am 36)) X K hM.1 rfl iX11_gathers_X11 36 (by decide) (by decide +kernel) (fun _ h => h) rfl dX11_gathers_64 ?_
              refine lv_aload_n hx hb dX11_gathers_67 rfl (lv_at hl 2 rfl) ?_
              refine hk_get (ref := "LightcurveHouseModel") (v := .int (nI mm)) X K hM.1 rfl iX11_gathers_X11 34 (by decide) (by decide +kernel) (fun _ h => h) rfl dX11_gathers_68 ?_
              refine lv_aload_n hx hb dX11_gathers_71 rfl (lv_at hl 2 rfl) ?_
              refine lv_iload_n hx hb dX11_gathers_72 rfl (lv_at hl 1 rfl) ?_
              refine hk_callV 1 (As := [.int (nI k)]) (rest := [.int (nI mm), .ref (am 36)]) X K hAE hS hl.1 hM.1 rfl (c_X11_time E l H10 hM (Inv.scr hI) hk) (fun _ h => h.elim) gX11_gathers_X11_time rfl ⟨rfl, hd_X11_time⟩ rfl ⟨⟨(Nat.le_of_ble_eq_true rfl), (Nat.le_of_ble_eq_true rfl)⟩, (Nat.le_of_ble_eq_true rfl), (Nat.le_of_ble_eq_true rfl)⟩ rfl (Nat.le_of_ble_eq_true rfl) dX11_gathers_73 (fun v9 H11 locsH11 hp hS hzH11 hkH11 => ?_)
              obtain ⟨hv, hh⟩ := hp
              rw [sp_time_scr] at hv
              subst hv; subst hh
              refine hk_ist (f := fT) X K hM.a36 hS (hM.2.2.2.2.2 36 (by decide)) (vp_in_nI (by omega) (by omega)) dX11_gathers_76 (fun H12 locsH12 hIH12 hzH12 hqH12 hS => ?_)
              rw [show (nI mm).toNatClampNeg = mm from nI_clamp (by omega)] at hIH12
              have hM := MW.set hM 36 (by decide) hIH12 hqH12
              rw [scr_36] at hM
              refine lv_aload_n hx hb dX11_gathers_77 rfl (lv_at hl 2 rfl) ?_
              refine lv_dup hx hb dX11_gathers_78 rfl ?_
              refine hk_get (ref := "LightcurveHouseModel") (v := .int (nI mm)) X K hM.1 rfl iX11_gathers_X11 34 (by decide) (by decide +kernel) (fun _ h => h) rfl dX11_gathers_79 ?_
              refine lv_iconst (v := 1) hx hb dX11_gathers_82 (by decide) ?_
              refine lv_iadd hx hb dX11_gathers_83 ?_
              refine lv_topi (fun qa eqa => ?_)
              rw [nI_1] at eqa
              subst eqa
              refine hk_put (ref := "LightcurveHouseModel") X K hM.1 rfl iX11_gathers_X11 tyX11 tyX11_ok nmX11 hS hM.2.2.2.2.1 34 (by decide) (by decide +kernel) (fun _ h => h) (by decide +kernel) rfl rfl (Nat.le_of_ble_eq_true rfl) dX11_gathers_84 (fun H13 locsH13 hOH13 hzH13 hqH13 hS => ?_)
              rw [mf_34] at hOH13
              have hM := MW.obj hM hOH13 hqH13
              rw [va_up2] at hM
              obtain ⟨k1, ek1⟩ : ∃ y : Int32, y = (nI k) + 1 := ⟨_, rfl⟩
              refine lv_iinc (v := k1) (lv' := [(3, .int k1), (4, .int ((μ 3) (μ 14 k).toNatClampNeg)), (0, .ref mo), (1, .int e1), (2, .int e2)]) hx hb dX11_gathers_87 hl (k := 1) rfl (by rw [ek1]; rfl) (by decide) rfl (fun ls hl => ?_)
              rw [nI_1] at ek1
              subst ek1
              refine lv_goto (tgt := 7) hx hb dX11_gathers_90 (by decide) ?_
              exact ih (k + 1) (mm + 1) (upd fL mm (sp_light μ k)) (upd fT mm (sp_time μ k)) H13 locsH13 (by omega) ⟨by omega, by rw [sp_sel, if_pos ⟨c_34, Or.inr c_46⟩, List.length_append, hmm]; rfl, by rw [sp_sel, if_pos ⟨c_34, Or.inr c_46⟩, hmm]; exact hg.take, hM, hS⟩ _ (lv_sub hl [0, 2, 3, 4] rfl)
  exact L7 (cn 12 + 1) 0 0 (μ 35) (μ 36) H2 locsH2 (by omega) ⟨Nat.zero_le _, rfl, gRow.nil, by rw [scr_id]; exact hM, hS⟩ _ (lv_sub hl [0, 1, 2, 3] rfl)

