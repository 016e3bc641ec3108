abbrev rmX10_hasFeatures : Room := { frames := 1, cells := 0, slots := 0, locals := 20 }
theorem iX10_hasFeatures_X10 : ∀ w ∈ wsX100, w ∈ wsX10_hasFeatures := by decide +kernel
set_option maxHeartbeats 4000000 in
set_option maxRecDepth 100000 in
theorem c_X10_hasFeatures (E : hk_E) (l : Launch) (H0 : Heap) {Z : Nat → Prop} {ho ts : Nat} {li : Nat → Nat} {rr : Nat → Nat → Nat} {G : hG} {R : hR} {cn : Nat → Nat} {sc : Nat → Int32} {μ : Nat → Nat → Int32} (hW : HW E Z (ho, li, rr, ts) G R (cn, sc, μ) H0) {L : List Nat} (hc : hcur R μ L) {c9 : Int32}  : hk_M E l yX10_hasFeatures wsX10_hasFeatures rmX10_hasFeatures (fun _ => False) [.ref ho, .int c9] H0 (fun z H1 => ((z = some (.int 1) ∧ (¬ c9 = 0 ∧ 0 < L.length)) ∨ (z = some (.int 0) ∧ ¬ (¬ c9 = 0 ∧ 0 < L.length))) ∧ H0 = H1) := by
  refine hk_M.ofW (cc := cX10_hasFeatures) (maxL := 2) (ret := (some .boolean)) (by decide +kernel) rfl (Nat.le_of_ble_eq_true rfl) ?_
  intro p e s m args below meth c ls Q hQ X hr hlk hnm K hs9 hS hl
  obtain ⟨hx, hb, hml, hown, hts⟩ := id X
  have hAE : ∀ q, (fun _ => False) q → hk_A E q := fun _ h => h.elim
  have hl : lv_has ls 2 [(0, .ref ho), (1, .int c9)] := hl
  have hR0 : R.1 0 ≤ 80 := (HW.r0 hW).2
  have hle := hc.len
  refine lv_iload_n hx hb dX10_hasFeatures_0 rfl (lv_at hl 1 rfl) ?_
  refine lv_if_eq (tgt := 18) hx hb dX10_hasFeatures_1 (by decide) (fun c_1 => ?_) (fun c_1 => ?_)
  · refine lv_iconst (v := 0) hx hb dX10_hasFeatures_18 (by decide) ?_
    exact hk_zret X hr hlk hQ hS (Nat.le_of_ble_eq_true rfl) (Nat.le_of_ble_eq_true rfl) dX10_hasFeatures_19 (by decide) (⟨Or.inr ⟨rfl, fun g => g.1 c_1⟩, rfl⟩)
  · refine lv_aload_n hx hb dX10_hasFeatures_4 rfl (lv_at hl 0 rfl) ?_
    refine hk_get (ref := "LightcurveHouse") (v := .ref (rr 0 0)) X K (HW.o hW) rfl iX10_hasFeatures_X10 8 (by decide) (by decide +kernel) (fun _ h => h) rfl dX10_hasFeatures_5 ?_
    refine hk_callV 0 (As := []) (rest := []) X K hAE hS hl.1 (HW.r0 hW).1.1 rfl (c_X5_size E l H0 (HW.r0 hW).1) (fun _ h => h.elim) gX10_hasFeatures_X5_size rfl ⟨rfl, hd_X5_size⟩ rfl ⟨⟨(Nat.le_of_ble_eq_true rfl), (Nat.le_of_ble_eq_true rfl)⟩, (Nat.le_of_ble_eq_true rfl), (Nat.le_of_ble_eq_true rfl)⟩ rfl (Nat.le_of_ble_eq_true rfl) dX10_hasFeatures_8 (fun v9 H1 locsH1 hp hS hzH1 hkH1 => ?_)
    obtain ⟨hv, hh⟩ := hp
    subst hv; subst hh
    refine lv_if_le (tgt := 18) hx hb dX10_hasFeatures_11 (by decide) (fun c_11 => ?_) (fun c_11 => ?_)
    · refine lv_iconst (v := 0) hx hb dX10_hasFeatures_18 (by decide) ?_
      exact hk_zret X hr hlk hQ hS (Nat.le_of_ble_eq_true rfl) (Nat.le_of_ble_eq_true rfl) dX10_hasFeatures_19 (by decide) (⟨Or.inr ⟨rfl, fun g => absurd c_11 (by rw [show (0 : Int32) = nI 0 from rfl]; exact nI_ge (by omega) (by omega))⟩, rfl⟩)
    · refine lv_iconst (v := 1) hx hb dX10_hasFeatures_14 (by decide) ?_
      refine lv_goto (tgt := 19) hx hb dX10_hasFeatures_15 (by decide) ?_
      exact hk_zret X hr hlk hQ hS (Nat.le_of_ble_eq_true rfl) (Nat.le_of_ble_eq_true rfl) dX10_hasFeatures_19 (by decide) (⟨Or.inl ⟨rfl, c_1, Nat.lt_of_not_le (fun g => c_11 (by rw [show R.1 0 = 0 by omega, nI_0]; exact Int32.le_refl _))⟩, rfl⟩)

theorem clm_rng {f g : Nat → Int32} {e : Int32} : ∀ {n : Nat}, (∀ i, i < n → g i = 0 ∨ inr (g i) 30 1000000) → ∀ a : Int32, (a = 0 ∨ inr a 30 1000000) → (sp_clm f g e n a = 0 ∨ inr (sp_clm f g e n a) 30 1000000) := by
  intro n
  induction n with
  | zero => intro _ a ha; exact ha
  | succ n ih =>
    intro h a ha
    rw [sp_clm]
    refine ih (fun i hi => h i (by omega)) _ ?_
    by_cases c : f n = e ∧ 0 < g n
    · rw [if_pos c]; exact h n (by omega)
    · rw [if_neg c]; exact ha
theorem clmS_rng {cn : Nat → Nat} {sc : Nat → Int32} {μ : Nat → Nat → Int32} (hI : Inv (cn, sc, μ)) (e : Int32) : clmS (cn, sc, μ) e = 0 ∨ inr (clmS (cn, sc, μ) e) 30 1000000 := clm_rng (fun i hi => (hI.2.2.1 i hi).2.2) 0 (Or.inl rfl)
/-- whether an entry has features: a claim and a look -/
theorem hf_iff {cn : Nat → Nat} {sc : Nat → Int32} {μ : Nat → Nat → Int32} (hI : Inv (cn, sc, μ)) (e : Int32) : ¬ sp_hf (cn, sc, μ) e = 0 ↔ (¬ clmS (cn, sc, μ) e = 0 ∧ 0 < (selS (cn, sc, μ) e).length) := by
  have hl : (selS (cn, sc, μ) e).length ≤ 80 := Nat.le_trans (sp_sel_le (cn 12)) hI.1.2.2.1
  have hc := clmS_rng hI e
  have e1 : (0 < nI (selS (cn, sc, μ) e).length ∧ 0 < clmS (cn, sc, μ) e) ↔ (¬ clmS (cn, sc, μ) e = 0 ∧ 0 < (selS (cn, sc, μ) e).length) := by
    constructor
    · intro h
      refine ⟨fun g => ?_, ?_⟩
      · rw [g] at h; exact absurd h.2 (by decide)
      · refine Nat.pos_of_ne_zero (fun g => ?_)
        rw [g] at h; exact absurd h.1 (by decide)
    · intro h
      refine ⟨?_, ?_⟩
      · rw [show (0 : Int32) = nI 0 from rfl]; exact nI_lt h.2 (by omega)
      · exact hper_pos (hc.resolve_left h.1)
  have e2 : sp_hf (cn, sc, μ) e = if (0 < nI (selS (cn, sc, μ) e).length ∧ 0 < clmS (cn, sc, μ) e) then 1 else 0 := rfl
  rw [e2]
  by_cases c : (0 < nI (selS (cn, sc, μ) e).length ∧ 0 < clmS (cn, sc, μ) e)
  · rw [if_pos c]; exact ⟨fun _ => e1.mp c, fun _ => by decide⟩
  · rw [if_neg c]; exact ⟨fun g => absurd rfl g, fun g => absurd (e1.mpr g) c⟩
theorem sel_sml {cn : Nat → Nat} {sc : Nat → Int32} {μ : Nat → Nat → Int32} (hI : Inv (cn, sc, μ)) (e : Int32) : ∀ x ∈ selS (cn, sc, μ) e, sml (sp_light μ x) := fun x hx => light_sml hI (sp_sel_lt (cn 12) x hx)
theorem hd_X10_claimOf : yX10_claimOf.cls ≠ "java/lang/invoke/MethodHandle" ∧ yX10_claimOf.cls ≠ "java/lang/invoke/VarHandle" ∧ (parseMethodDescriptor yX10_claimOf.desc).map (fun d => d.parameters.length) = some 1 := ⟨by decide, by decide, by decide +kernel⟩
theorem hd_X10_hasFeatures : yX10_hasFeatures.cls ≠ "java/lang/invoke/MethodHandle" ∧ yX10_hasFeatures.cls ≠ "java/lang/invoke/VarHandle" ∧ (parseMethodDescriptor yX10_hasFeatures.desc).map (fun d => d.parameters.length) = some 1 := ⟨by decide, by decide, by decide +kernel⟩
theorem hkw_X10_gatherClaimedCurve_2_161 : ∀ w ∈ (vx_atS RX10 161 "java/lang/IllegalStateException" ["java/lang/RuntimeException", "java/lang/Exception"]).filter goodWord, w ∈ wsX10_gatherClaimedCurve := by decide +kernel
abbrev rmX10_gatherClaimedCurve : Room := { frames := 10, cells := 1, slots := 6, locals := 179 }
set_option maxHeartbeats 4000000 in
set_option maxRecDepth 100000 in
theorem c_X10_gatherClaimedCurve (E : hk_E) (l : Launch) (hl9 : l.stackTraces = false) (H0 : Heap) {Z : Nat → Prop} {ho ts : Nat} {li : Nat → Nat} {rr : Nat → Nat → Nat} {G : hG} {R : hR} {cn : Nat → Nat} {sc : Nat → Int32} {μ : Nat → Nat → Int32} (hW : HW E Z (ho, li, rr, ts) G R (cn, sc, μ) H0) (hI : Inv (cn, sc, μ)) {e9 : Int32}  : hk_X E l yX10_gatherClaimedCurve wsX10_gatherClaimedCurve rmX10_gatherClaimedCurve (fun q => (q = rr 0 0 ∨ q = rr 0 1 ∨ q = rr 0 2) ∨ H0.size ≤ q) [.ref ho, .int e9] H0 (fun z H1 => (z = some (.int (clmS (cn, sc, μ) e9)) ∧ ¬ sp_hf (cn, sc, μ) e9 = 0) ∧ (∃ R2 : hR, HW E Z (ho, li, rr, ts) G R2 (cn, sc, μ) H1 ∧ hcur R2 μ (selS (cn, sc, μ) e9)) ∧ H0.size ≤ H1.size) (fun x H1 => (x = XS ∧ sp_hf (cn, sc, μ) e9 = 0) ∧ (∃ R2 : hR, HW E Z (ho, li, rr, ts) G R2 (cn, sc, μ) H1)) := by
  refine hk_X.ofW (cc := cX10_gatherClaimedCurve) (maxL := 3) (ret := (some .int)) (by decide +kernel) rfl (Nat.le_of_ble_eq_true rfl) ?_
  intro p e s m args below meth c ls Q hQ X hr hlk hx9 K hs9 hS hl
  obtain ⟨hx, hb, hml, hown, hts⟩ := id X
  have hAE : ∀ q, (fun q => (q = rr 0 0 ∨ q = rr 0 1 ∨ q = rr 0 2) ∨ H0.size ≤ q) q → hk_A E q := fun q h => h.elim (fun h => by rcases h with h | h | h <;> rw [h]; exact (HW.rx hW 0 (by decide)).1.1; exact (HW.rx hW 0 (by decide)).1.2.1; exact (HW.rx hW 0 (by decide)).1.2.2) (fun h => Nat.le_trans (by rw [← hs9]; exact K.2.2.2.2.2.2.2) h)
  have hl : lv_has ls 3 [(0, .ref ho), (1, .int e9)] := hl
  have hc1 : cn 1 ≤ 12 := hI.1.1
  have hc8 : cn 8 ≤ 8 := hI.1.2.1
  have hc12 : cn 12 ≤ 80 := hI.1.2.2.1
  have hc22 : cn 22 ≤ 8 := hI.1.2.2.2.1
  have hc29 : cn 29 ≤ 30 := hI.1.2.2.2.2
  have hI9 := hI
  refine lv_aload_n hx hb dX10_gatherClaimedCurve_0 rfl (lv_at hl 0 rfl) ?_
  refine lv_iload_n hx hb dX10_gatherClaimedCurve_1 rfl (lv_at hl 1 rfl) ?_
  refine lv_iload_n hx hb dX10_gatherClaimedCurve_2 rfl (lv_at hl 1 rfl) ?_
  refine hk_callV 2 (As := [.int e9, .int e9]) (rest := []) X K hAE hS hl.1 (HW.o hW) rfl (c_X10_gatherCurve E l H0 hW hI9 (e1 := e9) (e2 := e9)) (fun q h => Or.inl h) gX10_gatherClaimedCurve_X10_gatherCurve rfl ⟨rfl, hd_X10_gatherCurve⟩ rfl ⟨⟨(Nat.le_of_ble_eq_true rfl), (Nat.le_of_ble_eq_true rfl)⟩, (Nat.le_of_ble_eq_true rfl), (Nat.le_of_ble_eq_true rfl)⟩ rfl (Nat.le_of_ble_eq_true rfl) dX10_gatherClaimedCurve_3 (fun v9 H1 locsH1 hp hS hzH1 hkH1 => ?_)
  obtain ⟨hv, ⟨n9, k9, v9, hW, hup, hrl⟩, hszH1⟩ := hp
  subst hv
  rw [sel_one hI9 _ _ (Nat.le_refl _)] at hrl
  obtain ⟨R, hW, hc⟩ : ∃ R2 : hR, HW E Z (ho, li, rr, ts) G R2 (cn, sc, μ) H1 ∧ hcur R2 μ (selS (cn, sc, μ) e9) := ⟨_, hW, ⟨hrl, hup, sp_sel_up _⟩⟩
  refine lv_aload_n hx hb dX10_gatherClaimedCurve_6 rfl (lv_at hl 0 rfl) ?_
  refine lv_iload_n hx hb dX10_gatherClaimedCurve_7 rfl (lv_at hl 1 rfl) ?_
  refine hk_callV 1 (As := [.int e9]) (rest := []) X K hAE hS hl.1 (HW.o hW) rfl (c_X10_claimOf E l H1 hW hI9 (e9 := e9)) (fun _ h => h.elim) gX10_gatherClaimedCurve_X10_claimOf rfl ⟨rfl, hd_X10_claimOf⟩ rfl ⟨⟨(Nat.le_of_ble_eq_true rfl), (Nat.le_of_ble_eq_true rfl)⟩, (Nat.le_of_ble_eq_true rfl), (Nat.le_of_ble_eq_true rfl)⟩ rfl (Nat.le_of_ble_eq_true rfl) dX10_gatherClaimedCurve_8 (fun v9 H2 locsH2 hp hS hzH2 hkH2 => ?_)
  obtain ⟨hv, hh⟩ := hp
  subst hv; subst hh
  refine lv_istore_n (lv' := [(2, .int (clmS (cn, sc, μ) e9)), (0, .ref ho), (1, .int e9)]) hx hb dX10_gatherClaimedCurve_11 rfl hl (by decide) rfl (fun ls hl => ?_)
  refine lv_aload_n hx hb dX10_gatherClaimedCurve_12 rfl (lv_at hl 1 rfl) ?_
  refine lv_iload_n hx hb dX10_gatherClaimedCurve_13 rfl (lv_at hl 0 rfl) ?_
  refine hk_callV 1 (As := [.int (clmS (cn, sc, μ) e9)]) (rest := []) X K hAE hS hl.1 (HW.o hW) rfl (c_X10_hasFeatures E l H1 hW hc (c9 := clmS (cn, sc, μ) e9)) (fun _ h => h.elim) gX10_gatherClaimedCurve_X10_hasFeatures rfl ⟨rfl, hd_X10_hasFeatures⟩ rfl ⟨⟨(Nat.le_of_ble_eq_true rfl), (Nat.le_of_ble_eq_true rfl)⟩, (Nat.le_of_ble_eq_true rfl), (Nat.le_of_ble_eq_true rfl)⟩ rfl (Nat.le_of_ble_eq_true rfl) dX10_gatherClaimedCurve_14 (fun v9 H3 locsH3 hp hS hzH3 hkH3 => ?_)
  obtain ⟨hv, hh⟩ := hp
  subst hh
  rcases hv with ⟨hv, c_14⟩ | ⟨hv, c_14⟩
  · subst hv
    refine lv_if_ne (tgt := 31) hx hb dX10_gatherClaimedCurve_17 (by decide) (fun c_17 => ?_) (fun c_17 => ?_)
    · refine lv_iload_n hx hb dX10_gatherClaimedCurve_31 rfl (lv_at hl 0 rfl) ?_
      exact hk_iretx X hr hlk hQ hS (Nat.le_of_ble_eq_true rfl) (Nat.le_of_ble_eq_true rfl) dX10_gatherClaimedCurve_32 (⟨⟨rfl, (hf_iff hI9 e9).mpr c_14⟩, ⟨R, hW, hc⟩, (Nat.le_of_eq hszH1.symm)⟩)
    · exact absurd c_17 (by decide)
  · subst hv
    refine lv_if_ne (tgt := 31) hx hb dX10_gatherClaimedCurve_17 (by decide) (fun c_17 => ?_) (fun c_17 => ?_)
    · exact absurd rfl c_17
    · exact hk_throwW (text := "the entry has no claim, or no look") X rfl K hl9 hx9 hlk hQ hS hAE (by decide) (by decide +kernel) (by decide +kernel) (by decide +kernel) hkw_X10_gatherClaimedCurve_2_161 hkb_2 (by decide +kernel) hkg_2_161 hl.1 dX10_gatherClaimedCurve_20 dX10_gatherClaimedCurve_23 dX10_gatherClaimedCurve_24 dX10_gatherClaimedCurve_27 dX10_gatherClaimedCurve_30 (Nat.le_of_ble_eq_true rfl) (Nat.le_of_ble_eq_true rfl) (Nat.le_of_ble_eq_true rfl) (Nat.le_of_ble_eq_true rfl) (fun H9 hz9 hq9 => ⟨⟨rfl, Decidable.not_not.mp (fun g => c_14 ((hf_iff hI9 e9).mp g))⟩, R, hW.kept (fun q h1 _ => hq9 q h1)⟩) (Nat.le_of_ble_eq_true rfl) (Nat.le_of_ble_eq_true rfl)

theorem hd_X10_gatherClaimedCurve : yX10_gatherClaimedCurve.cls ≠ "java/lang/invoke/MethodHandle" ∧ yX10_gatherClaimedCurve.cls ≠ "java/lang/invoke/VarHandle" ∧ (parseMethodDescriptor yX10_gatherClaimedCurve.desc).map (fun d => d.parameters.length) = some 1 := ⟨by decide, by decide, by decide +kernel⟩
abbrev rmX10_feature : Room := { frames := 11, cells := 8, slots := 400, locals := 201 }
theorem iX10_feature_X7 : ∀ w ∈ wsX70, w ∈ wsX10_feature := by decide +kernel
set_option maxHeartbeats 4000000 in
set_option maxRecDepth 100000 in
theorem c_X10_feature (E : hk_E) (l : Launch) (hl9 : l.stackTraces = false) (H0 : Heap) {Z : Nat → Prop} {ho ts : Nat} {li : Nat → Nat} {rr : Nat → Nat → Nat} {G : hG} {R : hR} {cn : Nat → Nat} {sc : Nat → Int32} {μ : Nat → Nat → Int32} (hW : HW E Z (ho, li, rr, ts) G R (cn, sc, μ) H0) (hI : InvF (cn, sc, μ)) (hZn : ∀ q, H0.size ≤ q → Z q) {p0 p1 : Int32}  : hk_X E l yX10_feature wsX10_feature rmX10_feature (Z) [.ref ho, .int p0, .int p1] H0 (hpost E Z (ho, li, rr, ts) (cd_feature p0 p1 (cn, sc, μ)) (an_feature p0 p1 (cn, sc, μ)) (st_feature p0 p1 (cn, sc, μ))) (hpx E Z (ho, li, rr, ts) (cd_feature p0 p1 (cn, sc, μ)) (cn, sc, μ) [XI, XA, XS]) := by
  refine hk_X.ofW (cc := cX10_feature) (maxL := 4) (ret := (some .int)) (by decide +kernel) rfl (Nat.le_of_ble_eq_true rfl) ?_
  intro p e s m args below meth c ls Q hQ X hr hlk hx9 K hs9 hS hl
  obtain ⟨hx, hb, hml, hown, hts⟩ := id X
  have hAE : ∀ q, (Z) q → hk_A E q := hW.2.2.2.2.2.2.2.2.2.2.2.2
  have hl : lv_has ls 4 [(0, .ref ho), (1, .int p0), (2, .int p1)] := hl
  have hI9 := hI.1
  have hZA : ∀ q, Z q → hk_A E q := hW.2.2.2.2.2.2.2.2.2.2.2.2
  have hc1 : cn 1 ≤ 12 := hI9.1.1
  have hc8 : cn 8 ≤ 8 := hI9.1.2.1
  have hc12 : cn 12 ≤ 80 := hI9.1.2.2.1
  have hc22 : cn 22 ≤ 8 := hI9.1.2.2.2.1
  have hc29 : cn 29 ≤ 30 := hI9.1.2.2.2.2
  refine lv_aload_n hx hb dX10_feature_0 rfl (lv_at hl 0 rfl) ?_
  refine lv_iload_n hx hb dX10_feature_1 rfl (lv_at hl 1 rfl) ?_
  refine hk_callVx 1 (As := [.int p0]) (rest := []) X K hAE hS hl.1 (HW.o hW) rfl (c_X10_starAt E l hl9 H0 hW hc1 (i9 := p0)) (fun q h => hZn q (Nat.le_trans (Nat.le_refl _) h)) gX10_feature_X10_starAt rfl ⟨rfl, hd_X10_starAt⟩ rfl ⟨⟨(Nat.le_of_ble_eq_true rfl), (Nat.le_of_ble_eq_true rfl)⟩, (Nat.le_of_ble_eq_true rfl), (Nat.le_of_ble_eq_true rfl)⟩ rfl (Nat.le_of_ble_eq_true rfl) dX10_feature_2 (fun x9 ce9 q9 H1 locsH1 hp hS hzH1 hkH1 hce hcv hcl => hk_out hx9 hlk hQ hS hce hcv hcl (Nat.le_of_ble_eq_true rfl) (Nat.le_of_ble_eq_true rfl) (hpx_1 hW (fun q h1 h2 => hkH1 q h1 h2) (Or.inl ⟨by unfold cd_feature; (try dsimp only); rw [if_neg hp.2], hp.1⟩))) (fun v9 H1 locsH1 hp hS hzH1 hkH1 => ?_)
  obtain ⟨hv, hh⟩ := hp
  obtain ⟨hv, c_2⟩ := hv
  subst hv; subst hh
  refine lv_astore_n (lv' := [(3, .ref (gad G 2 (ix p0))), (0, .ref ho), (1, .int p0), (2, .int p1)]) hx hb dX10_feature_5 rfl hl (by decide) rfl (fun ls hl => ?_)
  refine lv_iload_n hx hb dX10_feature_6 rfl (lv_at hl 3 rfl) ?_
  refine lv_iconst (v := 0) hx hb dX10_feature_7 (by decide) ?_
  refine lv_iconst (v := 2) hx hb dX10_feature_8 (by decide) ?_
  refine hk_callSx 3 (As := [.int p1, .int 0, .int 2]) (rest := []) X K hAE hS hl.1 (c_X10_needRange E l hl9 H0 (a9 := p1) (lo := 0) (hi := 2)) (fun q h => hZn q (Nat.le_trans (Nat.le_refl _) h)) gX10_feature_X10_needRange rfl hd_X10_needRange rfl ⟨⟨(Nat.le_of_ble_eq_true rfl), (Nat.le_of_ble_eq_true rfl)⟩, (Nat.le_of_ble_eq_true rfl), (Nat.le_of_ble_eq_true rfl)⟩ rfl (Nat.le_of_ble_eq_true rfl) dX10_feature_9 (fun x9 ce9 q9 H2 locsH2 hp hS hzH2 hkH2 hce hcv hcl => hk_out hx9 hlk hQ hS hce hcv hcl (Nat.le_of_ble_eq_true rfl) (Nat.le_of_ble_eq_true rfl) (hpx_1 hW (fun q h1 h2 => hkH2 q h1 h2) (Or.inr (Or.inl ⟨by unfold cd_feature; (try dsimp only); rw [if_pos c_2, if_neg hp.2], hp.1⟩)))) (fun v9 H2 locsH2 hp hS hzH2 hkH2 => ?_)
  obtain ⟨hv, hh⟩ := hp
  obtain ⟨hv, c_9⟩ := hv
  subst hv; subst hh
  refine lv_aload_n hx hb dX10_feature_12 rfl (lv_at hl 1 rfl) ?_
  refine lv_iload_n hx hb dX10_feature_13 rfl (lv_at hl 3 rfl) ?_
  refine lv_aload_n hx hb dX10_feature_14 rfl (lv_at hl 1 rfl) ?_
  refine lv_aload_n hx hb dX10_feature_15 rfl (lv_at hl 0 rfl) ?_
  refine hk_get (ref := "LightcurveHouse$Star") (v := .int (μ 3 (ix p0))) X K (HW.e2 hW (isS_xl c_2 (show cn 1 < 2 ^ 31 by omega))) rfl iX10_feature_X7 2 (by decide) (by decide +kernel) (fun _ h => h) rfl dX10_feature_16 ?_
  refine hk_callVx 1 (As := [.int (μ 3 (ix p0))]) (rest := [.int p1, .ref ho]) X K hAE hS hl.1 (HW.o hW) rfl (c_X10_gatherClaimedCurve E l hl9 H0 hW hI9 (e9 := μ 3 (ix p0))) (fun q h => h.elim ((HW.rZ hW (r := 0) (by decide)) q) (fun h => hZn q h)) gX10_feature_X10_gatherClaimedCurve rfl ⟨rfl, hd_X10_gatherClaimedCurve⟩ rfl ⟨⟨(Nat.le_of_ble_eq_true rfl), (Nat.le_of_ble_eq_true rfl)⟩, (Nat.le_of_ble_eq_true rfl), (Nat.le_of_ble_eq_true rfl)⟩ rfl (Nat.le_of_ble_eq_true rfl) dX10_feature_19 (fun x9 ce9 q9 H3 locsH3 hp hS hzH3 hkH3 hce hcv hcl => hk_out hx9 hlk hQ hS hce hcv hcl (Nat.le_of_ble_eq_true rfl) (Nat.le_of_ble_eq_true rfl) (⟨Or.inr (Or.inr ⟨by unfold cd_feature; (try dsimp only); rw [if_pos c_2, if_pos c_9, if_pos hp.1.2], hp.1.1⟩), G, hp.2⟩)) (fun v9 H3 locsH3 hp hS hzH3 hkH3 => ?_)
  obtain ⟨⟨hv, c_hf⟩, ⟨R, hW, hc⟩, hzz⟩ := hp
  subst hv
  have hf9 := (hf_iff hI9 (μ 3 (ix p0))).mp c_hf
  have hcl9 := (clmS_rng hI9 (μ 3 (ix p0))).resolve_left hf9.1
  have hsm9 := sel_sml hI9 (μ 3 (ix p0))
  refine hk_callV 2 (As := [.int p1, .int (clmS (cn, sc, μ) (μ 3 (ix p0)))]) (rest := []) X K hAE hS hl.1 (HW.o hW) rfl (c_X10_featureOfCurve E l H3 hW hc hf9.2 hsm9 hcl9 (w9 := p1)) (fun _ h => h.elim) gX10_feature_X10_featureOfCurve rfl ⟨rfl, hd_X10_featureOfCurve⟩ rfl ⟨⟨(Nat.le_of_ble_eq_true rfl), (Nat.le_of_ble_eq_true rfl)⟩, (Nat.le_of_ble_eq_true rfl), (Nat.le_of_ble_eq_true rfl)⟩ rfl (Nat.le_of_ble_eq_true rfl) dX10_feature_22 (fun v9 H4 locsH4 hp hS hzH4 hkH4 => ?_)
  obtain ⟨hv, hh⟩ := hp
  subst hv; subst hh
  exact hk_iretx X hr hlk hQ hS (Nat.le_of_ble_eq_true rfl) (Nat.le_of_ble_eq_true rfl) dX10_feature_25 (⟨by unfold cd_feature; (try dsimp only); rw [if_pos c_2, if_pos c_9, if_neg c_hf], rfl, _, _, hW⟩)

theorem hd_X10_votesForClass : yX10_votesForClass.cls ≠ "java/lang/invoke/MethodHandle" ∧ yX10_votesForClass.cls ≠ "java/lang/invoke/VarHandle" ∧ (parseMethodDescriptor yX10_votesForClass.desc).map (fun d => d.parameters.length) = some 2 := ⟨by decide, by decide, by decide +kernel⟩
abbrev rmX10_votes : Room := { frames := 11, cells := 8, slots := 400, locals := 201 }
theorem iX10_votes_X7 : ∀ w ∈ wsX70, w ∈ wsX10_votes := by decide +kernel
set_option maxHeartbeats 4000000 in
set_option maxRecDepth 100000 in
theorem c_X10_votes (E : hk_E) (l : Launch) (hl9 : l.stackTraces = false) (H0 : Heap) {Z : Nat → Prop} {ho ts : Nat} {li : Nat → Nat} {rr : Nat → Nat → Nat} {G : hG} {R : hR} {cn : Nat → Nat} {sc : Nat → Int32} {μ : Nat → Nat → Int32} (hW : HW E Z (ho, li, rr, ts) G R (cn, sc, μ) H0) (hI : InvF (cn, sc, μ)) (hZn : ∀ q, H0.size ≤ q → Z q) {p0 p1 : Int32}  : hk_X E l yX10_votes wsX10_votes rmX10_votes (Z) [.ref ho, .int p0, .int p1] H0 (hpost E Z (ho, li, rr, ts) (cd_votes p0 p1 (cn, sc, μ)) (an_votes p0 p1 (cn, sc, μ)) (st_votes p0 p1 (cn, sc, μ))) (hpx E Z (ho, li, rr, ts) (cd_votes p0 p1 (cn, sc, μ)) (cn, sc, μ) [XI, XA, XS]) := by
  refine hk_X.ofW (cc := cX10_votes) (maxL := 4) (ret := (some .int)) (by decide +kernel) rfl (Nat.le_of_ble_eq_true rfl) ?_
  intro p e s m args below meth c ls Q hQ X hr hlk hx9 K hs9 hS hl
  obtain ⟨hx, hb, hml, hown, hts⟩ := id X
  have hAE : ∀ q, (Z) q → hk_A E q := hW.2.2.2.2.2.2.2.2.2.2.2.2
  have hl : lv_has ls 4 [(0, .ref ho), (1, .int p0), (2, .int p1)] := hl
  have hI9 := hI.1
  have hZA : ∀ q, Z q → hk_A E q := hW.2.2.2.2.2.2.2.2.2.2.2.2
  have hc1 : cn 1 ≤ 12 := hI9.1.1
  have hc8 : cn 8 ≤ 8 := hI9.1.2.1
  have hc12 : cn 12 ≤ 80 := hI9.1.2.2.1
  have hc22 : cn 22 ≤ 8 := hI9.1.2.2.2.1
  have hc29 : cn 29 ≤ 30 := hI9.1.2.2.2.2
  refine lv_aload_n hx hb dX10_votes_0 rfl (lv_at hl 0 rfl) ?_
  refine lv_iload_n hx hb dX10_votes_1 rfl (lv_at hl 1 rfl) ?_
  refine hk_callVx 1 (As := [.int p0]) (rest := []) X K hAE hS hl.1 (HW.o hW) rfl (c_X10_starAt E l hl9 H0 hW hc1 (i9 := p0)) (fun q h => hZn q (Nat.le_trans (Nat.le_refl _) h)) gX10_votes_X10_starAt rfl ⟨rfl, hd_X10_starAt⟩ rfl ⟨⟨(Nat.le_of_ble_eq_true rfl), (Nat.le_of_ble_eq_true rfl)⟩, (Nat.le_of_ble_eq_true rfl), (Nat.le_of_ble_eq_true rfl)⟩ rfl (Nat.le_of_ble_eq_true rfl) dX10_votes_2 (fun x9 ce9 q9 H1 locsH1 hp hS hzH1 hkH1 hce hcv hcl => hk_out hx9 hlk hQ hS hce hcv hcl (Nat.le_of_ble_eq_true rfl) (Nat.le_of_ble_eq_true rfl) (hpx_1 hW (fun q h1 h2 => hkH1 q h1 h2) (Or.inl ⟨by unfold cd_votes; (try dsimp only); rw [if_neg hp.2], hp.1⟩))) (fun v9 H1 locsH1 hp hS hzH1 hkH1 => ?_)
  obtain ⟨hv, hh⟩ := hp
  obtain ⟨hv, c_2⟩ := hv
  subst hv; subst hh
  refine lv_astore_n (lv' := [(3, .ref (gad G 2 (ix p0))), (0, .ref ho), (1, .int p0), (2, .int p1)]) hx hb dX10_votes_5 rfl hl (by decide) rfl (fun ls hl => ?_)
  refine lv_iload_n hx hb dX10_votes_6 rfl (lv_at hl 3 rfl) ?_
  refine lv_iconst (v := 0) hx hb dX10_votes_7 (by decide) ?_
  refine lv_iconst (v := 4) hx hb dX10_votes_8 (by decide) ?_
  refine hk_callSx 3 (As := [.int p1, .int 0, .int 4]) (rest := []) X K hAE hS hl.1 (c_X10_needRange E l hl9 H0 (a9 := p1) (lo := 0) (hi := 4)) (fun q h => hZn q (Nat.le_trans (Nat.le_refl _) h)) gX10_votes_X10_needRange rfl hd_X10_needRange rfl ⟨⟨(Nat.le_of_ble_eq_true rfl), (Nat.le_of_ble_eq_true rfl)⟩, (Nat.le_of_ble_eq_true rfl), (Nat.le_of_ble_eq_true rfl)⟩ rfl (Nat.le_of_ble_eq_true rfl) dX10_votes_9 (fun x9 ce9 q9 H2 locsH2 hp hS hzH2 hkH2 hce hcv hcl => hk_out hx9 hlk hQ hS hce hcv hcl (Nat.le_of_ble_eq_true rfl) (Nat.le_of_ble_eq_true rfl) (hpx_1 hW (fun q h1 h2 => hkH2 q h1 h2) (Or.inr (Or.inl ⟨by unfold cd_votes; (try dsimp only); rw [if_pos c_2, if_neg hp.2], hp.1⟩)))) (fun v9 H2 locsH2 hp hS hzH2 hkH2 => ?_)
  obtain ⟨hv, hh⟩ := hp
  obtain ⟨hv, c_9⟩ := hv
  subst hv; subst hh
  refine lv_aload_n hx hb dX10_votes_12 rfl (lv_at hl 1 rfl) ?_
  refine lv_iload_n hx hb dX10_votes_13 rfl (lv_at hl 3 rfl) ?_
  refine lv_aload_n hx hb dX10_votes_14 rfl (lv_at hl 1 rfl) ?_
  refine lv_aload_n hx hb dX10_votes_15 rfl (lv_at hl 0 rfl) ?_
  refine hk_get (ref := "LightcurveHouse$Star") (v := .int (μ 3 (ix p0))) X K (HW.e2 hW (isS_xl c_2 (show cn 1 < 2 ^ 31 by omega))) rfl iX10_votes_X7 2 (by decide) (by decide +kernel) (fun _ h => h) rfl dX10_votes_16 ?_
  refine hk_callVx 1 (As := [.int (μ 3 (ix p0))]) (rest := [.int p1, .ref ho]) X K hAE hS hl.1 (HW.o hW) rfl (c_X10_gatherClaimedCurve E l hl9 H0 hW hI9 (e9 := μ 3 (ix p0))) (fun q h => h.elim ((HW.rZ hW (r := 0) (by decide)) q) (fun h => hZn q h)) gX10_votes_X10_gatherClaimedCurve rfl ⟨rfl, hd_X10_gatherClaimedCurve⟩ rfl ⟨⟨(Nat.le_of_ble_eq_true rfl), (Nat.le_of_ble_eq_true rfl)⟩, (Nat.le_of_ble_eq_true rfl), (Nat.le_of_ble_eq_true rfl)⟩ rfl (Nat.le_of_ble_eq_true rfl) dX10_votes_19 (fun x9 ce9 q9 H3 locsH3 hp hS hzH3 hkH3 hce hcv hcl => hk_out hx9 hlk hQ hS hce hcv hcl (Nat.le_of_ble_eq_true rfl) (Nat.le_of_ble_eq_true rfl) (⟨Or.inr (Or.inr ⟨by unfold cd_votes; (try dsimp only); rw [if_pos c_2, if_pos c_9, if_pos hp.1.2], hp.1.1⟩), G, hp.2⟩)) (fun v9 H3 locsH3 hp hS hzH3 hkH3 => ?_)
  obtain ⟨⟨hv, c_hf⟩, ⟨R, hW, hc⟩, hzz⟩ := hp
  subst hv
  have hf9 := (hf_iff hI9 (μ 3 (ix p0))).mp c_hf
  have hcl9 := (clmS_rng hI9 (μ 3 (ix p0))).resolve_left hf9.1
  have hsm9 := sel_sml hI9 (μ 3 (ix p0))
  refine hk_callV 2 (As := [.int p1, .int (clmS (cn, sc, μ) (μ 3 (ix p0)))]) (rest := []) X K hAE hS hl.1 (HW.o hW) rfl (c_X10_votesForClass E l H3 hW hI9 hc hf9.2 hsm9 hcl9 (kd := p1)) (fun _ h => h.elim) gX10_votes_X10_votesForClass rfl ⟨rfl, hd_X10_votesForClass⟩ rfl ⟨⟨(Nat.le_of_ble_eq_true rfl), (Nat.le_of_ble_eq_true rfl)⟩, (Nat.le_of_ble_eq_true rfl), (Nat.le_of_ble_eq_true rfl)⟩ rfl (Nat.le_of_ble_eq_true rfl) dX10_votes_22 (fun v9 H4 locsH4 hp hS hzH4 hkH4 => ?_)
  obtain ⟨hv, hh⟩ := hp
  subst hv; subst hh
  exact hk_iretx X hr hlk hQ hS (Nat.le_of_ble_eq_true rfl) (Nat.le_of_ble_eq_true rfl) dX10_votes_25 (⟨by unfold cd_votes; (try dsimp only); rw [if_pos c_2, if_pos c_9, if_neg c_hf], rfl, _, _, hW⟩)

theorem kd_up {V : Nat → Int32} {k : Nat} (h : (sp_kd V k).2 < V k) : sp_kd V (k + 1) = (nI k, V k) := by rw [sp_kd, if_pos h, if_pos h]
theorem kd_no {V : Nat → Int32} {k : Nat} (h : ¬ (sp_kd V k).2 < V k) : sp_kd V (k + 1) = sp_kd V k := by rw [sp_kd, if_neg h, if_neg h]
abbrev rmX10_kind : Room := { frames := 11, cells := 8, slots := 400, locals := 201 }
theorem iX10_kind_X7 : ∀ w ∈ wsX70, w ∈ wsX10_kind := by decide +kernel
set_option maxHeartbeats 4000000 in
set_option maxRecDepth 100000 in
theorem c_X10_kind (E : hk_E) (l : Launch) (hl9 : l.stackTraces = false) (H0 : Heap) {Z : Nat → Prop} {ho ts : Nat} {li : Nat → Nat} {rr : Nat → Nat → Nat} {G : hG} {R : hR} {cn : Nat → Nat} {sc : Nat → Int32} {μ : Nat → Nat → Int32} (hW : HW E Z (ho, li, rr, ts) G R (cn, sc, μ) H0) (hI : InvF (cn, sc, μ)) (hZn : ∀ q, H0.size ≤ q → Z q) {p0 : Int32}  : hk_X E l yX10_kind wsX10_kind rmX10_kind (Z) [.ref ho, .int p0] H0 (hpost E Z (ho, li, rr, ts) (cd_kind p0 (cn, sc, μ)) (an_kind p0 (cn, sc, μ)) (st_kind p0 (cn, sc, μ))) (hpx E Z (ho, li, rr, ts) (cd_kind p0 (cn, sc, μ)) (cn, sc, μ) [XI, XS]) := by
  refine hk_X.ofW (cc := cX10_kind) (maxL := 7) (ret := (some .int)) (by decide +kernel) rfl (Nat.le_of_ble_eq_true rfl) ?_
  intro p e s m args below meth c ls Q hQ X hr hlk hx9 K hs9 hS hl
  obtain ⟨hx, hb, hml, hown, hts⟩ := id X
  have hAE : ∀ q, (Z) q → hk_A E q := hW.2.2.2.2.2.2.2.2.2.2.2.2
  have hl : lv_has ls 7 [(0, .ref ho), (1, .int p0)] := hl
  have hI9 := hI.1
  have hZA : ∀ q, Z q → hk_A E q := hW.2.2.2.2.2.2.2.2.2.2.2.2
  have hc1 : cn 1 ≤ 12 := hI9.1.1
  have hc8 : cn 8 ≤ 8 := hI9.1.2.1
  have hc12 : cn 12 ≤ 80 := hI9.1.2.2.1
  have hc22 : cn 22 ≤ 8 := hI9.1.2.2.2.1
  have hc29 : cn 29 ≤ 30 := hI9.1.2.2.2.2
  refine lv_aload_n hx hb dX10_kind_0 rfl (lv_at hl 0 rfl) ?_
  refine lv_aload_n hx hb dX10_kind_1 rfl (lv_at hl 0 rfl) ?_
  refine lv_iload_n hx hb dX10_kind_2 rfl (lv_at hl 1 rfl) ?_
  refine hk_callVx 1 (As := [.int p0]) (rest := [.ref ho]) X K hAE hS hl.1 (HW.o hW) rfl (c_X10_starAt E l hl9 H0 hW hc1 (i9 := p0)) (fun q h => hZn q (Nat.le_trans (Nat.le_refl _) h)) gX10_kind_X10_starAt rfl ⟨rfl, hd_X10_starAt⟩ rfl ⟨⟨(Nat.le_of_ble_eq_true rfl), (Nat.le_of_ble_eq_true rfl)⟩, (Nat.le_of_ble_eq_true rfl), (Nat.le_of_ble_eq_true rfl)⟩ rfl (Nat.le_of_ble_eq_true rfl) dX10_kind_3 (fun x9 ce9 q9 H1 locsH1 hp hS hzH1 hkH1 hce hcv hcl => hk_out hx9 hlk hQ hS hce hcv hcl (Nat.le_of_ble_eq_true rfl) (Nat.le_of_ble_eq_true rfl) (hpx_1 hW (fun q h1 h2 => hkH1 q h1 h2) (Or.inl ⟨by unfold cd_kind; (try dsimp only); rw [if_neg hp.2], hp.1⟩))) (fun v9 H1 locsH1 hp hS hzH1 hkH1 => ?_)
  obtain ⟨hv, hh⟩ := hp
  obtain ⟨hv, c_3⟩ := hv
  subst hv; subst hh
  refine hk_get (ref := "LightcurveHouse$Star") (v := .int (μ 3 (ix p0))) X K (HW.e2 hW (isS_xl c_3 (show cn 1 < 2 ^ 31 by omega))) rfl iX10_kind_X7 2 (by decide) (by decide +kernel) (fun _ h => h) rfl dX10_kind_6 ?_
  refine hk_callVx 1 (As := [.int (μ 3 (ix p0))]) (rest := []) X K hAE hS hl.1 (HW.o hW) rfl (c_X10_gatherClaimedCurve E l hl9 H0 hW hI9 (e9 := μ 3 (ix p0))) (fun q h => h.elim ((HW.rZ hW (r := 0) (by decide)) q) (fun h => hZn q h)) gX10_kind_X10_gatherClaimedCurve rfl ⟨rfl, hd_X10_gatherClaimedCurve⟩ rfl ⟨⟨(Nat.le_of_ble_eq_true rfl), (Nat.le_of_ble_eq_true rfl)⟩, (Nat.le_of_ble_eq_true rfl), (Nat.le_of_ble_eq_true rfl)⟩ rfl (Nat.le_of_ble_eq_true rfl) dX10_kind_9 (fun x9 ce9 q9 H2 locsH2 hp hS hzH2 hkH2 hce hcv hcl => hk_out hx9 hlk hQ hS hce hcv hcl (Nat.le_of_ble_eq_true rfl) (Nat.le_of_ble_eq_true rfl) (⟨Or.inr (Or.inl ⟨by unfold cd_kind; (try dsimp only); rw [if_pos c_3, if_pos hp.1.2], hp.1.1⟩), G, hp.2⟩)) (fun v9 H2 locsH2 hp hS hzH2 hkH2 => ?_)
  obtain ⟨⟨hv, c_hf⟩, ⟨R, hW, hc⟩, hzz⟩ := hp
  subst hv
  have hf9 := (hf_iff hI9 (μ 3 (ix p0))).mp c_hf
  have hcl9 := (clmS_rng hI9 (μ 3 (ix p0))).resolve_left hf9.1
  have hsm9 := sel_sml hI9 (μ 3 (ix p0))
  refine lv_istore_n (lv' := [(2, .int (clmS (cn, sc, μ) (μ 3 (ix p0)))), (0, .ref ho), (1, .int p0)]) hx hb dX10_kind_12 rfl hl (by decide) rfl (fun ls hl => ?_)
  refine lv_iconst (v := (-1)) hx hb dX10_kind_13 (by decide) ?_
  refine lv_istore_n (lv' := [(3, .int (-1)), (2, .int (clmS (cn, sc, μ) (μ 3 (ix p0)))), (0, .ref ho), (1, .int p0)]) hx hb dX10_kind_14 rfl hl (by decide) rfl (fun ls hl => ?_)
  refine lv_iconst (v := 0) hx hb dX10_kind_15 (by decide) ?_
  refine lv_istore (lv' := [(4, .int 0), (3, .int (-1)), (2, .int (clmS (cn, sc, μ) (μ 3 (ix p0)))), (0, .ref ho), (1, .int p0)]) hx hb dX10_kind_16 hl (by decide) rfl (fun ls hl => ?_)
  refine lv_iconst (v := 0) hx hb dX10_kind_18 (by decide) ?_
  refine lv_topi (fun z_3 ez_3 => ?_)
  have ez_3 : z_3 = nI 0 := ez_3
  subst ez_3
  refine lv_istore (lv' := [(5, .int (nI 0)), (4, .int 0), (3, .int (-1)), (2, .int (clmS (cn, sc, μ) (μ 3 (ix p0)))), (0, .ref ho), (1, .int p0)]) hx hb dX10_kind_19 hl (by decide) rfl (fun ls hl => ?_)
  have L21 : ∀ (n7 : Nat) (k : Nat) (b9 m9 : Int32) (locs : List Loc), 6 ≤ k + n7 → (va_S (Z) s.heap H2 locs ∧ k ≤ 5 ∧ b9 = (sp_kd (fun k => vtS (cn, sc, μ) (μ 3 (ix p0)) (nI k)) k).1 ∧ m9 = (sp_kd (fun k => vtS (cn, sc, μ) (μ 3 (ix p0)) (nI k)) k).2) → ∀ (ls : Array Slot), lv_has ls 7 [(5, .int (nI k)), (3, .int b9), (4, .int m9), (2, .int (clmS (cn, sc, μ) (μ 3 (ix p0)))), (0, .ref ho), (1, .int p0)] → W p l e rmX10_kind s m args below meth c H2 locs 2 12 Q (F0 m 21 ls []) := by
    intro n7
    induction n7 with
    | zero =>
      intro k b9 m9 locs hm7 hinv7 ls hl
      obtain ⟨hS, hinv7⟩ := hinv7
      obtain ⟨hi1, hb9, hm9⟩ := hinv7
      exact absurd hm7 (by omega)
    | succ n7 ih7 =>
      intro k b9 m9 locs hm7 hinv7 ls hl
      obtain ⟨hS, hinv7⟩ := hinv7
      obtain ⟨hi1, hb9, hm9⟩ := hinv7
      refine lv_iload hx hb dX10_kind_21 (lv_at hl 0 rfl) ?_
      refine lv_iconst (v := 5) hx hb dX10_kind_23 (by decide) ?_
      refine lv_icmp_ge (tgt := 56) hx hb dX10_kind_24 (by decide) (fun c_24 => ?_) (fun c_24 => ?_)
      · have hk : 5 ≤ k := (nI_leI (a := 5) (by omega) (by omega)).mp c_24
        refine lv_iload_n hx hb dX10_kind_56 rfl (lv_at hl 1 rfl) ?_
        exact hk_iretx X hr hlk hQ hS (Nat.le_of_ble_eq_true rfl) (Nat.le_of_ble_eq_true rfl) dX10_kind_57 (⟨by unfold cd_kind; (try dsimp only); rw [if_pos c_3, if_neg c_hf], by rw [hb9, show k = 5 by omega]; rfl, _, _, hW⟩)
      · have hk : k < 5 := Nat.lt_of_not_le (fun h => c_24 (nI_le (a := 5) h (by omega)))
        refine lv_aload_n hx hb dX10_kind_27 rfl (lv_at hl 4 rfl) ?_
        refine lv_iload hx hb dX10_kind_28 (lv_at hl 0 rfl) ?_
        refine lv_iload_n hx hb dX10_kind_30 rfl (lv_at hl 3 rfl) ?_
        refine hk_callV 2 (As := [.int (nI k), .int (clmS (cn, sc, μ) (μ 3 (ix p0)))]) (rest := []) X K hAE hS hl.1 (HW.o hW) rfl (c_X10_votesForClass E l H2 hW hI9 hc hf9.2 hsm9 hcl9 (kd := nI k)) (fun _ h => h.elim) gX10_kind_X10_votesForClass rfl ⟨rfl, hd_X10_votesForClass⟩ rfl ⟨⟨(Nat.le_of_ble_eq_true rfl), (Nat.le_of_ble_eq_true rfl)⟩, (Nat.le_of_ble_eq_true rfl), (Nat.le_of_ble_eq_true rfl)⟩ rfl (Nat.le_of_ble_eq_true rfl) dX10_kind_31 (fun v9 H4 locsH4 hp hS hzH4 hkH4 => ?_)
        obtain ⟨hv, hh⟩ := hp
        subst hv; subst hh
        refine lv_topi (fun vt9 evt9 => ?_)
        refine lv_istore (lv' := [(6, .int vt9), (5, .int (nI k)), (3, .int b9), (4, .int m9), (2, .int (clmS (cn, sc, μ) (μ 3 (ix p0)))), (0, .ref ho), (1, .int p0)]) hx hb dX10_kind_34 hl (by decide) rfl (fun ls hl => ?_)
        have evt9 : vt9 = (fun k => vtS (cn, sc, μ) (μ 3 (ix p0)) (nI k)) k := evt9
        refine lv_iload hx hb dX10_kind_36 (lv_at hl 0 rfl) ?_
        refine lv_iload hx hb dX10_kind_38 (lv_at hl 3 rfl) ?_
        refine lv_icmp_le (tgt := 50) hx hb dX10_kind_40 (by decide) (fun c_40 => ?_) (fun c_40 => ?_)
        · have hno9 : ¬ (sp_kd (fun k => vtS (cn, sc, μ) (μ 3 (ix p0)) (nI k)) k).2 < (fun k => vtS (cn, sc, μ) (μ 3 (ix p0)) (nI k)) k := by rw [← hm9, ← evt9]; exact Int32.not_lt.mpr c_40
          obtain ⟨q50, eq50⟩ : ∃ y : Int32, y = (nI k) + 1 := ⟨_, rfl⟩
          refine lv_iinc (v := q50) (lv' := [(5, .int q50), (6, .int vt9), (3, .int b9), (4, .int m9), (2, .int (clmS (cn, sc, μ) (μ 3 (ix p0)))), (0, .ref ho), (1, .int p0)]) hx hb dX10_kind_50 hl (k := 1) rfl (by rw [eq50]; rfl) (by decide) rfl (fun ls hl => ?_)
          rw [nI_1] at eq50
          subst eq50
          refine lv_goto (tgt := 21) hx hb dX10_kind_53 (by decide) ?_
          exact ih7 (k + 1) b9 m9 _ (by omega) ⟨hS, by omega, hb9.trans (congrArg Prod.fst (kd_no hno9)).symm, hm9.trans (congrArg Prod.snd (kd_no hno9)).symm⟩ _ (lv_sub hl [0, 2, 3, 4, 5, 6] rfl)
        · have hup9 : (sp_kd (fun k => vtS (cn, sc, μ) (μ 3 (ix p0)) (nI k)) k).2 < (fun k => vtS (cn, sc, μ) (μ 3 (ix p0)) (nI k)) k := by rw [← hm9, ← evt9]; exact Int32.not_le.mp c_40
          refine lv_iload hx hb dX10_kind_43 (lv_at hl 0 rfl) ?_
          refine lv_istore (lv' := [(4, .int vt9), (6, .int vt9), (5, .int (nI k)), (3, .int b9), (2, .int (clmS (cn, sc, μ) (μ 3 (ix p0)))), (0, .ref ho), (1, .int p0)]) hx hb dX10_kind_45 hl (by decide) rfl (fun ls hl => ?_)
          refine lv_iload hx hb dX10_kind_47 (lv_at hl 2 rfl) ?_
          refine lv_istore_n (lv' := [(3, .int (nI k)), (4, .int vt9), (6, .int vt9), (5, .int (nI k)), (2, .int (clmS (cn, sc, μ) (μ 3 (ix p0)))), (0, .ref ho), (1, .int p0)]) hx hb dX10_kind_49 rfl hl (by decide) rfl (fun ls hl => ?_)
          obtain ⟨q50, eq50⟩ : ∃ y : Int32, y = (nI k) + 1 := ⟨_, rfl⟩
          refine lv_iinc (v := q50) (lv' := [(5, .int q50), (3, .int (nI k)), (4, .int vt9), (6, .int vt9), (2, .int (clmS (cn, sc, μ) (μ 3 (ix p0)))), (0, .ref ho), (1, .int p0)]) hx hb dX10_kind_50 hl (k := 3) rfl (by rw [eq50]; rfl) (by decide) rfl (fun ls hl => ?_)
          rw [nI_1] at eq50
          subst eq50
          refine lv_goto (tgt := 21) hx hb dX10_kind_53 (by decide) ?_
          exact ih7 (k + 1) (nI k) vt9 _ (by omega) ⟨hS, by omega, (congrArg Prod.fst (kd_up hup9)).symm, evt9.trans (congrArg Prod.snd (kd_up hup9)).symm⟩ _ (lv_sub hl [0, 1, 2, 4, 5, 6] rfl)
  exact L21 6 0 (-1) 0 _ (by omega) ⟨hS, Nat.zero_le _, rfl, rfl⟩ _ (lv_sub hl [0, 2, 1, 3, 4, 5] rfl)

