theorem hd_X10_watcherAt : yX10_watcherAt.cls ≠ "java/lang/invoke/MethodHandle" ∧ yX10_watcherAt.cls ≠ "java/lang/invoke/VarHandle" ∧ (parseMethodDescriptor yX10_watcherAt.desc).map (fun d => d.parameters.length) = some 1 := ⟨by decide, by decide, by decide +kernel⟩
abbrev rmX10_bias : Room := { frames := 10, cells := 8, slots := 400, locals := 175 }
theorem iX10_bias_X9 : ∀ w ∈ wsX90, w ∈ wsX10_bias := by decide +kernel
set_option maxHeartbeats 4000000 in
set_option maxRecDepth 100000 in
theorem c_X10_bias (E : hk_E) (l : Launch) (hl9 : l.stackTraces = false) (H0 : Heap) {Z : Nat → Prop} {ho ts : Nat} {li : Nat → Nat} {rr : Nat → Nat → Nat} {G : hG} {R : hR} {cn : Nat → Nat} {sc : Nat → Int32} {μ : Nat → Nat → Int32} (hW : HW E Z (ho, li, rr, ts) G R (cn, sc, μ) H0) (hI : InvF (cn, sc, μ)) (hZn : ∀ q, H0.size ≤ q → Z q) {p0 p1 : Int32}  : hk_X E l yX10_bias wsX10_bias rmX10_bias (Z) [.ref ho, .int p0, .int p1] H0 (hpost E Z (ho, li, rr, ts) (cd_bias p0 p1 (cn, sc, μ)) (an_bias p0 p1 (cn, sc, μ)) (st_bias p0 p1 (cn, sc, μ))) (hpx E Z (ho, li, rr, ts) (cd_bias p0 p1 (cn, sc, μ)) (cn, sc, μ) [XI, XA]) := by
  refine hk_X.ofW (cc := cX10_bias) (maxL := 5) (ret := (some .int)) (by decide +kernel) rfl (Nat.le_of_ble_eq_true rfl) ?_
  intro p e s m args below meth c ls Q hQ X hr hlk hx9 K hs9 hS hl
  obtain ⟨hx, hb, hml, hown, hts⟩ := id X
  have hAE : ∀ q, (Z) q → hk_A E q := hW.2.2.2.2.2.2.2.2.2.2.2.2
  have hl : lv_has ls 5 [(0, .ref ho), (1, .int p0), (2, .int p1)] := hl
  have hI9 := hI.1
  have hZA : ∀ q, Z q → hk_A E q := hW.2.2.2.2.2.2.2.2.2.2.2.2
  have hc1 : cn 1 ≤ 12 := hI9.1.1
  have hc8 : cn 8 ≤ 8 := hI9.1.2.1
  have hc12 : cn 12 ≤ 80 := hI9.1.2.2.1
  have hc22 : cn 22 ≤ 8 := hI9.1.2.2.2.1
  have hc29 : cn 29 ≤ 30 := hI9.1.2.2.2.2
  refine lv_aload_n hx hb dX10_bias_0 rfl (lv_at hl 0 rfl) ?_
  refine lv_iload_n hx hb dX10_bias_1 rfl (lv_at hl 1 rfl) ?_
  refine hk_callVx 1 (As := [.int p0]) (rest := []) X K hAE hS hl.1 (HW.o hW) rfl (c_X10_watcherAt E l hl9 H0 hW (i9 := p0)) (fun q h => hZn q (Nat.le_trans (Nat.le_refl _) h)) gX10_bias_X10_watcherAt rfl ⟨rfl, hd_X10_watcherAt⟩ rfl ⟨⟨(Nat.le_of_ble_eq_true rfl), (Nat.le_of_ble_eq_true rfl)⟩, (Nat.le_of_ble_eq_true rfl), (Nat.le_of_ble_eq_true rfl)⟩ rfl (Nat.le_of_ble_eq_true rfl) dX10_bias_2 (fun x9 ce9 q9 H1 locsH1 hp hS hzH1 hkH1 hce hcv hcl => hk_out hx9 hlk hQ hS hce hcv hcl (Nat.le_of_ble_eq_true rfl) (Nat.le_of_ble_eq_true rfl) (hpx_1 hW (fun q h1 h2 => hkH1 q h1 h2) (Or.inl ⟨by unfold cd_bias; (try dsimp only); rw [if_neg hp.2], hp.1⟩))) (fun v9 H1 locsH1 hp hS hzH1 hkH1 => ?_)
  obtain ⟨hv, hh⟩ := hp
  obtain ⟨hv, c_2⟩ := hv
  subst hv; subst hh
  refine lv_astore_n (lv' := [(3, .ref (gad G 1 (ix p0))), (0, .ref ho), (1, .int p0), (2, .int p1)]) hx hb dX10_bias_5 rfl hl (by decide) rfl (fun ls hl => ?_)
  refine lv_iload_n hx hb dX10_bias_6 rfl (lv_at hl 3 rfl) ?_
  refine lv_bipush (v := (-99)) hx hb dX10_bias_7 (by decide) ?_
  refine lv_bipush (v := 99) hx hb dX10_bias_9 (by decide) ?_
  refine hk_callSx 3 (As := [.int p1, .int (-99), .int 99]) (rest := []) X K hAE hS hl.1 (c_X10_needRange E l hl9 H0 (a9 := p1) (lo := (-99)) (hi := 99)) (fun q h => hZn q (Nat.le_trans (Nat.le_refl _) h)) gX10_bias_X10_needRange rfl hd_X10_needRange rfl ⟨⟨(Nat.le_of_ble_eq_true rfl), (Nat.le_of_ble_eq_true rfl)⟩, (Nat.le_of_ble_eq_true rfl), (Nat.le_of_ble_eq_true rfl)⟩ rfl (Nat.le_of_ble_eq_true rfl) dX10_bias_11 (fun x9 ce9 q9 H2 locsH2 hp hS hzH2 hkH2 hce hcv hcl => hk_out hx9 hlk hQ hS hce hcv hcl (Nat.le_of_ble_eq_true rfl) (Nat.le_of_ble_eq_true rfl) (hpx_1 hW (fun q h1 h2 => hkH2 q h1 h2) (Or.inr (Or.inl ⟨by unfold cd_bias; (try dsimp only); rw [if_pos c_2, if_neg hp.2], hp.1⟩)))) (fun v9 H2 locsH2 hp hS hzH2 hkH2 => ?_)
  obtain ⟨hv, hh⟩ := hp
  obtain ⟨hv, c_11⟩ := hv
  subst hv; subst hh
  refine lv_aload_n hx hb dX10_bias_14 rfl (lv_at hl 0 rfl) ?_
  refine hk_get (ref := "LightcurveHouse$Watcher") (v := .int (μ 6 (ix p0))) X K (HW.e1 hW (inr_lt (N := 7) (by decide) c_2)) rfl iX10_bias_X9 0 (by decide) (by decide +kernel) (fun _ h => h) rfl dX10_bias_15 ?_
  refine lv_istore (lv' := [(4, .int (μ 6 (ix p0))), (3, .ref (gad G 1 (ix p0))), (0, .ref ho), (1, .int p0), (2, .int p1)]) hx hb dX10_bias_18 hl (by decide) rfl (fun ls hl => ?_)
  refine lv_aload_n hx hb dX10_bias_20 rfl (lv_at hl 1 rfl) ?_
  refine lv_iload_n hx hb dX10_bias_21 rfl (lv_at hl 4 rfl) ?_
  refine hk_put (ref := "LightcurveHouse$Watcher") X K (HW.e1 hW (inr_lt (N := 7) (by decide) c_2)) rfl iX10_bias_X9 tyX9 tyX9_ok nmX9 hS ((hW.2.2.2.2.2.2.2.2.2.2.1 1 (by decide) _ (inr_lt (N := 7) (by decide) c_2)).2) 0 (by decide) (by decide +kernel) (fun _ h => h) (by decide +kernel) rfl rfl (Nat.le_of_ble_eq_true rfl) dX10_bias_22 (fun H3 locsH3 hOH3 hzH3 hqH3 hS => ?_)
  have hW := HW.put (S' := st_bias p0 p1 (cn, sc, μ)) hW 1 (ix p0) (by decide) (inr_lt (N := 7) (by decide) c_2) (by show hk_O E _ 9 [.int (upd (μ 6) (ix p0) p1 (ix p0)), .int (μ 7 (ix p0))] _; rw [upd_at]; exact hOH3) hqH3 (fun j9 => by rcases j9 with _ | _ | _ | _ | _ | _ | _ <;> rfl) (fun j9 i9 h1 h2 h3 => by
    rcases lt7 h1 with g | g | g | g | g | g | g <;> subst g
    · exact ⟨rfl, rfl⟩
    · have g2 : i9 ≠ (ix p0) := h3.resolve_left (fun g => g rfl)
      exact ⟨rfl, by show [Value.int (upd (μ 6) (ix p0) p1 i9), .int (μ 7 i9)] = [Value.int (μ 6 i9), .int (μ 7 i9)]; rw [upd_ne g2]⟩
    · exact ⟨rfl, rfl⟩
    · exact ⟨rfl, rfl⟩
    · exact ⟨rfl, rfl⟩
    · exact ⟨rfl, rfl⟩
    · exact ⟨rfl, rfl⟩
    ) rfl
  refine lv_iload hx hb dX10_bias_25 (lv_at hl 0 rfl) ?_
  exact hk_iretx X hr hlk hQ hS (Nat.le_of_ble_eq_true rfl) (Nat.le_of_ble_eq_true rfl) dX10_bias_27 (⟨by unfold cd_bias; (try dsimp only); rw [if_pos c_2, if_pos c_11], rfl, _, _, hW⟩)

abbrev rmX10_clock : Room := { frames := 10, cells := 8, slots := 400, locals := 175 }
theorem iX10_clock_X9 : ∀ w ∈ wsX90, w ∈ wsX10_clock := by decide +kernel
set_option maxHeartbeats 4000000 in
set_option maxRecDepth 100000 in
theorem c_X10_clock (E : hk_E) (l : Launch) (hl9 : l.stackTraces = false) (H0 : Heap) {Z : Nat → Prop} {ho ts : Nat} {li : Nat → Nat} {rr : Nat → Nat → Nat} {G : hG} {R : hR} {cn : Nat → Nat} {sc : Nat → Int32} {μ : Nat → Nat → Int32} (hW : HW E Z (ho, li, rr, ts) G R (cn, sc, μ) H0) (hI : InvF (cn, sc, μ)) (hZn : ∀ q, H0.size ≤ q → Z q) {p0 p1 : Int32}  : hk_X E l yX10_clock wsX10_clock rmX10_clock (Z) [.ref ho, .int p0, .int p1] H0 (hpost E Z (ho, li, rr, ts) (cd_clock p0 p1 (cn, sc, μ)) (an_clock p0 p1 (cn, sc, μ)) (st_clock p0 p1 (cn, sc, μ))) (hpx E Z (ho, li, rr, ts) (cd_clock p0 p1 (cn, sc, μ)) (cn, sc, μ) [XI, XA]) := by
  refine hk_X.ofW (cc := cX10_clock) (maxL := 5) (ret := (some .int)) (by decide +kernel) rfl (Nat.le_of_ble_eq_true rfl) ?_
  intro p e s m args below meth c ls Q hQ X hr hlk hx9 K hs9 hS hl
  obtain ⟨hx, hb, hml, hown, hts⟩ := id X
  have hAE : ∀ q, (Z) q → hk_A E q := hW.2.2.2.2.2.2.2.2.2.2.2.2
  have hl : lv_has ls 5 [(0, .ref ho), (1, .int p0), (2, .int p1)] := hl
  have hI9 := hI.1
  have hZA : ∀ q, Z q → hk_A E q := hW.2.2.2.2.2.2.2.2.2.2.2.2
  have hc1 : cn 1 ≤ 12 := hI9.1.1
  have hc8 : cn 8 ≤ 8 := hI9.1.2.1
  have hc12 : cn 12 ≤ 80 := hI9.1.2.2.1
  have hc22 : cn 22 ≤ 8 := hI9.1.2.2.2.1
  have hc29 : cn 29 ≤ 30 := hI9.1.2.2.2.2
  refine lv_aload_n hx hb dX10_clock_0 rfl (lv_at hl 0 rfl) ?_
  refine lv_iload_n hx hb dX10_clock_1 rfl (lv_at hl 1 rfl) ?_
  refine hk_callVx 1 (As := [.int p0]) (rest := []) X K hAE hS hl.1 (HW.o hW) rfl (c_X10_watcherAt E l hl9 H0 hW (i9 := p0)) (fun q h => hZn q (Nat.le_trans (Nat.le_refl _) h)) gX10_clock_X10_watcherAt rfl ⟨rfl, hd_X10_watcherAt⟩ rfl ⟨⟨(Nat.le_of_ble_eq_true rfl), (Nat.le_of_ble_eq_true rfl)⟩, (Nat.le_of_ble_eq_true rfl), (Nat.le_of_ble_eq_true rfl)⟩ rfl (Nat.le_of_ble_eq_true rfl) dX10_clock_2 (fun x9 ce9 q9 H1 locsH1 hp hS hzH1 hkH1 hce hcv hcl => hk_out hx9 hlk hQ hS hce hcv hcl (Nat.le_of_ble_eq_true rfl) (Nat.le_of_ble_eq_true rfl) (hpx_1 hW (fun q h1 h2 => hkH1 q h1 h2) (Or.inl ⟨by unfold cd_clock; (try dsimp only); rw [if_neg hp.2], hp.1⟩))) (fun v9 H1 locsH1 hp hS hzH1 hkH1 => ?_)
  obtain ⟨hv, hh⟩ := hp
  obtain ⟨hv, c_2⟩ := hv
  subst hv; subst hh
  refine lv_astore_n (lv' := [(3, .ref (gad G 1 (ix p0))), (0, .ref ho), (1, .int p0), (2, .int p1)]) hx hb dX10_clock_5 rfl hl (by decide) rfl (fun ls hl => ?_)
  refine lv_iload_n hx hb dX10_clock_6 rfl (lv_at hl 3 rfl) ?_
  refine lv_sipush (v := (-1440)) hx hb dX10_clock_7 (by decide) ?_
  refine lv_sipush (v := 1440) hx hb dX10_clock_10 (by decide) ?_
  refine hk_callSx 3 (As := [.int p1, .int (-1440), .int 1440]) (rest := []) X K hAE hS hl.1 (c_X10_needRange E l hl9 H0 (a9 := p1) (lo := (-1440)) (hi := 1440)) (fun q h => hZn q (Nat.le_trans (Nat.le_refl _) h)) gX10_clock_X10_needRange rfl hd_X10_needRange rfl ⟨⟨(Nat.le_of_ble_eq_true rfl), (Nat.le_of_ble_eq_true rfl)⟩, (Nat.le_of_ble_eq_true rfl), (Nat.le_of_ble_eq_true rfl)⟩ rfl (Nat.le_of_ble_eq_true rfl) dX10_clock_13 (fun x9 ce9 q9 H2 locsH2 hp hS hzH2 hkH2 hce hcv hcl => hk_out hx9 hlk hQ hS hce hcv hcl (Nat.le_of_ble_eq_true rfl) (Nat.le_of_ble_eq_true rfl) (hpx_1 hW (fun q h1 h2 => hkH2 q h1 h2) (Or.inr (Or.inl ⟨by unfold cd_clock; (try dsimp only); rw [if_pos c_2, if_neg hp.2], hp.1⟩)))) (fun v9 H2 locsH2 hp hS hzH2 hkH2 => ?_)
  obtain ⟨hv, hh⟩ := hp
  obtain ⟨hv, c_13⟩ := hv
  subst hv; subst hh
  refine lv_aload_n hx hb dX10_clock_16 rfl (lv_at hl 0 rfl) ?_
  refine hk_get (ref := "LightcurveHouse$Watcher") (v := .int (μ 7 (ix p0))) X K (HW.e1 hW (inr_lt (N := 7) (by decide) c_2)) rfl iX10_clock_X9 1 (by decide) (by decide +kernel) (fun _ h => h) rfl dX10_clock_17 ?_
  refine lv_istore (lv' := [(4, .int (μ 7 (ix p0))), (3, .ref (gad G 1 (ix p0))), (0, .ref ho), (1, .int p0), (2, .int p1)]) hx hb dX10_clock_20 hl (by decide) rfl (fun ls hl => ?_)
  refine lv_aload_n hx hb dX10_clock_22 rfl (lv_at hl 1 rfl) ?_
  refine lv_iload_n hx hb dX10_clock_23 rfl (lv_at hl 4 rfl) ?_
  refine hk_put (ref := "LightcurveHouse$Watcher") X K (HW.e1 hW (inr_lt (N := 7) (by decide) c_2)) rfl iX10_clock_X9 tyX9 tyX9_ok nmX9 hS ((hW.2.2.2.2.2.2.2.2.2.2.1 1 (by decide) _ (inr_lt (N := 7) (by decide) c_2)).2) 1 (by decide) (by decide +kernel) (fun _ h => h) (by decide +kernel) rfl rfl (Nat.le_of_ble_eq_true rfl) dX10_clock_24 (fun H3 locsH3 hOH3 hzH3 hqH3 hS => ?_)
  have hW := HW.put (S' := st_clock p0 p1 (cn, sc, μ)) hW 1 (ix p0) (by decide) (inr_lt (N := 7) (by decide) c_2) (by show hk_O E _ 9 [.int (μ 6 (ix p0)), .int (upd (μ 7) (ix p0) p1 (ix p0))] _; rw [upd_at]; exact hOH3) hqH3 (fun j9 => by rcases j9 with _ | _ | _ | _ | _ | _ | _ <;> rfl) (fun j9 i9 h1 h2 h3 => by
    rcases lt7 h1 with g | g | g | g | g | g | g <;> subst g
    · exact ⟨rfl, rfl⟩
    · have g2 : i9 ≠ (ix p0) := h3.resolve_left (fun g => g rfl)
      exact ⟨rfl, by show [Value.int (μ 6 i9), .int (upd (μ 7) (ix p0) p1 i9)] = [Value.int (μ 6 i9), .int (μ 7 i9)]; rw [upd_ne g2]⟩
    · exact ⟨rfl, rfl⟩
    · exact ⟨rfl, rfl⟩
    · exact ⟨rfl, rfl⟩
    · exact ⟨rfl, rfl⟩
    · exact ⟨rfl, rfl⟩
    ) rfl
  refine lv_iload hx hb dX10_clock_27 (lv_at hl 0 rfl) ?_
  exact hk_iretx X hr hlk hQ hS (Nat.le_of_ble_eq_true rfl) (Nat.le_of_ble_eq_true rfl) dX10_clock_29 (⟨by unfold cd_clock; (try dsimp only); rw [if_pos c_2, if_pos c_13], rfl, _, _, hW⟩)

theorem hd_X10_needPlateZero : yX10_needPlateZero.cls ≠ "java/lang/invoke/MethodHandle" ∧ yX10_needPlateZero.cls ≠ "java/lang/invoke/VarHandle" ∧ (parseMethodDescriptor yX10_needPlateZero.desc).map (fun d => d.parameters.length) = some 1 := ⟨by decide, by decide, by decide +kernel⟩
theorem hd_X10_plateAt : yX10_plateAt.cls ≠ "java/lang/invoke/MethodHandle" ∧ yX10_plateAt.cls ≠ "java/lang/invoke/VarHandle" ∧ (parseMethodDescriptor yX10_plateAt.desc).map (fun d => d.parameters.length) = some 1 := ⟨by decide, by decide, by decide +kernel⟩
abbrev rmX10_join : Room := { frames := 10, cells := 8, slots := 400, locals := 175 }
theorem iX10_join_X4 : ∀ w ∈ wsX40, w ∈ wsX10_join := by decide +kernel
set_option maxHeartbeats 4000000 in
set_option maxRecDepth 100000 in
theorem c_X10_join (E : hk_E) (l : Launch) (hl9 : l.stackTraces = false) (H0 : Heap) {Z : Nat → Prop} {ho ts : Nat} {li : Nat → Nat} {rr : Nat → Nat → Nat} {G : hG} {R : hR} {cn : Nat → Nat} {sc : Nat → Int32} {μ : Nat → Nat → Int32} (hW : HW E Z (ho, li, rr, ts) G R (cn, sc, μ) H0) (hI : InvF (cn, sc, μ)) (hZn : ∀ q, H0.size ≤ q → Z q) {p0 p1 : Int32}  : hk_X E l yX10_join wsX10_join rmX10_join (Z) [.ref ho, .int p0, .int p1] H0 (hpost E Z (ho, li, rr, ts) (cd_join p0 p1 (cn, sc, μ)) (an_join p0 p1 (cn, sc, μ)) (st_join p0 p1 (cn, sc, μ))) (hpx E Z (ho, li, rr, ts) (cd_join p0 p1 (cn, sc, μ)) (cn, sc, μ) [XI, XA]) := by
  refine hk_X.ofW (cc := cX10_join) (maxL := 5) (ret := (some .int)) (by decide +kernel) rfl (Nat.le_of_ble_eq_true rfl) ?_
  intro p e s m args below meth c ls Q hQ X hr hlk hx9 K hs9 hS hl
  obtain ⟨hx, hb, hml, hown, hts⟩ := id X
  have hAE : ∀ q, (Z) q → hk_A E q := hW.2.2.2.2.2.2.2.2.2.2.2.2
  have hl : lv_has ls 5 [(0, .ref ho), (1, .int p0), (2, .int p1)] := hl
  have hI9 := hI.1
  have hZA : ∀ q, Z q → hk_A E q := hW.2.2.2.2.2.2.2.2.2.2.2.2
  have hc1 : cn 1 ≤ 12 := hI9.1.1
  have hc8 : cn 8 ≤ 8 := hI9.1.2.1
  have hc12 : cn 12 ≤ 80 := hI9.1.2.2.1
  have hc22 : cn 22 ≤ 8 := hI9.1.2.2.2.1
  have hc29 : cn 29 ≤ 30 := hI9.1.2.2.2.2
  refine lv_aload_n hx hb dX10_join_0 rfl (lv_at hl 0 rfl) ?_
  refine lv_iload_n hx hb dX10_join_1 rfl (lv_at hl 1 rfl) ?_
  refine hk_callVx 1 (As := [.int p0]) (rest := []) X K hAE hS hl.1 (HW.o hW) rfl (c_X10_plateAt E l hl9 H0 hW hc8 (i9 := p0)) (fun q h => hZn q (Nat.le_trans (Nat.le_refl _) h)) gX10_join_X10_plateAt rfl ⟨rfl, hd_X10_plateAt⟩ rfl ⟨⟨(Nat.le_of_ble_eq_true rfl), (Nat.le_of_ble_eq_true rfl)⟩, (Nat.le_of_ble_eq_true rfl), (Nat.le_of_ble_eq_true rfl)⟩ rfl (Nat.le_of_ble_eq_true rfl) dX10_join_2 (fun x9 ce9 q9 H1 locsH1 hp hS hzH1 hkH1 hce hcv hcl => hk_out hx9 hlk hQ hS hce hcv hcl (Nat.le_of_ble_eq_true rfl) (Nat.le_of_ble_eq_true rfl) (hpx_1 hW (fun q h1 h2 => hkH1 q h1 h2) (Or.inl ⟨by unfold cd_join; (try dsimp only); rw [if_neg hp.2], hp.1⟩))) (fun v9 H1 locsH1 hp hS hzH1 hkH1 => ?_)
  obtain ⟨hv, hh⟩ := hp
  obtain ⟨hv, c_2⟩ := hv
  subst hv; subst hh
  refine lv_astore_n (lv' := [(3, .ref (gad G 3 (ix p0))), (0, .ref ho), (1, .int p0), (2, .int p1)]) hx hb dX10_join_5 rfl hl (by decide) rfl (fun ls hl => ?_)
  refine lv_iload_n hx hb dX10_join_6 rfl (lv_at hl 3 rfl) ?_
  refine hk_callSx 1 (As := [.int p1]) (rest := []) X K hAE hS hl.1 (c_X10_needPlateZero E l hl9 H0 (a9 := p1)) (fun q h => hZn q (Nat.le_trans (Nat.le_refl _) h)) gX10_join_X10_needPlateZero rfl hd_X10_needPlateZero rfl ⟨⟨(Nat.le_of_ble_eq_true rfl), (Nat.le_of_ble_eq_true rfl)⟩, (Nat.le_of_ble_eq_true rfl), (Nat.le_of_ble_eq_true rfl)⟩ rfl (Nat.le_of_ble_eq_true rfl) dX10_join_7 (fun x9 ce9 q9 H2 locsH2 hp hS hzH2 hkH2 hce hcv hcl => hk_out hx9 hlk hQ hS hce hcv hcl (Nat.le_of_ble_eq_true rfl) (Nat.le_of_ble_eq_true rfl) (hpx_1 hW (fun q h1 h2 => hkH2 q h1 h2) (Or.inr (Or.inl ⟨by unfold cd_join; (try dsimp only); rw [if_pos c_2, if_neg hp.2], hp.1⟩)))) (fun v9 H2 locsH2 hp hS hzH2 hkH2 => ?_)
  obtain ⟨hv, hh⟩ := hp
  obtain ⟨hv, c_7⟩ := hv
  subst hv; subst hh
  refine lv_aload_n hx hb dX10_join_10 rfl (lv_at hl 0 rfl) ?_
  refine hk_get (ref := "LightcurveHouse$Plate") (v := .int (μ 10 (ix p0))) X K (HW.e3 hW (isS_xl c_2 (show cn 8 < 2 ^ 31 by omega))) rfl iX10_join_X4 2 (by decide) (by decide +kernel) (fun _ h => h) rfl dX10_join_11 ?_
  refine lv_istore (lv' := [(4, .int (μ 10 (ix p0))), (3, .ref (gad G 3 (ix p0))), (0, .ref ho), (1, .int p0), (2, .int p1)]) hx hb dX10_join_14 hl (by decide) rfl (fun ls hl => ?_)
  refine lv_aload_n hx hb dX10_join_16 rfl (lv_at hl 1 rfl) ?_
  refine lv_iload_n hx hb dX10_join_17 rfl (lv_at hl 4 rfl) ?_
  refine hk_put (ref := "LightcurveHouse$Plate") X K (HW.e3 hW (isS_xl c_2 (show cn 8 < 2 ^ 31 by omega))) rfl iX10_join_X4 tyX4 tyX4_ok nmX4 hS ((hW.2.2.2.2.2.2.2.2.2.2.1 3 (by decide) _ (isS_xl c_2 (show cn 8 < 2 ^ 31 by omega))).2) 2 (by decide) (by decide +kernel) (fun _ h => h) (by decide +kernel) rfl rfl (Nat.le_of_ble_eq_true rfl) dX10_join_18 (fun H3 locsH3 hOH3 hzH3 hqH3 hS => ?_)
  have hW := HW.put (S' := st_join p0 p1 (cn, sc, μ)) hW 3 (ix p0) (by decide) (isS_xl c_2 (show cn 8 < 2 ^ 31 by omega)) (by show hk_O E _ 4 [.int (μ 9 (ix p0)), .int (μ 11 (ix p0)), .int (upd (μ 10) (ix p0) p1 (ix p0))] _; rw [upd_at]; exact hOH3) hqH3 (fun j9 => by rcases j9 with _ | _ | _ | _ | _ | _ | _ <;> rfl) (fun j9 i9 h1 h2 h3 => by
    rcases lt7 h1 with g | g | g | g | g | g | g <;> subst g
    · exact ⟨rfl, rfl⟩
    · exact ⟨rfl, rfl⟩
    · exact ⟨rfl, rfl⟩
    · have g2 : i9 ≠ (ix p0) := h3.resolve_left (fun g => g rfl)
      exact ⟨rfl, by show [Value.int (μ 9 i9), .int (μ 11 i9), .int (upd (μ 10) (ix p0) p1 i9)] = [Value.int (μ 9 i9), .int (μ 11 i9), .int (μ 10 i9)]; rw [upd_ne g2]⟩
    · exact ⟨rfl, rfl⟩
    · exact ⟨rfl, rfl⟩
    · exact ⟨rfl, rfl⟩
    ) rfl
  refine lv_iload hx hb dX10_join_21 (lv_at hl 0 rfl) ?_
  exact hk_iretx X hr hlk hQ hS (Nat.le_of_ble_eq_true rfl) (Nat.le_of_ble_eq_true rfl) dX10_join_23 (⟨by unfold cd_join; (try dsimp only); rw [if_pos c_2, if_pos c_7], rfl, _, _, hW⟩)

theorem hd_X10_starAt : yX10_starAt.cls ≠ "java/lang/invoke/MethodHandle" ∧ yX10_starAt.cls ≠ "java/lang/invoke/VarHandle" ∧ (parseMethodDescriptor yX10_starAt.desc).map (fun d => d.parameters.length) = some 1 := ⟨by decide, by decide, by decide +kernel⟩
abbrev rmX10_dust : Room := { frames := 10, cells := 8, slots := 400, locals := 175 }
theorem iX10_dust_X7 : ∀ w ∈ wsX70, w ∈ wsX10_dust := by decide +kernel
set_option maxHeartbeats 4000000 in
set_option maxRecDepth 100000 in
theorem c_X10_dust (E : hk_E) (l : Launch) (hl9 : l.stackTraces = false) (H0 : Heap) {Z : Nat → Prop} {ho ts : Nat} {li : Nat → Nat} {rr : Nat → Nat → Nat} {G : hG} {R : hR} {cn : Nat → Nat} {sc : Nat → Int32} {μ : Nat → Nat → Int32} (hW : HW E Z (ho, li, rr, ts) G R (cn, sc, μ) H0) (hI : InvF (cn, sc, μ)) (hZn : ∀ q, H0.size ≤ q → Z q) {p0 p1 : Int32}  : hk_X E l yX10_dust wsX10_dust rmX10_dust (Z) [.ref ho, .int p0, .int p1] H0 (hpost E Z (ho, li, rr, ts) (cd_dust p0 p1 (cn, sc, μ)) (an_dust p0 p1 (cn, sc, μ)) (st_dust p0 p1 (cn, sc, μ))) (hpx E Z (ho, li, rr, ts) (cd_dust p0 p1 (cn, sc, μ)) (cn, sc, μ) [XI, XA]) := by
  refine hk_X.ofW (cc := cX10_dust) (maxL := 5) (ret := (some .int)) (by decide +kernel) rfl (Nat.le_of_ble_eq_true rfl) ?_
  intro p e s m args below meth c ls Q hQ X hr hlk hx9 K hs9 hS hl
  obtain ⟨hx, hb, hml, hown, hts⟩ := id X
  have hAE : ∀ q, (Z) q → hk_A E q := hW.2.2.2.2.2.2.2.2.2.2.2.2
  have hl : lv_has ls 5 [(0, .ref ho), (1, .int p0), (2, .int p1)] := hl
  have hI9 := hI.1
  have hZA : ∀ q, Z q → hk_A E q := hW.2.2.2.2.2.2.2.2.2.2.2.2
  have hc1 : cn 1 ≤ 12 := hI9.1.1
  have hc8 : cn 8 ≤ 8 := hI9.1.2.1
  have hc12 : cn 12 ≤ 80 := hI9.1.2.2.1
  have hc22 : cn 22 ≤ 8 := hI9.1.2.2.2.1
  have hc29 : cn 29 ≤ 30 := hI9.1.2.2.2.2
  refine lv_aload_n hx hb dX10_dust_0 rfl (lv_at hl 0 rfl) ?_
  refine lv_iload_n hx hb dX10_dust_1 rfl (lv_at hl 1 rfl) ?_
  refine hk_callVx 1 (As := [.int p0]) (rest := []) X K hAE hS hl.1 (HW.o hW) rfl (c_X10_starAt E l hl9 H0 hW hc1 (i9 := p0)) (fun q h => hZn q (Nat.le_trans (Nat.le_refl _) h)) gX10_dust_X10_starAt rfl ⟨rfl, hd_X10_starAt⟩ rfl ⟨⟨(Nat.le_of_ble_eq_true rfl), (Nat.le_of_ble_eq_true rfl)⟩, (Nat.le_of_ble_eq_true rfl), (Nat.le_of_ble_eq_true rfl)⟩ rfl (Nat.le_of_ble_eq_true rfl) dX10_dust_2 (fun x9 ce9 q9 H1 locsH1 hp hS hzH1 hkH1 hce hcv hcl => hk_out hx9 hlk hQ hS hce hcv hcl (Nat.le_of_ble_eq_true rfl) (Nat.le_of_ble_eq_true rfl) (hpx_1 hW (fun q h1 h2 => hkH1 q h1 h2) (Or.inl ⟨by unfold cd_dust; (try dsimp only); rw [if_neg hp.2], hp.1⟩))) (fun v9 H1 locsH1 hp hS hzH1 hkH1 => ?_)
  obtain ⟨hv, hh⟩ := hp
  obtain ⟨hv, c_2⟩ := hv
  subst hv; subst hh
  refine lv_astore_n (lv' := [(3, .ref (gad G 2 (ix p0))), (0, .ref ho), (1, .int p0), (2, .int p1)]) hx hb dX10_dust_5 rfl hl (by decide) rfl (fun ls hl => ?_)
  refine lv_iload_n hx hb dX10_dust_6 rfl (lv_at hl 3 rfl) ?_
  refine lv_iconst (v := 0) hx hb dX10_dust_7 (by decide) ?_
  refine lv_sipush (v := 500) hx hb dX10_dust_8 (by decide) ?_
  refine hk_callSx 3 (As := [.int p1, .int 0, .int 500]) (rest := []) X K hAE hS hl.1 (c_X10_needRange E l hl9 H0 (a9 := p1) (lo := 0) (hi := 500)) (fun q h => hZn q (Nat.le_trans (Nat.le_refl _) h)) gX10_dust_X10_needRange rfl hd_X10_needRange rfl ⟨⟨(Nat.le_of_ble_eq_true rfl), (Nat.le_of_ble_eq_true rfl)⟩, (Nat.le_of_ble_eq_true rfl), (Nat.le_of_ble_eq_true rfl)⟩ rfl (Nat.le_of_ble_eq_true rfl) dX10_dust_11 (fun x9 ce9 q9 H2 locsH2 hp hS hzH2 hkH2 hce hcv hcl => hk_out hx9 hlk hQ hS hce hcv hcl (Nat.le_of_ble_eq_true rfl) (Nat.le_of_ble_eq_true rfl) (hpx_1 hW (fun q h1 h2 => hkH2 q h1 h2) (Or.inr (Or.inl ⟨by unfold cd_dust; (try dsimp only); rw [if_pos c_2, if_neg hp.2], hp.1⟩)))) (fun v9 H2 locsH2 hp hS hzH2 hkH2 => ?_)
  obtain ⟨hv, hh⟩ := hp
  obtain ⟨hv, c_11⟩ := hv
  subst hv; subst hh
  refine lv_aload_n hx hb dX10_dust_14 rfl (lv_at hl 0 rfl) ?_
  refine hk_get (ref := "LightcurveHouse$Star") (v := .int (μ 5 (ix p0))) X K (HW.e2 hW (isS_xl c_2 (show cn 1 < 2 ^ 31 by omega))) rfl iX10_dust_X7 4 (by decide) (by decide +kernel) (fun _ h => h) rfl dX10_dust_15 ?_
  refine lv_istore (lv' := [(4, .int (μ 5 (ix p0))), (3, .ref (gad G 2 (ix p0))), (0, .ref ho), (1, .int p0), (2, .int p1)]) hx hb dX10_dust_18 hl (by decide) rfl (fun ls hl => ?_)
  refine lv_aload_n hx hb dX10_dust_20 rfl (lv_at hl 1 rfl) ?_
  refine lv_iload_n hx hb dX10_dust_21 rfl (lv_at hl 4 rfl) ?_
  refine hk_put (ref := "LightcurveHouse$Star") X K (HW.e2 hW (isS_xl c_2 (show cn 1 < 2 ^ 31 by omega))) rfl iX10_dust_X7 tyX7 tyX7_ok nmX7 hS ((hW.2.2.2.2.2.2.2.2.2.2.1 2 (by decide) _ (isS_xl c_2 (show cn 1 < 2 ^ 31 by omega))).2) 4 (by decide) (by decide +kernel) (fun _ h => h) (by decide +kernel) rfl rfl (Nat.le_of_ble_eq_true rfl) dX10_dust_22 (fun H3 locsH3 hOH3 hzH3 hqH3 hS => ?_)
  have hW := HW.put (S' := st_dust p0 p1 (cn, sc, μ)) hW 2 (ix p0) (by decide) (isS_xl c_2 (show cn 1 < 2 ^ 31 by omega)) (by show hk_O E _ 7 [.int (nI (ix p0)), .int (μ 2 (ix p0)), .int (μ 3 (ix p0)), .int (μ 4 (ix p0)), .int (upd (μ 5) (ix p0) p1 (ix p0))] _; rw [upd_at]; exact hOH3) hqH3 (fun j9 => by rcases j9 with _ | _ | _ | _ | _ | _ | _ <;> rfl) (fun j9 i9 h1 h2 h3 => by
    rcases lt7 h1 with g | g | g | g | g | g | g <;> subst g
    · exact ⟨rfl, rfl⟩
    · exact ⟨rfl, rfl⟩
    · have g2 : i9 ≠ (ix p0) := h3.resolve_left (fun g => g rfl)
      exact ⟨rfl, by show [Value.int (nI i9), .int (μ 2 i9), .int (μ 3 i9), .int (μ 4 i9), .int (upd (μ 5) (ix p0) p1 i9)] = [Value.int (nI i9), .int (μ 2 i9), .int (μ 3 i9), .int (μ 4 i9), .int (μ 5 i9)]; rw [upd_ne g2]⟩
    · exact ⟨rfl, rfl⟩
    · exact ⟨rfl, rfl⟩
    · exact ⟨rfl, rfl⟩
    · exact ⟨rfl, rfl⟩
    ) rfl
  refine lv_iload hx hb dX10_dust_25 (lv_at hl 0 rfl) ?_
  exact hk_iretx X hr hlk hQ hS (Nat.le_of_ble_eq_true rfl) (Nat.le_of_ble_eq_true rfl) dX10_dust_27 (⟨by unfold cd_dust; (try dsimp only); rw [if_pos c_2, if_pos c_11], rfl, _, _, hW⟩)

theorem hd_X10_ruleAt : yX10_ruleAt.cls ≠ "java/lang/invoke/MethodHandle" ∧ yX10_ruleAt.cls ≠ "java/lang/invoke/VarHandle" ∧ (parseMethodDescriptor yX10_ruleAt.desc).map (fun d => d.parameters.length) = some 1 := ⟨by decide, by decide, by decide +kernel⟩
abbrev rmX10_withdraw : Room := { frames := 10, cells := 8, slots := 400, locals := 175 }
theorem iX10_withdraw_X6 : ∀ w ∈ wsX60, w ∈ wsX10_withdraw := by decide +kernel
set_option maxHeartbeats 4000000 in
set_option maxRecDepth 100000 in
theorem c_X10_withdraw (E : hk_E) (l : Launch) (hl9 : l.stackTraces = false) (H0 : Heap) {Z : Nat → Prop} {ho ts : Nat} {li : Nat → Nat} {rr : Nat → Nat → Nat} {G : hG} {R : hR} {cn : Nat → Nat} {sc : Nat → Int32} {μ : Nat → Nat → Int32} (hW : HW E Z (ho, li, rr, ts) G R (cn, sc, μ) H0) (hI : InvF (cn, sc, μ)) (hZn : ∀ q, H0.size ≤ q → Z q) {p1 : Int32} (hb9 : p1 = 0 ∨ p1 = 1) {p0 : Int32}  : hk_X E l yX10_withdraw wsX10_withdraw rmX10_withdraw (Z) [.ref ho, .int p0, .int p1] H0 (hpost E Z (ho, li, rr, ts) (cd_withdraw p0 p1 (cn, sc, μ)) (an_withdraw p0 p1 (cn, sc, μ)) (st_withdraw p0 p1 (cn, sc, μ))) (hpx E Z (ho, li, rr, ts) (cd_withdraw p0 p1 (cn, sc, μ)) (cn, sc, μ) [XI]) := by
  refine hk_X.ofW (cc := cX10_withdraw) (maxL := 5) (ret := (some .boolean)) (by decide +kernel) rfl (Nat.le_of_ble_eq_true rfl) ?_
  intro p e s m args below meth c ls Q hQ X hr hlk hx9 K hs9 hS hl
  obtain ⟨hx, hb, hml, hown, hts⟩ := id X
  have hAE : ∀ q, (Z) q → hk_A E q := hW.2.2.2.2.2.2.2.2.2.2.2.2
  have hl : lv_has ls 5 [(0, .ref ho), (1, .int p0), (2, .int p1)] := hl
  have hI9 := hI.1
  have hZA : ∀ q, Z q → hk_A E q := hW.2.2.2.2.2.2.2.2.2.2.2.2
  have hc1 : cn 1 ≤ 12 := hI9.1.1
  have hc8 : cn 8 ≤ 8 := hI9.1.2.1
  have hc12 : cn 12 ≤ 80 := hI9.1.2.2.1
  have hc22 : cn 22 ≤ 8 := hI9.1.2.2.2.1
  have hc29 : cn 29 ≤ 30 := hI9.1.2.2.2.2
  refine lv_aload_n hx hb dX10_withdraw_0 rfl (lv_at hl 0 rfl) ?_
  refine lv_iload_n hx hb dX10_withdraw_1 rfl (lv_at hl 1 rfl) ?_
  refine hk_callVx 1 (As := [.int p0]) (rest := []) X K hAE hS hl.1 (HW.o hW) rfl (c_X10_ruleAt E l hl9 H0 hW hc22 (i9 := p0)) (fun q h => hZn q (Nat.le_trans (Nat.le_refl _) h)) gX10_withdraw_X10_ruleAt rfl ⟨rfl, hd_X10_ruleAt⟩ rfl ⟨⟨(Nat.le_of_ble_eq_true rfl), (Nat.le_of_ble_eq_true rfl)⟩, (Nat.le_of_ble_eq_true rfl), (Nat.le_of_ble_eq_true rfl)⟩ rfl (Nat.le_of_ble_eq_true rfl) dX10_withdraw_2 (fun x9 ce9 q9 H1 locsH1 hp hS hzH1 hkH1 hce hcv hcl => hk_out hx9 hlk hQ hS hce hcv hcl (Nat.le_of_ble_eq_true rfl) (Nat.le_of_ble_eq_true rfl) (hpx_1 hW (fun q h1 h2 => hkH1 q h1 h2) (Or.inl ⟨by unfold cd_withdraw; (try dsimp only); rw [if_neg hp.2], hp.1⟩))) (fun v9 H1 locsH1 hp hS hzH1 hkH1 => ?_)
  obtain ⟨hv, hh⟩ := hp
  obtain ⟨hv, c_2⟩ := hv
  subst hv; subst hh
  refine lv_astore_n (lv' := [(3, .ref (gad G 5 (ix p0))), (0, .ref ho), (1, .int p0), (2, .int p1)]) hx hb dX10_withdraw_5 rfl hl (by decide) rfl (fun ls hl => ?_)
  refine lv_aload_n hx hb dX10_withdraw_6 rfl (lv_at hl 0 rfl) ?_
  refine hk_get (ref := "LightcurveHouse$Rule") (v := .int (μ 28 (ix p0))) X K (HW.e5 hW (isS_xl c_2 (show cn 22 < 2 ^ 31 by omega))) rfl iX10_withdraw_X6 3 (by decide) (by decide +kernel) (fun _ h => h) rfl dX10_withdraw_7 ?_
  refine lv_istore (lv' := [(4, .int (μ 28 (ix p0))), (3, .ref (gad G 5 (ix p0))), (0, .ref ho), (1, .int p0), (2, .int p1)]) hx hb dX10_withdraw_10 hl (by decide) rfl (fun ls hl => ?_)
  refine lv_aload_n hx hb dX10_withdraw_12 rfl (lv_at hl 1 rfl) ?_
  refine lv_iload_n hx hb dX10_withdraw_13 rfl (lv_at hl 4 rfl) ?_
  refine hk_put (ref := "LightcurveHouse$Rule") X K (HW.e5 hW (isS_xl c_2 (show cn 22 < 2 ^ 31 by omega))) rfl iX10_withdraw_X6 tyX6 tyX6_ok nmX6 hS ((hW.2.2.2.2.2.2.2.2.2.2.1 5 (by decide) _ (isS_xl c_2 (show cn 22 < 2 ^ 31 by omega))).2) 3 (by decide) (by decide +kernel) (fun _ h => h) (by decide +kernel) (by rcases hb9 with h | h <;> subst h <;> rfl) (by rcases hb9 with h | h <;> subst h <;> rfl) (Nat.le_of_ble_eq_true rfl) dX10_withdraw_14 (fun H2 locsH2 hOH2 hzH2 hqH2 hS => ?_)
  have hW := HW.put (S' := st_withdraw p0 p1 (cn, sc, μ)) hW 5 (ix p0) (by decide) (isS_xl c_2 (show cn 22 < 2 ^ 31 by omega)) (by show hk_O E _ 6 [.int (μ 23 (ix p0)), .int (μ 24 (ix p0)), .int (μ 27 (ix p0)), .int (upd (μ 28) (ix p0) p1 (ix p0)), .int (μ 25 (ix p0)), .int (μ 26 (ix p0))] _; rw [upd_at]; exact hOH2) hqH2 (fun j9 => by rcases j9 with _ | _ | _ | _ | _ | _ | _ <;> rfl) (fun j9 i9 h1 h2 h3 => by
    rcases lt7 h1 with g | g | g | g | g | g | g <;> subst g
    · exact ⟨rfl, rfl⟩
    · exact ⟨rfl, rfl⟩
    · exact ⟨rfl, rfl⟩
    · exact ⟨rfl, rfl⟩
    · exact ⟨rfl, rfl⟩
    · have g2 : i9 ≠ (ix p0) := h3.resolve_left (fun g => g rfl)
      exact ⟨rfl, by show [Value.int (μ 23 i9), .int (μ 24 i9), .int (μ 27 i9), .int (upd (μ 28) (ix p0) p1 i9), .int (μ 25 i9), .int (μ 26 i9)] = [Value.int (μ 23 i9), .int (μ 24 i9), .int (μ 27 i9), .int (μ 28 i9), .int (μ 25 i9), .int (μ 26 i9)]; rw [upd_ne g2]⟩
    · exact ⟨rfl, rfl⟩
    ) rfl
  refine lv_iload hx hb dX10_withdraw_17 (lv_at hl 0 rfl) ?_
  exact hk_zretx X hr hlk hQ hS (Nat.le_of_ble_eq_true rfl) (Nat.le_of_ble_eq_true rfl) dX10_withdraw_19 ((hI9.2.2.2.2.2.2.1 _ (isS_xl c_2 (show cn 22 < 2 ^ 31 by omega))).1) (⟨by unfold cd_withdraw; (try dsimp only); rw [if_pos c_2], rfl, _, _, hW⟩)

abbrev rmX10_entry : Room := { frames := 10, cells := 8, slots := 400, locals := 175 }
theorem iX10_entry_X7 : ∀ w ∈ wsX70, w ∈ wsX10_entry := by decide +kernel
set_option maxHeartbeats 4000000 in
set_option maxRecDepth 100000 in
theorem c_X10_entry (E : hk_E) (l : Launch) (hl9 : l.stackTraces = false) (H0 : Heap) {Z : Nat → Prop} {ho ts : Nat} {li : Nat → Nat} {rr : Nat → Nat → Nat} {G : hG} {R : hR} {cn : Nat → Nat} {sc : Nat → Int32} {μ : Nat → Nat → Int32} (hW : HW E Z (ho, li, rr, ts) G R (cn, sc, μ) H0) (hI : InvF (cn, sc, μ)) (hZn : ∀ q, H0.size ≤ q → Z q) {p0 : Int32}  : hk_X E l yX10_entry wsX10_entry rmX10_entry (Z) [.ref ho, .int p0] H0 (hpost E Z (ho, li, rr, ts) (cd_entry p0 (cn, sc, μ)) (an_entry p0 (cn, sc, μ)) (st_entry p0 (cn, sc, μ))) (hpx E Z (ho, li, rr, ts) (cd_entry p0 (cn, sc, μ)) (cn, sc, μ) [XI]) := by
  refine hk_X.ofW (cc := cX10_entry) (maxL := 2) (ret := (some .int)) (by decide +kernel) rfl (Nat.le_of_ble_eq_true rfl) ?_
  intro p e s m args below meth c ls Q hQ X hr hlk hx9 K hs9 hS hl
  obtain ⟨hx, hb, hml, hown, hts⟩ := id X
  have hAE : ∀ q, (Z) q → hk_A E q := hW.2.2.2.2.2.2.2.2.2.2.2.2
  have hl : lv_has ls 2 [(0, .ref ho), (1, .int p0)] := hl
  have hI9 := hI.1
  have hZA : ∀ q, Z q → hk_A E q := hW.2.2.2.2.2.2.2.2.2.2.2.2
  have hc1 : cn 1 ≤ 12 := hI9.1.1
  have hc8 : cn 8 ≤ 8 := hI9.1.2.1
  have hc12 : cn 12 ≤ 80 := hI9.1.2.2.1
  have hc22 : cn 22 ≤ 8 := hI9.1.2.2.2.1
  have hc29 : cn 29 ≤ 30 := hI9.1.2.2.2.2
  refine lv_aload_n hx hb dX10_entry_0 rfl (lv_at hl 0 rfl) ?_
  refine lv_iload_n hx hb dX10_entry_1 rfl (lv_at hl 1 rfl) ?_
  refine hk_callVx 1 (As := [.int p0]) (rest := []) X K hAE hS hl.1 (HW.o hW) rfl (c_X10_starAt E l hl9 H0 hW hc1 (i9 := p0)) (fun q h => hZn q (Nat.le_trans (Nat.le_refl _) h)) gX10_entry_X10_starAt rfl ⟨rfl, hd_X10_starAt⟩ rfl ⟨⟨(Nat.le_of_ble_eq_true rfl), (Nat.le_of_ble_eq_true rfl)⟩, (Nat.le_of_ble_eq_true rfl), (Nat.le_of_ble_eq_true rfl)⟩ rfl (Nat.le_of_ble_eq_true rfl) dX10_entry_2 (fun x9 ce9 q9 H1 locsH1 hp hS hzH1 hkH1 hce hcv hcl => hk_out hx9 hlk hQ hS hce hcv hcl (Nat.le_of_ble_eq_true rfl) (Nat.le_of_ble_eq_true rfl) (hpx_1 hW (fun q h1 h2 => hkH1 q h1 h2) (Or.inl ⟨by unfold cd_entry; (try dsimp only); rw [if_neg hp.2], hp.1⟩))) (fun v9 H1 locsH1 hp hS hzH1 hkH1 => ?_)
  obtain ⟨hv, hh⟩ := hp
  obtain ⟨hv, c_2⟩ := hv
  subst hv; subst hh
  refine hk_get (ref := "LightcurveHouse$Star") (v := .int (μ 3 (ix p0))) X K (HW.e2 hW (isS_xl c_2 (show cn 1 < 2 ^ 31 by omega))) rfl iX10_entry_X7 2 (by decide) (by decide +kernel) (fun _ h => h) rfl dX10_entry_5 ?_
  exact hk_iretx X hr hlk hQ hS (Nat.le_of_ble_eq_true rfl) (Nat.le_of_ble_eq_true rfl) dX10_entry_8 (⟨by unfold cd_entry; (try dsimp only); rw [if_pos c_2], rfl, _, _, hW⟩)

abbrev rmX10_zero : Room := { frames := 7, cells := 8, slots := 400, locals := 112 }
theorem iX10_zero_X10 : ∀ w ∈ wsX100, w ∈ wsX10_zero := by decide +kernel
set_option maxHeartbeats 4000000 in
set_option maxRecDepth 100000 in
theorem c_X10_zero (E : hk_E) (l : Launch) (hl9 : l.stackTraces = false) (H0 : Heap) {Z : Nat → Prop} {ho ts : Nat} {li : Nat → Nat} {rr : Nat → Nat → Nat} {G : hG} {R : hR} {cn : Nat → Nat} {sc : Nat → Int32} {μ : Nat → Nat → Int32} (hW : HW E Z (ho, li, rr, ts) G R (cn, sc, μ) H0) (hI : InvF (cn, sc, μ)) (hZn : ∀ q, H0.size ≤ q → Z q) {p0 : Int32}  : hk_X E l yX10_zero wsX10_zero rmX10_zero (Z) [.ref ho, .int p0] H0 (hpost E Z (ho, li, rr, ts) (cd_zero p0 (cn, sc, μ)) (an_zero p0 (cn, sc, μ)) (st_zero p0 (cn, sc, μ))) (hpx E Z (ho, li, rr, ts) (cd_zero p0 (cn, sc, μ)) (cn, sc, μ) [XA]) := by
  refine hk_X.ofW (cc := cX10_zero) (maxL := 3) (ret := (some .int)) (by decide +kernel) rfl (Nat.le_of_ble_eq_true rfl) ?_
  intro p e s m args below meth c ls Q hQ X hr hlk hx9 K hs9 hS hl
  obtain ⟨hx, hb, hml, hown, hts⟩ := id X
  have hAE : ∀ q, (Z) q → hk_A E q := hW.2.2.2.2.2.2.2.2.2.2.2.2
  have hl : lv_has ls 3 [(0, .ref ho), (1, .int p0)] := hl
  have hI9 := hI.1
  have hZA : ∀ q, Z q → hk_A E q := hW.2.2.2.2.2.2.2.2.2.2.2.2
  have hc1 : cn 1 ≤ 12 := hI9.1.1
  have hc8 : cn 8 ≤ 8 := hI9.1.2.1
  have hc12 : cn 12 ≤ 80 := hI9.1.2.2.1
  have hc22 : cn 22 ≤ 8 := hI9.1.2.2.2.1
  have hc29 : cn 29 ≤ 30 := hI9.1.2.2.2.2
  refine lv_iload_n hx hb dX10_zero_0 rfl (lv_at hl 1 rfl) ?_
  refine lv_sipush (v := (-1000)) hx hb dX10_zero_1 (by decide) ?_
  refine lv_sipush (v := 1000) hx hb dX10_zero_4 (by decide) ?_
  refine hk_callSx 3 (As := [.int p0, .int (-1000), .int 1000]) (rest := []) X K hAE hS hl.1 (c_X10_needRange E l hl9 H0 (a9 := p0) (lo := (-1000)) (hi := 1000)) (fun q h => hZn q (Nat.le_trans (Nat.le_refl _) h)) gX10_zero_X10_needRange rfl hd_X10_needRange rfl ⟨⟨(Nat.le_of_ble_eq_true rfl), (Nat.le_of_ble_eq_true rfl)⟩, (Nat.le_of_ble_eq_true rfl), (Nat.le_of_ble_eq_true rfl)⟩ rfl (Nat.le_of_ble_eq_true rfl) dX10_zero_7 (fun x9 ce9 q9 H1 locsH1 hp hS hzH1 hkH1 hce hcv hcl => hk_out hx9 hlk hQ hS hce hcv hcl (Nat.le_of_ble_eq_true rfl) (Nat.le_of_ble_eq_true rfl) (hpx_1 hW (fun q h1 h2 => hkH1 q h1 h2) (Or.inl ⟨by unfold cd_zero; (try dsimp only); rw [if_neg hp.2], hp.1⟩))) (fun v9 H1 locsH1 hp hS hzH1 hkH1 => ?_)
  obtain ⟨hv, hh⟩ := hp
  obtain ⟨hv, c_7⟩ := hv
  subst hv; subst hh
  refine lv_aload_n hx hb dX10_zero_10 rfl (lv_at hl 0 rfl) ?_
  refine hk_get (ref := "LightcurveHouse") (v := .int (sc 32)) X K (HW.o hW) rfl iX10_zero_X10 7 (by decide) (by decide +kernel) (fun _ h => h) rfl dX10_zero_11 ?_
  refine lv_istore_n (lv' := [(2, .int (sc 32)), (0, .ref ho), (1, .int p0)]) hx hb dX10_zero_14 rfl hl (by decide) rfl (fun ls hl => ?_)
  refine lv_aload_n hx hb dX10_zero_15 rfl (lv_at hl 1 rfl) ?_
  refine lv_iload_n hx hb dX10_zero_16 rfl (lv_at hl 2 rfl) ?_
  refine hk_put (ref := "LightcurveHouse") X K (HW.o hW) rfl iX10_zero_X10 tyX10 tyX10_ok nmX10 hS hW.2.2.2.2.2.1.2 7 (by decide) (by decide +kernel) (fun _ h => h) (by decide +kernel) rfl rfl (Nat.le_of_ble_eq_true rfl) dX10_zero_17 (fun H2 locsH2 hOH2 hzH2 hqH2 hS => ?_)
  have hW := HW.zero hW (v := p0) hOH2 hqH2
  refine lv_iload_n hx hb dX10_zero_20 rfl (lv_at hl 0 rfl) ?_
  exact hk_iretx X hr hlk hQ hS (Nat.le_of_ble_eq_true rfl) (Nat.le_of_ble_eq_true rfl) dX10_zero_21 (⟨by unfold cd_zero; (try dsimp only); rw [if_pos c_7], rfl, _, _, hW⟩)

theorem hd_X10_needPeriod : yX10_needPeriod.cls ≠ "java/lang/invoke/MethodHandle" ∧ yX10_needPeriod.cls ≠ "java/lang/invoke/VarHandle" ∧ (parseMethodDescriptor yX10_needPeriod.desc).map (fun d => d.parameters.length) = some 1 := ⟨by decide, by decide, by decide +kernel⟩
abbrev rmX10_claim : Room := { frames := 10, cells := 8, slots := 400, locals := 175 }
theorem iX10_claim_X7 : ∀ w ∈ wsX70, w ∈ wsX10_claim := by decide +kernel
set_option maxHeartbeats 4000000 in
set_option maxRecDepth 100000 in
theorem c_X10_claim (E : hk_E) (l : Launch) (hl9 : l.stackTraces = false) (H0 : Heap) {Z : Nat → Prop} {ho ts : Nat} {li : Nat → Nat} {rr : Nat → Nat → Nat} {G : hG} {R : hR} {cn : Nat → Nat} {sc : Nat → Int32} {μ : Nat → Nat → Int32} (hW : HW E Z (ho, li, rr, ts) G R (cn, sc, μ) H0) (hI : InvF (cn, sc, μ)) (hZn : ∀ q, H0.size ≤ q → Z q) {p0 p1 : Int32}  : hk_X E l yX10_claim wsX10_claim rmX10_claim (Z) [.ref ho, .int p0, .int p1] H0 (hpost E Z (ho, li, rr, ts) (cd_claim p0 p1 (cn, sc, μ)) (an_claim p0 p1 (cn, sc, μ)) (st_claim p0 p1 (cn, sc, μ))) (hpx E Z (ho, li, rr, ts) (cd_claim p0 p1 (cn, sc, μ)) (cn, sc, μ) [XI, XA]) := by
  refine hk_X.ofW (cc := cX10_claim) (maxL := 5) (ret := (some .int)) (by decide +kernel) rfl (Nat.le_of_ble_eq_true rfl) ?_
  intro p e s m args below meth c ls Q hQ X hr hlk hx9 K hs9 hS hl
  obtain ⟨hx, hb, hml, hown, hts⟩ := id X
  have hAE : ∀ q, (Z) q → hk_A E q := hW.2.2.2.2.2.2.2.2.2.2.2.2
  have hl : lv_has ls 5 [(0, .ref ho), (1, .int p0), (2, .int p1)] := hl
  have hI9 := hI.1
  have hZA : ∀ q, Z q → hk_A E q := hW.2.2.2.2.2.2.2.2.2.2.2.2
  have hc1 : cn 1 ≤ 12 := hI9.1.1
  have hc8 : cn 8 ≤ 8 := hI9.1.2.1
  have hc12 : cn 12 ≤ 80 := hI9.1.2.2.1
  have hc22 : cn 22 ≤ 8 := hI9.1.2.2.2.1
  have hc29 : cn 29 ≤ 30 := hI9.1.2.2.2.2
  refine lv_aload_n hx hb dX10_claim_0 rfl (lv_at hl 0 rfl) ?_
  refine lv_iload_n hx hb dX10_claim_1 rfl (lv_at hl 1 rfl) ?_
  refine hk_callVx 1 (As := [.int p0]) (rest := []) X K hAE hS hl.1 (HW.o hW) rfl (c_X10_starAt E l hl9 H0 hW hc1 (i9 := p0)) (fun q h => hZn q (Nat.le_trans (Nat.le_refl _) h)) gX10_claim_X10_starAt rfl ⟨rfl, hd_X10_starAt⟩ rfl ⟨⟨(Nat.le_of_ble_eq_true rfl), (Nat.le_of_ble_eq_true rfl)⟩, (Nat.le_of_ble_eq_true rfl), (Nat.le_of_ble_eq_true rfl)⟩ rfl (Nat.le_of_ble_eq_true rfl) dX10_claim_2 (fun x9 ce9 q9 H1 locsH1 hp hS hzH1 hkH1 hce hcv hcl => hk_out hx9 hlk hQ hS hce hcv hcl (Nat.le_of_ble_eq_true rfl) (Nat.le_of_ble_eq_true rfl) (hpx_1 hW (fun q h1 h2 => hkH1 q h1 h2) (Or.inl ⟨by unfold cd_claim; (try dsimp only); rw [if_neg hp.2], hp.1⟩))) (fun v9 H1 locsH1 hp hS hzH1 hkH1 => ?_)
  obtain ⟨hv, hh⟩ := hp
  obtain ⟨hv, c_2⟩ := hv
  subst hv; subst hh
  refine lv_astore_n (lv' := [(3, .ref (gad G 2 (ix p0))), (0, .ref ho), (1, .int p0), (2, .int p1)]) hx hb dX10_claim_5 rfl hl (by decide) rfl (fun ls hl => ?_)
  refine lv_iload_n hx hb dX10_claim_6 rfl (lv_at hl 3 rfl) ?_
  refine lv_if_eq (tgt := 14) hx hb dX10_claim_7 (by decide) (fun c_7 => ?_) (fun c_7 => ?_)
  · 
    refine lv_aload_n hx hb dX10_claim_14 rfl (lv_at hl 0 rfl) ?_
    refine hk_get (ref := "LightcurveHouse$Star") (v := .int (μ 4 (ix p0))) X K (HW.e2 hW (isS_xl c_2 (show cn 1 < 2 ^ 31 by omega))) rfl iX10_claim_X7 3 (by decide) (by decide +kernel) (fun _ h => h) rfl dX10_claim_15 ?_
    refine lv_istore (lv' := [(4, .int (μ 4 (ix p0))), (3, .ref (gad G 2 (ix p0))), (0, .ref ho), (1, .int p0), (2, .int p1)]) hx hb dX10_claim_18 hl (by decide) rfl (fun ls hl => ?_)
    refine lv_aload_n hx hb dX10_claim_20 rfl (lv_at hl 1 rfl) ?_
    refine lv_iload_n hx hb dX10_claim_21 rfl (lv_at hl 4 rfl) ?_
    refine hk_put (ref := "LightcurveHouse$Star") X K (HW.e2 hW (isS_xl c_2 (show cn 1 < 2 ^ 31 by omega))) rfl iX10_claim_X7 tyX7 tyX7_ok nmX7 hS ((hW.2.2.2.2.2.2.2.2.2.2.1 2 (by decide) _ (isS_xl c_2 (show cn 1 < 2 ^ 31 by omega))).2) 3 (by decide) (by decide +kernel) (fun _ h => h) (by decide +kernel) rfl rfl (Nat.le_of_ble_eq_true rfl) dX10_claim_22 (fun H2 locsH2 hOH2 hzH2 hqH2 hS => ?_)
    have hW := HW.put (S' := st_claim p0 p1 (cn, sc, μ)) hW 2 (ix p0) (by decide) (isS_xl c_2 (show cn 1 < 2 ^ 31 by omega)) (by show hk_O E _ 7 [.int (nI (ix p0)), .int (μ 2 (ix p0)), .int (μ 3 (ix p0)), .int (upd (μ 4) (ix p0) p1 (ix p0)), .int (μ 5 (ix p0))] _; rw [upd_at]; exact hOH2) hqH2 (fun j9 => by rcases j9 with _ | _ | _ | _ | _ | _ | _ <;> rfl) (fun j9 i9 h1 h2 h3 => by
      rcases lt7 h1 with g | g | g | g | g | g | g <;> subst g
      · exact ⟨rfl, rfl⟩
      · exact ⟨rfl, rfl⟩
      · have g2 : i9 ≠ (ix p0) := h3.resolve_left (fun g => g rfl)
        exact ⟨rfl, by show [Value.int (nI i9), .int (μ 2 i9), .int (μ 3 i9), .int (upd (μ 4) (ix p0) p1 i9), .int (μ 5 i9)] = [Value.int (nI i9), .int (μ 2 i9), .int (μ 3 i9), .int (μ 4 i9), .int (μ 5 i9)]; rw [upd_ne g2]⟩
      · exact ⟨rfl, rfl⟩
      · exact ⟨rfl, rfl⟩
      · exact ⟨rfl, rfl⟩
      · exact ⟨rfl, rfl⟩
      ) rfl
    refine lv_iload hx hb dX10_claim_25 (lv_at hl 0 rfl) ?_
    exact hk_iretx X hr hlk hQ hS (Nat.le_of_ble_eq_true rfl) (Nat.le_of_ble_eq_true rfl) dX10_claim_27 (⟨by unfold cd_claim; (try dsimp only); rw [if_pos c_2, if_pos c_7], rfl, _, _, hW⟩)
  · 
    refine lv_iload_n hx hb dX10_claim_10 rfl (lv_at hl 3 rfl) ?_
    refine hk_callSx 1 (As := [.int p1]) (rest := []) X K hAE hS hl.1 (c_X10_needPeriod E l hl9 H0 (a9 := p1)) (fun q h => hZn q (Nat.le_trans (Nat.le_refl _) h)) gX10_claim_X10_needPeriod rfl hd_X10_needPeriod rfl ⟨⟨(Nat.le_of_ble_eq_true rfl), (Nat.le_of_ble_eq_true rfl)⟩, (Nat.le_of_ble_eq_true rfl), (Nat.le_of_ble_eq_true rfl)⟩ rfl (Nat.le_of_ble_eq_true rfl) dX10_claim_11 (fun x9 ce9 q9 H3 locsH3 hp hS hzH3 hkH3 hce hcv hcl => hk_out hx9 hlk hQ hS hce hcv hcl (Nat.le_of_ble_eq_true rfl) (Nat.le_of_ble_eq_true rfl) (hpx_1 hW (fun q h1 h2 => hkH3 q h1 h2) (Or.inr (Or.inl ⟨by unfold cd_claim; (try dsimp only); rw [if_pos c_2, if_neg c_7, if_neg hp.2], hp.1⟩)))) (fun v9 H3 locsH3 hp hS hzH3 hkH3 => ?_)
    obtain ⟨hv, hh⟩ := hp
    obtain ⟨hv, c_11⟩ := hv
    subst hv; subst hh
    refine lv_aload_n hx hb dX10_claim_14 rfl (lv_at hl 0 rfl) ?_
    refine hk_get (ref := "LightcurveHouse$Star") (v := .int (μ 4 (ix p0))) X K (HW.e2 hW (isS_xl c_2 (show cn 1 < 2 ^ 31 by omega))) rfl iX10_claim_X7 3 (by decide) (by decide +kernel) (fun _ h => h) rfl dX10_claim_15 ?_
    refine lv_istore (lv' := [(4, .int (μ 4 (ix p0))), (3, .ref (gad G 2 (ix p0))), (0, .ref ho), (1, .int p0), (2, .int p1)]) hx hb dX10_claim_18 hl (by decide) rfl (fun ls hl => ?_)
    refine lv_aload_n hx hb dX10_claim_20 rfl (lv_at hl 1 rfl) ?_
    refine lv_iload_n hx hb dX10_claim_21 rfl (lv_at hl 4 rfl) ?_
    refine hk_put (ref := "LightcurveHouse$Star") X K (HW.e2 hW (isS_xl c_2 (show cn 1 < 2 ^ 31 by omega))) rfl iX10_claim_X7 tyX7 tyX7_ok nmX7 hS ((hW.2.2.2.2.2.2.2.2.2.2.1 2 (by decide) _ (isS_xl c_2 (show cn 1 < 2 ^ 31 by omega))).2) 3 (by decide) (by decide +kernel) (fun _ h => h) (by decide +kernel) rfl rfl (Nat.le_of_ble_eq_true rfl) dX10_claim_22 (fun H4 locsH4 hOH4 hzH4 hqH4 hS => ?_)
    have hW := HW.put (S' := st_claim p0 p1 (cn, sc, μ)) hW 2 (ix p0) (by decide) (isS_xl c_2 (show cn 1 < 2 ^ 31 by omega)) (by show hk_O E _ 7 [.int (nI (ix p0)), .int (μ 2 (ix p0)), .int (μ 3 (ix p0)), .int (upd (μ 4) (ix p0) p1 (ix p0)), .int (μ 5 (ix p0))] _; rw [upd_at]; exact hOH4) hqH4 (fun j9 => by rcases j9 with _ | _ | _ | _ | _ | _ | _ <;> rfl) (fun j9 i9 h1 h2 h3 => by
      rcases lt7 h1 with g | g | g | g | g | g | g <;> subst g
      · exact ⟨rfl, rfl⟩
      · exact ⟨rfl, rfl⟩
      · have g2 : i9 ≠ (ix p0) := h3.resolve_left (fun g => g rfl)
        exact ⟨rfl, by show [Value.int (nI i9), .int (μ 2 i9), .int (μ 3 i9), .int (upd (μ 4) (ix p0) p1 i9), .int (μ 5 i9)] = [Value.int (nI i9), .int (μ 2 i9), .int (μ 3 i9), .int (μ 4 i9), .int (μ 5 i9)]; rw [upd_ne g2]⟩
      · exact ⟨rfl, rfl⟩
      · exact ⟨rfl, rfl⟩
      · exact ⟨rfl, rfl⟩
      · exact ⟨rfl, rfl⟩
      ) rfl
    refine lv_iload hx hb dX10_claim_25 (lv_at hl 0 rfl) ?_
    exact hk_iretx X hr hlk hQ hS (Nat.le_of_ble_eq_true rfl) (Nat.le_of_ble_eq_true rfl) dX10_claim_27 (⟨by unfold cd_claim; (try dsimp only); rw [if_pos c_2, if_neg c_7, if_pos c_11], rfl, _, _, hW⟩)

