theorem hd_X10_lookAt : yX10_lookAt.cls ≠ "java/lang/invoke/MethodHandle" ∧ yX10_lookAt.cls ≠ "java/lang/invoke/VarHandle" ∧ (parseMethodDescriptor yX10_lookAt.desc).map (fun d => d.parameters.length) = some 1 := ⟨by decide, by decide, by decide +kernel⟩
abbrev rmX10_doubt : Room := { frames := 10, cells := 8, slots := 400, locals := 175 }
theorem iX10_doubt_X1 : ∀ w ∈ wsX10, w ∈ wsX10_doubt := by decide +kernel
theorem iX10_doubt_X8 : ∀ w ∈ wsX80, w ∈ wsX10_doubt := by decide +kernel
set_option maxHeartbeats 4000000 in
set_option maxRecDepth 100000 in
theorem c_X10_doubt (E : hk_E) (l : Launch) (hl9 : l.stackTraces = false) (H0 : Heap) {Z : Nat → Prop} {ho ts : Nat} {li : Nat → Nat} {rr : Nat → Nat → Nat} {G : hG} {R : hR} {cn : Nat → Nat} {sc : Nat → Int32} {μ : Nat → Nat → Int32} (hW : HW E Z (ho, li, rr, ts) G R (cn, sc, μ) H0) (hI : InvF (cn, sc, μ)) (hZn : ∀ q, H0.size ≤ q → Z q) {p1 : Int32} (hb9 : p1 = 0 ∨ p1 = 1) {p0 : Int32}  : hk_X E l yX10_doubt wsX10_doubt rmX10_doubt (Z) [.ref ho, .int p0, .int p1] H0 (hpost E Z (ho, li, rr, ts) (cd_doubt p0 p1 (cn, sc, μ)) (an_doubt p0 p1 (cn, sc, μ)) (st_doubt p0 p1 (cn, sc, μ))) (hpx E Z (ho, li, rr, ts) (cd_doubt p0 p1 (cn, sc, μ)) (cn, sc, μ) [XI]) := by
  refine hk_X.ofW (cc := cX10_doubt) (maxL := 5) (ret := (some .boolean)) (by decide +kernel) rfl (Nat.le_of_ble_eq_true rfl) ?_
  intro p e s m args below meth c ls Q hQ X hr hlk hx9 K hs9 hS hl
  obtain ⟨hx, hb, hml, hown, hts⟩ := id X
  have hAE : ∀ q, (Z) q → hk_A E q := hW.2.2.2.2.2.2.2.2.2.2.2.2
  have hl : lv_has ls 5 [(0, .ref ho), (1, .int p0), (2, .int p1)] := hl
  have hI9 := hI.1
  have hZA : ∀ q, Z q → hk_A E q := hW.2.2.2.2.2.2.2.2.2.2.2.2
  have hc1 : cn 1 ≤ 12 := hI9.1.1
  have hc8 : cn 8 ≤ 8 := hI9.1.2.1
  have hc12 : cn 12 ≤ 80 := hI9.1.2.2.1
  have hc22 : cn 22 ≤ 8 := hI9.1.2.2.2.1
  have hc29 : cn 29 ≤ 30 := hI9.1.2.2.2.2
  refine lv_aload_n hx hb dX10_doubt_0 rfl (lv_at hl 0 rfl) ?_
  refine lv_iload_n hx hb dX10_doubt_1 rfl (lv_at hl 1 rfl) ?_
  refine hk_callVx 1 (As := [.int p0]) (rest := []) X K hAE hS hl.1 (HW.o hW) rfl (c_X10_lookAt E l hl9 H0 hW hc12 (i9 := p0)) (fun q h => hZn q (Nat.le_trans (Nat.le_refl _) h)) gX10_doubt_X10_lookAt rfl ⟨rfl, hd_X10_lookAt⟩ rfl ⟨⟨(Nat.le_of_ble_eq_true rfl), (Nat.le_of_ble_eq_true rfl)⟩, (Nat.le_of_ble_eq_true rfl), (Nat.le_of_ble_eq_true rfl)⟩ rfl (Nat.le_of_ble_eq_true rfl) dX10_doubt_2 (fun x9 ce9 q9 H1 locsH1 hp hS hzH1 hkH1 hce hcv hcl => hk_out hx9 hlk hQ hS hce hcv hcl (Nat.le_of_ble_eq_true rfl) (Nat.le_of_ble_eq_true rfl) (hpx_1 hW (fun q h1 h2 => hkH1 q h1 h2) (Or.inl ⟨by unfold cd_doubt; (try dsimp only); rw [if_neg hp.2], hp.1⟩))) (fun v9 H1 locsH1 hp hS hzH1 hkH1 => ?_)
  obtain ⟨hv, hh⟩ := hp
  obtain ⟨hv, c_2⟩ := hv
  subst hv; subst hh
  by_cases hsr : μ 13 (ix p0) = 0
  · refine lv_astore_n (lv' := [(3, .ref (gad G 4 (ix p0))), (0, .ref ho), (1, .int p0), (2, .int p1)]) hx hb dX10_doubt_5 rfl hl (by decide) rfl (fun ls hl => ?_)
    refine lv_aload_n hx hb dX10_doubt_6 rfl (lv_at hl 0 rfl) ?_
    refine hk_get (ref := "LightcurveHouse$Look") (v := .int (μ 21 (ix p0))) X K (HW.e8 hW (isS_xl c_2 (show cn 12 < 2 ^ 31 by omega)) hsr) rfl iX10_doubt_X8 1 (by decide) (by decide +kernel) (fun _ h => h) rfl dX10_doubt_7 ?_
    refine lv_istore (lv' := [(4, .int (μ 21 (ix p0))), (3, .ref (gad G 4 (ix p0))), (0, .ref ho), (1, .int p0), (2, .int p1)]) hx hb dX10_doubt_10 hl (by decide) rfl (fun ls hl => ?_)
    refine lv_aload_n hx hb dX10_doubt_12 rfl (lv_at hl 1 rfl) ?_
    refine lv_iload_n hx hb dX10_doubt_13 rfl (lv_at hl 4 rfl) ?_
    refine hk_put (ref := "LightcurveHouse$Look") X K (HW.e8 hW (isS_xl c_2 (show cn 12 < 2 ^ 31 by omega)) hsr) rfl iX10_doubt_X8 tyX8 tyX8_ok nmX8 hS ((hW.2.2.2.2.2.2.2.2.2.2.1 4 (by decide) _ (isS_xl c_2 (show cn 12 < 2 ^ 31 by omega))).2) 1 (by decide) (by decide +kernel) (fun _ h => h) (by decide +kernel) (by rcases hb9 with h | h <;> subst h <;> rfl) (by rcases hb9 with h | h <;> subst h <;> rfl) (Nat.le_of_ble_eq_true rfl) dX10_doubt_14 (fun H2 locsH2 hOH2 hzH2 hqH2 hS => ?_)
    have hW := HW.put (S' := st_doubt p0 p1 (cn, sc, μ)) hW 4 (ix p0) (by decide) (isS_xl c_2 (show cn 12 < 2 ^ 31 by omega)) (by show hk_O E _ (if μ 13 (ix p0) = 0 then 8 else 2) (if μ 13 (ix p0) = 0 then [.ref (gad G 2 (ix (μ 14 (ix p0)))), .int (upd (μ 21) (ix p0) p1 (ix p0)), .ref (gad G 1 (ix (μ 15 (ix p0)))), .int (μ 16 (ix p0)), .ref (gad G 0 (ix (μ 17 (ix p0)))), .int (μ 18 (ix p0)), .int (μ 19 (ix p0)), .ref (gad G 0 (ix (μ 20 (ix p0))))] else [.ref (gad G 2 (ix (μ 14 (ix p0)))), .int (upd (μ 21) (ix p0) p1 (ix p0)), .ref (gad G 3 (ix (μ 15 (ix p0)))), .int (μ 16 (ix p0))]) _; rw [if_pos hsr, if_pos hsr, upd_at]; exact hOH2) hqH2 (fun j9 => by rcases j9 with _ | _ | _ | _ | _ | _ | _ <;> rfl) (fun j9 i9 h1 h2 h3 => by
      rcases lt7 h1 with g | g | g | g | g | g | g <;> subst g
      · exact ⟨rfl, rfl⟩
      · exact ⟨rfl, rfl⟩
      · exact ⟨rfl, rfl⟩
      · exact ⟨rfl, rfl⟩
      · have g2 : i9 ≠ (ix p0) := h3.resolve_left (fun g => g rfl)
        exact ⟨rfl, by show (if μ 13 i9 = 0 then ([.ref (gad G 2 (ix (μ 14 i9))), .int (upd (μ 21) (ix p0) p1 i9), .ref (gad G 1 (ix (μ 15 i9))), .int (μ 16 i9), .ref (gad G 0 (ix (μ 17 i9))), .int (μ 18 i9), .int (μ 19 i9), .ref (gad G 0 (ix (μ 20 i9)))] : List Value) else [.ref (gad G 2 (ix (μ 14 i9))), .int (upd (μ 21) (ix p0) p1 i9), .ref (gad G 3 (ix (μ 15 i9))), .int (μ 16 i9)]) = _; rw [upd_ne g2]; rfl⟩
      · exact ⟨rfl, rfl⟩
      · exact ⟨rfl, rfl⟩
      ) rfl
    refine lv_iload hx hb dX10_doubt_17 (lv_at hl 0 rfl) ?_
    exact hk_zretx X hr hlk hQ hS (Nat.le_of_ble_eq_true rfl) (Nat.le_of_ble_eq_true rfl) dX10_doubt_19 ((hI9.2.2.2.2.2.1 _ (isS_xl c_2 (show cn 12 < 2 ^ 31 by omega))).2.1) (⟨by unfold cd_doubt; (try dsimp only); rw [if_pos c_2], rfl, _, _, hW⟩)
  · refine lv_astore_n (lv' := [(3, .ref (gad G 4 (ix p0))), (0, .ref ho), (1, .int p0), (2, .int p1)]) hx hb dX10_doubt_5 rfl hl (by decide) rfl (fun ls hl => ?_)
    refine lv_aload_n hx hb dX10_doubt_6 rfl (lv_at hl 0 rfl) ?_
    refine hk_get (ref := "LightcurveHouse$Look") (v := .int (μ 21 (ix p0))) X K (HW.e9 hW (isS_xl c_2 (show cn 12 < 2 ^ 31 by omega)) hsr) rfl iX10_doubt_X1 1 (by decide) (by decide +kernel) (fun _ h => h) rfl dX10_doubt_7 ?_
    refine lv_istore (lv' := [(4, .int (μ 21 (ix p0))), (3, .ref (gad G 4 (ix p0))), (0, .ref ho), (1, .int p0), (2, .int p1)]) hx hb dX10_doubt_10 hl (by decide) rfl (fun ls hl => ?_)
    refine lv_aload_n hx hb dX10_doubt_12 rfl (lv_at hl 1 rfl) ?_
    refine lv_iload_n hx hb dX10_doubt_13 rfl (lv_at hl 4 rfl) ?_
    refine hk_put (ref := "LightcurveHouse$Look") X K (HW.e9 hW (isS_xl c_2 (show cn 12 < 2 ^ 31 by omega)) hsr) rfl iX10_doubt_X1 tyX1 tyX1_ok nmX1 hS ((hW.2.2.2.2.2.2.2.2.2.2.1 4 (by decide) _ (isS_xl c_2 (show cn 12 < 2 ^ 31 by omega))).2) 1 (by decide) (by decide +kernel) (fun _ h => h) (by decide +kernel) (by rcases hb9 with h | h <;> subst h <;> rfl) (by rcases hb9 with h | h <;> subst h <;> rfl) (Nat.le_of_ble_eq_true rfl) dX10_doubt_14 (fun H3 locsH3 hOH3 hzH3 hqH3 hS => ?_)
    have hW := HW.put (S' := st_doubt p0 p1 (cn, sc, μ)) hW 4 (ix p0) (by decide) (isS_xl c_2 (show cn 12 < 2 ^ 31 by omega)) (by show hk_O E _ (if μ 13 (ix p0) = 0 then 8 else 2) (if μ 13 (ix p0) = 0 then [.ref (gad G 2 (ix (μ 14 (ix p0)))), .int (upd (μ 21) (ix p0) p1 (ix p0)), .ref (gad G 1 (ix (μ 15 (ix p0)))), .int (μ 16 (ix p0)), .ref (gad G 0 (ix (μ 17 (ix p0)))), .int (μ 18 (ix p0)), .int (μ 19 (ix p0)), .ref (gad G 0 (ix (μ 20 (ix p0))))] else [.ref (gad G 2 (ix (μ 14 (ix p0)))), .int (upd (μ 21) (ix p0) p1 (ix p0)), .ref (gad G 3 (ix (μ 15 (ix p0)))), .int (μ 16 (ix p0))]) _; rw [if_neg hsr, if_neg hsr, upd_at]; exact hOH3) hqH3 (fun j9 => by rcases j9 with _ | _ | _ | _ | _ | _ | _ <;> rfl) (fun j9 i9 h1 h2 h3 => by
      rcases lt7 h1 with g | g | g | g | g | g | g <;> subst g
      · exact ⟨rfl, rfl⟩
      · exact ⟨rfl, rfl⟩
      · exact ⟨rfl, rfl⟩
      · exact ⟨rfl, rfl⟩
      · have g2 : i9 ≠ (ix p0) := h3.resolve_left (fun g => g rfl)
        exact ⟨rfl, by show (if μ 13 i9 = 0 then ([.ref (gad G 2 (ix (μ 14 i9))), .int (upd (μ 21) (ix p0) p1 i9), .ref (gad G 1 (ix (μ 15 i9))), .int (μ 16 i9), .ref (gad G 0 (ix (μ 17 i9))), .int (μ 18 i9), .int (μ 19 i9), .ref (gad G 0 (ix (μ 20 i9)))] : List Value) else [.ref (gad G 2 (ix (μ 14 i9))), .int (upd (μ 21) (ix p0) p1 i9), .ref (gad G 3 (ix (μ 15 i9))), .int (μ 16 i9)]) = _; rw [upd_ne g2]; rfl⟩
      · exact ⟨rfl, rfl⟩
      · exact ⟨rfl, rfl⟩
      ) rfl
    refine lv_iload hx hb dX10_doubt_17 (lv_at hl 0 rfl) ?_
    exact hk_zretx X hr hlk hQ hS (Nat.le_of_ble_eq_true rfl) (Nat.le_of_ble_eq_true rfl) dX10_doubt_19 ((hI9.2.2.2.2.2.1 _ (isS_xl c_2 (show cn 12 < 2 ^ 31 by omega))).2.1) (⟨by unfold cd_doubt; (try dsimp only); rw [if_pos c_2], rfl, _, _, hW⟩)

theorem six_of {p : Int32} (h : inr p 0 5) : p = 0 ∨ p = 1 ∨ p = 2 ∨ p = 3 ∨ p = 4 ∨ p = 5 := by
  obtain ⟨j, hj, rfl⟩ := inr_ix (N := 5) (by decide) h
  have h6 : j = 0 ∨ j = 1 ∨ j = 2 ∨ j = 3 ∨ j = 4 ∨ j = 5 := by omega
  rcases h6 with e | e | e | e | e | e <;> subst e <;> decide
theorem six_no {p : Int32} (h : ¬ inr p 0 5) : p.toInt < 0 ∨ 5 < p.toInt := by
  by_cases c : p < 0
  · exact Or.inl (by rwa [i_lt, i_0] at c)
  · refine Or.inr ?_
    have g := Int32.not_le.mp (fun g => h ⟨Int32.not_lt.mp c, g⟩)
    rw [i_lt] at g
    exact g
theorem hd_X1_sort : yX1_sort.cls ≠ "java/lang/invoke/MethodHandle" ∧ yX1_sort.cls ≠ "java/lang/invoke/VarHandle" ∧ (parseMethodDescriptor yX1_sort.desc).map (fun d => d.parameters.length) = some 0 := ⟨by decide, by decide, by decide +kernel⟩
theorem hd_X1_trueLight : yX1_trueLight.cls ≠ "java/lang/invoke/MethodHandle" ∧ yX1_trueLight.cls ≠ "java/lang/invoke/VarHandle" ∧ (parseMethodDescriptor yX1_trueLight.desc).map (fun d => d.parameters.length) = some 0 := ⟨by decide, by decide, by decide +kernel⟩
theorem hd_X1_trueTime : yX1_trueTime.cls ≠ "java/lang/invoke/MethodHandle" ∧ yX1_trueTime.cls ≠ "java/lang/invoke/VarHandle" ∧ (parseMethodDescriptor yX1_trueTime.desc).map (fun d => d.parameters.length) = some 0 := ⟨by decide, by decide, by decide +kernel⟩
theorem hd_X8_sort : yX8_sort.cls ≠ "java/lang/invoke/MethodHandle" ∧ yX8_sort.cls ≠ "java/lang/invoke/VarHandle" ∧ (parseMethodDescriptor yX8_sort.desc).map (fun d => d.parameters.length) = some 0 := ⟨by decide, by decide, by decide +kernel⟩
theorem hd_X8_trueLight : yX8_trueLight.cls ≠ "java/lang/invoke/MethodHandle" ∧ yX8_trueLight.cls ≠ "java/lang/invoke/VarHandle" ∧ (parseMethodDescriptor yX8_trueLight.desc).map (fun d => d.parameters.length) = some 0 := ⟨by decide, by decide, by decide +kernel⟩
theorem hd_X8_trueTime : yX8_trueTime.cls ≠ "java/lang/invoke/MethodHandle" ∧ yX8_trueTime.cls ≠ "java/lang/invoke/VarHandle" ∧ (parseMethodDescriptor yX8_trueTime.desc).map (fun d => d.parameters.length) = some 0 := ⟨by decide, by decide, by decide +kernel⟩
theorem hkw_X10_look_1_126 : ∀ w ∈ (vx_atS RX10 126 "java/lang/IllegalArgumentException" ["java/lang/RuntimeException", "java/lang/Exception"]).filter goodWord, w ∈ wsX10_look := by decide +kernel
abbrev rmX10_look : Room := { frames := 10, cells := 8, slots := 400, locals := 175 }
theorem iX10_look_X1 : ∀ w ∈ wsX10, w ∈ wsX10_look := by decide +kernel
theorem iX10_look_X7 : ∀ w ∈ wsX70, w ∈ wsX10_look := by decide +kernel
theorem iX10_look_X8 : ∀ w ∈ wsX80, w ∈ wsX10_look := by decide +kernel
set_option maxHeartbeats 4000000 in
set_option maxRecDepth 100000 in
theorem c_X10_look (E : hk_E) (l : Launch) (hl9 : l.stackTraces = false) (H0 : Heap) {Z : Nat → Prop} {ho ts : Nat} {li : Nat → Nat} {rr : Nat → Nat → Nat} {G : hG} {R : hR} {cn : Nat → Nat} {sc : Nat → Int32} {μ : Nat → Nat → Int32} (hW : HW E Z (ho, li, rr, ts) G R (cn, sc, μ) H0) (hI : InvF (cn, sc, μ)) (hZn : ∀ q, H0.size ≤ q → Z q) {p0 p1 : Int32}  : hk_X E l yX10_look wsX10_look rmX10_look (Z) [.ref ho, .int p0, .int p1] H0 (hpost E Z (ho, li, rr, ts) (cd_look p0 p1 (cn, sc, μ)) (an_look p0 p1 (cn, sc, μ)) (st_look p0 p1 (cn, sc, μ))) (hpx E Z (ho, li, rr, ts) (cd_look p0 p1 (cn, sc, μ)) (cn, sc, μ) [XI, XA]) := by
  refine hk_X.ofW (cc := cX10_look) (maxL := 4) (ret := (some .int)) (by decide +kernel) rfl (Nat.le_of_ble_eq_true rfl) ?_
  intro p e s m args below meth c ls Q hQ X hr hlk hx9 K hs9 hS hl
  obtain ⟨hx, hb, hml, hown, hts⟩ := id X
  have hAE : ∀ q, (Z) q → hk_A E q := hW.2.2.2.2.2.2.2.2.2.2.2.2
  have hl : lv_has ls 4 [(0, .ref ho), (1, .int p0), (2, .int p1)] := hl
  have hI9 := hI.1
  have hZA : ∀ q, Z q → hk_A E q := hW.2.2.2.2.2.2.2.2.2.2.2.2
  have hc1 : cn 1 ≤ 12 := hI9.1.1
  have hc8 : cn 8 ≤ 8 := hI9.1.2.1
  have hc12 : cn 12 ≤ 80 := hI9.1.2.2.1
  have hc22 : cn 22 ≤ 8 := hI9.1.2.2.2.1
  have hc29 : cn 29 ≤ 30 := hI9.1.2.2.2.2
  refine lv_aload_n hx hb dX10_look_0 rfl (lv_at hl 0 rfl) ?_
  refine lv_iload_n hx hb dX10_look_1 rfl (lv_at hl 1 rfl) ?_
  refine hk_callVx 1 (As := [.int p0]) (rest := []) X K hAE hS hl.1 (HW.o hW) rfl (c_X10_lookAt E l hl9 H0 hW hc12 (i9 := p0)) (fun q h => hZn q (Nat.le_trans (Nat.le_refl _) h)) gX10_look_X10_lookAt rfl ⟨rfl, hd_X10_lookAt⟩ rfl ⟨⟨(Nat.le_of_ble_eq_true rfl), (Nat.le_of_ble_eq_true rfl)⟩, (Nat.le_of_ble_eq_true rfl), (Nat.le_of_ble_eq_true rfl)⟩ rfl (Nat.le_of_ble_eq_true rfl) dX10_look_2 (fun x9 ce9 q9 H1 locsH1 hp hS hzH1 hkH1 hce hcv hcl => hk_out hx9 hlk hQ hS hce hcv hcl (Nat.le_of_ble_eq_true rfl) (Nat.le_of_ble_eq_true rfl) (hpx_1 hW (fun q h1 h2 => hkH1 q h1 h2) (Or.inl ⟨by unfold cd_look; (try dsimp only); rw [if_neg hp.2], hp.1⟩))) (fun v9 H1 locsH1 hp hS hzH1 hkH1 => ?_)
  obtain ⟨hv, hh⟩ := hp
  obtain ⟨hv, c_2⟩ := hv
  subst hv; subst hh
  by_cases hsr : μ 13 (ix p0) = 0
  · refine lv_astore_n (lv' := [(3, .ref (gad G 4 (ix p0))), (0, .ref ho), (1, .int p0), (2, .int p1)]) hx hb dX10_look_5 rfl hl (by decide) rfl (fun ls hl => ?_)
    refine lv_iload_n hx hb dX10_look_6 rfl (lv_at hl 3 rfl) ?_
    by_cases c_7 : inr p1 0 5
    · rcases six_of c_7 with e9 | e9 | e9 | e9 | e9 | e9
      · subst e9
        refine lv_tableIn (off := 37) (tgt := 44) hx hb dX10_look_7 (by decide) (by decide) rfl rfl ?_
        refine lv_aload_n hx hb dX10_look_44 rfl (lv_at hl 0 rfl) ?_
        refine hk_callU 0 (As := []) (rest := []) X K hAE hS hl.1 (HW.e8 hW (isS_xl c_2 (show cn 12 < 2 ^ 31 by omega)) hsr) rfl (c_X8_rawLight E l H0 hW hI9 (k := (ix p0)) (isS_xl c_2 (show cn 12 < 2 ^ 31 by omega)) hsr) (fun _ h => h.elim) (va_cwA 0 hts gX10_look_X8_rawLight_u196X8 rfl rfl rfl (K.2.2.2.2.1.2.2.2.2.2.2.2 _ (by decide +kernel)) ⟨by decide, by decide, by decide +kernel⟩ ⟨(Nat.le_of_ble_eq_true rfl), (Nat.le_of_ble_eq_true rfl)⟩) rfl ⟨(Nat.le_of_ble_eq_true rfl), (Nat.le_of_ble_eq_true rfl)⟩ rfl (Nat.le_of_ble_eq_true rfl) dX10_look_45 (fun v9 H2 locsH2 hp hS hzH2 hkH2 => ?_)
        obtain ⟨hv, hh⟩ := hp
        subst hv; subst hh
        exact hk_iretx X hr hlk hQ hS (Nat.le_of_ble_eq_true rfl) (Nat.le_of_ble_eq_true rfl) dX10_look_48 (⟨by unfold cd_look; (try dsimp only); rw [if_pos c_2, if_pos c_7], congrArg some (congrArg Value.int (Eq.symm (by unfold an_look; (try dsimp only); rw [if_pos rfl]))), _, _, hW⟩)
      · subst e9
        refine lv_tableIn (off := 42) (tgt := 49) hx hb dX10_look_7 (by decide) (by decide) rfl rfl ?_
        refine lv_aload_n hx hb dX10_look_49 rfl (lv_at hl 0 rfl) ?_
        refine hk_callU 0 (As := []) (rest := []) X K hAE hS hl.1 (HW.e8 hW (isS_xl c_2 (show cn 12 < 2 ^ 31 by omega)) hsr) rfl (c_X8_trueLight E l H0 hW hI9 (k := (ix p0)) (isS_xl c_2 (show cn 12 < 2 ^ 31 by omega)) hsr) (fun _ h => h.elim) (va_cwA 0 hts gX10_look_X8_trueLight_u199X8 rfl rfl rfl (K.2.2.2.2.1.2.2.2.2.2.2.2 _ (by decide +kernel)) ⟨by decide, by decide, by decide +kernel⟩ ⟨(Nat.le_of_ble_eq_true rfl), (Nat.le_of_ble_eq_true rfl)⟩) rfl ⟨(Nat.le_of_ble_eq_true rfl), (Nat.le_of_ble_eq_true rfl)⟩ rfl (Nat.le_of_ble_eq_true rfl) dX10_look_50 (fun v9 H3 locsH3 hp hS hzH3 hkH3 => ?_)
        obtain ⟨hv, hh⟩ := hp
        subst hv; subst hh
        exact hk_iretx X hr hlk hQ hS (Nat.le_of_ble_eq_true rfl) (Nat.le_of_ble_eq_true rfl) dX10_look_53 (⟨by unfold cd_look; (try dsimp only); rw [if_pos c_2, if_pos c_7], congrArg some (congrArg Value.int (Eq.symm (by unfold an_look; (try dsimp only); rw [if_neg (by decide), if_pos rfl]))), _, _, hW⟩)
      · subst e9
        refine lv_tableIn (off := 47) (tgt := 54) hx hb dX10_look_7 (by decide) (by decide) rfl rfl ?_
        refine lv_aload_n hx hb dX10_look_54 rfl (lv_at hl 0 rfl) ?_
        refine hk_callU 0 (As := []) (rest := []) X K hAE hS hl.1 (HW.e8 hW (isS_xl c_2 (show cn 12 < 2 ^ 31 by omega)) hsr) rfl (c_X8_trueTime E l H0 hW hI9 (k := (ix p0)) (isS_xl c_2 (show cn 12 < 2 ^ 31 by omega)) hsr) (fun _ h => h.elim) (va_cwA 0 hts gX10_look_X8_trueTime_u202X8 rfl rfl rfl (K.2.2.2.2.1.2.2.2.2.2.2.2 _ (by decide +kernel)) ⟨by decide, by decide, by decide +kernel⟩ ⟨(Nat.le_of_ble_eq_true rfl), (Nat.le_of_ble_eq_true rfl)⟩) rfl ⟨(Nat.le_of_ble_eq_true rfl), (Nat.le_of_ble_eq_true rfl)⟩ rfl (Nat.le_of_ble_eq_true rfl) dX10_look_55 (fun v9 H4 locsH4 hp hS hzH4 hkH4 => ?_)
        obtain ⟨hv, hh⟩ := hp
        subst hv; subst hh
        exact hk_iretx X hr hlk hQ hS (Nat.le_of_ble_eq_true rfl) (Nat.le_of_ble_eq_true rfl) dX10_look_58 (⟨by unfold cd_look; (try dsimp only); rw [if_pos c_2, if_pos c_7], congrArg some (congrArg Value.int (Eq.symm (by unfold an_look; (try dsimp only); rw [if_neg (by decide), if_neg (by decide), if_pos rfl]))), _, _, hW⟩)
      · subst e9
        refine lv_tableIn (off := 52) (tgt := 59) hx hb dX10_look_7 (by decide) (by decide) rfl rfl ?_
        refine lv_aload_n hx hb dX10_look_59 rfl (lv_at hl 0 rfl) ?_
        refine hk_get (ref := "LightcurveHouse$Look") (v := .ref (gad G 2 (ix (μ 14 (ix p0))))) X K (HW.e8 hW (isS_xl c_2 (show cn 12 < 2 ^ 31 by omega)) hsr) rfl iX10_look_X8 0 (by decide) (by decide +kernel) (fun _ h => h) rfl dX10_look_60 ?_
        refine hk_get (ref := "LightcurveHouse$Star") (v := .int (nI (ix (μ 14 (ix p0))))) X K (HW.e2 hW (isS_xl (hI9.2.2.2.2.2.1 _ (isS_xl c_2 (show cn 12 < 2 ^ 31 by omega))).1 (show cn 1 < 2 ^ 31 by omega))) rfl iX10_look_X7 0 (by decide) (by decide +kernel) (fun _ h => h) rfl dX10_look_63 ?_
        exact hk_iretx X hr hlk hQ hS (Nat.le_of_ble_eq_true rfl) (Nat.le_of_ble_eq_true rfl) dX10_look_66 (⟨by unfold cd_look; (try dsimp only); rw [if_pos c_2, if_pos c_7], congrArg some (congrArg Value.int ((nI_ix (hI9.2.2.2.2.2.1 _ (isS_xl c_2 (show cn 12 < 2 ^ 31 by omega))).1.1).trans (Eq.symm (by unfold an_look; (try dsimp only); rw [if_neg (by decide), if_neg (by decide), if_neg (by decide), if_pos rfl])))), _, _, hW⟩)
      · subst e9
        refine lv_tableIn (off := 60) (tgt := 67) hx hb dX10_look_7 (by decide) (by decide) rfl rfl ?_
        refine lv_aload_n hx hb dX10_look_67 rfl (lv_at hl 0 rfl) ?_
        refine hk_get (ref := "LightcurveHouse$Look") (v := .int (μ 21 (ix p0))) X K (HW.e8 hW (isS_xl c_2 (show cn 12 < 2 ^ 31 by omega)) hsr) rfl iX10_look_X8 1 (by decide) (by decide +kernel) (fun _ h => h) rfl dX10_look_68 ?_
        refine lv_if_eq (tgt := 78) hx hb dX10_look_71 (by decide) (fun c_71 => ?_) (fun c_71 => ?_)
        · refine lv_iconst (v := 0) hx hb dX10_look_78 (by decide) ?_
          exact hk_iretx X hr hlk hQ hS (Nat.le_of_ble_eq_true rfl) (Nat.le_of_ble_eq_true rfl) dX10_look_79 (⟨by unfold cd_look; (try dsimp only); rw [if_pos c_2, if_pos c_7], congrArg some (congrArg Value.int (Eq.symm (by unfold an_look; (try dsimp only); rw [if_neg (by decide), if_neg (by decide), if_neg (by decide), if_neg (by decide), if_pos rfl, if_pos c_71]))), _, _, hW⟩)
        · refine lv_iconst (v := 1) hx hb dX10_look_74 (by decide) ?_
          refine lv_goto (tgt := 79) hx hb dX10_look_75 (by decide) ?_
          exact hk_iretx X hr hlk hQ hS (Nat.le_of_ble_eq_true rfl) (Nat.le_of_ble_eq_true rfl) dX10_look_79 (⟨by unfold cd_look; (try dsimp only); rw [if_pos c_2, if_pos c_7], congrArg some (congrArg Value.int (Eq.symm (by unfold an_look; (try dsimp only); rw [if_neg (by decide), if_neg (by decide), if_neg (by decide), if_neg (by decide), if_pos rfl, if_neg c_71]))), _, _, hW⟩)
      · subst e9
        refine lv_tableIn (off := 73) (tgt := 80) hx hb dX10_look_7 (by decide) (by decide) rfl rfl ?_
        refine lv_aload_n hx hb dX10_look_80 rfl (lv_at hl 0 rfl) ?_
        refine hk_callU 0 (As := []) (rest := []) X K hAE hS hl.1 (HW.e8 hW (isS_xl c_2 (show cn 12 < 2 ^ 31 by omega)) hsr) rfl (c_X8_sort E l H0 hW hI9 (k := (ix p0)) (isS_xl c_2 (show cn 12 < 2 ^ 31 by omega)) hsr) (fun _ h => h.elim) (va_cwA 0 hts gX10_look_X8_sort_u209X8 rfl rfl rfl (K.2.2.2.2.1.2.2.2.2.2.2.2 _ (by decide +kernel)) ⟨by decide, by decide, by decide +kernel⟩ ⟨(Nat.le_of_ble_eq_true rfl), (Nat.le_of_ble_eq_true rfl)⟩) rfl ⟨(Nat.le_of_ble_eq_true rfl), (Nat.le_of_ble_eq_true rfl)⟩ rfl (Nat.le_of_ble_eq_true rfl) dX10_look_81 (fun v9 H5 locsH5 hp hS hzH5 hkH5 => ?_)
        obtain ⟨hv, hh⟩ := hp
        subst hv; subst hh
        exact hk_iretx X hr hlk hQ hS (Nat.le_of_ble_eq_true rfl) (Nat.le_of_ble_eq_true rfl) dX10_look_84 (⟨by unfold cd_look; (try dsimp only); rw [if_pos c_2, if_pos c_7], congrArg some (congrArg Value.int (Eq.symm (by unfold an_look; (try dsimp only); rw [if_neg (by decide), if_neg (by decide), if_neg (by decide), if_neg (by decide), if_neg (by decide)]))), _, _, hW⟩)
    · refine lv_tableOut (tgt := 85) hx hb dX10_look_7 (six_no c_7) rfl ?_
      exact hk_throw (text := "no such thing to tell of a look") X rfl K hl9 hx9 hlk hQ hS hAE (by decide) (by decide +kernel) (by decide +kernel) (by decide +kernel) hkw_X10_look_1_126 hkb_1 (by decide +kernel) hkg_1_126 hl.1 dX10_look_85 dX10_look_88 dX10_look_89 dX10_look_91 dX10_look_94 (Nat.le_of_ble_eq_true rfl) (Nat.le_of_ble_eq_true rfl) (Nat.le_of_ble_eq_true rfl) (Nat.le_of_ble_eq_true rfl) (fun H9 hz9 hq9 => hpx_1 hW (fun q h1 _ => hq9 q h1) (Or.inr (Or.inl ⟨by unfold cd_look; (try dsimp only); rw [if_pos c_2, if_neg c_7], rfl⟩))) (Nat.le_of_ble_eq_true rfl) (Nat.le_of_ble_eq_true rfl)
  · refine lv_astore_n (lv' := [(3, .ref (gad G 4 (ix p0))), (0, .ref ho), (1, .int p0), (2, .int p1)]) hx hb dX10_look_5 rfl hl (by decide) rfl (fun ls hl => ?_)
    refine lv_iload_n hx hb dX10_look_6 rfl (lv_at hl 3 rfl) ?_
    by_cases c_7 : inr p1 0 5
    · rcases six_of c_7 with e9 | e9 | e9 | e9 | e9 | e9
      · subst e9
        refine lv_tableIn (off := 37) (tgt := 44) hx hb dX10_look_7 (by decide) (by decide) rfl rfl ?_
        refine lv_aload_n hx hb dX10_look_44 rfl (lv_at hl 0 rfl) ?_
        refine hk_callU 0 (As := []) (rest := []) X K hAE hS hl.1 (HW.e9 hW (isS_xl c_2 (show cn 12 < 2 ^ 31 by omega)) hsr) rfl (c_X1_rawLight E l H0 hW hI9 (k := (ix p0)) (isS_xl c_2 (show cn 12 < 2 ^ 31 by omega)) hsr) (fun _ h => h.elim) (va_cwA 0 hts gX10_look_X1_rawLight_u196X1 rfl rfl rfl (K.2.2.2.2.1.2.2.2.2.2.2.2 _ (by decide +kernel)) ⟨by decide, by decide, by decide +kernel⟩ ⟨(Nat.le_of_ble_eq_true rfl), (Nat.le_of_ble_eq_true rfl)⟩) rfl ⟨(Nat.le_of_ble_eq_true rfl), (Nat.le_of_ble_eq_true rfl)⟩ rfl (Nat.le_of_ble_eq_true rfl) dX10_look_45 (fun v9 H6 locsH6 hp hS hzH6 hkH6 => ?_)
        obtain ⟨hv, hh⟩ := hp
        subst hv; subst hh
        exact hk_iretx X hr hlk hQ hS (Nat.le_of_ble_eq_true rfl) (Nat.le_of_ble_eq_true rfl) dX10_look_48 (⟨by unfold cd_look; (try dsimp only); rw [if_pos c_2, if_pos c_7], congrArg some (congrArg Value.int (Eq.symm (by unfold an_look; (try dsimp only); rw [if_pos rfl]))), _, _, hW⟩)
      · subst e9
        refine lv_tableIn (off := 42) (tgt := 49) hx hb dX10_look_7 (by decide) (by decide) rfl rfl ?_
        refine lv_aload_n hx hb dX10_look_49 rfl (lv_at hl 0 rfl) ?_
        refine hk_callU 0 (As := []) (rest := []) X K hAE hS hl.1 (HW.e9 hW (isS_xl c_2 (show cn 12 < 2 ^ 31 by omega)) hsr) rfl (c_X1_trueLight E l H0 hW hI9 (k := (ix p0)) (isS_xl c_2 (show cn 12 < 2 ^ 31 by omega)) hsr) (fun _ h => h.elim) (va_cwA 0 hts gX10_look_X1_trueLight_u199X1 rfl rfl rfl (K.2.2.2.2.1.2.2.2.2.2.2.2 _ (by decide +kernel)) ⟨by decide, by decide, by decide +kernel⟩ ⟨(Nat.le_of_ble_eq_true rfl), (Nat.le_of_ble_eq_true rfl)⟩) rfl ⟨(Nat.le_of_ble_eq_true rfl), (Nat.le_of_ble_eq_true rfl)⟩ rfl (Nat.le_of_ble_eq_true rfl) dX10_look_50 (fun v9 H7 locsH7 hp hS hzH7 hkH7 => ?_)
        obtain ⟨hv, hh⟩ := hp
        subst hv; subst hh
        exact hk_iretx X hr hlk hQ hS (Nat.le_of_ble_eq_true rfl) (Nat.le_of_ble_eq_true rfl) dX10_look_53 (⟨by unfold cd_look; (try dsimp only); rw [if_pos c_2, if_pos c_7], congrArg some (congrArg Value.int (Eq.symm (by unfold an_look; (try dsimp only); rw [if_neg (by decide), if_pos rfl]))), _, _, hW⟩)
      · subst e9
        refine lv_tableIn (off := 47) (tgt := 54) hx hb dX10_look_7 (by decide) (by decide) rfl rfl ?_
        refine lv_aload_n hx hb dX10_look_54 rfl (lv_at hl 0 rfl) ?_
        refine hk_callU 0 (As := []) (rest := []) X K hAE hS hl.1 (HW.e9 hW (isS_xl c_2 (show cn 12 < 2 ^ 31 by omega)) hsr) rfl (c_X1_trueTime E l H0 hW hI9 (k := (ix p0)) (isS_xl c_2 (show cn 12 < 2 ^ 31 by omega)) hsr) (fun _ h => h.elim) (va_cwA 0 hts gX10_look_X1_trueTime_u202X1 rfl rfl rfl (K.2.2.2.2.1.2.2.2.2.2.2.2 _ (by decide +kernel)) ⟨by decide, by decide, by decide +kernel⟩ ⟨(Nat.le_of_ble_eq_true rfl), (Nat.le_of_ble_eq_true rfl)⟩) rfl ⟨(Nat.le_of_ble_eq_true rfl), (Nat.le_of_ble_eq_true rfl)⟩ rfl (Nat.le_of_ble_eq_true rfl) dX10_look_55 (fun v9 H8 locsH8 hp hS hzH8 hkH8 => ?_)
        obtain ⟨hv, hh⟩ := hp
        subst hv; subst hh
        exact hk_iretx X hr hlk hQ hS (Nat.le_of_ble_eq_true rfl) (Nat.le_of_ble_eq_true rfl) dX10_look_58 (⟨by unfold cd_look; (try dsimp only); rw [if_pos c_2, if_pos c_7], congrArg some (congrArg Value.int (Eq.symm (by unfold an_look; (try dsimp only); rw [if_neg (by decide), if_neg (by decide), if_pos rfl]))), _, _, hW⟩)
      · subst e9
        refine lv_tableIn (off := 52) (tgt := 59) hx hb dX10_look_7 (by decide) (by decide) rfl rfl ?_
        refine lv_aload_n hx hb dX10_look_59 rfl (lv_at hl 0 rfl) ?_
        refine hk_get (ref := "LightcurveHouse$Look") (v := .ref (gad G 2 (ix (μ 14 (ix p0))))) X K (HW.e9 hW (isS_xl c_2 (show cn 12 < 2 ^ 31 by omega)) hsr) rfl iX10_look_X1 0 (by decide) (by decide +kernel) (fun _ h => h) rfl dX10_look_60 ?_
        refine hk_get (ref := "LightcurveHouse$Star") (v := .int (nI (ix (μ 14 (ix p0))))) X K (HW.e2 hW (isS_xl (hI9.2.2.2.2.2.1 _ (isS_xl c_2 (show cn 12 < 2 ^ 31 by omega))).1 (show cn 1 < 2 ^ 31 by omega))) rfl iX10_look_X7 0 (by decide) (by decide +kernel) (fun _ h => h) rfl dX10_look_63 ?_
        exact hk_iretx X hr hlk hQ hS (Nat.le_of_ble_eq_true rfl) (Nat.le_of_ble_eq_true rfl) dX10_look_66 (⟨by unfold cd_look; (try dsimp only); rw [if_pos c_2, if_pos c_7], congrArg some (congrArg Value.int ((nI_ix (hI9.2.2.2.2.2.1 _ (isS_xl c_2 (show cn 12 < 2 ^ 31 by omega))).1.1).trans (Eq.symm (by unfold an_look; (try dsimp only); rw [if_neg (by decide), if_neg (by decide), if_neg (by decide), if_pos rfl])))), _, _, hW⟩)
      · subst e9
        refine lv_tableIn (off := 60) (tgt := 67) hx hb dX10_look_7 (by decide) (by decide) rfl rfl ?_
        refine lv_aload_n hx hb dX10_look_67 rfl (lv_at hl 0 rfl) ?_
        refine hk_get (ref := "LightcurveHouse$Look") (v := .int (μ 21 (ix p0))) X K (HW.e9 hW (isS_xl c_2 (show cn 12 < 2 ^ 31 by omega)) hsr) rfl iX10_look_X1 1 (by decide) (by decide +kernel) (fun _ h => h) rfl dX10_look_68 ?_
        refine lv_if_eq (tgt := 78) hx hb dX10_look_71 (by decide) (fun c_71 => ?_) (fun c_71 => ?_)
        · refine lv_iconst (v := 0) hx hb dX10_look_78 (by decide) ?_
          exact hk_iretx X hr hlk hQ hS (Nat.le_of_ble_eq_true rfl) (Nat.le_of_ble_eq_true rfl) dX10_look_79 (⟨by unfold cd_look; (try dsimp only); rw [if_pos c_2, if_pos c_7], congrArg some (congrArg Value.int (Eq.symm (by unfold an_look; (try dsimp only); rw [if_neg (by decide), if_neg (by decide), if_neg (by decide), if_neg (by decide), if_pos rfl, if_pos c_71]))), _, _, hW⟩)
        · refine lv_iconst (v := 1) hx hb dX10_look_74 (by decide) ?_
          refine lv_goto (tgt := 79) hx hb dX10_look_75 (by decide) ?_
          exact hk_iretx X hr hlk hQ hS (Nat.le_of_ble_eq_true rfl) (Nat.le_of_ble_eq_true rfl) dX10_look_79 (⟨by unfold cd_look; (try dsimp only); rw [if_pos c_2, if_pos c_7], congrArg some (congrArg Value.int (Eq.symm (by unfold an_look; (try dsimp only); rw [if_neg (by decide), if_neg (by decide), if_neg (by decide), if_neg (by decide), if_pos rfl, if_neg c_71]))), _, _, hW⟩)
      · subst e9
        refine lv_tableIn (off := 73) (tgt := 80) hx hb dX10_look_7 (by decide) (by decide) rfl rfl ?_
        refine lv_aload_n hx hb dX10_look_80 rfl (lv_at hl 0 rfl) ?_
        refine hk_callU 0 (As := []) (rest := []) X K hAE hS hl.1 (HW.e9 hW (isS_xl c_2 (show cn 12 < 2 ^ 31 by omega)) hsr) rfl (c_X1_sort E l H0 hW hI9 (k := (ix p0)) (isS_xl c_2 (show cn 12 < 2 ^ 31 by omega)) hsr) (fun _ h => h.elim) (va_cwA 0 hts gX10_look_X1_sort_u209X1 rfl rfl rfl (K.2.2.2.2.1.2.2.2.2.2.2.2 _ (by decide +kernel)) ⟨by decide, by decide, by decide +kernel⟩ ⟨(Nat.le_of_ble_eq_true rfl), (Nat.le_of_ble_eq_true rfl)⟩) rfl ⟨(Nat.le_of_ble_eq_true rfl), (Nat.le_of_ble_eq_true rfl)⟩ rfl (Nat.le_of_ble_eq_true rfl) dX10_look_81 (fun v9 H9 locsH9 hp hS hzH9 hkH9 => ?_)
        obtain ⟨hv, hh⟩ := hp
        subst hv; subst hh
        exact hk_iretx X hr hlk hQ hS (Nat.le_of_ble_eq_true rfl) (Nat.le_of_ble_eq_true rfl) dX10_look_84 (⟨by unfold cd_look; (try dsimp only); rw [if_pos c_2, if_pos c_7], congrArg some (congrArg Value.int (Eq.symm (by unfold an_look; (try dsimp only); rw [if_neg (by decide), if_neg (by decide), if_neg (by decide), if_neg (by decide), if_neg (by decide)]))), _, _, hW⟩)
    · refine lv_tableOut (tgt := 85) hx hb dX10_look_7 (six_no c_7) rfl ?_
      exact hk_throw (text := "no such thing to tell of a look") X rfl K hl9 hx9 hlk hQ hS hAE (by decide) (by decide +kernel) (by decide +kernel) (by decide +kernel) hkw_X10_look_1_126 hkb_1 (by decide +kernel) hkg_1_126 hl.1 dX10_look_85 dX10_look_88 dX10_look_89 dX10_look_91 dX10_look_94 (Nat.le_of_ble_eq_true rfl) (Nat.le_of_ble_eq_true rfl) (Nat.le_of_ble_eq_true rfl) (Nat.le_of_ble_eq_true rfl) (fun H9 hz9 hq9 => hpx_1 hW (fun q h1 _ => hq9 q h1) (Or.inr (Or.inl ⟨by unfold cd_look; (try dsimp only); rw [if_pos c_2, if_neg c_7], rfl⟩))) (Nat.le_of_ble_eq_true rfl) (Nat.le_of_ble_eq_true rfl)

