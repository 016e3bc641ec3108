theorem lk8 {cn : Nat → Nat} {sc : Nat → Int32} {μ : Nat → Nat → Int32} (hI : Inv (cn, sc, μ)) {k : Nat} (hk : k < cn 12) (hs : μ 13 k = 0) : isS (cn 1) (μ 14 k) ∧ inr (μ 15 k) 0 7 ∧ inr (μ 16 k) 0 9999999 ∧ inr (μ 17 k) 0 9 ∧ inr (μ 18 k) 0 9 ∧ inr (μ 19 k) 0 9 ∧ 0 < μ 18 k + μ 19 k ∧ inr (μ 20 k) 0 9 := by
  obtain ⟨h1, h2, h3⟩ := hI.2.2.2.2.2.1 k hk
  rcases h3 with h3 | h3
  · exact ⟨h1, h3.2⟩
  · have h4 : μ 13 k = 1 := h3.1
    rw [hs] at h4
    exact absurd h4 (by decide)
theorem lk9 {cn : Nat → Nat} {sc : Nat → Int32} {μ : Nat → Nat → Int32} (hI : Inv (cn, sc, μ)) {k : Nat} (hk : k < cn 12) (hs : ¬ μ 13 k = 0) : isS (cn 1) (μ 14 k) ∧ μ 13 k = 1 ∧ isS (cn 8) (μ 15 k) ∧ inr (μ 16 k) 0 255 := by
  obtain ⟨h1, h2, h3⟩ := hI.2.2.2.2.2.1 k hk
  rcases h3 with h3 | h3
  · exact absurd h3.1 hs
  · exact ⟨h1, h3⟩
theorem add_sub_a (a b c : Int32) : a + b - c = a + (b - c) := by rw [Int32.sub_eq_add_neg, Int32.sub_eq_add_neg, Int32.add_assoc]
theorem add_sub_b (a b c : Int32) : a + b - c = a - c + b := by rw [Int32.sub_eq_add_neg, Int32.sub_eq_add_neg, Int32.add_assoc, Int32.add_comm b, ← Int32.add_assoc]
theorem arr_eq {μ : Nat → Nat → Int32} {m : Int32} {j : Nat} (hm : inr m 0 9999999) (hp : inr (μ 2 j) 0 363) : m + 8 - qd (16 * (if 364 - rmd (qd m 1440 + μ 2 j) 364 < rmd (qd m 1440 + μ 2 j) 364 then 364 - rmd (qd m 1440 + μ 2 j) 364 else rmd (qd m 1440 + μ 2 j) 364)) 182 = m + sp_late μ m j := by
  obtain ⟨a, ha, ea⟩ := inr_ix (N := 9999999) (by decide) hm
  obtain ⟨b, hb, eb⟩ := inr_ix (N := 363) (by decide) hp
  have e1 : qd m 1440 + μ 2 j = nI (a / 1440 + b) := by
    rw [ea, eb, qd_pos (by decide) (nI_pos' (by omega)), show (1440 : Int32) = nI 1440 from rfl, pk_div (by omega) (by omega) (by omega), nI_add]
  have e2 : sp_k μ m j = nI ((a / 1440 + b) % 364) := by
    unfold sp_k
    rw [ea, eb, show (1440 : Int32) = nI 1440 from rfl, pk_div (by omega) (by omega) (by omega), nI_add, show (364 : Int32) = nI 364 from rfl, pk_rem (by omega) (by omega) (by omega)]
  have e3 : rmd (qd m 1440 + μ 2 j) 364 = nI ((a / 1440 + b) % 364) := by
    rw [e1, rmd_pos (by decide) (nI_pos' (by omega)), show (364 : Int32) = nI 364 from rfl, pk_rem (by omega) (by omega) (by omega)]
  unfold sp_late
  rw [e2, e3]
  obtain ⟨t, ht, et⟩ : ∃ t, t < 364 ∧ (a / 1440 + b) % 364 = t := ⟨_, Nat.mod_lt _ (by decide), rfl⟩
  rw [et, show (364 : Int32) - nI t = nI (364 - t) from pk_sub (show t ≤ 364 by omega)]
  have fin : ∀ u, u ≤ 364 → m + 8 - qd (16 * nI u) 182 = m + (8 - 16 * nI u / 182) := fun u hu => by
    rw [show (16 : Int32) * nI u = nI (16 * u) from pk_mul 16 u, qd_pos (by decide) (nI_pos' (by omega)), add_sub_a]
  by_cases c : 364 - t < t
  · rw [if_pos (nI_lt c (by omega)), if_pos (nI_le (by omega) (by omega))]
    exact fin _ (by omega)
  · rw [if_neg (nI_nlt (by omega) (by omega))]
    by_cases c2 : t = 182
    · subst c2
      rw [if_pos (nI_le (by omega) (by omega))]
      exact fin _ (by omega)
    · rw [if_neg (nI_ge (by omega) (by omega))]
      exact fin _ (by omega)

theorem hd_X10_quotient : yX10_quotient.cls ≠ "java/lang/invoke/MethodHandle" ∧ yX10_quotient.cls ≠ "java/lang/invoke/VarHandle" ∧ (parseMethodDescriptor yX10_quotient.desc).map (fun d => d.parameters.length) = some 2 := ⟨by decide, by decide, by decide +kernel⟩
theorem hd_X10_remainder : yX10_remainder.cls ≠ "java/lang/invoke/MethodHandle" ∧ yX10_remainder.cls ≠ "java/lang/invoke/VarHandle" ∧ (parseMethodDescriptor yX10_remainder.desc).map (fun d => d.parameters.length) = some 2 := ⟨by decide, by decide, by decide +kernel⟩
abbrev rmX7_arrival : Room := { frames := 2, cells := 0, slots := 0, locals := 45 }
theorem iX7_arrival_X7 : ∀ w ∈ wsX70, w ∈ wsX7_arrival := by decide +kernel
set_option maxHeartbeats 4000000 in
set_option maxRecDepth 100000 in
theorem c_X7_arrival (E : hk_E) (l : Launch) (H0 : Heap) {Z : Nat → Prop} {ho ts : Nat} {li : Nat → Nat} {rr : Nat → Nat → Nat} {G : hG} {R : hR} {cn : Nat → Nat} {sc : Nat → Int32} {μ : Nat → Nat → Int32} (hW : HW E Z (ho, li, rr, ts) G R (cn, sc, μ) H0) {j m9 : Int32} (hj : ix j < cn 1) (hm9 : inr m9 0 9999999) (hp9 : inr (μ 2 (ix j)) 0 363) : hk_M E l yX7_arrival wsX7_arrival rmX7_arrival (fun _ => False) [.ref (gad G 2 (ix j)), .int m9] H0 (fun z H1 => z = some (.int (m9 + sp_late μ m9 (ix j))) ∧ H0 = H1) := by
  refine hk_M.ofW (cc := cX7_arrival) (maxL := 5) (ret := (some .int)) (by decide +kernel) rfl (Nat.le_of_ble_eq_true rfl) ?_
  intro p e s m args below meth c ls Q hQ X hr hlk hnm K hs9 hS hl
  obtain ⟨hx, hb, hml, hown, hts⟩ := id X
  have hAE : ∀ q, (fun _ => False) q → hk_A E q := fun _ h => h.elim
  have hl : lv_has ls 5 [(0, .ref (gad G 2 (ix j))), (1, .int m9)] := hl
  refine lv_iload_n hx hb dX7_arrival_0 rfl (lv_at hl 1 rfl) ?_
  refine lv_sipush (v := 1440) hx hb dX7_arrival_1 (by decide) ?_
  refine hk_callSN (host := RX10) 2 (As := [.int m9, .int 1440]) (rest := []) X K hAE hS hl.1 (c_X10_quotient E l H0 (n := m9) (d := 1440) (by decide)) (fun _ h => h.elim) gX7_arrival_X10_quotient_n27 rfl (by decide +kernel) (by decide +kernel) (by decide +kernel) hd_X10_quotient rfl ⟨⟨(Nat.le_of_ble_eq_true rfl), (Nat.le_of_ble_eq_true rfl)⟩, (Nat.le_of_ble_eq_true rfl), (Nat.le_of_ble_eq_true rfl)⟩ rfl (Nat.le_of_ble_eq_true rfl) dX7_arrival_4 (fun v9 H1 locsH1 hp hS hzH1 hkH1 => ?_)
  obtain ⟨hv, hh⟩ := hp
  subst hv; subst hh
  refine lv_istore_n (lv' := [(2, .int (qd m9 1440)), (0, .ref (gad G 2 (ix j))), (1, .int m9)]) hx hb dX7_arrival_7 rfl hl (by decide) rfl (fun ls hl => ?_)
  refine lv_iload_n hx hb dX7_arrival_8 rfl (lv_at hl 0 rfl) ?_
  refine lv_aload_n hx hb dX7_arrival_9 rfl (lv_at hl 1 rfl) ?_
  refine hk_get (ref := "LightcurveHouse$Star") (v := .int (μ 2 (ix j))) X K (HW.e2 hW hj) rfl iX7_arrival_X7 1 (by decide) (by decide +kernel) (fun _ h => h) rfl dX7_arrival_10 ?_
  refine lv_iadd hx hb dX7_arrival_13 ?_
  refine lv_sipush (v := 364) hx hb dX7_arrival_14 (by decide) ?_
  refine hk_callSN (host := RX10) 2 (As := [.int ((qd m9 1440) + (μ 2 (ix j))), .int 364]) (rest := []) X K hAE hS hl.1 (c_X10_remainder E l H0 (n := (qd m9 1440) + (μ 2 (ix j))) (d := 364) (by decide)) (fun _ h => h.elim) gX7_arrival_X10_remainder_n31 rfl (by decide +kernel) (by decide +kernel) (by decide +kernel) hd_X10_remainder rfl ⟨⟨(Nat.le_of_ble_eq_true rfl), (Nat.le_of_ble_eq_true rfl)⟩, (Nat.le_of_ble_eq_true rfl), (Nat.le_of_ble_eq_true rfl)⟩ rfl (Nat.le_of_ble_eq_true rfl) dX7_arrival_17 (fun v9 H2 locsH2 hp hS hzH2 hkH2 => ?_)
  obtain ⟨hv, hh⟩ := hp
  subst hv; subst hh
  refine lv_istore_n (lv' := [(3, .int (rmd ((qd m9 1440) + (μ 2 (ix j))) 364)), (2, .int (qd m9 1440)), (0, .ref (gad G 2 (ix j))), (1, .int m9)]) hx hb dX7_arrival_20 rfl hl (by decide) rfl (fun ls hl => ?_)
  refine lv_iload_n hx hb dX7_arrival_21 rfl (lv_at hl 0 rfl) ?_
  refine lv_sipush (v := 364) hx hb dX7_arrival_22 (by decide) ?_
  refine lv_iload_n hx hb dX7_arrival_25 rfl (lv_at hl 0 rfl) ?_
  refine lv_isub hx hb dX7_arrival_26 ?_
  refine va_mmin (rest := []) hx hb (by rw [hml]; exact hl.1.symm) hown (hts (.methodLink RX7 34 Lib.Math.min.name) (by decide +kernel)) (hts (.static Lib.Math.min.name) (by decide +kernel)) (hts (.initialized "java/lang/Math") (by decide +kernel)) (hts (.code Lib.Math.min.name Lib.Math.min.code 2 (some .int)) (by decide +kernel)) (Nat.le_of_ble_eq_true rfl) (Nat.le_of_ble_eq_true rfl) (Nat.zero_le _) (Nat.zero_le _) dX7_arrival_27 ?_
  refine lv_istore (lv' := [(4, .int (if (364 - (rmd ((qd m9 1440) + (μ 2 (ix j))) 364)) < (rmd ((qd m9 1440) + (μ 2 (ix j))) 364) then (364 - (rmd ((qd m9 1440) + (μ 2 (ix j))) 364)) else (rmd ((qd m9 1440) + (μ 2 (ix j))) 364))), (3, .int (rmd ((qd m9 1440) + (μ 2 (ix j))) 364)), (2, .int (qd m9 1440)), (0, .ref (gad G 2 (ix j))), (1, .int m9)]) hx hb dX7_arrival_30 hl (by decide) rfl (fun ls hl => ?_)
  refine lv_iload_n hx hb dX7_arrival_32 rfl (lv_at hl 4 rfl) ?_
  refine lv_bipush (v := 8) hx hb dX7_arrival_33 (by decide) ?_
  refine lv_iadd hx hb dX7_arrival_35 ?_
  refine lv_bipush (v := 16) hx hb dX7_arrival_36 (by decide) ?_
  refine lv_iload hx hb dX7_arrival_38 (lv_at hl 0 rfl) ?_
  refine lv_imul hx hb dX7_arrival_40 ?_
  refine lv_sipush (v := 182) hx hb dX7_arrival_41 (by decide) ?_
  refine hk_callSN (host := RX10) 2 (As := [.int (16 * (if (364 - (rmd ((qd m9 1440) + (μ 2 (ix j))) 364)) < (rmd ((qd m9 1440) + (μ 2 (ix j))) 364) then (364 - (rmd ((qd m9 1440) + (μ 2 (ix j))) 364)) else (rmd ((qd m9 1440) + (μ 2 (ix j))) 364))), .int 182]) (rest := [.int (m9 + 8)]) X K hAE hS hl.1 (c_X10_quotient E l H0 (n := 16 * (if (364 - (rmd ((qd m9 1440) + (μ 2 (ix j))) 364)) < (rmd ((qd m9 1440) + (μ 2 (ix j))) 364) then (364 - (rmd ((qd m9 1440) + (μ 2 (ix j))) 364)) else (rmd ((qd m9 1440) + (μ 2 (ix j))) 364))) (d := 182) (by decide)) (fun _ h => h.elim) gX7_arrival_X10_quotient_n27 rfl (by decide +kernel) (by decide +kernel) (by decide +kernel) hd_X10_quotient rfl ⟨⟨(Nat.le_of_ble_eq_true rfl), (Nat.le_of_ble_eq_true rfl)⟩, (Nat.le_of_ble_eq_true rfl), (Nat.le_of_ble_eq_true rfl)⟩ rfl (Nat.le_of_ble_eq_true rfl) dX7_arrival_44 (fun v9 H3 locsH3 hp hS hzH3 hkH3 => ?_)
  obtain ⟨hv, hh⟩ := hp
  subst hv; subst hh
  refine lv_isub hx hb dX7_arrival_47 ?_
  exact hk_iret X hr hlk hQ hS (Nat.le_of_ble_eq_true rfl) (Nat.le_of_ble_eq_true rfl) dX7_arrival_48 (⟨by rw [arr_eq hm9 hp9], rfl⟩)

abbrev rmX8_rawLight : Room := { frames := 2, cells := 0, slots := 0, locals := 43 }
theorem iX8_rawLight_X0 : ∀ w ∈ wsX00, w ∈ wsX8_rawLight := by decide +kernel
theorem iX8_rawLight_X8 : ∀ w ∈ wsX80, w ∈ wsX8_rawLight := by decide +kernel
set_option maxHeartbeats 4000000 in
set_option maxRecDepth 100000 in
theorem c_X8_rawLight (E : hk_E) (l : Launch) (H0 : Heap) {Z : Nat → Prop} {ho ts : Nat} {li : Nat → Nat} {rr : Nat → Nat → Nat} {G : hG} {R : hR} {cn : Nat → Nat} {sc : Nat → Int32} {μ : Nat → Nat → Int32} (hW : HW E Z (ho, li, rr, ts) G R (cn, sc, μ) H0) (hI : Inv (cn, sc, μ)) {k : Nat} (hk : k < cn 12) (hs : μ 13 k = 0)  : hk_M E l yX8_rawLight wsX8_rawLight rmX8_rawLight (fun _ => False) [.ref (gad G 4 k)] H0 (fun z H1 => z = some (.int (sp_raw μ k)) ∧ H0 = H1) := by
  refine hk_M.ofW (cc := cX8_rawLight) (maxL := 1) (ret := (some .int)) (by decide +kernel) rfl (Nat.le_of_ble_eq_true rfl) ?_
  intro p e s m args below meth c ls Q hQ X hr hlk hnm K hs9 hS hl
  obtain ⟨hx, hb, hml, hown, hts⟩ := id X
  have hAE : ∀ q, (fun _ => False) q → hk_A E q := fun _ h => h.elim
  have hl : lv_has ls 1 [(0, .ref (gad G 4 k))] := hl
  have hc1 : cn 1 ≤ 12 := hI.1.1
  have hc8 : cn 8 ≤ 8 := hI.1.2.1
  have hc12 : cn 12 ≤ 80 := hI.1.2.2.1
  have hc22 : cn 22 ≤ 8 := hI.1.2.2.2.1
  have hc29 : cn 29 ≤ 30 := hI.1.2.2.2.2
  refine lv_aload_n hx hb dX8_rawLight_0 rfl (lv_at hl 0 rfl) ?_
  refine hk_get (ref := "LightcurveHouse$StepLook") (v := .ref (gad G 0 (ix (μ 17 k)))) X K (HW.e8 hW hk hs) rfl iX8_rawLight_X8 4 (by decide) (by decide +kernel) (fun _ h => h) rfl dX8_rawLight_1 ?_
  refine hk_get (ref := "LightcurveHouse$Comparison") (v := .int (μ 0 (ix (μ 17 k)))) X K (HW.e0 hW (inr_lt (N := 9) (by decide) (lk8 hI hk hs).2.2.2.1)) rfl iX8_rawLight_X0 0 (by decide) (by decide +kernel) (fun _ h => h) rfl dX8_rawLight_4 ?_
  refine lv_aload_n hx hb dX8_rawLight_7 rfl (lv_at hl 0 rfl) ?_
  refine hk_get (ref := "LightcurveHouse$StepLook") (v := .ref (gad G 0 (ix (μ 20 k)))) X K (HW.e8 hW hk hs) rfl iX8_rawLight_X8 7 (by decide) (by decide +kernel) (fun _ h => h) rfl dX8_rawLight_8 ?_
  refine hk_get (ref := "LightcurveHouse$Comparison") (v := .int (μ 0 (ix (μ 20 k)))) X K (HW.e0 hW (inr_lt (N := 9) (by decide) (lk8 hI hk hs).2.2.2.2.2.2.2)) rfl iX8_rawLight_X0 0 (by decide) (by decide +kernel) (fun _ h => h) rfl dX8_rawLight_11 ?_
  refine lv_aload_n hx hb dX8_rawLight_14 rfl (lv_at hl 0 rfl) ?_
  refine hk_get (ref := "LightcurveHouse$StepLook") (v := .ref (gad G 0 (ix (μ 17 k)))) X K (HW.e8 hW hk hs) rfl iX8_rawLight_X8 4 (by decide) (by decide +kernel) (fun _ h => h) rfl dX8_rawLight_15 ?_
  refine hk_get (ref := "LightcurveHouse$Comparison") (v := .int (μ 0 (ix (μ 17 k)))) X K (HW.e0 hW (inr_lt (N := 9) (by decide) (lk8 hI hk hs).2.2.2.1)) rfl iX8_rawLight_X0 0 (by decide) (by decide +kernel) (fun _ h => h) rfl dX8_rawLight_18 ?_
  refine lv_isub hx hb dX8_rawLight_21 ?_
  refine lv_aload_n hx hb dX8_rawLight_22 rfl (lv_at hl 0 rfl) ?_
  refine hk_get (ref := "LightcurveHouse$StepLook") (v := .int (μ 18 k)) X K (HW.e8 hW hk hs) rfl iX8_rawLight_X8 5 (by decide) (by decide +kernel) (fun _ h => h) rfl dX8_rawLight_23 ?_
  refine lv_imul hx hb dX8_rawLight_26 ?_
  refine lv_aload_n hx hb dX8_rawLight_27 rfl (lv_at hl 0 rfl) ?_
  refine hk_get (ref := "LightcurveHouse$StepLook") (v := .int (μ 18 k)) X K (HW.e8 hW hk hs) rfl iX8_rawLight_X8 5 (by decide) (by decide +kernel) (fun _ h => h) rfl dX8_rawLight_28 ?_
  refine lv_aload_n hx hb dX8_rawLight_31 rfl (lv_at hl 0 rfl) ?_
  refine hk_get (ref := "LightcurveHouse$StepLook") (v := .int (μ 19 k)) X K (HW.e8 hW hk hs) rfl iX8_rawLight_X8 6 (by decide) (by decide +kernel) (fun _ h => h) rfl dX8_rawLight_32 ?_
  refine lv_iadd hx hb dX8_rawLight_35 ?_
  refine hk_callSN (host := RX10) 2 (As := [.int (((μ 0 (ix (μ 20 k))) - (μ 0 (ix (μ 17 k)))) * (μ 18 k)), .int ((μ 18 k) + (μ 19 k))]) (rest := [.int (μ 0 (ix (μ 17 k)))]) X K hAE hS hl.1 (c_X10_quotient E l H0 (n := ((μ 0 (ix (μ 20 k))) - (μ 0 (ix (μ 17 k)))) * (μ 18 k)) (d := (μ 18 k) + (μ 19 k)) ((lk8 hI hk hs).2.2.2.2.2.2.1)) (fun _ h => h.elim) gX8_rawLight_X10_quotient_n37 rfl (by decide +kernel) (by decide +kernel) (by decide +kernel) hd_X10_quotient rfl ⟨⟨(Nat.le_of_ble_eq_true rfl), (Nat.le_of_ble_eq_true rfl)⟩, (Nat.le_of_ble_eq_true rfl), (Nat.le_of_ble_eq_true rfl)⟩ rfl (Nat.le_of_ble_eq_true rfl) dX8_rawLight_36 (fun v9 H1 locsH1 hp hS hzH1 hkH1 => ?_)
  obtain ⟨hv, hh⟩ := hp
  subst hv; subst hh
  refine lv_iadd hx hb dX8_rawLight_39 ?_
  exact hk_iret X hr hlk hQ hS (Nat.le_of_ble_eq_true rfl) (Nat.le_of_ble_eq_true rfl) dX8_rawLight_40 (⟨by unfold sp_raw; rw [if_pos hs], rfl⟩)

theorem hd_X8_rawLight : yX8_rawLight.cls ≠ "java/lang/invoke/MethodHandle" ∧ yX8_rawLight.cls ≠ "java/lang/invoke/VarHandle" ∧ (parseMethodDescriptor yX8_rawLight.desc).map (fun d => d.parameters.length) = some 0 := ⟨by decide, by decide, by decide +kernel⟩
abbrev rmX8_trueLight : Room := { frames := 3, cells := 0, slots := 0, locals := 63 }
theorem iX8_trueLight_X8 : ∀ w ∈ wsX80, w ∈ wsX8_trueLight := by decide +kernel
theorem iX8_trueLight_X9 : ∀ w ∈ wsX90, w ∈ wsX8_trueLight := by decide +kernel
set_option maxHeartbeats 4000000 in
set_option maxRecDepth 100000 in
theorem c_X8_trueLight (E : hk_E) (l : Launch) (H0 : Heap) {Z : Nat → Prop} {ho ts : Nat} {li : Nat → Nat} {rr : Nat → Nat → Nat} {G : hG} {R : hR} {cn : Nat → Nat} {sc : Nat → Int32} {μ : Nat → Nat → Int32} (hW : HW E Z (ho, li, rr, ts) G R (cn, sc, μ) H0) (hI : Inv (cn, sc, μ)) {k : Nat} (hk : k < cn 12) (hs : μ 13 k = 0)  : hk_M E l yX8_trueLight wsX8_trueLight rmX8_trueLight (fun _ => False) [.ref (gad G 4 k)] H0 (fun z H1 => z = some (.int (sp_light μ k)) ∧ H0 = H1) := by
  refine hk_M.ofW (cc := cX8_trueLight) (maxL := 1) (ret := (some .int)) (by decide +kernel) rfl (Nat.le_of_ble_eq_true rfl) ?_
  intro p e s m args below meth c ls Q hQ X hr hlk hnm K hs9 hS hl
  obtain ⟨hx, hb, hml, hown, hts⟩ := id X
  have hAE : ∀ q, (fun _ => False) q → hk_A E q := fun _ h => h.elim
  have hl : lv_has ls 1 [(0, .ref (gad G 4 k))] := hl
  have hc1 : cn 1 ≤ 12 := hI.1.1
  have hc8 : cn 8 ≤ 8 := hI.1.2.1
  have hc12 : cn 12 ≤ 80 := hI.1.2.2.1
  have hc22 : cn 22 ≤ 8 := hI.1.2.2.2.1
  have hc29 : cn 29 ≤ 30 := hI.1.2.2.2.2
  refine lv_aload_n hx hb dX8_trueLight_0 rfl (lv_at hl 0 rfl) ?_
  refine hk_callV 0 (As := []) (rest := []) X K hAE hS hl.1 (HW.e8 hW hk hs) rfl (c_X8_rawLight E l H0 hW hI hk hs) (fun _ h => h.elim) gX8_trueLight_X8_rawLight rfl ⟨rfl, hd_X8_rawLight⟩ rfl ⟨⟨(Nat.le_of_ble_eq_true rfl), (Nat.le_of_ble_eq_true rfl)⟩, (Nat.le_of_ble_eq_true rfl), (Nat.le_of_ble_eq_true rfl)⟩ rfl (Nat.le_of_ble_eq_true rfl) dX8_trueLight_1 (fun v9 H1 locsH1 hp hS hzH1 hkH1 => ?_)
  obtain ⟨hv, hh⟩ := hp
  subst hv; subst hh
  refine lv_aload_n hx hb dX8_trueLight_4 rfl (lv_at hl 0 rfl) ?_
  refine hk_get (ref := "LightcurveHouse$StepLook") (v := .ref (gad G 1 (ix (μ 15 k)))) X K (HW.e8 hW hk hs) rfl iX8_trueLight_X8 2 (by decide) (by decide +kernel) (fun _ h => h) rfl dX8_trueLight_5 ?_
  refine hk_get (ref := "LightcurveHouse$Watcher") (v := .int (μ 6 (ix (μ 15 k)))) X K (HW.e1 hW (inr_lt (N := 7) (by decide) (lk8 hI hk hs).2.1)) rfl iX8_trueLight_X9 0 (by decide) (by decide +kernel) (fun _ h => h) rfl dX8_trueLight_8 ?_
  refine lv_isub hx hb dX8_trueLight_11 ?_
  exact hk_iret X hr hlk hQ hS (Nat.le_of_ble_eq_true rfl) (Nat.le_of_ble_eq_true rfl) dX8_trueLight_12 (⟨by unfold sp_light; rw [if_pos hs], rfl⟩)

theorem hd_X7_arrival : yX7_arrival.cls ≠ "java/lang/invoke/MethodHandle" ∧ yX7_arrival.cls ≠ "java/lang/invoke/VarHandle" ∧ (parseMethodDescriptor yX7_arrival.desc).map (fun d => d.parameters.length) = some 1 := ⟨by decide, by decide, by decide +kernel⟩
abbrev rmX8_trueTime : Room := { frames := 3, cells := 0, slots := 0, locals := 69 }
theorem iX8_trueTime_X8 : ∀ w ∈ wsX80, w ∈ wsX8_trueTime := by decide +kernel
theorem iX8_trueTime_X9 : ∀ w ∈ wsX90, w ∈ wsX8_trueTime := by decide +kernel
set_option maxHeartbeats 4000000 in
set_option maxRecDepth 100000 in
theorem c_X8_trueTime (E : hk_E) (l : Launch) (H0 : Heap) {Z : Nat → Prop} {ho ts : Nat} {li : Nat → Nat} {rr : Nat → Nat → Nat} {G : hG} {R : hR} {cn : Nat → Nat} {sc : Nat → Int32} {μ : Nat → Nat → Int32} (hW : HW E Z (ho, li, rr, ts) G R (cn, sc, μ) H0) (hI : Inv (cn, sc, μ)) {k : Nat} (hk : k < cn 12) (hs : μ 13 k = 0)  : hk_M E l yX8_trueTime wsX8_trueTime rmX8_trueTime (fun _ => False) [.ref (gad G 4 k)] H0 (fun z H1 => z = some (.int (sp_time μ k)) ∧ H0 = H1) := by
  refine hk_M.ofW (cc := cX8_trueTime) (maxL := 1) (ret := (some .int)) (by decide +kernel) rfl (Nat.le_of_ble_eq_true rfl) ?_
  intro p e s m args below meth c ls Q hQ X hr hlk hnm K hs9 hS hl
  obtain ⟨hx, hb, hml, hown, hts⟩ := id X
  have hAE : ∀ q, (fun _ => False) q → hk_A E q := fun _ h => h.elim
  have hl : lv_has ls 1 [(0, .ref (gad G 4 k))] := hl
  have hc1 : cn 1 ≤ 12 := hI.1.1
  have hc8 : cn 8 ≤ 8 := hI.1.2.1
  have hc12 : cn 12 ≤ 80 := hI.1.2.2.1
  have hc22 : cn 22 ≤ 8 := hI.1.2.2.2.1
  have hc29 : cn 29 ≤ 30 := hI.1.2.2.2.2
  refine lv_aload_n hx hb dX8_trueTime_0 rfl (lv_at hl 0 rfl) ?_
  refine hk_get (ref := "LightcurveHouse$StepLook") (v := .ref (gad G 2 (ix (μ 14 k)))) X K (HW.e8 hW hk hs) rfl iX8_trueTime_X8 0 (by decide) (by decide +kernel) (u_same (hts (.sameField "LightcurveHouse$StepLook" "LightcurveHouse$Look" "seen" "LLightcurveHouse$Star;") (by decide +kernel))) rfl dX8_trueTime_1 ?_
  refine lv_aload_n hx hb dX8_trueTime_4 rfl (lv_at hl 0 rfl) ?_
  refine hk_get (ref := "LightcurveHouse$StepLook") (v := .int (μ 16 k)) X K (HW.e8 hW hk hs) rfl iX8_trueTime_X8 3 (by decide) (by decide +kernel) (fun _ h => h) rfl dX8_trueTime_5 ?_
  refine hk_callV 1 (As := [.int (μ 16 k)]) (rest := []) X K hAE hS hl.1 (HW.e2 hW (isS_xl (lk8 hI hk hs).1 (show cn 1 < 2 ^ 31 by omega))) rfl (c_X7_arrival E l H0 hW (j := (μ 14 k)) (m9 := μ 16 k) (isS_xl (lk8 hI hk hs).1 (show cn 1 < 2 ^ 31 by omega)) ((lk8 hI hk hs).2.2.1) ((hI.2.2.1 _ (isS_xl (lk8 hI hk hs).1 (show cn 1 < 2 ^ 31 by omega))).1)) (fun _ h => h.elim) gX8_trueTime_X7_arrival rfl ⟨rfl, hd_X7_arrival⟩ rfl ⟨⟨(Nat.le_of_ble_eq_true rfl), (Nat.le_of_ble_eq_true rfl)⟩, (Nat.le_of_ble_eq_true rfl), (Nat.le_of_ble_eq_true rfl)⟩ rfl (Nat.le_of_ble_eq_true rfl) dX8_trueTime_8 (fun v9 H1 locsH1 hp hS hzH1 hkH1 => ?_)
  obtain ⟨hv, hh⟩ := hp
  subst hv; subst hh
  refine lv_aload_n hx hb dX8_trueTime_11 rfl (lv_at hl 0 rfl) ?_
  refine hk_get (ref := "LightcurveHouse$StepLook") (v := .ref (gad G 1 (ix (μ 15 k)))) X K (HW.e8 hW hk hs) rfl iX8_trueTime_X8 2 (by decide) (by decide +kernel) (fun _ h => h) rfl dX8_trueTime_12 ?_
  refine hk_get (ref := "LightcurveHouse$Watcher") (v := .int (μ 7 (ix (μ 15 k)))) X K (HW.e1 hW (inr_lt (N := 7) (by decide) (lk8 hI hk hs).2.1)) rfl iX8_trueTime_X9 1 (by decide) (by decide +kernel) (fun _ h => h) rfl dX8_trueTime_15 ?_
  refine lv_isub hx hb dX8_trueTime_18 ?_
  exact hk_iret X hr hlk hQ hS (Nat.le_of_ble_eq_true rfl) (Nat.le_of_ble_eq_true rfl) dX8_trueTime_19 (⟨by unfold sp_time; rw [if_pos hs, add_sub_b], rfl⟩)

abbrev rmX8_sort : Room := { frames := 0, cells := 0, slots := 0, locals := 0 }
set_option maxHeartbeats 4000000 in
set_option maxRecDepth 100000 in
theorem c_X8_sort (E : hk_E) (l : Launch) (H0 : Heap) {Z : Nat → Prop} {ho ts : Nat} {li : Nat → Nat} {rr : Nat → Nat → Nat} {G : hG} {R : hR} {cn : Nat → Nat} {sc : Nat → Int32} {μ : Nat → Nat → Int32} (hW : HW E Z (ho, li, rr, ts) G R (cn, sc, μ) H0) (hI : Inv (cn, sc, μ)) {k : Nat} (hk : k < cn 12) (hs : μ 13 k = 0)  : hk_M E l yX8_sort wsX8_sort rmX8_sort (fun _ => False) [.ref (gad G 4 k)] H0 (fun z H1 => z = some (.int (μ 13 k)) ∧ H0 = H1) := by
  refine hk_M.ofW (cc := cX8_sort) (maxL := 1) (ret := (some .int)) (by decide +kernel) rfl (Nat.le_of_ble_eq_true rfl) ?_
  intro p e s m args below meth c ls Q hQ X hr hlk hnm K hs9 hS hl
  obtain ⟨hx, hb, hml, hown, hts⟩ := id X
  have hAE : ∀ q, (fun _ => False) q → hk_A E q := fun _ h => h.elim
  have hl : lv_has ls 1 [(0, .ref (gad G 4 k))] := hl
  have hc1 : cn 1 ≤ 12 := hI.1.1
  have hc8 : cn 8 ≤ 8 := hI.1.2.1
  have hc12 : cn 12 ≤ 80 := hI.1.2.2.1
  have hc22 : cn 22 ≤ 8 := hI.1.2.2.2.1
  have hc29 : cn 29 ≤ 30 := hI.1.2.2.2.2
  refine lv_iconst (v := 0) hx hb dX8_sort_0 (by decide) ?_
  exact hk_iret X hr hlk hQ hS (Nat.le_of_ble_eq_true rfl) (Nat.le_of_ble_eq_true rfl) dX8_sort_1 (⟨by rw [hs], rfl⟩)

theorem den_eq {a b : Int32} (ha : inr a 0 255) (hb : inr b 1 20) : qd (a * b) 10 = a * b / 10 := by
  obtain ⟨x, hx, rfl⟩ := inr_ix (N := 255) (by decide) ha
  obtain ⟨y, hy, rfl⟩ := inr_ix (N := 20) (by decide) ⟨Int32.le_trans (by decide) hb.1, hb.2⟩
  have h : x * y ≤ 255 * 20 := Nat.mul_le_mul hx hy
  rw [pk_mul, qd_pos (by decide) (nI_pos' (by omega))]

abbrev rmX1_rawLight : Room := { frames := 2, cells := 0, slots := 0, locals := 43 }
theorem iX1_rawLight_X1 : ∀ w ∈ wsX10, w ∈ wsX1_rawLight := by decide +kernel
theorem iX1_rawLight_X4 : ∀ w ∈ wsX40, w ∈ wsX1_rawLight := by decide +kernel
set_option maxHeartbeats 4000000 in
set_option maxRecDepth 100000 in
theorem c_X1_rawLight (E : hk_E) (l : Launch) (H0 : Heap) {Z : Nat → Prop} {ho ts : Nat} {li : Nat → Nat} {rr : Nat → Nat → Nat} {G : hG} {R : hR} {cn : Nat → Nat} {sc : Nat → Int32} {μ : Nat → Nat → Int32} (hW : HW E Z (ho, li, rr, ts) G R (cn, sc, μ) H0) (hI : Inv (cn, sc, μ)) {k : Nat} (hk : k < cn 12) (hs : ¬ μ 13 k = 0)  : hk_M E l yX1_rawLight wsX1_rawLight rmX1_rawLight (fun _ => False) [.ref (gad G 4 k)] H0 (fun z H1 => z = some (.int (sp_raw μ k)) ∧ H0 = H1) := by
  refine hk_M.ofW (cc := cX1_rawLight) (maxL := 1) (ret := (some .int)) (by decide +kernel) rfl (Nat.le_of_ble_eq_true rfl) ?_
  intro p e s m args below meth c ls Q hQ X hr hlk hnm K hs9 hS hl
  obtain ⟨hx, hb, hml, hown, hts⟩ := id X
  have hAE : ∀ q, (fun _ => False) q → hk_A E q := fun _ h => h.elim
  have hl : lv_has ls 1 [(0, .ref (gad G 4 k))] := hl
  have hc1 : cn 1 ≤ 12 := hI.1.1
  have hc8 : cn 8 ≤ 8 := hI.1.2.1
  have hc12 : cn 12 ≤ 80 := hI.1.2.2.1
  have hc22 : cn 22 ≤ 8 := hI.1.2.2.2.1
  have hc29 : cn 29 ≤ 30 := hI.1.2.2.2.2
  refine lv_aload_n hx hb dX1_rawLight_0 rfl (lv_at hl 0 rfl) ?_
  refine hk_get (ref := "LightcurveHouse$DensityLook") (v := .ref (gad G 3 (ix (μ 15 k)))) X K (HW.e9 hW hk hs) rfl iX1_rawLight_X1 2 (by decide) (by decide +kernel) (fun _ h => h) rfl dX1_rawLight_1 ?_
  refine hk_get (ref := "LightcurveHouse$Plate") (v := .int (μ 10 (ix (μ 15 k)))) X K (HW.e3 hW (isS_xl (lk9 hI hk hs).2.2.1 (show cn 8 < 2 ^ 31 by omega))) rfl iX1_rawLight_X4 2 (by decide) (by decide +kernel) (fun _ h => h) rfl dX1_rawLight_4 ?_
  refine lv_aload_n hx hb dX1_rawLight_7 rfl (lv_at hl 0 rfl) ?_
  refine hk_get (ref := "LightcurveHouse$DensityLook") (v := .int (μ 16 k)) X K (HW.e9 hW hk hs) rfl iX1_rawLight_X1 3 (by decide) (by decide +kernel) (fun _ h => h) rfl dX1_rawLight_8 ?_
  refine lv_aload_n hx hb dX1_rawLight_11 rfl (lv_at hl 0 rfl) ?_
  refine hk_get (ref := "LightcurveHouse$DensityLook") (v := .ref (gad G 3 (ix (μ 15 k)))) X K (HW.e9 hW hk hs) rfl iX1_rawLight_X1 2 (by decide) (by decide +kernel) (fun _ h => h) rfl dX1_rawLight_12 ?_
  refine hk_get (ref := "LightcurveHouse$Plate") (v := .int (μ 11 (ix (μ 15 k)))) X K (HW.e3 hW (isS_xl (lk9 hI hk hs).2.2.1 (show cn 8 < 2 ^ 31 by omega))) rfl iX1_rawLight_X4 1 (by decide) (by decide +kernel) (fun _ h => h) rfl dX1_rawLight_15 ?_
  refine lv_imul hx hb dX1_rawLight_18 ?_
  refine lv_bipush (v := 10) hx hb dX1_rawLight_19 (by decide) ?_
  refine hk_callSN (host := RX10) 2 (As := [.int ((μ 16 k) * (μ 11 (ix (μ 15 k)))), .int 10]) (rest := [.int (μ 10 (ix (μ 15 k)))]) X K hAE hS hl.1 (c_X10_quotient E l H0 (n := (μ 16 k) * (μ 11 (ix (μ 15 k)))) (d := 10) (by decide)) (fun _ h => h.elim) gX1_rawLight_X10_quotient_n27 rfl (by decide +kernel) (by decide +kernel) (by decide +kernel) hd_X10_quotient rfl ⟨⟨(Nat.le_of_ble_eq_true rfl), (Nat.le_of_ble_eq_true rfl)⟩, (Nat.le_of_ble_eq_true rfl), (Nat.le_of_ble_eq_true rfl)⟩ rfl (Nat.le_of_ble_eq_true rfl) dX1_rawLight_21 (fun v9 H1 locsH1 hp hS hzH1 hkH1 => ?_)
  obtain ⟨hv, hh⟩ := hp
  subst hv; subst hh
  refine lv_isub hx hb dX1_rawLight_24 ?_
  exact hk_iret X hr hlk hQ hS (Nat.le_of_ble_eq_true rfl) (Nat.le_of_ble_eq_true rfl) dX1_rawLight_25 (⟨by unfold sp_raw; rw [if_neg hs, den_eq (lk9 hI hk hs).2.2.2 (hI.2.2.2.2.1 _ (isS_xl (lk9 hI hk hs).2.2.1 (show cn 8 < 2 ^ 31 by omega))).2.2], rfl⟩)

theorem hd_X1_rawLight : yX1_rawLight.cls ≠ "java/lang/invoke/MethodHandle" ∧ yX1_rawLight.cls ≠ "java/lang/invoke/VarHandle" ∧ (parseMethodDescriptor yX1_rawLight.desc).map (fun d => d.parameters.length) = some 0 := ⟨by decide, by decide, by decide +kernel⟩
abbrev rmX1_trueLight : Room := { frames := 3, cells := 0, slots := 0, locals := 63 }
set_option maxHeartbeats 4000000 in
set_option maxRecDepth 100000 in
theorem c_X1_trueLight (E : hk_E) (l : Launch) (H0 : Heap) {Z : Nat → Prop} {ho ts : Nat} {li : Nat → Nat} {rr : Nat → Nat → Nat} {G : hG} {R : hR} {cn : Nat → Nat} {sc : Nat → Int32} {μ : Nat → Nat → Int32} (hW : HW E Z (ho, li, rr, ts) G R (cn, sc, μ) H0) (hI : Inv (cn, sc, μ)) {k : Nat} (hk : k < cn 12) (hs : ¬ μ 13 k = 0)  : hk_M E l yX1_trueLight wsX1_trueLight rmX1_trueLight (fun _ => False) [.ref (gad G 4 k)] H0 (fun z H1 => z = some (.int (sp_light μ k)) ∧ H0 = H1) := by
  refine hk_M.ofW (cc := cX1_trueLight) (maxL := 1) (ret := (some .int)) (by decide +kernel) rfl (Nat.le_of_ble_eq_true rfl) ?_
  intro p e s m args below meth c ls Q hQ X hr hlk hnm K hs9 hS hl
  obtain ⟨hx, hb, hml, hown, hts⟩ := id X
  have hAE : ∀ q, (fun _ => False) q → hk_A E q := fun _ h => h.elim
  have hl : lv_has ls 1 [(0, .ref (gad G 4 k))] := hl
  have hc1 : cn 1 ≤ 12 := hI.1.1
  have hc8 : cn 8 ≤ 8 := hI.1.2.1
  have hc12 : cn 12 ≤ 80 := hI.1.2.2.1
  have hc22 : cn 22 ≤ 8 := hI.1.2.2.2.1
  have hc29 : cn 29 ≤ 30 := hI.1.2.2.2.2
  refine lv_aload_n hx hb dX1_trueLight_0 rfl (lv_at hl 0 rfl) ?_
  refine hk_callV 0 (As := []) (rest := []) X K hAE hS hl.1 (HW.e9 hW hk hs) rfl (c_X1_rawLight E l H0 hW hI hk hs) (fun _ h => h.elim) gX1_trueLight_X1_rawLight rfl ⟨rfl, hd_X1_rawLight⟩ rfl ⟨⟨(Nat.le_of_ble_eq_true rfl), (Nat.le_of_ble_eq_true rfl)⟩, (Nat.le_of_ble_eq_true rfl), (Nat.le_of_ble_eq_true rfl)⟩ rfl (Nat.le_of_ble_eq_true rfl) dX1_trueLight_1 (fun v9 H1 locsH1 hp hS hzH1 hkH1 => ?_)
  obtain ⟨hv, hh⟩ := hp
  subst hv; subst hh
  exact hk_iret X hr hlk hQ hS (Nat.le_of_ble_eq_true rfl) (Nat.le_of_ble_eq_true rfl) dX1_trueLight_4 (⟨by unfold sp_light; rw [if_neg hs, Int32.sub_zero], rfl⟩)

abbrev rmX1_trueTime : Room := { frames := 3, cells := 0, slots := 0, locals := 69 }
theorem iX1_trueTime_X1 : ∀ w ∈ wsX10, w ∈ wsX1_trueTime := by decide +kernel
theorem iX1_trueTime_X4 : ∀ w ∈ wsX40, w ∈ wsX1_trueTime := by decide +kernel
set_option maxHeartbeats 4000000 in
set_option maxRecDepth 100000 in
theorem c_X1_trueTime (E : hk_E) (l : Launch) (H0 : Heap) {Z : Nat → Prop} {ho ts : Nat} {li : Nat → Nat} {rr : Nat → Nat → Nat} {G : hG} {R : hR} {cn : Nat → Nat} {sc : Nat → Int32} {μ : Nat → Nat → Int32} (hW : HW E Z (ho, li, rr, ts) G R (cn, sc, μ) H0) (hI : Inv (cn, sc, μ)) {k : Nat} (hk : k < cn 12) (hs : ¬ μ 13 k = 0)  : hk_M E l yX1_trueTime wsX1_trueTime rmX1_trueTime (fun _ => False) [.ref (gad G 4 k)] H0 (fun z H1 => z = some (.int (sp_time μ k)) ∧ H0 = H1) := by
  refine hk_M.ofW (cc := cX1_trueTime) (maxL := 1) (ret := (some .int)) (by decide +kernel) rfl (Nat.le_of_ble_eq_true rfl) ?_
  intro p e s m args below meth c ls Q hQ X hr hlk hnm K hs9 hS hl
  obtain ⟨hx, hb, hml, hown, hts⟩ := id X
  have hAE : ∀ q, (fun _ => False) q → hk_A E q := fun _ h => h.elim
  have hl : lv_has ls 1 [(0, .ref (gad G 4 k))] := hl
  have hc1 : cn 1 ≤ 12 := hI.1.1
  have hc8 : cn 8 ≤ 8 := hI.1.2.1
  have hc12 : cn 12 ≤ 80 := hI.1.2.2.1
  have hc22 : cn 22 ≤ 8 := hI.1.2.2.2.1
  have hc29 : cn 29 ≤ 30 := hI.1.2.2.2.2
  refine lv_aload_n hx hb dX1_trueTime_0 rfl (lv_at hl 0 rfl) ?_
  refine hk_get (ref := "LightcurveHouse$DensityLook") (v := .ref (gad G 2 (ix (μ 14 k)))) X K (HW.e9 hW hk hs) rfl iX1_trueTime_X1 0 (by decide) (by decide +kernel) (u_same (hts (.sameField "LightcurveHouse$DensityLook" "LightcurveHouse$Look" "seen" "LLightcurveHouse$Star;") (by decide +kernel))) rfl dX1_trueTime_1 ?_
  refine lv_aload_n hx hb dX1_trueTime_4 rfl (lv_at hl 0 rfl) ?_
  refine hk_get (ref := "LightcurveHouse$DensityLook") (v := .ref (gad G 3 (ix (μ 15 k)))) X K (HW.e9 hW hk hs) rfl iX1_trueTime_X1 2 (by decide) (by decide +kernel) (fun _ h => h) rfl dX1_trueTime_5 ?_
  refine hk_get (ref := "LightcurveHouse$Plate") (v := .int (μ 9 (ix (μ 15 k)))) X K (HW.e3 hW (isS_xl (lk9 hI hk hs).2.2.1 (show cn 8 < 2 ^ 31 by omega))) rfl iX1_trueTime_X4 0 (by decide) (by decide +kernel) (fun _ h => h) rfl dX1_trueTime_8 ?_
  refine hk_callV 1 (As := [.int (μ 9 (ix (μ 15 k)))]) (rest := []) X K hAE hS hl.1 (HW.e2 hW (isS_xl (lk9 hI hk hs).1 (show cn 1 < 2 ^ 31 by omega))) rfl (c_X7_arrival E l H0 hW (j := (μ 14 k)) (m9 := μ 9 (ix (μ 15 k))) (isS_xl (lk9 hI hk hs).1 (show cn 1 < 2 ^ 31 by omega)) ((hI.2.2.2.2.1 _ (isS_xl (lk9 hI hk hs).2.2.1 (show cn 8 < 2 ^ 31 by omega))).1) ((hI.2.2.1 _ (isS_xl (lk9 hI hk hs).1 (show cn 1 < 2 ^ 31 by omega))).1)) (fun _ h => h.elim) gX1_trueTime_X7_arrival rfl ⟨rfl, hd_X7_arrival⟩ rfl ⟨⟨(Nat.le_of_ble_eq_true rfl), (Nat.le_of_ble_eq_true rfl)⟩, (Nat.le_of_ble_eq_true rfl), (Nat.le_of_ble_eq_true rfl)⟩ rfl (Nat.le_of_ble_eq_true rfl) dX1_trueTime_11 (fun v9 H1 locsH1 hp hS hzH1 hkH1 => ?_)
  obtain ⟨hv, hh⟩ := hp
  subst hv; subst hh
  exact hk_iret X hr hlk hQ hS (Nat.le_of_ble_eq_true rfl) (Nat.le_of_ble_eq_true rfl) dX1_trueTime_14 (⟨by unfold sp_time; rw [if_neg hs, Int32.sub_zero], rfl⟩)

abbrev rmX1_sort : Room := { frames := 0, cells := 0, slots := 0, locals := 0 }
set_option maxHeartbeats 4000000 in
set_option maxRecDepth 100000 in
theorem c_X1_sort (E : hk_E) (l : Launch) (H0 : Heap) {Z : Nat → Prop} {ho ts : Nat} {li : Nat → Nat} {rr : Nat → Nat → Nat} {G : hG} {R : hR} {cn : Nat → Nat} {sc : Nat → Int32} {μ : Nat → Nat → Int32} (hW : HW E Z (ho, li, rr, ts) G R (cn, sc, μ) H0) (hI : Inv (cn, sc, μ)) {k : Nat} (hk : k < cn 12) (hs : ¬ μ 13 k = 0)  : hk_M E l yX1_sort wsX1_sort rmX1_sort (fun _ => False) [.ref (gad G 4 k)] H0 (fun z H1 => z = some (.int (μ 13 k)) ∧ H0 = H1) := by
  refine hk_M.ofW (cc := cX1_sort) (maxL := 1) (ret := (some .int)) (by decide +kernel) rfl (Nat.le_of_ble_eq_true rfl) ?_
  intro p e s m args below meth c ls Q hQ X hr hlk hnm K hs9 hS hl
  obtain ⟨hx, hb, hml, hown, hts⟩ := id X
  have hAE : ∀ q, (fun _ => False) q → hk_A E q := fun _ h => h.elim
  have hl : lv_has ls 1 [(0, .ref (gad G 4 k))] := hl
  have hc1 : cn 1 ≤ 12 := hI.1.1
  have hc8 : cn 8 ≤ 8 := hI.1.2.1
  have hc12 : cn 12 ≤ 80 := hI.1.2.2.1
  have hc22 : cn 22 ≤ 8 := hI.1.2.2.2.1
  have hc29 : cn 29 ≤ 30 := hI.1.2.2.2.2
  refine lv_iconst (v := 1) hx hb dX1_sort_0 (by decide) ?_
  exact hk_iret X hr hlk hQ hS (Nat.le_of_ble_eq_true rfl) (Nat.le_of_ble_eq_true rfl) dX1_sort_1 (⟨by rw [(lk9 hI hk hs).2.1], rfl⟩)

abbrev rmX7_isEntry : Room := { frames := 0, cells := 0, slots := 0, locals := 0 }
theorem iX7_isEntry_X7 : ∀ w ∈ wsX70, w ∈ wsX7_isEntry := by decide +kernel
set_option maxHeartbeats 4000000 in
set_option maxRecDepth 100000 in
theorem c_X7_isEntry (E : hk_E) (l : Launch) (H0 : Heap) {Z : Nat → Prop} {ho ts : Nat} {li : Nat → Nat} {rr : Nat → Nat → Nat} {G : hG} {R : hR} {cn : Nat → Nat} {sc : Nat → Int32} {μ : Nat → Nat → Int32} (hW : HW E Z (ho, li, rr, ts) G R (cn, sc, μ) H0) {j : Nat} (hj : j < cn 1)  : hk_M E l yX7_isEntry wsX7_isEntry rmX7_isEntry (fun _ => False) [.ref (gad G 2 j)] H0 (fun z H1 => ((z = some (.int 1) ∧ μ 3 j = nI j) ∨ (z = some (.int 0) ∧ ¬ μ 3 j = nI j)) ∧ H0 = H1) := by
  refine hk_M.ofW (cc := cX7_isEntry) (maxL := 1) (ret := (some .boolean)) (by decide +kernel) rfl (Nat.le_of_ble_eq_true rfl) ?_
  intro p e s m args below meth c ls Q hQ X hr hlk hnm K hs9 hS hl
  obtain ⟨hx, hb, hml, hown, hts⟩ := id X
  have hAE : ∀ q, (fun _ => False) q → hk_A E q := fun _ h => h.elim
  have hl : lv_has ls 1 [(0, .ref (gad G 2 j))] := hl
  refine lv_aload_n hx hb dX7_isEntry_0 rfl (lv_at hl 0 rfl) ?_
  refine hk_get (ref := "LightcurveHouse$Star") (v := .int (μ 3 j)) X K (HW.e2 hW hj) rfl iX7_isEntry_X7 2 (by decide) (by decide +kernel) (fun _ h => h) rfl dX7_isEntry_1 ?_
  refine lv_aload_n hx hb dX7_isEntry_4 rfl (lv_at hl 0 rfl) ?_
  refine hk_get (ref := "LightcurveHouse$Star") (v := .int (nI j)) X K (HW.e2 hW hj) rfl iX7_isEntry_X7 0 (by decide) (by decide +kernel) (fun _ h => h) rfl dX7_isEntry_5 ?_
  refine lv_icmp_ne (tgt := 15) hx hb dX7_isEntry_8 (by decide) (fun c_8 => ?_) (fun c_8 => ?_)
  · refine lv_iconst (v := 0) hx hb dX7_isEntry_15 (by decide) ?_
    exact hk_zret X hr hlk hQ hS (Nat.le_of_ble_eq_true rfl) (Nat.le_of_ble_eq_true rfl) dX7_isEntry_16 (by decide) (⟨Or.inr ⟨rfl, c_8⟩, rfl⟩)
  · refine lv_iconst (v := 1) hx hb dX7_isEntry_11 (by decide) ?_
    refine lv_goto (tgt := 16) hx hb dX7_isEntry_12 (by decide) ?_
    exact hk_zret X hr hlk hQ hS (Nat.le_of_ble_eq_true rfl) (Nat.le_of_ble_eq_true rfl) dX7_isEntry_16 (by decide) (⟨Or.inl ⟨rfl, c_8⟩, rfl⟩)

abbrev rmX6_holds : Room := { frames := 0, cells := 0, slots := 0, locals := 0 }
theorem iX6_holds_X6 : ∀ w ∈ wsX60, w ∈ wsX6_holds := by decide +kernel
set_option maxHeartbeats 4000000 in
set_option maxRecDepth 100000 in
theorem c_X6_holds (E : hk_E) (l : Launch) (H0 : Heap) {Z : Nat → Prop} {ho ts : Nat} {li : Nat → Nat} {rr : Nat → Nat → Nat} {G : hG} {R : hR} {cn : Nat → Nat} {sc : Nat → Int32} {μ : Nat → Nat → Int32} (hW : HW E Z (ho, li, rr, ts) G R (cn, sc, μ) H0) {j : Nat} (hj : j < cn 22) {v9 : Int32}  : hk_M E l yX6_holds wsX6_holds rmX6_holds (fun _ => False) [.ref (gad G 5 j), .int v9] H0 (fun z H1 => ((z = some (.int 1) ∧ inr v9 (μ 25 j) (μ 26 j)) ∨ (z = some (.int 0) ∧ ¬ inr v9 (μ 25 j) (μ 26 j))) ∧ H0 = H1) := by
  refine hk_M.ofW (cc := cX6_holds) (maxL := 2) (ret := (some .boolean)) (by decide +kernel) rfl (Nat.le_of_ble_eq_true rfl) ?_
  intro p e s m args below meth c ls Q hQ X hr hlk hnm K hs9 hS hl
  obtain ⟨hx, hb, hml, hown, hts⟩ := id X
  have hAE : ∀ q, (fun _ => False) q → hk_A E q := fun _ h => h.elim
  have hl : lv_has ls 2 [(0, .ref (gad G 5 j)), (1, .int v9)] := hl
  refine lv_iload_n hx hb dX6_holds_0 rfl (lv_at hl 1 rfl) ?_
  refine lv_aload_n hx hb dX6_holds_1 rfl (lv_at hl 0 rfl) ?_
  refine hk_get (ref := "LightcurveHouse$Rule") (v := .int (μ 25 j)) X K (HW.e5 hW hj) rfl iX6_holds_X6 4 (by decide) (by decide +kernel) (fun _ h => h) rfl dX6_holds_2 ?_
  refine lv_icmp_lt (tgt := 20) hx hb dX6_holds_5 (by decide) (fun c_5 => ?_) (fun c_5 => ?_)
  · refine lv_iconst (v := 0) hx hb dX6_holds_20 (by decide) ?_
    exact hk_zret X hr hlk hQ hS (Nat.le_of_ble_eq_true rfl) (Nat.le_of_ble_eq_true rfl) dX6_holds_21 (by decide) (⟨Or.inr ⟨rfl, fun h => absurd c_5 (Int32.not_lt.mpr h.1)⟩, rfl⟩)
  · refine lv_iload_n hx hb dX6_holds_8 rfl (lv_at hl 1 rfl) ?_
    refine lv_aload_n hx hb dX6_holds_9 rfl (lv_at hl 0 rfl) ?_
    refine hk_get (ref := "LightcurveHouse$Rule") (v := .int (μ 26 j)) X K (HW.e5 hW hj) rfl iX6_holds_X6 5 (by decide) (by decide +kernel) (fun _ h => h) rfl dX6_holds_10 ?_
    refine lv_icmp_gt (tgt := 20) hx hb dX6_holds_13 (by decide) (fun c_13 => ?_) (fun c_13 => ?_)
    · refine lv_iconst (v := 0) hx hb dX6_holds_20 (by decide) ?_
      exact hk_zret X hr hlk hQ hS (Nat.le_of_ble_eq_true rfl) (Nat.le_of_ble_eq_true rfl) dX6_holds_21 (by decide) (⟨Or.inr ⟨rfl, fun h => absurd c_13 (Int32.not_lt.mpr h.2)⟩, rfl⟩)
    · refine lv_iconst (v := 1) hx hb dX6_holds_16 (by decide) ?_
      refine lv_goto (tgt := 21) hx hb dX6_holds_17 (by decide) ?_
      exact hk_zret X hr hlk hQ hS (Nat.le_of_ble_eq_true rfl) (Nat.le_of_ble_eq_true rfl) dX6_holds_21 (by decide) (⟨Or.inl ⟨rfl, Int32.not_lt.mp c_5, Int32.not_lt.mp c_13⟩, rfl⟩)

