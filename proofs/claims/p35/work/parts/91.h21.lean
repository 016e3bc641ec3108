def i_li (B : Nat) : Nat → Nat := fun j => B + j
def i_rr (B : Nat) : Nat → Nat → Nat := fun r t => B + 7 + 3 * r + t
def i_tg (B : Nat) : Nat → Nat × Nat := fun q => if q < B then (0, 0) else if q < B + 7 then (1, q - B) else if q < B + 19 then (3 + (q - B - 7) % 3, (q - B - 7) / 3) else (6, 0)
def i_G (E : hk_E) (B : Nat) : hG := (fun _ => E.2.2.2.1, fun _ => 0, fun _ => 0, fun _ _ => 0, i_tg B)
def i_R : hR := (fun _ => 0, fun _ _ => 0, fun _ _ => 0, fun _ => 0)
theorem i_T {E : hk_E} {Z : Nat → Prop} {ho B : Nat} (h0 : ho < B) (hZm : Z ho) (hZn : ∀ q, B ≤ q → Z q) (hZA : ∀ q, Z q → hk_A E q) (hne : ¬ hk_A E E.2.2.2.1) : hTn E Z (ho, i_li B, i_rr B, B + 19) (i_G E B) (fun _ => 0) := by
  refine ⟨⟨if_pos h0, hZm⟩, fun j hj => ⟨?_, hZn _ (Nat.le_add_right _ _)⟩, fun j hj => Or.inr ⟨rfl, rfl, rfl⟩, fun r hr t ht => ⟨?_, hZn _ (by show B ≤ B + 7 + 3 * r + t; omega)⟩, ⟨?_, hZn _ (by show B ≤ B + 19; omega)⟩, fun j hj i hi => absurd hi (Nat.not_lt_zero _), hne, hZA⟩
  · show i_tg B (B + j) = (1, j)
    unfold i_tg
    rw [if_neg (by omega), if_pos (by omega), Nat.add_sub_cancel_left]
  · show i_tg B (B + 7 + 3 * r + t) = (3 + t, r)
    unfold i_tg
    rw [if_neg (by omega), if_neg (by omega), if_pos (by omega)]
    have e1 : (B + 7 + 3 * r + t - B - 7) % 3 = t := by omega
    have e2 : (B + 7 + 3 * r + t - B - 7) / 3 = r := by omega
    rw [e1, e2]
  · show i_tg B (B + 19) = (6, 0)
    unfold i_tg
    rw [if_neg (by omega), if_neg (by omega), if_neg (by omega)]
theorem up_00 : va_up (fun _ => 0 : Nat → Nat) 0 0 = fun _ => 0 := by
  funext j
  unfold va_up
  by_cases g : j = 0
  · rw [if_pos g]
  · rw [if_neg g]
theorem up_10 {f : Nat → Nat} (h : f 1 = 0) : va_up f 1 0 = f := by
  funext j
  unfold va_up
  by_cases g : j = 1
  · rw [if_pos g, g, h]
  · rw [if_neg g]
theorem N_fin : va_up (va_up (fun _ => 0 : Nat → Nat) 0 10) 1 8 = hn S0 := by
  funext j
  rcases j with _ | _ | _ | _ | _ | _ | j <;> rfl
theorem hd_Jx4a65c_init_da8c8 : yJx4a65c_init_da8c8.cls ≠ "java/lang/invoke/MethodHandle" ∧ yJx4a65c_init_da8c8.cls ≠ "java/lang/invoke/VarHandle" ∧ (parseMethodDescriptor yJx4a65c_init_da8c8.desc).map (fun d => d.parameters.length) = some 0 := ⟨by decide, by decide, by decide +kernel⟩
theorem hd_X0_init : yX0_init.cls ≠ "java/lang/invoke/MethodHandle" ∧ yX0_init.cls ≠ "java/lang/invoke/VarHandle" ∧ (parseMethodDescriptor yX0_init.desc).map (fun d => d.parameters.length) = some 0 := ⟨by decide, by decide, by decide +kernel⟩
theorem hd_X5_init : yX5_init.cls ≠ "java/lang/invoke/MethodHandle" ∧ yX5_init.cls ≠ "java/lang/invoke/VarHandle" ∧ (parseMethodDescriptor yX5_init.desc).map (fun d => d.parameters.length) = some 1 := ⟨by decide, by decide, by decide +kernel⟩
theorem hd_X9_init : yX9_init.cls ≠ "java/lang/invoke/MethodHandle" ∧ yX9_init.cls ≠ "java/lang/invoke/VarHandle" ∧ (parseMethodDescriptor yX9_init.desc).map (fun d => d.parameters.length) = some 0 := ⟨by decide, by decide, by decide +kernel⟩
abbrev rmX10_init : Room := { frames := 12, cells := 80, slots := 4000, locals := 330 }
theorem iX10_init_Jx4a65c : ∀ w ∈ wsJx4a65c0, w ∈ wsX10_init := by decide +kernel
theorem iX10_init_X0 : ∀ w ∈ wsX00, w ∈ wsX10_init := by decide +kernel
theorem iX10_init_X10 : ∀ w ∈ wsX100, w ∈ wsX10_init := by decide +kernel
theorem iX10_init_X5 : ∀ w ∈ wsX50, w ∈ wsX10_init := by decide +kernel
theorem iX10_init_X9 : ∀ w ∈ wsX90, w ∈ wsX10_init := by decide +kernel
set_option maxHeartbeats 16000000 in
set_option maxRecDepth 100000 in
theorem c_X10_init (E : hk_E) (l : Launch) (H0 : Heap) {Z : Nat → Prop} {ho : Nat} (hO9 : hk_O E ho 10 [.null, .null, .null, .null, .null, .null, .null, .int 0, .null, .null, .null, .null, .null] H0) (hZm : Z ho) (hZn : ∀ q, H0.size ≤ q → Z q) (hZA : ∀ q, Z q → hk_A E q)  : hk_M E l yX10_init wsX10_init rmX10_init (Z) [.ref ho] H0 (fun z H1 => z = none ∧ ∃ (li : Nat → Nat) (rr : Nat → Nat → Nat) (ts : Nat) (G : hG) (R : hR), HW E Z (ho, li, rr, ts) G R S0 H1) := by
  refine hk_M.ofW (cc := cX10_init) (maxL := 2) (ret := none) (by decide +kernel) rfl (Nat.le_of_ble_eq_true rfl) ?_
  intro p e s m args below meth c ls Q hQ X hr hlk hnm K hs9 hS hl
  obtain ⟨hx, hb, hml, hown, hts⟩ := id X
  have hAE : ∀ q, (Z) q → hk_A E q := hZA
  have hl : lv_has ls 2 [(0, .ref ho)] := hl
  have hlt0 : ho < H0.size := va_at.lt hO9
  have hbase : E.2.2.1 ≤ H0.size := by rw [← hs9]; exact K.2.2.2.2.2.2.2
  refine lv_aload_n hx hb dX10_init_0 rfl (lv_at hl 0 rfl) ?_
  refine W.objInit hx hb hown (hts (.methodLink RX10 1 objectInit) (by decide +kernel)) (hts (.instanceMethod objectInit) (by decide +kernel)) (hts (.code objectInit ⟨#[0xb1]⟩ 1 none) (by decide +kernel)) rfl (by rw [hml]; exact hl.1) rfl dX10_init_1 (Nat.le_of_ble_eq_true rfl) (Nat.le_of_ble_eq_true rfl) ?_
  refine W.eq (g2 := F0 m 4 ls []) rfl ?_
  refine lv_aload_n hx hb dX10_init_4 rfl (lv_at hl 0 rfl) ?_
  refine hk_new (ci := 0) (fs := [.int 0, .null, .int 0]) X K rfl iX10_init_Jx4a65c tyJx4a65c tyJx4a65c_ok (by decide +kernel) (by decide +kernel) (by decide +kernel) hS (fun j hj => by rcases (show j = 0 ∨ j = 1 ∨ j = 2 by omega) with rfl | rfl | rfl <;> rfl) (Nat.le_of_ble_eq_true rfl) (Nat.le_of_ble_eq_true rfl) dX10_init_5 (fun H1 hOH1 hzH1 hqH1 hS => ?_)
  obtain ⟨a2, ea2⟩ : ∃ z : Nat, z = H0.size := ⟨_, rfl⟩
  rw [← ea2] at hOH1 ⊢
  have fH1_ho : hk_O E ho 10 [.null, .null, .null, .null, .null, .null, .null, .int 0, .null, .null, .null, .null, .null] H1 := va_at.kept hO9 (hqH1 _ (va_at.lt hO9))
  have va2 : a2 = H0.size + 0 := ea2
  have na2 : a2 ≠ ho := by omega
  have zH1 : H1.size = H0.size + 1 := by rw [hzH1]
  refine lv_dup hx hb dX10_init_8 rfl ?_
  refine hk_callI 0 (As := []) (rest := [.ref a2, .ref ho]) X K hAE hS hl.1 (c_Jx4a65c_init_da8c8 E l H1 hOH1 (hZA _ (hZn _ (by omega)))) (fun q h => by rw [h]; exact hZn _ (by omega)) gX10_init_Jx4a65c_init_da8c8 rfl (by decide +kernel) (by decide +kernel) (by decide +kernel) rfl hd_Jx4a65c_init_da8c8 rfl ⟨⟨(Nat.le_of_ble_eq_true rfl), (Nat.le_of_ble_eq_true rfl)⟩, (Nat.le_of_ble_eq_true rfl), (Nat.le_of_ble_eq_true rfl)⟩ rfl (Nat.le_of_ble_eq_true rfl) dX10_init_9 (fun v9 H3 locsH3 hp hS hzH3 hkH3 => ?_)
  obtain ⟨hv, hOH3, hzzH3⟩ := hp
  subst hv
  have zH3 : H3.size = H0.size + 1 := hzzH3.trans zH1
  have gH3_ho : hk_O E ho 10 [.null, .null, .null, .null, .null, .null, .null, .int 0, .null, .null, .null, .null, .null] H3 := va_at.kept fH1_ho (hkH3 _ (va_at.lt fH1_ho) (fun g => absurd g (by omega)))
  refine hk_putF (ref := "LightcurveHouse") X K gH3_ho rfl iX10_init_X10 tyX10 tyX10_ok nmX10 hS hZm 0 (by decide) (by decide +kernel) (fun _ h => h) (by decide +kernel) hnm (by decide +kernel) rfl rfl (Nat.le_of_ble_eq_true rfl) dX10_init_12 (fun H4 locsH4 hOH4 hzH4 hqH4 hS => ?_)
  have hOH4 : hk_O E ho 10 [.ref a2, .null, .null, .null, .null, .null, .null, .int 0, .null, .null, .null, .null, .null] H4 := hOH4
  have fH4_a2 : hk_O E a2 0 [.int 0, .ref E.2.2.2.1, .int 0] H4 := va_at.kept hOH3 (hqH4 _ na2)
  have zH4 : H4.size = H0.size + 1 := hzH4.trans zH3
  refine lv_aload_n hx hb dX10_init_15 rfl (lv_at hl 0 rfl) ?_
  refine hk_new (ci := 0) (fs := [.int 0, .null, .int 0]) X K rfl iX10_init_Jx4a65c tyJx4a65c tyJx4a65c_ok (by decide +kernel) (by decide +kernel) (by decide +kernel) hS (fun j hj => by rcases (show j = 0 ∨ j = 1 ∨ j = 2 by omega) with rfl | rfl | rfl <;> rfl) (Nat.le_of_ble_eq_true rfl) (Nat.le_of_ble_eq_true rfl) dX10_init_16 (fun H5 hOH5 hzH5 hqH5 hS => ?_)
  obtain ⟨a6, ea6⟩ : ∃ z : Nat, z = H4.size := ⟨_, rfl⟩
  rw [← ea6] at hOH5 ⊢
  have fH5_ho : hk_O E ho 10 [.ref a2, .null, .null, .null, .null, .null, .null, .int 0, .null, .null, .null, .null, .null] H5 := va_at.kept hOH4 (hqH5 _ (va_at.lt hOH4))
  have fH5_a2 : hk_O E a2 0 [.int 0, .ref E.2.2.2.1, .int 0] H5 := va_at.kept fH4_a2 (hqH5 _ (va_at.lt fH4_a2))
  have va6 : a6 = H0.size + 1 := ea6.trans zH4
  have na6 : a6 ≠ ho := by omega
  have zH5 : H5.size = H0.size + 2 := by rw [hzH5, zH4]
  refine lv_dup hx hb dX10_init_19 rfl ?_
  refine hk_callI 0 (As := []) (rest := [.ref a6, .ref ho]) X K hAE hS hl.1 (c_Jx4a65c_init_da8c8 E l H5 hOH5 (hZA _ (hZn _ (by omega)))) (fun q h => by rw [h]; exact hZn _ (by omega)) gX10_init_Jx4a65c_init_da8c8 rfl (by decide +kernel) (by decide +kernel) (by decide +kernel) rfl hd_Jx4a65c_init_da8c8 rfl ⟨⟨(Nat.le_of_ble_eq_true rfl), (Nat.le_of_ble_eq_true rfl)⟩, (Nat.le_of_ble_eq_true rfl), (Nat.le_of_ble_eq_true rfl)⟩ rfl (Nat.le_of_ble_eq_true rfl) dX10_init_20 (fun v9 H7 locsH7 hp hS hzH7 hkH7 => ?_)
  obtain ⟨hv, hOH7, hzzH7⟩ := hp
  subst hv
  have zH7 : H7.size = H0.size + 2 := hzzH7.trans zH5
  have gH7_ho : hk_O E ho 10 [.ref a2, .null, .null, .null, .null, .null, .null, .int 0, .null, .null, .null, .null, .null] H7 := va_at.kept fH5_ho (hkH7 _ (va_at.lt fH5_ho) (fun g => absurd g (by omega)))
  have gH7_a2 : hk_O E a2 0 [.int 0, .ref E.2.2.2.1, .int 0] H7 := va_at.kept fH5_a2 (hkH7 _ (va_at.lt fH5_a2) (fun g => absurd g (by omega)))
  refine hk_putF (ref := "LightcurveHouse") X K gH7_ho rfl iX10_init_X10 tyX10 tyX10_ok nmX10 hS hZm 1 (by decide) (by decide +kernel) (fun _ h => h) (by decide +kernel) hnm (by decide +kernel) rfl rfl (Nat.le_of_ble_eq_true rfl) dX10_init_23 (fun H8 locsH8 hOH8 hzH8 hqH8 hS => ?_)
  have hOH8 : hk_O E ho 10 [.ref a2, .ref a6, .null, .null, .null, .null, .null, .int 0, .null, .null, .null, .null, .null] H8 := hOH8
  have fH8_a2 : hk_O E a2 0 [.int 0, .ref E.2.2.2.1, .int 0] H8 := va_at.kept gH7_a2 (hqH8 _ na2)
  have fH8_a6 : hk_O E a6 0 [.int 0, .ref E.2.2.2.1, .int 0] H8 := va_at.kept hOH7 (hqH8 _ na6)
  have zH8 : H8.size = H0.size + 2 := hzH8.trans zH7
  refine lv_aload_n hx hb dX10_init_26 rfl (lv_at hl 0 rfl) ?_
  refine hk_new (ci := 0) (fs := [.int 0, .null, .int 0]) X K rfl iX10_init_Jx4a65c tyJx4a65c tyJx4a65c_ok (by decide +kernel) (by decide +kernel) (by decide +kernel) hS (fun j hj => by rcases (show j = 0 ∨ j = 1 ∨ j = 2 by omega) with rfl | rfl | rfl <;> rfl) (Nat.le_of_ble_eq_true rfl) (Nat.le_of_ble_eq_true rfl) dX10_init_27 (fun H9 hOH9 hzH9 hqH9 hS => ?_)
  obtain ⟨a10, ea10⟩ : ∃ z : Nat, z = H8.size := ⟨_, rfl⟩
  rw [← ea10] at hOH9 ⊢
  have fH9_ho : hk_O E ho 10 [.ref a2, .ref a6, .null, .null, .null, .null, .null, .int 0, .null, .null, .null, .null, .null] H9 := va_at.kept hOH8 (hqH9 _ (va_at.lt hOH8))
  have fH9_a2 : hk_O E a2 0 [.int 0, .ref E.2.2.2.1, .int 0] H9 := va_at.kept fH8_a2 (hqH9 _ (va_at.lt fH8_a2))
  have fH9_a6 : hk_O E a6 0 [.int 0, .ref E.2.2.2.1, .int 0] H9 := va_at.kept fH8_a6 (hqH9 _ (va_at.lt fH8_a6))
  have va10 : a10 = H0.size + 2 := ea10.trans zH8
  have na10 : a10 ≠ ho := by omega
  have zH9 : H9.size = H0.size + 3 := by rw [hzH9, zH8]
  refine lv_dup hx hb dX10_init_30 rfl ?_
  refine hk_callI 0 (As := []) (rest := [.ref a10, .ref ho]) X K hAE hS hl.1 (c_Jx4a65c_init_da8c8 E l H9 hOH9 (hZA _ (hZn _ (by omega)))) (fun q h => by rw [h]; exact hZn _ (by omega)) gX10_init_Jx4a65c_init_da8c8 rfl (by decide +kernel) (by decide +kernel) (by decide +kernel) rfl hd_Jx4a65c_init_da8c8 rfl ⟨⟨(Nat.le_of_ble_eq_true rfl), (Nat.le_of_ble_eq_true rfl)⟩, (Nat.le_of_ble_eq_true rfl), (Nat.le_of_ble_eq_true rfl)⟩ rfl (Nat.le_of_ble_eq_true rfl) dX10_init_31 (fun v9 H11 locsH11 hp hS hzH11 hkH11 => ?_)
  obtain ⟨hv, hOH11, hzzH11⟩ := hp
  subst hv
  have zH11 : H11.size = H0.size + 3 := hzzH11.trans zH9
  have gH11_ho : hk_O E ho 10 [.ref a2, .ref a6, .null, .null, .null, .null, .null, .int 0, .null, .null, .null, .null, .null] H11 := va_at.kept fH9_ho (hkH11 _ (va_at.lt fH9_ho) (fun g => absurd g (by omega)))
  have gH11_a2 : hk_O E a2 0 [.int 0, .ref E.2.2.2.1, .int 0] H11 := va_at.kept fH9_a2 (hkH11 _ (va_at.lt fH9_a2) (fun g => absurd g (by omega)))
  have gH11_a6 : hk_O E a6 0 [.int 0, .ref E.2.2.2.1, .int 0] H11 := va_at.kept fH9_a6 (hkH11 _ (va_at.lt fH9_a6) (fun g => absurd g (by omega)))
  refine hk_putF (ref := "LightcurveHouse") X K gH11_ho rfl iX10_init_X10 tyX10 tyX10_ok nmX10 hS hZm 2 (by decide) (by decide +kernel) (fun _ h => h) (by decide +kernel) hnm (by decide +kernel) rfl rfl (Nat.le_of_ble_eq_true rfl) dX10_init_34 (fun H12 locsH12 hOH12 hzH12 hqH12 hS => ?_)
  have hOH12 : hk_O E ho 10 [.ref a2, .ref a6, .ref a10, .null, .null, .null, .null, .int 0, .null, .null, .null, .null, .null] H12 := hOH12
  have fH12_a2 : hk_O E a2 0 [.int 0, .ref E.2.2.2.1, .int 0] H12 := va_at.kept gH11_a2 (hqH12 _ na2)
  have fH12_a6 : hk_O E a6 0 [.int 0, .ref E.2.2.2.1, .int 0] H12 := va_at.kept gH11_a6 (hqH12 _ na6)
  have fH12_a10 : hk_O E a10 0 [.int 0, .ref E.2.2.2.1, .int 0] H12 := va_at.kept hOH11 (hqH12 _ na10)
  have zH12 : H12.size = H0.size + 3 := hzH12.trans zH11
  refine lv_aload_n hx hb dX10_init_37 rfl (lv_at hl 0 rfl) ?_
  refine hk_new (ci := 0) (fs := [.int 0, .null, .int 0]) X K rfl iX10_init_Jx4a65c tyJx4a65c tyJx4a65c_ok (by decide +kernel) (by decide +kernel) (by decide +kernel) hS (fun j hj => by rcases (show j = 0 ∨ j = 1 ∨ j = 2 by omega) with rfl | rfl | rfl <;> rfl) (Nat.le_of_ble_eq_true rfl) (Nat.le_of_ble_eq_true rfl) dX10_init_38 (fun H13 hOH13 hzH13 hqH13 hS => ?_)
  obtain ⟨a14, ea14⟩ : ∃ z : Nat, z = H12.size := ⟨_, rfl⟩
  rw [← ea14] at hOH13 ⊢
  have fH13_ho : hk_O E ho 10 [.ref a2, .ref a6, .ref a10, .null, .null, .null, .null, .int 0, .null, .null, .null, .null, .null] H13 := va_at.kept hOH12 (hqH13 _ (va_at.lt hOH12))
  have fH13_a2 : hk_O E a2 0 [.int 0, .ref E.2.2.2.1, .int 0] H13 := va_at.kept fH12_a2 (hqH13 _ (va_at.lt fH12_a2))
  have fH13_a6 : hk_O E a6 0 [.int 0, .ref E.2.2.2.1, .int 0] H13 := va_at.kept fH12_a6 (hqH13 _ (va_at.lt fH12_a6))
  have fH13_a10 : hk_O E a10 0 [.int 0, .ref E.2.2.2.1, .int 0] H13 := va_at.kept fH12_a10 (hqH13 _ (va_at.lt fH12_a10))
  have va14 : a14 = H0.size + 3 := ea14.trans zH12
  have na14 : a14 ≠ ho := by omega
  have zH13 : H13.size = H0.size + 4 := by rw [hzH13, zH12]
  refine lv_dup hx hb dX10_init_41 rfl ?_
  refine hk_callI 0 (As := []) (rest := [.ref a14, .ref ho]) X K hAE hS hl.1 (c_Jx4a65c_init_da8c8 E l H13 hOH13 (hZA _ (hZn _ (by omega)))) (fun q h => by rw [h]; exact hZn _ (by omega)) gX10_init_Jx4a65c_init_da8c8 rfl (by decide +kernel) (by decide +kernel) (by decide +kernel) rfl hd_Jx4a65c_init_da8c8 rfl ⟨⟨(Nat.le_of_ble_eq_true rfl), (Nat.le_of_ble_eq_true rfl)⟩, (Nat.le_of_ble_eq_true rfl), (Nat.le_of_ble_eq_true rfl)⟩ rfl (Nat.le_of_ble_eq_true rfl) dX10_init_42 (fun v9 H15 locsH15 hp hS hzH15 hkH15 => ?_)
  obtain ⟨hv, hOH15, hzzH15⟩ := hp
  subst hv
  have zH15 : H15.size = H0.size + 4 := hzzH15.trans zH13
  have gH15_ho : hk_O E ho 10 [.ref a2, .ref a6, .ref a10, .null, .null, .null, .null, .int 0, .null, .null, .null, .null, .null] H15 := va_at.kept fH13_ho (hkH15 _ (va_at.lt fH13_ho) (fun g => absurd g (by omega)))
  have gH15_a2 : hk_O E a2 0 [.int 0, .ref E.2.2.2.1, .int 0] H15 := va_at.kept fH13_a2 (hkH15 _ (va_at.lt fH13_a2) (fun g => absurd g (by omega)))
  have gH15_a6 : hk_O E a6 0 [.int 0, .ref E.2.2.2.1, .int 0] H15 := va_at.kept fH13_a6 (hkH15 _ (va_at.lt fH13_a6) (fun g => absurd g (by omega)))
  have gH15_a10 : hk_O E a10 0 [.int 0, .ref E.2.2.2.1, .int 0] H15 := va_at.kept fH13_a10 (hkH15 _ (va_at.lt fH13_a10) (fun g => absurd g (by omega)))
  refine hk_putF (ref := "LightcurveHouse") X K gH15_ho rfl iX10_init_X10 tyX10 tyX10_ok nmX10 hS hZm 3 (by decide) (by decide +kernel) (fun _ h => h) (by decide +kernel) hnm (by decide +kernel) rfl rfl (Nat.le_of_ble_eq_true rfl) dX10_init_45 (fun H16 locsH16 hOH16 hzH16 hqH16 hS => ?_)
  have hOH16 : hk_O E ho 10 [.ref a2, .ref a6, .ref a10, .ref a14, .null, .null, .null, .int 0, .null, .null, .null, .null, .null] H16 := hOH16
  have fH16_a2 : hk_O E a2 0 [.int 0, .ref E.2.2.2.1, .int 0] H16 := va_at.kept gH15_a2 (hqH16 _ na2)
  have fH16_a6 : hk_O E a6 0 [.int 0, .ref E.2.2.2.1, .int 0] H16 := va_at.kept gH15_a6 (hqH16 _ na6)
  have fH16_a10 : hk_O E a10 0 [.int 0, .ref E.2.2.2.1, .int 0] H16 := va_at.kept gH15_a10 (hqH16 _ na10)
  have fH16_a14 : hk_O E a14 0 [.int 0, .ref E.2.2.2.1, .int 0] H16 := va_at.kept hOH15 (hqH16 _ na14)
  have zH16 : H16.size = H0.size + 4 := hzH16.trans zH15
  refine lv_aload_n hx hb dX10_init_48 rfl (lv_at hl 0 rfl) ?_
  refine hk_new (ci := 0) (fs := [.int 0, .null, .int 0]) X K rfl iX10_init_Jx4a65c tyJx4a65c tyJx4a65c_ok (by decide +kernel) (by decide +kernel) (by decide +kernel) hS (fun j hj => by rcases (show j = 0 ∨ j = 1 ∨ j = 2 by omega) with rfl | rfl | rfl <;> rfl) (Nat.le_of_ble_eq_true rfl) (Nat.le_of_ble_eq_true rfl) dX10_init_49 (fun H17 hOH17 hzH17 hqH17 hS => ?_)
  obtain ⟨a18, ea18⟩ : ∃ z : Nat, z = H16.size := ⟨_, rfl⟩
  rw [← ea18] at hOH17 ⊢
  have fH17_ho : hk_O E ho 10 [.ref a2, .ref a6, .ref a10, .ref a14, .null, .null, .null, .int 0, .null, .null, .null, .null, .null] H17 := va_at.kept hOH16 (hqH17 _ (va_at.lt hOH16))
  have fH17_a2 : hk_O E a2 0 [.int 0, .ref E.2.2.2.1, .int 0] H17 := va_at.kept fH16_a2 (hqH17 _ (va_at.lt fH16_a2))
  have fH17_a6 : hk_O E a6 0 [.int 0, .ref E.2.2.2.1, .int 0] H17 := va_at.kept fH16_a6 (hqH17 _ (va_at.lt fH16_a6))
  have fH17_a10 : hk_O E a10 0 [.int 0, .ref E.2.2.2.1, .int 0] H17 := va_at.kept fH16_a10 (hqH17 _ (va_at.lt fH16_a10))
  have fH17_a14 : hk_O E a14 0 [.int 0, .ref E.2.2.2.1, .int 0] H17 := va_at.kept fH16_a14 (hqH17 _ (va_at.lt fH16_a14))
  have va18 : a18 = H0.size + 4 := ea18.trans zH16
  have na18 : a18 ≠ ho := by omega
  have zH17 : H17.size = H0.size + 5 := by rw [hzH17, zH16]
  refine lv_dup hx hb dX10_init_52 rfl ?_
  refine hk_callI 0 (As := []) (rest := [.ref a18, .ref ho]) X K hAE hS hl.1 (c_Jx4a65c_init_da8c8 E l H17 hOH17 (hZA _ (hZn _ (by omega)))) (fun q h => by rw [h]; exact hZn _ (by omega)) gX10_init_Jx4a65c_init_da8c8 rfl (by decide +kernel) (by decide +kernel) (by decide +kernel) rfl hd_Jx4a65c_init_da8c8 rfl ⟨⟨(Nat.le_of_ble_eq_true rfl), (Nat.le_of_ble_eq_true rfl)⟩, (Nat.le_of_ble_eq_true rfl), (Nat.le_of_ble_eq_true rfl)⟩ rfl (Nat.le_of_ble_eq_true rfl) dX10_init_53 (fun v9 H19 locsH19 hp hS hzH19 hkH19 => ?_)
  obtain ⟨hv, hOH19, hzzH19⟩ := hp
  subst hv
  have zH19 : H19.size = H0.size + 5 := hzzH19.trans zH17
  have gH19_ho : hk_O E ho 10 [.ref a2, .ref a6, .ref a10, .ref a14, .null, .null, .null, .int 0, .null, .null, .null, .null, .null] H19 := va_at.kept fH17_ho (hkH19 _ (va_at.lt fH17_ho) (fun g => absurd g (by omega)))
  have gH19_a2 : hk_O E a2 0 [.int 0, .ref E.2.2.2.1, .int 0] H19 := va_at.kept fH17_a2 (hkH19 _ (va_at.lt fH17_a2) (fun g => absurd g (by omega)))
  have gH19_a6 : hk_O E a6 0 [.int 0, .ref E.2.2.2.1, .int 0] H19 := va_at.kept fH17_a6 (hkH19 _ (va_at.lt fH17_a6) (fun g => absurd g (by omega)))
  have gH19_a10 : hk_O E a10 0 [.int 0, .ref E.2.2.2.1, .int 0] H19 := va_at.kept fH17_a10 (hkH19 _ (va_at.lt fH17_a10) (fun g => absurd g (by omega)))
  have gH19_a14 : hk_O E a14 0 [.int 0, .ref E.2.2.2.1, .int 0] H19 := va_at.kept fH17_a14 (hkH19 _ (va_at.lt fH17_a14) (fun g => absurd g (by omega)))
  refine hk_putF (ref := "LightcurveHouse") X K gH19_ho rfl iX10_init_X10 tyX10 tyX10_ok nmX10 hS hZm 4 (by decide) (by decide +kernel) (fun _ h => h) (by decide +kernel) hnm (by decide +kernel) rfl rfl (Nat.le_of_ble_eq_true rfl) dX10_init_56 (fun H20 locsH20 hOH20 hzH20 hqH20 hS => ?_)
  have hOH20 : hk_O E ho 10 [.ref a2, .ref a6, .ref a10, .ref a14, .ref a18, .null, .null, .int 0, .null, .null, .null, .null, .null] H20 := hOH20
  have fH20_a2 : hk_O E a2 0 [.int 0, .ref E.2.2.2.1, .int 0] H20 := va_at.kept gH19_a2 (hqH20 _ na2)
  have fH20_a6 : hk_O E a6 0 [.int 0, .ref E.2.2.2.1, .int 0] H20 := va_at.kept gH19_a6 (hqH20 _ na6)
  have fH20_a10 : hk_O E a10 0 [.int 0, .ref E.2.2.2.1, .int 0] H20 := va_at.kept gH19_a10 (hqH20 _ na10)
  have fH20_a14 : hk_O E a14 0 [.int 0, .ref E.2.2.2.1, .int 0] H20 := va_at.kept gH19_a14 (hqH20 _ na14)
  have fH20_a18 : hk_O E a18 0 [.int 0, .ref E.2.2.2.1, .int 0] H20 := va_at.kept hOH19 (hqH20 _ na18)
  have zH20 : H20.size = H0.size + 5 := hzH20.trans zH19
  refine lv_aload_n hx hb dX10_init_59 rfl (lv_at hl 0 rfl) ?_
  refine hk_new (ci := 0) (fs := [.int 0, .null, .int 0]) X K rfl iX10_init_Jx4a65c tyJx4a65c tyJx4a65c_ok (by decide +kernel) (by decide +kernel) (by decide +kernel) hS (fun j hj => by rcases (show j = 0 ∨ j = 1 ∨ j = 2 by omega) with rfl | rfl | rfl <;> rfl) (Nat.le_of_ble_eq_true rfl) (Nat.le_of_ble_eq_true rfl) dX10_init_60 (fun H21 hOH21 hzH21 hqH21 hS => ?_)
  obtain ⟨a22, ea22⟩ : ∃ z : Nat, z = H20.size := ⟨_, rfl⟩
  rw [← ea22] at hOH21 ⊢
  have fH21_ho : hk_O E ho 10 [.ref a2, .ref a6, .ref a10, .ref a14, .ref a18, .null, .null, .int 0, .null, .null, .null, .null, .null] H21 := va_at.kept hOH20 (hqH21 _ (va_at.lt hOH20))
  have fH21_a2 : hk_O E a2 0 [.int 0, .ref E.2.2.2.1, .int 0] H21 := va_at.kept fH20_a2 (hqH21 _ (va_at.lt fH20_a2))
  have fH21_a6 : hk_O E a6 0 [.int 0, .ref E.2.2.2.1, .int 0] H21 := va_at.kept fH20_a6 (hqH21 _ (va_at.lt fH20_a6))
  have fH21_a10 : hk_O E a10 0 [.int 0, .ref E.2.2.2.1, .int 0] H21 := va_at.kept fH20_a10 (hqH21 _ (va_at.lt fH20_a10))
  have fH21_a14 : hk_O E a14 0 [.int 0, .ref E.2.2.2.1, .int 0] H21 := va_at.kept fH20_a14 (hqH21 _ (va_at.lt fH20_a14))
  have fH21_a18 : hk_O E a18 0 [.int 0, .ref E.2.2.2.1, .int 0] H21 := va_at.kept fH20_a18 (hqH21 _ (va_at.lt fH20_a18))
  have va22 : a22 = H0.size + 5 := ea22.trans zH20
  have na22 : a22 ≠ ho := by omega
  have zH21 : H21.size = H0.size + 6 := by rw [hzH21, zH20]
  refine lv_dup hx hb dX10_init_63 rfl ?_
  refine hk_callI 0 (As := []) (rest := [.ref a22, .ref ho]) X K hAE hS hl.1 (c_Jx4a65c_init_da8c8 E l H21 hOH21 (hZA _ (hZn _ (by omega)))) (fun q h => by rw [h]; exact hZn _ (by omega)) gX10_init_Jx4a65c_init_da8c8 rfl (by decide +kernel) (by decide +kernel) (by decide +kernel) rfl hd_Jx4a65c_init_da8c8 rfl ⟨⟨(Nat.le_of_ble_eq_true rfl), (Nat.le_of_ble_eq_true rfl)⟩, (Nat.le_of_ble_eq_true rfl), (Nat.le_of_ble_eq_true rfl)⟩ rfl (Nat.le_of_ble_eq_true rfl) dX10_init_64 (fun v9 H23 locsH23 hp hS hzH23 hkH23 => ?_)
  obtain ⟨hv, hOH23, hzzH23⟩ := hp
  subst hv
  have zH23 : H23.size = H0.size + 6 := hzzH23.trans zH21
  have gH23_ho : hk_O E ho 10 [.ref a2, .ref a6, .ref a10, .ref a14, .ref a18, .null, .null, .int 0, .null, .null, .null, .null, .null] H23 := va_at.kept fH21_ho (hkH23 _ (va_at.lt fH21_ho) (fun g => absurd g (by omega)))
  have gH23_a2 : hk_O E a2 0 [.int 0, .ref E.2.2.2.1, .int 0] H23 := va_at.kept fH21_a2 (hkH23 _ (va_at.lt fH21_a2) (fun g => absurd g (by omega)))
  have gH23_a6 : hk_O E a6 0 [.int 0, .ref E.2.2.2.1, .int 0] H23 := va_at.kept fH21_a6 (hkH23 _ (va_at.lt fH21_a6) (fun g => absurd g (by omega)))
  have gH23_a10 : hk_O E a10 0 [.int 0, .ref E.2.2.2.1, .int 0] H23 := va_at.kept fH21_a10 (hkH23 _ (va_at.lt fH21_a10) (fun g => absurd g (by omega)))
  have gH23_a14 : hk_O E a14 0 [.int 0, .ref E.2.2.2.1, .int 0] H23 := va_at.kept fH21_a14 (hkH23 _ (va_at.lt fH21_a14) (fun g => absurd g (by omega)))
  have gH23_a18 : hk_O E a18 0 [.int 0, .ref E.2.2.2.1, .int 0] H23 := va_at.kept fH21_a18 (hkH23 _ (va_at.lt fH21_a18) (fun g => absurd g (by omega)))
  refine hk_putF (ref := "LightcurveHouse") X K gH23_ho rfl iX10_init_X10 tyX10 tyX10_ok nmX10 hS hZm 5 (by decide) (by decide +kernel) (fun _ h => h) (by decide +kernel) hnm (by decide +kernel) rfl rfl (Nat.le_of_ble_eq_true rfl) dX10_init_67 (fun H24 locsH24 hOH24 hzH24 hqH24 hS => ?_)
  have hOH24 : hk_O E ho 10 [.ref a2, .ref a6, .ref a10, .ref a14, .ref a18, .ref a22, .null, .int 0, .null, .null, .null, .null, .null] H24 := hOH24
  have fH24_a2 : hk_O E a2 0 [.int 0, .ref E.2.2.2.1, .int 0] H24 := va_at.kept gH23_a2 (hqH24 _ na2)
  have fH24_a6 : hk_O E a6 0 [.int 0, .ref E.2.2.2.1, .int 0] H24 := va_at.kept gH23_a6 (hqH24 _ na6)
  have fH24_a10 : hk_O E a10 0 [.int 0, .ref E.2.2.2.1, .int 0] H24 := va_at.kept gH23_a10 (hqH24 _ na10)
  have fH24_a14 : hk_O E a14 0 [.int 0, .ref E.2.2.2.1, .int 0] H24 := va_at.kept gH23_a14 (hqH24 _ na14)
  have fH24_a18 : hk_O E a18 0 [.int 0, .ref E.2.2.2.1, .int 0] H24 := va_at.kept gH23_a18 (hqH24 _ na18)
  have fH24_a22 : hk_O E a22 0 [.int 0, .ref E.2.2.2.1, .int 0] H24 := va_at.kept hOH23 (hqH24 _ na22)
  have zH24 : H24.size = H0.size + 6 := hzH24.trans zH23
  refine lv_aload_n hx hb dX10_init_70 rfl (lv_at hl 0 rfl) ?_
  refine hk_new (ci := 0) (fs := [.int 0, .null, .int 0]) X K rfl iX10_init_Jx4a65c tyJx4a65c tyJx4a65c_ok (by decide +kernel) (by decide +kernel) (by decide +kernel) hS (fun j hj => by rcases (show j = 0 ∨ j = 1 ∨ j = 2 by omega) with rfl | rfl | rfl <;> rfl) (Nat.le_of_ble_eq_true rfl) (Nat.le_of_ble_eq_true rfl) dX10_init_71 (fun H25 hOH25 hzH25 hqH25 hS => ?_)
  obtain ⟨a26, ea26⟩ : ∃ z : Nat, z = H24.size := ⟨_, rfl⟩
  rw [← ea26] at hOH25 ⊢
  have fH25_ho : hk_O E ho 10 [.ref a2, .ref a6, .ref a10, .ref a14, .ref a18, .ref a22, .null, .int 0, .null, .null, .null, .null, .null] H25 := va_at.kept hOH24 (hqH25 _ (va_at.lt hOH24))
  have fH25_a2 : hk_O E a2 0 [.int 0, .ref E.2.2.2.1, .int 0] H25 := va_at.kept fH24_a2 (hqH25 _ (va_at.lt fH24_a2))
  have fH25_a6 : hk_O E a6 0 [.int 0, .ref E.2.2.2.1, .int 0] H25 := va_at.kept fH24_a6 (hqH25 _ (va_at.lt fH24_a6))
  have fH25_a10 : hk_O E a10 0 [.int 0, .ref E.2.2.2.1, .int 0] H25 := va_at.kept fH24_a10 (hqH25 _ (va_at.lt fH24_a10))
  have fH25_a14 : hk_O E a14 0 [.int 0, .ref E.2.2.2.1, .int 0] H25 := va_at.kept fH24_a14 (hqH25 _ (va_at.lt fH24_a14))
  have fH25_a18 : hk_O E a18 0 [.int 0, .ref E.2.2.2.1, .int 0] H25 := va_at.kept fH24_a18 (hqH25 _ (va_at.lt fH24_a18))
  have fH25_a22 : hk_O E a22 0 [.int 0, .ref E.2.2.2.1, .int 0] H25 := va_at.kept fH24_a22 (hqH25 _ (va_at.lt fH24_a22))
  have va26 : a26 = H0.size + 6 := ea26.trans zH24
  have na26 : a26 ≠ ho := by omega
  have zH25 : H25.size = H0.size + 7 := by rw [hzH25, zH24]
  refine lv_dup hx hb dX10_init_74 rfl ?_
  refine hk_callI 0 (As := []) (rest := [.ref a26, .ref ho]) X K hAE hS hl.1 (c_Jx4a65c_init_da8c8 E l H25 hOH25 (hZA _ (hZn _ (by omega)))) (fun q h => by rw [h]; exact hZn _ (by omega)) gX10_init_Jx4a65c_init_da8c8 rfl (by decide +kernel) (by decide +kernel) (by decide +kernel) rfl hd_Jx4a65c_init_da8c8 rfl ⟨⟨(Nat.le_of_ble_eq_true rfl), (Nat.le_of_ble_eq_true rfl)⟩, (Nat.le_of_ble_eq_true rfl), (Nat.le_of_ble_eq_true rfl)⟩ rfl (Nat.le_of_ble_eq_true rfl) dX10_init_75 (fun v9 H27 locsH27 hp hS hzH27 hkH27 => ?_)
  obtain ⟨hv, hOH27, hzzH27⟩ := hp
  subst hv
  have zH27 : H27.size = H0.size + 7 := hzzH27.trans zH25
  have gH27_ho : hk_O E ho 10 [.ref a2, .ref a6, .ref a10, .ref a14, .ref a18, .ref a22, .null, .int 0, .null, .null, .null, .null, .null] H27 := va_at.kept fH25_ho (hkH27 _ (va_at.lt fH25_ho) (fun g => absurd g (by omega)))
  have gH27_a2 : hk_O E a2 0 [.int 0, .ref E.2.2.2.1, .int 0] H27 := va_at.kept fH25_a2 (hkH27 _ (va_at.lt fH25_a2) (fun g => absurd g (by omega)))
  have gH27_a6 : hk_O E a6 0 [.int 0, .ref E.2.2.2.1, .int 0] H27 := va_at.kept fH25_a6 (hkH27 _ (va_at.lt fH25_a6) (fun g => absurd g (by omega)))
  have gH27_a10 : hk_O E a10 0 [.int 0, .ref E.2.2.2.1, .int 0] H27 := va_at.kept fH25_a10 (hkH27 _ (va_at.lt fH25_a10) (fun g => absurd g (by omega)))
  have gH27_a14 : hk_O E a14 0 [.int 0, .ref E.2.2.2.1, .int 0] H27 := va_at.kept fH25_a14 (hkH27 _ (va_at.lt fH25_a14) (fun g => absurd g (by omega)))
  have gH27_a18 : hk_O E a18 0 [.int 0, .ref E.2.2.2.1, .int 0] H27 := va_at.kept fH25_a18 (hkH27 _ (va_at.lt fH25_a18) (fun g => absurd g (by omega)))
  have gH27_a22 : hk_O E a22 0 [.int 0, .ref E.2.2.2.1, .int 0] H27 := va_at.kept fH25_a22 (hkH27 _ (va_at.lt fH25_a22) (fun g => absurd g (by omega)))
  refine hk_putF (ref := "LightcurveHouse") X K gH27_ho rfl iX10_init_X10 tyX10 tyX10_ok nmX10 hS hZm 6 (by decide) (by decide +kernel) (fun _ h => h) (by decide +kernel) hnm (by decide +kernel) rfl rfl (Nat.le_of_ble_eq_true rfl) dX10_init_78 (fun H28 locsH28 hOH28 hzH28 hqH28 hS => ?_)
  have hOH28 : hk_O E ho 10 [.ref a2, .ref a6, .ref a10, .ref a14, .ref a18, .ref a22, .ref a26, .int 0, .null, .null, .null, .null, .null] H28 := hOH28
  have fH28_a2 : hk_O E a2 0 [.int 0, .ref E.2.2.2.1, .int 0] H28 := va_at.kept gH27_a2 (hqH28 _ na2)
  have fH28_a6 : hk_O E a6 0 [.int 0, .ref E.2.2.2.1, .int 0] H28 := va_at.kept gH27_a6 (hqH28 _ na6)
  have fH28_a10 : hk_O E a10 0 [.int 0, .ref E.2.2.2.1, .int 0] H28 := va_at.kept gH27_a10 (hqH28 _ na10)
  have fH28_a14 : hk_O E a14 0 [.int 0, .ref E.2.2.2.1, .int 0] H28 := va_at.kept gH27_a14 (hqH28 _ na14)
  have fH28_a18 : hk_O E a18 0 [.int 0, .ref E.2.2.2.1, .int 0] H28 := va_at.kept gH27_a18 (hqH28 _ na18)
  have fH28_a22 : hk_O E a22 0 [.int 0, .ref E.2.2.2.1, .int 0] H28 := va_at.kept gH27_a22 (hqH28 _ na22)
  have fH28_a26 : hk_O E a26 0 [.int 0, .ref E.2.2.2.1, .int 0] H28 := va_at.kept hOH27 (hqH28 _ na26)
  have zH28 : H28.size = H0.size + 7 := hzH28.trans zH27
  refine lv_aload_n hx hb dX10_init_81 rfl (lv_at hl 0 rfl) ?_
  refine lv_iconst (v := 0) hx hb dX10_init_82 (by decide) ?_
  refine hk_put (ref := "LightcurveHouse") X K hOH28 rfl iX10_init_X10 tyX10 tyX10_ok nmX10 hS hZm 7 (by decide) (by decide +kernel) (fun _ h => h) (by decide +kernel) rfl rfl (Nat.le_of_ble_eq_true rfl) dX10_init_83 (fun H29 locsH29 hOH29 hzH29 hqH29 hS => ?_)
  have hOH29 : hk_O E ho 10 [.ref a2, .ref a6, .ref a10, .ref a14, .ref a18, .ref a22, .ref a26, .int 0, .null, .null, .null, .null, .null] H29 := hOH29
  have fH29_a2 : hk_O E a2 0 [.int 0, .ref E.2.2.2.1, .int 0] H29 := va_at.kept fH28_a2 (hqH29 _ na2)
  have fH29_a6 : hk_O E a6 0 [.int 0, .ref E.2.2.2.1, .int 0] H29 := va_at.kept fH28_a6 (hqH29 _ na6)
  have fH29_a10 : hk_O E a10 0 [.int 0, .ref E.2.2.2.1, .int 0] H29 := va_at.kept fH28_a10 (hqH29 _ na10)
  have fH29_a14 : hk_O E a14 0 [.int 0, .ref E.2.2.2.1, .int 0] H29 := va_at.kept fH28_a14 (hqH29 _ na14)
  have fH29_a18 : hk_O E a18 0 [.int 0, .ref E.2.2.2.1, .int 0] H29 := va_at.kept fH28_a18 (hqH29 _ na18)
  have fH29_a22 : hk_O E a22 0 [.int 0, .ref E.2.2.2.1, .int 0] H29 := va_at.kept fH28_a22 (hqH29 _ na22)
  have fH29_a26 : hk_O E a26 0 [.int 0, .ref E.2.2.2.1, .int 0] H29 := va_at.kept fH28_a26 (hqH29 _ na26)
  have zH29 : H29.size = H0.size + 7 := hzH29.trans zH28
  refine lv_aload_n hx hb dX10_init_86 rfl (lv_at hl 0 rfl) ?_
  refine hk_new (ci := 5) (fs := [.null, .null, .int 0]) X K rfl iX10_init_X5 tyX5 tyX5_ok (by decide +kernel) (by decide +kernel) (by decide +kernel) hS (fun j hj => by rcases (show j = 0 ∨ j = 1 ∨ j = 2 by omega) with rfl | rfl | rfl <;> rfl) (Nat.le_of_ble_eq_true rfl) (Nat.le_of_ble_eq_true rfl) dX10_init_87 (fun H30 hOH30 hzH30 hqH30 hS => ?_)
  obtain ⟨a31, ea31⟩ : ∃ z : Nat, z = H29.size := ⟨_, rfl⟩
  rw [← ea31] at hOH30 ⊢
  have fH30_ho : hk_O E ho 10 [.ref a2, .ref a6, .ref a10, .ref a14, .ref a18, .ref a22, .ref a26, .int 0, .null, .null, .null, .null, .null] H30 := va_at.kept hOH29 (hqH30 _ (va_at.lt hOH29))
  have fH30_a2 : hk_O E a2 0 [.int 0, .ref E.2.2.2.1, .int 0] H30 := va_at.kept fH29_a2 (hqH30 _ (va_at.lt fH29_a2))
  have fH30_a6 : hk_O E a6 0 [.int 0, .ref E.2.2.2.1, .int 0] H30 := va_at.kept fH29_a6 (hqH30 _ (va_at.lt fH29_a6))
  have fH30_a10 : hk_O E a10 0 [.int 0, .ref E.2.2.2.1, .int 0] H30 := va_at.kept fH29_a10 (hqH30 _ (va_at.lt fH29_a10))
  have fH30_a14 : hk_O E a14 0 [.int 0, .ref E.2.2.2.1, .int 0] H30 := va_at.kept fH29_a14 (hqH30 _ (va_at.lt fH29_a14))
  have fH30_a18 : hk_O E a18 0 [.int 0, .ref E.2.2.2.1, .int 0] H30 := va_at.kept fH29_a18 (hqH30 _ (va_at.lt fH29_a18))
  have fH30_a22 : hk_O E a22 0 [.int 0, .ref E.2.2.2.1, .int 0] H30 := va_at.kept fH29_a22 (hqH30 _ (va_at.lt fH29_a22))
  have fH30_a26 : hk_O E a26 0 [.int 0, .ref E.2.2.2.1, .int 0] H30 := va_at.kept fH29_a26 (hqH30 _ (va_at.lt fH29_a26))
  have va31 : a31 = H0.size + 7 := ea31.trans zH29
  have na31 : a31 ≠ ho := by omega
  have zH30 : H30.size = H0.size + 8 := by rw [hzH30, zH29]
  refine lv_dup hx hb dX10_init_90 rfl ?_
  refine lv_bipush (v := 80) hx hb dX10_init_91 (by decide) ?_
  refine hk_callI 1 (As := [.int 80]) (rest := [.ref a31, .ref ho]) X K hAE hS hl.1 (c_X5_init E l H30 (m9 := 80) (by decide) hOH30 (hZA _ (hZn _ (by omega)))) (fun q h => h.elim (fun h => by rw [h]; exact hZn _ (by omega)) (fun h => hZn _ (by omega))) gX10_init_X5_init rfl (by decide +kernel) (by decide +kernel) (by decide +kernel) rfl hd_X5_init rfl ⟨⟨(Nat.le_of_ble_eq_true rfl), (Nat.le_of_ble_eq_true rfl)⟩, (Nat.le_of_ble_eq_true rfl), (Nat.le_of_ble_eq_true rfl)⟩ rfl (Nat.le_of_ble_eq_true rfl) dX10_init_93 (fun v9 H32 locsH32 hp hS hzH32 hkH32 => ?_)
  obtain ⟨hv, hOH32, hIkH32, hIvH32, hzzH32⟩ := hp
  subst hv
  obtain ⟨bA, ebA⟩ : ∃ z : Nat, z = H30.size := ⟨_, rfl⟩
  rw [← ebA] at hOH32 hIkH32 hIvH32
  have vbA : bA = H0.size + 8 := ebA.trans zH30
  have zH32 : H32.size = H0.size + 10 := by rw [hzzH32, zH30]
  have gH32_ho : hk_O E ho 10 [.ref a2, .ref a6, .ref a10, .ref a14, .ref a18, .ref a22, .ref a26, .int 0, .null, .null, .null, .null, .null] H32 := va_at.kept fH30_ho (hkH32 _ (va_at.lt fH30_ho) (fun g => g.elim (fun g => absurd g (by omega)) (fun g => absurd (va_at.lt fH30_ho) (Nat.not_lt.mpr g))))
  have gH32_a2 : hk_O E a2 0 [.int 0, .ref E.2.2.2.1, .int 0] H32 := va_at.kept fH30_a2 (hkH32 _ (va_at.lt fH30_a2) (fun g => g.elim (fun g => absurd g (by omega)) (fun g => absurd (va_at.lt fH30_a2) (Nat.not_lt.mpr g))))
  have gH32_a6 : hk_O E a6 0 [.int 0, .ref E.2.2.2.1, .int 0] H32 := va_at.kept fH30_a6 (hkH32 _ (va_at.lt fH30_a6) (fun g => g.elim (fun g => absurd g (by omega)) (fun g => absurd (va_at.lt fH30_a6) (Nat.not_lt.mpr g))))
  have gH32_a10 : hk_O E a10 0 [.int 0, .ref E.2.2.2.1, .int 0] H32 := va_at.kept fH30_a10 (hkH32 _ (va_at.lt fH30_a10) (fun g => g.elim (fun g => absurd g (by omega)) (fun g => absurd (va_at.lt fH30_a10) (Nat.not_lt.mpr g))))
  have gH32_a14 : hk_O E a14 0 [.int 0, .ref E.2.2.2.1, .int 0] H32 := va_at.kept fH30_a14 (hkH32 _ (va_at.lt fH30_a14) (fun g => g.elim (fun g => absurd g (by omega)) (fun g => absurd (va_at.lt fH30_a14) (Nat.not_lt.mpr g))))
  have gH32_a18 : hk_O E a18 0 [.int 0, .ref E.2.2.2.1, .int 0] H32 := va_at.kept fH30_a18 (hkH32 _ (va_at.lt fH30_a18) (fun g => g.elim (fun g => absurd g (by omega)) (fun g => absurd (va_at.lt fH30_a18) (Nat.not_lt.mpr g))))
  have gH32_a22 : hk_O E a22 0 [.int 0, .ref E.2.2.2.1, .int 0] H32 := va_at.kept fH30_a22 (hkH32 _ (va_at.lt fH30_a22) (fun g => g.elim (fun g => absurd g (by omega)) (fun g => absurd (va_at.lt fH30_a22) (Nat.not_lt.mpr g))))
  have gH32_a26 : hk_O E a26 0 [.int 0, .ref E.2.2.2.1, .int 0] H32 := va_at.kept fH30_a26 (hkH32 _ (va_at.lt fH30_a26) (fun g => g.elim (fun g => absurd g (by omega)) (fun g => absurd (va_at.lt fH30_a26) (Nat.not_lt.mpr g))))
  have nbA : bA ≠ ho := by omega
  have nbA1 : bA + 1 ≠ ho := by omega
  refine hk_putF (ref := "LightcurveHouse") X K gH32_ho rfl iX10_init_X10 tyX10 tyX10_ok nmX10 hS hZm 8 (by decide) (by decide +kernel) (fun _ h => h) (by decide +kernel) hnm (by decide +kernel) rfl rfl (Nat.le_of_ble_eq_true rfl) dX10_init_96 (fun H33 locsH33 hOH33 hzH33 hqH33 hS => ?_)
  have hOH33 : hk_O E ho 10 [.ref a2, .ref a6, .ref a10, .ref a14, .ref a18, .ref a22, .ref a26, .int 0, .ref a31, .null, .null, .null, .null] H33 := hOH33
  have fH33_a2 : hk_O E a2 0 [.int 0, .ref E.2.2.2.1, .int 0] H33 := va_at.kept gH32_a2 (hqH33 _ na2)
  have fH33_a6 : hk_O E a6 0 [.int 0, .ref E.2.2.2.1, .int 0] H33 := va_at.kept gH32_a6 (hqH33 _ na6)
  have fH33_a10 : hk_O E a10 0 [.int 0, .ref E.2.2.2.1, .int 0] H33 := va_at.kept gH32_a10 (hqH33 _ na10)
  have fH33_a14 : hk_O E a14 0 [.int 0, .ref E.2.2.2.1, .int 0] H33 := va_at.kept gH32_a14 (hqH33 _ na14)
  have fH33_a18 : hk_O E a18 0 [.int 0, .ref E.2.2.2.1, .int 0] H33 := va_at.kept gH32_a18 (hqH33 _ na18)
  have fH33_a22 : hk_O E a22 0 [.int 0, .ref E.2.2.2.1, .int 0] H33 := va_at.kept gH32_a22 (hqH33 _ na22)
  have fH33_a26 : hk_O E a26 0 [.int 0, .ref E.2.2.2.1, .int 0] H33 := va_at.kept gH32_a26 (hqH33 _ na26)
  have fH33_a31 : hk_O E a31 5 [.ref bA, .ref (bA + 1), .int 0] H33 := va_at.kept hOH32 (hqH33 _ na31)
  have fH33_bA := (hqH33 _ nbA).trans hIkH32
  have fH33_bA1 := (hqH33 _ nbA1).trans hIvH32
  have zH33 : H33.size = H0.size + 10 := hzH33.trans zH32
  refine lv_aload_n hx hb dX10_init_99 rfl (lv_at hl 0 rfl) ?_
  refine hk_new (ci := 5) (fs := [.null, .null, .int 0]) X K rfl iX10_init_X5 tyX5 tyX5_ok (by decide +kernel) (by decide +kernel) (by decide +kernel) hS (fun j hj => by rcases (show j = 0 ∨ j = 1 ∨ j = 2 by omega) with rfl | rfl | rfl <;> rfl) (Nat.le_of_ble_eq_true rfl) (Nat.le_of_ble_eq_true rfl) dX10_init_100 (fun H34 hOH34 hzH34 hqH34 hS => ?_)
  obtain ⟨a35, ea35⟩ : ∃ z : Nat, z = H33.size := ⟨_, rfl⟩
  rw [← ea35] at hOH34 ⊢
  have fH34_ho : hk_O E ho 10 [.ref a2, .ref a6, .ref a10, .ref a14, .ref a18, .ref a22, .ref a26, .int 0, .ref a31, .null, .null, .null, .null] H34 := va_at.kept hOH33 (hqH34 _ (va_at.lt hOH33))
  have fH34_a2 : hk_O E a2 0 [.int 0, .ref E.2.2.2.1, .int 0] H34 := va_at.kept fH33_a2 (hqH34 _ (va_at.lt fH33_a2))
  have fH34_a6 : hk_O E a6 0 [.int 0, .ref E.2.2.2.1, .int 0] H34 := va_at.kept fH33_a6 (hqH34 _ (va_at.lt fH33_a6))
  have fH34_a10 : hk_O E a10 0 [.int 0, .ref E.2.2.2.1, .int 0] H34 := va_at.kept fH33_a10 (hqH34 _ (va_at.lt fH33_a10))
  have fH34_a14 : hk_O E a14 0 [.int 0, .ref E.2.2.2.1, .int 0] H34 := va_at.kept fH33_a14 (hqH34 _ (va_at.lt fH33_a14))
  have fH34_a18 : hk_O E a18 0 [.int 0, .ref E.2.2.2.1, .int 0] H34 := va_at.kept fH33_a18 (hqH34 _ (va_at.lt fH33_a18))
  have fH34_a22 : hk_O E a22 0 [.int 0, .ref E.2.2.2.1, .int 0] H34 := va_at.kept fH33_a22 (hqH34 _ (va_at.lt fH33_a22))
  have fH34_a26 : hk_O E a26 0 [.int 0, .ref E.2.2.2.1, .int 0] H34 := va_at.kept fH33_a26 (hqH34 _ (va_at.lt fH33_a26))
  have fH34_a31 : hk_O E a31 5 [.ref bA, .ref (bA + 1), .int 0] H34 := va_at.kept fH33_a31 (hqH34 _ (va_at.lt fH33_a31))
  have fH34_bA := (hqH34 _ (Array.getElem?_eq_some_iff.mp fH33_bA).1).trans fH33_bA
  have fH34_bA1 := (hqH34 _ (Array.getElem?_eq_some_iff.mp fH33_bA1).1).trans fH33_bA1
  have va35 : a35 = H0.size + 10 := ea35.trans zH33
  have na35 : a35 ≠ ho := by omega
  have zH34 : H34.size = H0.size + 11 := by rw [hzH34, zH33]
  refine lv_dup hx hb dX10_init_103 rfl ?_
  refine lv_bipush (v := 80) hx hb dX10_init_104 (by decide) ?_
  refine hk_callI 1 (As := [.int 80]) (rest := [.ref a35, .ref ho]) X K hAE hS hl.1 (c_X5_init E l H34 (m9 := 80) (by decide) hOH34 (hZA _ (hZn _ (by omega)))) (fun q h => h.elim (fun h => by rw [h]; exact hZn _ (by omega)) (fun h => hZn _ (by omega))) gX10_init_X5_init rfl (by decide +kernel) (by decide +kernel) (by decide +kernel) rfl hd_X5_init rfl ⟨⟨(Nat.le_of_ble_eq_true rfl), (Nat.le_of_ble_eq_true rfl)⟩, (Nat.le_of_ble_eq_true rfl), (Nat.le_of_ble_eq_true rfl)⟩ rfl (Nat.le_of_ble_eq_true rfl) dX10_init_106 (fun v9 H36 locsH36 hp hS hzH36 hkH36 => ?_)
  obtain ⟨hv, hOH36, hIkH36, hIvH36, hzzH36⟩ := hp
  subst hv
  obtain ⟨bB, ebB⟩ : ∃ z : Nat, z = H34.size := ⟨_, rfl⟩
  rw [← ebB] at hOH36 hIkH36 hIvH36
  have vbB : bB = H0.size + 11 := ebB.trans zH34
  have zH36 : H36.size = H0.size + 13 := by rw [hzzH36, zH34]
  have gH36_ho : hk_O E ho 10 [.ref a2, .ref a6, .ref a10, .ref a14, .ref a18, .ref a22, .ref a26, .int 0, .ref a31, .null, .null, .null, .null] H36 := va_at.kept fH34_ho (hkH36 _ (va_at.lt fH34_ho) (fun g => g.elim (fun g => absurd g (by omega)) (fun g => absurd (va_at.lt fH34_ho) (Nat.not_lt.mpr g))))
  have gH36_a2 : hk_O E a2 0 [.int 0, .ref E.2.2.2.1, .int 0] H36 := va_at.kept fH34_a2 (hkH36 _ (va_at.lt fH34_a2) (fun g => g.elim (fun g => absurd g (by omega)) (fun g => absurd (va_at.lt fH34_a2) (Nat.not_lt.mpr g))))
  have gH36_a6 : hk_O E a6 0 [.int 0, .ref E.2.2.2.1, .int 0] H36 := va_at.kept fH34_a6 (hkH36 _ (va_at.lt fH34_a6) (fun g => g.elim (fun g => absurd g (by omega)) (fun g => absurd (va_at.lt fH34_a6) (Nat.not_lt.mpr g))))
  have gH36_a10 : hk_O E a10 0 [.int 0, .ref E.2.2.2.1, .int 0] H36 := va_at.kept fH34_a10 (hkH36 _ (va_at.lt fH34_a10) (fun g => g.elim (fun g => absurd g (by omega)) (fun g => absurd (va_at.lt fH34_a10) (Nat.not_lt.mpr g))))
  have gH36_a14 : hk_O E a14 0 [.int 0, .ref E.2.2.2.1, .int 0] H36 := va_at.kept fH34_a14 (hkH36 _ (va_at.lt fH34_a14) (fun g => g.elim (fun g => absurd g (by omega)) (fun g => absurd (va_at.lt fH34_a14) (Nat.not_lt.mpr g))))
  have gH36_a18 : hk_O E a18 0 [.int 0, .ref E.2.2.2.1, .int 0] H36 := va_at.kept fH34_a18 (hkH36 _ (va_at.lt fH34_a18) (fun g => g.elim (fun g => absurd g (by omega)) (fun g => absurd (va_at.lt fH34_a18) (Nat.not_lt.mpr g))))
  have gH36_a22 : hk_O E a22 0 [.int 0, .ref E.2.2.2.1, .int 0] H36 := va_at.kept fH34_a22 (hkH36 _ (va_at.lt fH34_a22) (fun g => g.elim (fun g => absurd g (by omega)) (fun g => absurd (va_at.lt fH34_a22) (Nat.not_lt.mpr g))))
  have gH36_a26 : hk_O E a26 0 [.int 0, .ref E.2.2.2.1, .int 0] H36 := va_at.kept fH34_a26 (hkH36 _ (va_at.lt fH34_a26) (fun g => g.elim (fun g => absurd g (by omega)) (fun g => absurd (va_at.lt fH34_a26) (Nat.not_lt.mpr g))))
  have gH36_a31 : hk_O E a31 5 [.ref bA, .ref (bA + 1), .int 0] H36 := va_at.kept fH34_a31 (hkH36 _ (va_at.lt fH34_a31) (fun g => g.elim (fun g => absurd g (by omega)) (fun g => absurd (va_at.lt fH34_a31) (Nat.not_lt.mpr g))))
  have gH36_bA : hk_I E 0 bA 80 (fun _ => 0) H36 := (hkH36 _ (ar_lt fH34_bA) (fun g => g.elim (fun g => absurd g (by omega)) (fun g => absurd (ar_lt fH34_bA) (Nat.not_lt.mpr g)))).trans fH34_bA
  have gH36_bA1 : hk_I E 0 (bA + 1) 80 (fun _ => 0) H36 := (hkH36 _ (ar_lt fH34_bA1) (fun g => g.elim (fun g => absurd g (by omega)) (fun g => absurd (ar_lt fH34_bA1) (Nat.not_lt.mpr g)))).trans fH34_bA1
  have nbB : bB ≠ ho := by omega
  have nbB1 : bB + 1 ≠ ho := by omega
  refine hk_putF (ref := "LightcurveHouse") X K gH36_ho rfl iX10_init_X10 tyX10 tyX10_ok nmX10 hS hZm 9 (by decide) (by decide +kernel) (fun _ h => h) (by decide +kernel) hnm (by decide +kernel) rfl rfl (Nat.le_of_ble_eq_true rfl) dX10_init_109 (fun H37 locsH37 hOH37 hzH37 hqH37 hS => ?_)
  have hOH37 : hk_O E ho 10 [.ref a2, .ref a6, .ref a10, .ref a14, .ref a18, .ref a22, .ref a26, .int 0, .ref a31, .ref a35, .null, .null, .null] H37 := hOH37
  have fH37_a2 : hk_O E a2 0 [.int 0, .ref E.2.2.2.1, .int 0] H37 := va_at.kept gH36_a2 (hqH37 _ na2)
  have fH37_a6 : hk_O E a6 0 [.int 0, .ref E.2.2.2.1, .int 0] H37 := va_at.kept gH36_a6 (hqH37 _ na6)
  have fH37_a10 : hk_O E a10 0 [.int 0, .ref E.2.2.2.1, .int 0] H37 := va_at.kept gH36_a10 (hqH37 _ na10)
  have fH37_a14 : hk_O E a14 0 [.int 0, .ref E.2.2.2.1, .int 0] H37 := va_at.kept gH36_a14 (hqH37 _ na14)
  have fH37_a18 : hk_O E a18 0 [.int 0, .ref E.2.2.2.1, .int 0] H37 := va_at.kept gH36_a18 (hqH37 _ na18)
  have fH37_a22 : hk_O E a22 0 [.int 0, .ref E.2.2.2.1, .int 0] H37 := va_at.kept gH36_a22 (hqH37 _ na22)
  have fH37_a26 : hk_O E a26 0 [.int 0, .ref E.2.2.2.1, .int 0] H37 := va_at.kept gH36_a26 (hqH37 _ na26)
  have fH37_a31 : hk_O E a31 5 [.ref bA, .ref (bA + 1), .int 0] H37 := va_at.kept gH36_a31 (hqH37 _ na31)
  have fH37_a35 : hk_O E a35 5 [.ref bB, .ref (bB + 1), .int 0] H37 := va_at.kept hOH36 (hqH37 _ na35)
  have fH37_bA := (hqH37 _ nbA).trans gH36_bA
  have fH37_bA1 := (hqH37 _ nbA1).trans gH36_bA1
  have fH37_bB := (hqH37 _ nbB).trans hIkH36
  have fH37_bB1 := (hqH37 _ nbB1).trans hIvH36
  have zH37 : H37.size = H0.size + 13 := hzH37.trans zH36
  refine lv_aload_n hx hb dX10_init_112 rfl (lv_at hl 0 rfl) ?_
  refine hk_new (ci := 5) (fs := [.null, .null, .int 0]) X K rfl iX10_init_X5 tyX5 tyX5_ok (by decide +kernel) (by decide +kernel) (by decide +kernel) hS (fun j hj => by rcases (show j = 0 ∨ j = 1 ∨ j = 2 by omega) with rfl | rfl | rfl <;> rfl) (Nat.le_of_ble_eq_true rfl) (Nat.le_of_ble_eq_true rfl) dX10_init_113 (fun H38 hOH38 hzH38 hqH38 hS => ?_)
  obtain ⟨a39, ea39⟩ : ∃ z : Nat, z = H37.size := ⟨_, rfl⟩
  rw [← ea39] at hOH38 ⊢
  have fH38_ho : hk_O E ho 10 [.ref a2, .ref a6, .ref a10, .ref a14, .ref a18, .ref a22, .ref a26, .int 0, .ref a31, .ref a35, .null, .null, .null] H38 := va_at.kept hOH37 (hqH38 _ (va_at.lt hOH37))
  have fH38_a2 : hk_O E a2 0 [.int 0, .ref E.2.2.2.1, .int 0] H38 := va_at.kept fH37_a2 (hqH38 _ (va_at.lt fH37_a2))
  have fH38_a6 : hk_O E a6 0 [.int 0, .ref E.2.2.2.1, .int 0] H38 := va_at.kept fH37_a6 (hqH38 _ (va_at.lt fH37_a6))
  have fH38_a10 : hk_O E a10 0 [.int 0, .ref E.2.2.2.1, .int 0] H38 := va_at.kept fH37_a10 (hqH38 _ (va_at.lt fH37_a10))
  have fH38_a14 : hk_O E a14 0 [.int 0, .ref E.2.2.2.1, .int 0] H38 := va_at.kept fH37_a14 (hqH38 _ (va_at.lt fH37_a14))
  have fH38_a18 : hk_O E a18 0 [.int 0, .ref E.2.2.2.1, .int 0] H38 := va_at.kept fH37_a18 (hqH38 _ (va_at.lt fH37_a18))
  have fH38_a22 : hk_O E a22 0 [.int 0, .ref E.2.2.2.1, .int 0] H38 := va_at.kept fH37_a22 (hqH38 _ (va_at.lt fH37_a22))
  have fH38_a26 : hk_O E a26 0 [.int 0, .ref E.2.2.2.1, .int 0] H38 := va_at.kept fH37_a26 (hqH38 _ (va_at.lt fH37_a26))
  have fH38_a31 : hk_O E a31 5 [.ref bA, .ref (bA + 1), .int 0] H38 := va_at.kept fH37_a31 (hqH38 _ (va_at.lt fH37_a31))
  have fH38_a35 : hk_O E a35 5 [.ref bB, .ref (bB + 1), .int 0] H38 := va_at.kept fH37_a35 (hqH38 _ (va_at.lt fH37_a35))
  have fH38_bA := (hqH38 _ (Array.getElem?_eq_some_iff.mp fH37_bA).1).trans fH37_bA
  have fH38_bA1 := (hqH38 _ (Array.getElem?_eq_some_iff.mp fH37_bA1).1).trans fH37_bA1
  have fH38_bB := (hqH38 _ (Array.getElem?_eq_some_iff.mp fH37_bB).1).trans fH37_bB
  have fH38_bB1 := (hqH38 _ (Array.getElem?_eq_some_iff.mp fH37_bB1).1).trans fH37_bB1
  have va39 : a39 = H0.size + 13 := ea39.trans zH37
  have na39 : a39 ≠ ho := by omega
  have zH38 : H38.size = H0.size + 14 := by rw [hzH38, zH37]
  refine lv_dup hx hb dX10_init_116 rfl ?_
  refine lv_bipush (v := 30) hx hb dX10_init_117 (by decide) ?_
  refine hk_callI 1 (As := [.int 30]) (rest := [.ref a39, .ref ho]) X K hAE hS hl.1 (c_X5_init E l H38 (m9 := 30) (by decide) hOH38 (hZA _ (hZn _ (by omega)))) (fun q h => h.elim (fun h => by rw [h]; exact hZn _ (by omega)) (fun h => hZn _ (by omega))) gX10_init_X5_init rfl (by decide +kernel) (by decide +kernel) (by decide +kernel) rfl hd_X5_init rfl ⟨⟨(Nat.le_of_ble_eq_true rfl), (Nat.le_of_ble_eq_true rfl)⟩, (Nat.le_of_ble_eq_true rfl), (Nat.le_of_ble_eq_true rfl)⟩ rfl (Nat.le_of_ble_eq_true rfl) dX10_init_119 (fun v9 H40 locsH40 hp hS hzH40 hkH40 => ?_)
  obtain ⟨hv, hOH40, hIkH40, hIvH40, hzzH40⟩ := hp
  subst hv
  obtain ⟨bC, ebC⟩ : ∃ z : Nat, z = H38.size := ⟨_, rfl⟩
  rw [← ebC] at hOH40 hIkH40 hIvH40
  have vbC : bC = H0.size + 14 := ebC.trans zH38
  have zH40 : H40.size = H0.size + 16 := by rw [hzzH40, zH38]
  have gH40_ho : hk_O E ho 10 [.ref a2, .ref a6, .ref a10, .ref a14, .ref a18, .ref a22, .ref a26, .int 0, .ref a31, .ref a35, .null, .null, .null] H40 := va_at.kept fH38_ho (hkH40 _ (va_at.lt fH38_ho) (fun g => g.elim (fun g => absurd g (by omega)) (fun g => absurd (va_at.lt fH38_ho) (Nat.not_lt.mpr g))))
  have gH40_a2 : hk_O E a2 0 [.int 0, .ref E.2.2.2.1, .int 0] H40 := va_at.kept fH38_a2 (hkH40 _ (va_at.lt fH38_a2) (fun g => g.elim (fun g => absurd g (by omega)) (fun g => absurd (va_at.lt fH38_a2) (Nat.not_lt.mpr g))))
  have gH40_a6 : hk_O E a6 0 [.int 0, .ref E.2.2.2.1, .int 0] H40 := va_at.kept fH38_a6 (hkH40 _ (va_at.lt fH38_a6) (fun g => g.elim (fun g => absurd g (by omega)) (fun g => absurd (va_at.lt fH38_a6) (Nat.not_lt.mpr g))))
  have gH40_a10 : hk_O E a10 0 [.int 0, .ref E.2.2.2.1, .int 0] H40 := va_at.kept fH38_a10 (hkH40 _ (va_at.lt fH38_a10) (fun g => g.elim (fun g => absurd g (by omega)) (fun g => absurd (va_at.lt fH38_a10) (Nat.not_lt.mpr g))))
  have gH40_a14 : hk_O E a14 0 [.int 0, .ref E.2.2.2.1, .int 0] H40 := va_at.kept fH38_a14 (hkH40 _ (va_at.lt fH38_a14) (fun g => g.elim (fun g => absurd g (by omega)) (fun g => absurd (va_at.lt fH38_a14) (Nat.not_lt.mpr g))))
  have gH40_a18 : hk_O E a18 0 [.int 0, .ref E.2.2.2.1, .int 0] H40 := va_at.kept fH38_a18 (hkH40 _ (va_at.lt fH38_a18) (fun g => g.elim (fun g => absurd g (by omega)) (fun g => absurd (va_at.lt fH38_a18) (Nat.not_lt.mpr g))))
  have gH40_a22 : hk_O E a22 0 [.int 0, .ref E.2.2.2.1, .int 0] H40 := va_at.kept fH38_a22 (hkH40 _ (va_at.lt fH38_a22) (fun g => g.elim (fun g => absurd g (by omega)) (fun g => absurd (va_at.lt fH38_a22) (Nat.not_lt.mpr g))))
  have gH40_a26 : hk_O E a26 0 [.int 0, .ref E.2.2.2.1, .int 0] H40 := va_at.kept fH38_a26 (hkH40 _ (va_at.lt fH38_a26) (fun g => g.elim (fun g => absurd g (by omega)) (fun g => absurd (va_at.lt fH38_a26) (Nat.not_lt.mpr g))))
  have gH40_a31 : hk_O E a31 5 [.ref bA, .ref (bA + 1), .int 0] H40 := va_at.kept fH38_a31 (hkH40 _ (va_at.lt fH38_a31) (fun g => g.elim (fun g => absurd g (by omega)) (fun g => absurd (va_at.lt fH38_a31) (Nat.not_lt.mpr g))))
  have gH40_a35 : hk_O E a35 5 [.ref bB, .ref (bB + 1), .int 0] H40 := va_at.kept fH38_a35 (hkH40 _ (va_at.lt fH38_a35) (fun g => g.elim (fun g => absurd g (by omega)) (fun g => absurd (va_at.lt fH38_a35) (Nat.not_lt.mpr g))))
  have gH40_bA : hk_I E 0 bA 80 (fun _ => 0) H40 := (hkH40 _ (ar_lt fH38_bA) (fun g => g.elim (fun g => absurd g (by omega)) (fun g => absurd (ar_lt fH38_bA) (Nat.not_lt.mpr g)))).trans fH38_bA
  have gH40_bA1 : hk_I E 0 (bA + 1) 80 (fun _ => 0) H40 := (hkH40 _ (ar_lt fH38_bA1) (fun g => g.elim (fun g => absurd g (by omega)) (fun g => absurd (ar_lt fH38_bA1) (Nat.not_lt.mpr g)))).trans fH38_bA1
  have gH40_bB : hk_I E 0 bB 80 (fun _ => 0) H40 := (hkH40 _ (ar_lt fH38_bB) (fun g => g.elim (fun g => absurd g (by omega)) (fun g => absurd (ar_lt fH38_bB) (Nat.not_lt.mpr g)))).trans fH38_bB
  have gH40_bB1 : hk_I E 0 (bB + 1) 80 (fun _ => 0) H40 := (hkH40 _ (ar_lt fH38_bB1) (fun g => g.elim (fun g => absurd g (by omega)) (fun g => absurd (ar_lt fH38_bB1) (Nat.not_lt.mpr g)))).trans fH38_bB1
  have nbC : bC ≠ ho := by omega
  have nbC1 : bC + 1 ≠ ho := by omega
  refine hk_putF (ref := "LightcurveHouse") X K gH40_ho rfl iX10_init_X10 tyX10 tyX10_ok nmX10 hS hZm 10 (by decide) (by decide +kernel) (fun _ h => h) (by decide +kernel) hnm (by decide +kernel) rfl rfl (Nat.le_of_ble_eq_true rfl) dX10_init_122 (fun H41 locsH41 hOH41 hzH41 hqH41 hS => ?_)
  have hOH41 : hk_O E ho 10 [.ref a2, .ref a6, .ref a10, .ref a14, .ref a18, .ref a22, .ref a26, .int 0, .ref a31, .ref a35, .ref a39, .null, .null] H41 := hOH41
  have fH41_a2 : hk_O E a2 0 [.int 0, .ref E.2.2.2.1, .int 0] H41 := va_at.kept gH40_a2 (hqH41 _ na2)
  have fH41_a6 : hk_O E a6 0 [.int 0, .ref E.2.2.2.1, .int 0] H41 := va_at.kept gH40_a6 (hqH41 _ na6)
  have fH41_a10 : hk_O E a10 0 [.int 0, .ref E.2.2.2.1, .int 0] H41 := va_at.kept gH40_a10 (hqH41 _ na10)
  have fH41_a14 : hk_O E a14 0 [.int 0, .ref E.2.2.2.1, .int 0] H41 := va_at.kept gH40_a14 (hqH41 _ na14)
  have fH41_a18 : hk_O E a18 0 [.int 0, .ref E.2.2.2.1, .int 0] H41 := va_at.kept gH40_a18 (hqH41 _ na18)
  have fH41_a22 : hk_O E a22 0 [.int 0, .ref E.2.2.2.1, .int 0] H41 := va_at.kept gH40_a22 (hqH41 _ na22)
  have fH41_a26 : hk_O E a26 0 [.int 0, .ref E.2.2.2.1, .int 0] H41 := va_at.kept gH40_a26 (hqH41 _ na26)
  have fH41_a31 : hk_O E a31 5 [.ref bA, .ref (bA + 1), .int 0] H41 := va_at.kept gH40_a31 (hqH41 _ na31)
  have fH41_a35 : hk_O E a35 5 [.ref bB, .ref (bB + 1), .int 0] H41 := va_at.kept gH40_a35 (hqH41 _ na35)
  have fH41_a39 : hk_O E a39 5 [.ref bC, .ref (bC + 1), .int 0] H41 := va_at.kept hOH40 (hqH41 _ na39)
  have fH41_bA := (hqH41 _ nbA).trans gH40_bA
  have fH41_bA1 := (hqH41 _ nbA1).trans gH40_bA1
  have fH41_bB := (hqH41 _ nbB).trans gH40_bB
  have fH41_bB1 := (hqH41 _ nbB1).trans gH40_bB1
  have fH41_bC := (hqH41 _ nbC).trans hIkH40
  have fH41_bC1 := (hqH41 _ nbC1).trans hIvH40
  have zH41 : H41.size = H0.size + 16 := hzH41.trans zH40
  refine lv_aload_n hx hb dX10_init_125 rfl (lv_at hl 0 rfl) ?_
  refine hk_new (ci := 5) (fs := [.null, .null, .int 0]) X K rfl iX10_init_X5 tyX5 tyX5_ok (by decide +kernel) (by decide +kernel) (by decide +kernel) hS (fun j hj => by rcases (show j = 0 ∨ j = 1 ∨ j = 2 by omega) with rfl | rfl | rfl <;> rfl) (Nat.le_of_ble_eq_true rfl) (Nat.le_of_ble_eq_true rfl) dX10_init_126 (fun H42 hOH42 hzH42 hqH42 hS => ?_)
  obtain ⟨a43, ea43⟩ : ∃ z : Nat, z = H41.size := ⟨_, rfl⟩
  rw [← ea43] at hOH42 ⊢
  have fH42_ho : hk_O E ho 10 [.ref a2, .ref a6, .ref a10, .ref a14, .ref a18, .ref a22, .ref a26, .int 0, .ref a31, .ref a35, .ref a39, .null, .null] H42 := va_at.kept hOH41 (hqH42 _ (va_at.lt hOH41))
  have fH42_a2 : hk_O E a2 0 [.int 0, .ref E.2.2.2.1, .int 0] H42 := va_at.kept fH41_a2 (hqH42 _ (va_at.lt fH41_a2))
  have fH42_a6 : hk_O E a6 0 [.int 0, .ref E.2.2.2.1, .int 0] H42 := va_at.kept fH41_a6 (hqH42 _ (va_at.lt fH41_a6))
  have fH42_a10 : hk_O E a10 0 [.int 0, .ref E.2.2.2.1, .int 0] H42 := va_at.kept fH41_a10 (hqH42 _ (va_at.lt fH41_a10))
  have fH42_a14 : hk_O E a14 0 [.int 0, .ref E.2.2.2.1, .int 0] H42 := va_at.kept fH41_a14 (hqH42 _ (va_at.lt fH41_a14))
  have fH42_a18 : hk_O E a18 0 [.int 0, .ref E.2.2.2.1, .int 0] H42 := va_at.kept fH41_a18 (hqH42 _ (va_at.lt fH41_a18))
  have fH42_a22 : hk_O E a22 0 [.int 0, .ref E.2.2.2.1, .int 0] H42 := va_at.kept fH41_a22 (hqH42 _ (va_at.lt fH41_a22))
  have fH42_a26 : hk_O E a26 0 [.int 0, .ref E.2.2.2.1, .int 0] H42 := va_at.kept fH41_a26 (hqH42 _ (va_at.lt fH41_a26))
  have fH42_a31 : hk_O E a31 5 [.ref bA, .ref (bA + 1), .int 0] H42 := va_at.kept fH41_a31 (hqH42 _ (va_at.lt fH41_a31))
  have fH42_a35 : hk_O E a35 5 [.ref bB, .ref (bB + 1), .int 0] H42 := va_at.kept fH41_a35 (hqH42 _ (va_at.lt fH41_a35))
  have fH42_a39 : hk_O E a39 5 [.ref bC, .ref (bC + 1), .int 0] H42 := va_at.kept fH41_a39 (hqH42 _ (va_at.lt fH41_a39))
  have fH42_bA := (hqH42 _ (Array.getElem?_eq_some_iff.mp fH41_bA).1).trans fH41_bA
  have fH42_bA1 := (hqH42 _ (Array.getElem?_eq_some_iff.mp fH41_bA1).1).trans fH41_bA1
  have fH42_bB := (hqH42 _ (Array.getElem?_eq_some_iff.mp fH41_bB).1).trans fH41_bB
  have fH42_bB1 := (hqH42 _ (Array.getElem?_eq_some_iff.mp fH41_bB1).1).trans fH41_bB1
  have fH42_bC := (hqH42 _ (Array.getElem?_eq_some_iff.mp fH41_bC).1).trans fH41_bC
  have fH42_bC1 := (hqH42 _ (Array.getElem?_eq_some_iff.mp fH41_bC1).1).trans fH41_bC1
  have va43 : a43 = H0.size + 16 := ea43.trans zH41
  have na43 : a43 ≠ ho := by omega
  have zH42 : H42.size = H0.size + 17 := by rw [hzH42, zH41]
  refine lv_dup hx hb dX10_init_129 rfl ?_
  refine lv_bipush (v := 12) hx hb dX10_init_130 (by decide) ?_
  refine hk_callI 1 (As := [.int 12]) (rest := [.ref a43, .ref ho]) X K hAE hS hl.1 (c_X5_init E l H42 (m9 := 12) (by decide) hOH42 (hZA _ (hZn _ (by omega)))) (fun q h => h.elim (fun h => by rw [h]; exact hZn _ (by omega)) (fun h => hZn _ (by omega))) gX10_init_X5_init rfl (by decide +kernel) (by decide +kernel) (by decide +kernel) rfl hd_X5_init rfl ⟨⟨(Nat.le_of_ble_eq_true rfl), (Nat.le_of_ble_eq_true rfl)⟩, (Nat.le_of_ble_eq_true rfl), (Nat.le_of_ble_eq_true rfl)⟩ rfl (Nat.le_of_ble_eq_true rfl) dX10_init_132 (fun v9 H44 locsH44 hp hS hzH44 hkH44 => ?_)
  obtain ⟨hv, hOH44, hIkH44, hIvH44, hzzH44⟩ := hp
  subst hv
  obtain ⟨bD, ebD⟩ : ∃ z : Nat, z = H42.size := ⟨_, rfl⟩
  rw [← ebD] at hOH44 hIkH44 hIvH44
  have vbD : bD = H0.size + 17 := ebD.trans zH42
  have zH44 : H44.size = H0.size + 19 := by rw [hzzH44, zH42]
  have gH44_ho : hk_O E ho 10 [.ref a2, .ref a6, .ref a10, .ref a14, .ref a18, .ref a22, .ref a26, .int 0, .ref a31, .ref a35, .ref a39, .null, .null] H44 := va_at.kept fH42_ho (hkH44 _ (va_at.lt fH42_ho) (fun g => g.elim (fun g => absurd g (by omega)) (fun g => absurd (va_at.lt fH42_ho) (Nat.not_lt.mpr g))))
  have gH44_a2 : hk_O E a2 0 [.int 0, .ref E.2.2.2.1, .int 0] H44 := va_at.kept fH42_a2 (hkH44 _ (va_at.lt fH42_a2) (fun g => g.elim (fun g => absurd g (by omega)) (fun g => absurd (va_at.lt fH42_a2) (Nat.not_lt.mpr g))))
  have gH44_a6 : hk_O E a6 0 [.int 0, .ref E.2.2.2.1, .int 0] H44 := va_at.kept fH42_a6 (hkH44 _ (va_at.lt fH42_a6) (fun g => g.elim (fun g => absurd g (by omega)) (fun g => absurd (va_at.lt fH42_a6) (Nat.not_lt.mpr g))))
  have gH44_a10 : hk_O E a10 0 [.int 0, .ref E.2.2.2.1, .int 0] H44 := va_at.kept fH42_a10 (hkH44 _ (va_at.lt fH42_a10) (fun g => g.elim (fun g => absurd g (by omega)) (fun g => absurd (va_at.lt fH42_a10) (Nat.not_lt.mpr g))))
  have gH44_a14 : hk_O E a14 0 [.int 0, .ref E.2.2.2.1, .int 0] H44 := va_at.kept fH42_a14 (hkH44 _ (va_at.lt fH42_a14) (fun g => g.elim (fun g => absurd g (by omega)) (fun g => absurd (va_at.lt fH42_a14) (Nat.not_lt.mpr g))))
  have gH44_a18 : hk_O E a18 0 [.int 0, .ref E.2.2.2.1, .int 0] H44 := va_at.kept fH42_a18 (hkH44 _ (va_at.lt fH42_a18) (fun g => g.elim (fun g => absurd g (by omega)) (fun g => absurd (va_at.lt fH42_a18) (Nat.not_lt.mpr g))))
  have gH44_a22 : hk_O E a22 0 [.int 0, .ref E.2.2.2.1, .int 0] H44 := va_at.kept fH42_a22 (hkH44 _ (va_at.lt fH42_a22) (fun g => g.elim (fun g => absurd g (by omega)) (fun g => absurd (va_at.lt fH42_a22) (Nat.not_lt.mpr g))))
  have gH44_a26 : hk_O E a26 0 [.int 0, .ref E.2.2.2.1, .int 0] H44 := va_at.kept fH42_a26 (hkH44 _ (va_at.lt fH42_a26) (fun g => g.elim (fun g => absurd g (by omega)) (fun g => absurd (va_at.lt fH42_a26) (Nat.not_lt.mpr g))))
  have gH44_a31 : hk_O E a31 5 [.ref bA, .ref (bA + 1), .int 0] H44 := va_at.kept fH42_a31 (hkH44 _ (va_at.lt fH42_a31) (fun g => g.elim (fun g => absurd g (by omega)) (fun g => absurd (va_at.lt fH42_a31) (Nat.not_lt.mpr g))))
  have gH44_a35 : hk_O E a35 5 [.ref bB, .ref (bB + 1), .int 0] H44 := va_at.kept fH42_a35 (hkH44 _ (va_at.lt fH42_a35) (fun g => g.elim (fun g => absurd g (by omega)) (fun g => absurd (va_at.lt fH42_a35) (Nat.not_lt.mpr g))))
  have gH44_a39 : hk_O E a39 5 [.ref bC, .ref (bC + 1), .int 0] H44 := va_at.kept fH42_a39 (hkH44 _ (va_at.lt fH42_a39) (fun g => g.elim (fun g => absurd g (by omega)) (fun g => absurd (va_at.lt fH42_a39) (Nat.not_lt.mpr g))))
  have gH44_bA : hk_I E 0 bA 80 (fun _ => 0) H44 := (hkH44 _ (ar_lt fH42_bA) (fun g => g.elim (fun g => absurd g (by omega)) (fun g => absurd (ar_lt fH42_bA) (Nat.not_lt.mpr g)))).trans fH42_bA
  have gH44_bA1 : hk_I E 0 (bA + 1) 80 (fun _ => 0) H44 := (hkH44 _ (ar_lt fH42_bA1) (fun g => g.elim (fun g => absurd g (by omega)) (fun g => absurd (ar_lt fH42_bA1) (Nat.not_lt.mpr g)))).trans fH42_bA1
  have gH44_bB : hk_I E 0 bB 80 (fun _ => 0) H44 := (hkH44 _ (ar_lt fH42_bB) (fun g => g.elim (fun g => absurd g (by omega)) (fun g => absurd (ar_lt fH42_bB) (Nat.not_lt.mpr g)))).trans fH42_bB
  have gH44_bB1 : hk_I E 0 (bB + 1) 80 (fun _ => 0) H44 := (hkH44 _ (ar_lt fH42_bB1) (fun g => g.elim (fun g => absurd g (by omega)) (fun g => absurd (ar_lt fH42_bB1) (Nat.not_lt.mpr g)))).trans fH42_bB1
  have gH44_bC : hk_I E 0 bC 30 (fun _ => 0) H44 := (hkH44 _ (ar_lt fH42_bC) (fun g => g.elim (fun g => absurd g (by omega)) (fun g => absurd (ar_lt fH42_bC) (Nat.not_lt.mpr g)))).trans fH42_bC
  have gH44_bC1 : hk_I E 0 (bC + 1) 30 (fun _ => 0) H44 := (hkH44 _ (ar_lt fH42_bC1) (fun g => g.elim (fun g => absurd g (by omega)) (fun g => absurd (ar_lt fH42_bC1) (Nat.not_lt.mpr g)))).trans fH42_bC1
  have nbD : bD ≠ ho := by omega
  have nbD1 : bD + 1 ≠ ho := by omega
  refine hk_putF (ref := "LightcurveHouse") X K gH44_ho rfl iX10_init_X10 tyX10 tyX10_ok nmX10 hS hZm 11 (by decide) (by decide +kernel) (fun _ h => h) (by decide +kernel) hnm (by decide +kernel) rfl rfl (Nat.le_of_ble_eq_true rfl) dX10_init_135 (fun H45 locsH45 hOH45 hzH45 hqH45 hS => ?_)
  have hOH45 : hk_O E ho 10 [.ref a2, .ref a6, .ref a10, .ref a14, .ref a18, .ref a22, .ref a26, .int 0, .ref a31, .ref a35, .ref a39, .ref a43, .null] H45 := hOH45
  have fH45_a2 : hk_O E a2 0 [.int 0, .ref E.2.2.2.1, .int 0] H45 := va_at.kept gH44_a2 (hqH45 _ na2)
  have fH45_a6 : hk_O E a6 0 [.int 0, .ref E.2.2.2.1, .int 0] H45 := va_at.kept gH44_a6 (hqH45 _ na6)
  have fH45_a10 : hk_O E a10 0 [.int 0, .ref E.2.2.2.1, .int 0] H45 := va_at.kept gH44_a10 (hqH45 _ na10)
  have fH45_a14 : hk_O E a14 0 [.int 0, .ref E.2.2.2.1, .int 0] H45 := va_at.kept gH44_a14 (hqH45 _ na14)
  have fH45_a18 : hk_O E a18 0 [.int 0, .ref E.2.2.2.1, .int 0] H45 := va_at.kept gH44_a18 (hqH45 _ na18)
  have fH45_a22 : hk_O E a22 0 [.int 0, .ref E.2.2.2.1, .int 0] H45 := va_at.kept gH44_a22 (hqH45 _ na22)
  have fH45_a26 : hk_O E a26 0 [.int 0, .ref E.2.2.2.1, .int 0] H45 := va_at.kept gH44_a26 (hqH45 _ na26)
  have fH45_a31 : hk_O E a31 5 [.ref bA, .ref (bA + 1), .int 0] H45 := va_at.kept gH44_a31 (hqH45 _ na31)
  have fH45_a35 : hk_O E a35 5 [.ref bB, .ref (bB + 1), .int 0] H45 := va_at.kept gH44_a35 (hqH45 _ na35)
  have fH45_a39 : hk_O E a39 5 [.ref bC, .ref (bC + 1), .int 0] H45 := va_at.kept gH44_a39 (hqH45 _ na39)
  have fH45_a43 : hk_O E a43 5 [.ref bD, .ref (bD + 1), .int 0] H45 := va_at.kept hOH44 (hqH45 _ na43)
  have fH45_bA := (hqH45 _ nbA).trans gH44_bA
  have fH45_bA1 := (hqH45 _ nbA1).trans gH44_bA1
  have fH45_bB := (hqH45 _ nbB).trans gH44_bB
  have fH45_bB1 := (hqH45 _ nbB1).trans gH44_bB1
  have fH45_bC := (hqH45 _ nbC).trans gH44_bC
  have fH45_bC1 := (hqH45 _ nbC1).trans gH44_bC1
  have fH45_bD := (hqH45 _ nbD).trans hIkH44
  have fH45_bD1 := (hqH45 _ nbD1).trans hIvH44
  have zH45 : H45.size = H0.size + 19 := hzH45.trans zH44
  refine lv_aload_n hx hb dX10_init_138 rfl (lv_at hl 0 rfl) ?_
  refine lv_sipush (v := 200) hx hb dX10_init_139 (by decide) ?_
  refine hk_newi (N := 200) X K (by decide +kernel) hS (by decide) (by decide) (Nat.le_of_ble_eq_true rfl) (Nat.le_of_ble_eq_true rfl) (Nat.le_of_ble_eq_true rfl) dX10_init_142 (fun H46 hIH46 hzH46 hqH46 hS => ?_)
  obtain ⟨a47, ea47⟩ : ∃ z : Nat, z = H45.size := ⟨_, rfl⟩
  rw [← ea47] at hIH46 ⊢
  have fH46_ho : hk_O E ho 10 [.ref a2, .ref a6, .ref a10, .ref a14, .ref a18, .ref a22, .ref a26, .int 0, .ref a31, .ref a35, .ref a39, .ref a43, .null] H46 := va_at.kept hOH45 (hqH46 _ (va_at.lt hOH45))
  have fH46_a2 : hk_O E a2 0 [.int 0, .ref E.2.2.2.1, .int 0] H46 := va_at.kept fH45_a2 (hqH46 _ (va_at.lt fH45_a2))
  have fH46_a6 : hk_O E a6 0 [.int 0, .ref E.2.2.2.1, .int 0] H46 := va_at.kept fH45_a6 (hqH46 _ (va_at.lt fH45_a6))
  have fH46_a10 : hk_O E a10 0 [.int 0, .ref E.2.2.2.1, .int 0] H46 := va_at.kept fH45_a10 (hqH46 _ (va_at.lt fH45_a10))
  have fH46_a14 : hk_O E a14 0 [.int 0, .ref E.2.2.2.1, .int 0] H46 := va_at.kept fH45_a14 (hqH46 _ (va_at.lt fH45_a14))
  have fH46_a18 : hk_O E a18 0 [.int 0, .ref E.2.2.2.1, .int 0] H46 := va_at.kept fH45_a18 (hqH46 _ (va_at.lt fH45_a18))
  have fH46_a22 : hk_O E a22 0 [.int 0, .ref E.2.2.2.1, .int 0] H46 := va_at.kept fH45_a22 (hqH46 _ (va_at.lt fH45_a22))
  have fH46_a26 : hk_O E a26 0 [.int 0, .ref E.2.2.2.1, .int 0] H46 := va_at.kept fH45_a26 (hqH46 _ (va_at.lt fH45_a26))
  have fH46_a31 : hk_O E a31 5 [.ref bA, .ref (bA + 1), .int 0] H46 := va_at.kept fH45_a31 (hqH46 _ (va_at.lt fH45_a31))
  have fH46_a35 : hk_O E a35 5 [.ref bB, .ref (bB + 1), .int 0] H46 := va_at.kept fH45_a35 (hqH46 _ (va_at.lt fH45_a35))
  have fH46_a39 : hk_O E a39 5 [.ref bC, .ref (bC + 1), .int 0] H46 := va_at.kept fH45_a39 (hqH46 _ (va_at.lt fH45_a39))
  have fH46_a43 : hk_O E a43 5 [.ref bD, .ref (bD + 1), .int 0] H46 := va_at.kept fH45_a43 (hqH46 _ (va_at.lt fH45_a43))
  have fH46_bA := (hqH46 _ (Array.getElem?_eq_some_iff.mp fH45_bA).1).trans fH45_bA
  have fH46_bA1 := (hqH46 _ (Array.getElem?_eq_some_iff.mp fH45_bA1).1).trans fH45_bA1
  have fH46_bB := (hqH46 _ (Array.getElem?_eq_some_iff.mp fH45_bB).1).trans fH45_bB
  have fH46_bB1 := (hqH46 _ (Array.getElem?_eq_some_iff.mp fH45_bB1).1).trans fH45_bB1
  have fH46_bC := (hqH46 _ (Array.getElem?_eq_some_iff.mp fH45_bC).1).trans fH45_bC
  have fH46_bC1 := (hqH46 _ (Array.getElem?_eq_some_iff.mp fH45_bC1).1).trans fH45_bC1
  have fH46_bD := (hqH46 _ (Array.getElem?_eq_some_iff.mp fH45_bD).1).trans fH45_bD
  have fH46_bD1 := (hqH46 _ (Array.getElem?_eq_some_iff.mp fH45_bD1).1).trans fH45_bD1
  have va47 : a47 = H0.size + 19 := ea47.trans zH45
  have na47 : a47 ≠ ho := by omega
  have zH46 : H46.size = H0.size + 20 := by rw [hzH46, zH45]
  refine hk_putF (ref := "LightcurveHouse") X K fH46_ho rfl iX10_init_X10 tyX10 tyX10_ok nmX10 hS hZm 12 (by decide) (by decide +kernel) (fun _ h => h) (by decide +kernel) hnm (by decide +kernel) rfl rfl (Nat.le_of_ble_eq_true rfl) dX10_init_144 (fun H48 locsH48 hOH48 hzH48 hqH48 hS => ?_)
  have hOH48 : hk_O E ho 10 [.ref a2, .ref a6, .ref a10, .ref a14, .ref a18, .ref a22, .ref a26, .int 0, .ref a31, .ref a35, .ref a39, .ref a43, .ref a47] H48 := hOH48
  have fH48_a2 : hk_O E a2 0 [.int 0, .ref E.2.2.2.1, .int 0] H48 := va_at.kept fH46_a2 (hqH48 _ na2)
  have fH48_a6 : hk_O E a6 0 [.int 0, .ref E.2.2.2.1, .int 0] H48 := va_at.kept fH46_a6 (hqH48 _ na6)
  have fH48_a10 : hk_O E a10 0 [.int 0, .ref E.2.2.2.1, .int 0] H48 := va_at.kept fH46_a10 (hqH48 _ na10)
  have fH48_a14 : hk_O E a14 0 [.int 0, .ref E.2.2.2.1, .int 0] H48 := va_at.kept fH46_a14 (hqH48 _ na14)
  have fH48_a18 : hk_O E a18 0 [.int 0, .ref E.2.2.2.1, .int 0] H48 := va_at.kept fH46_a18 (hqH48 _ na18)
  have fH48_a22 : hk_O E a22 0 [.int 0, .ref E.2.2.2.1, .int 0] H48 := va_at.kept fH46_a22 (hqH48 _ na22)
  have fH48_a26 : hk_O E a26 0 [.int 0, .ref E.2.2.2.1, .int 0] H48 := va_at.kept fH46_a26 (hqH48 _ na26)
  have fH48_a31 : hk_O E a31 5 [.ref bA, .ref (bA + 1), .int 0] H48 := va_at.kept fH46_a31 (hqH48 _ na31)
  have fH48_a35 : hk_O E a35 5 [.ref bB, .ref (bB + 1), .int 0] H48 := va_at.kept fH46_a35 (hqH48 _ na35)
  have fH48_a39 : hk_O E a39 5 [.ref bC, .ref (bC + 1), .int 0] H48 := va_at.kept fH46_a39 (hqH48 _ na39)
  have fH48_a43 : hk_O E a43 5 [.ref bD, .ref (bD + 1), .int 0] H48 := va_at.kept fH46_a43 (hqH48 _ na43)
  have fH48_bA := (hqH48 _ nbA).trans fH46_bA
  have fH48_bA1 := (hqH48 _ nbA1).trans fH46_bA1
  have fH48_bB := (hqH48 _ nbB).trans fH46_bB
  have fH48_bB1 := (hqH48 _ nbB1).trans fH46_bB1
  have fH48_bC := (hqH48 _ nbC).trans fH46_bC
  have fH48_bC1 := (hqH48 _ nbC1).trans fH46_bC1
  have fH48_bD := (hqH48 _ nbD).trans fH46_bD
  have fH48_bD1 := (hqH48 _ nbD1).trans fH46_bD1
  have fH48_a47 := (hqH48 _ na47).trans hIH46
  have zH48 : H48.size = H0.size + 20 := hzH48.trans zH46
  have hK9 := K.at hAE hS
  have hW : HWn E Z (ho, i_li H0.size, i_rr H0.size, H0.size + 19) (i_G E H0.size) i_R S0 (fun _ => 0) H48 := by
    refine ⟨?_, fun j hj => ?_, fun r hr => ?_, ?_, fun j hj i hi => absurd hi (Nat.not_lt_zero _), i_T hlt0 hZm hZn hZA hK9.2.2.2.1⟩
    · have q := hOH48
      rw [va2, va6, va10, va14, va18, va22, va26, va31, va35, va39, va43, va47] at q
      exact q
    · rcases lt7 hj with g | g | g | g | g | g | g <;> subst g
      · have q := fH48_a2
        rw [va2] at q
        exact ⟨q, fun hc => absurd hc (Nat.lt_irrefl 0)⟩
      · have q := fH48_a6
        rw [va6] at q
        exact ⟨q, fun hc => absurd hc (Nat.lt_irrefl 0)⟩
      · have q := fH48_a10
        rw [va10] at q
        exact ⟨q, fun hc => absurd hc (Nat.lt_irrefl 0)⟩
      · have q := fH48_a14
        rw [va14] at q
        exact ⟨q, fun hc => absurd hc (Nat.lt_irrefl 0)⟩
      · have q := fH48_a18
        rw [va18] at q
        exact ⟨q, fun hc => absurd hc (Nat.lt_irrefl 0)⟩
      · have q := fH48_a22
        rw [va22] at q
        exact ⟨q, fun hc => absurd hc (Nat.lt_irrefl 0)⟩
      · have q := fH48_a26
        rw [va26] at q
        exact ⟨q, fun hc => absurd hc (Nat.lt_irrefl 0)⟩
    · rcases (show r = 0 ∨ r = 1 ∨ r = 2 ∨ r = 3 by omega) with g | g | g | g <;> subst g
      · have q1 := fH48_a31
        have q2 := fH48_bA
        have q3 := fH48_bA1
        rw [va31, vbA] at q1
        rw [vbA] at q2 q3
        exact ⟨⟨q1, q2, q3⟩, Nat.zero_le _⟩
      · have q1 := fH48_a35
        have q2 := fH48_bB
        have q3 := fH48_bB1
        rw [va35, vbB] at q1
        rw [vbB] at q2 q3
        exact ⟨⟨q1, q2, q3⟩, Nat.zero_le _⟩
      · have q1 := fH48_a39
        have q2 := fH48_bC
        have q3 := fH48_bC1
        rw [va39, vbC] at q1
        rw [vbC] at q2 q3
        exact ⟨⟨q1, q2, q3⟩, Nat.zero_le _⟩
      · have q1 := fH48_a43
        have q2 := fH48_bD
        have q3 := fH48_bD1
        rw [va43, vbD] at q1
        rw [vbD] at q2 q3
        exact ⟨⟨q1, q2, q3⟩, Nat.zero_le _⟩
    · have q := fH48_a47
      rw [va47] at q
      exact q
  have hz8 : H0.size ≤ H48.size := by omega
  refine lv_iconst (v := 0) hx hb dX10_init_147 (by decide) ?_
  refine lv_topi (fun z_49 ez_49 => ?_)
  have ez_49 : z_49 = nI 0 := ez_49
  subst ez_49
  refine lv_istore_n (lv' := [(1, .int (nI 0)), (0, .ref ho)]) hx hb dX10_init_148 rfl hl (by decide) rfl (fun ls hl => ?_)
  have L149 : ∀ (n8 : Nat) (k : Nat) (G : hG) (H : Heap) (locs : List Loc), 11 ≤ k + n8 → (va_S (Z) s.heap H locs ∧ k ≤ 10 ∧ HWn E Z (ho, i_li H0.size, i_rr H0.size, H0.size + 19) G i_R S0 (va_up (fun _ => 0) 0 k) H ∧ H0.size ≤ H.size) → ∀ (ls : Array Slot), lv_has ls 2 [(1, .int (nI k)), (0, .ref ho)] → W p l e rmX10_init s m args below meth c H locs (20 + 2 * k) (1100 + 151 * k) Q (F0 m 149 ls []) := by
    intro n8
    induction n8 with
    | zero =>
      intro k G H locs hm hinv ls hl
      obtain ⟨hS, hinv⟩ := hinv
      obtain ⟨hi1, hW, hz8⟩ := hinv
      exact absurd hm (by omega)
    | succ n8 ih =>
      intro k G H locs hm hinv ls hl
      obtain ⟨hS, hinv⟩ := hinv
      obtain ⟨hi1, hW, hz8⟩ := hinv
      refine lv_iload_n hx hb dX10_init_149 rfl (lv_at hl 0 rfl) ?_
      refine lv_bipush (v := 10) hx hb dX10_init_150 (by decide) ?_
      refine lv_icmp_ge (tgt := 176) hx hb dX10_init_152 (by decide) (fun c_152 => ?_) (fun c_152 => ?_)
      · have hk : 10 ≤ k := (nI_leI (a := 10) (by omega) (by omega)).mp c_152
        have hk10 : k = 10 := by omega
        subst hk10
        refine lv_iconst (v := 0) hx hb dX10_init_176 (by decide) ?_
        refine lv_topi (fun z_50 ez_50 => ?_)
        have ez_50 : z_50 = nI 0 := ez_50
        subst ez_50
        refine lv_istore_n (lv' := [(1, .int (nI 0)), (0, .ref ho)]) hx hb dX10_init_177 rfl hl (by decide) rfl (fun ls hl => ?_)
        have L178 : ∀ (n7 : Nat) (k : Nat) (G : hG) (H : Heap) (locs : List Loc), 9 ≤ k + n7 → (va_S (Z) s.heap H locs ∧ k ≤ 8 ∧ HWn E Z (ho, i_li H0.size, i_rr H0.size, H0.size + 19) G i_R S0 (va_up (va_up (fun _ => 0) 0 10) 1 k) H ∧ H0.size ≤ H.size) → ∀ (ls : Array Slot), lv_has ls 2 [(1, .int (nI k)), (0, .ref ho)] → W p l e rmX10_init s m args below meth c H locs (40 + 2 * k) (2700 + 152 * k) Q (F0 m 178 ls []) := by
          intro n7
          induction n7 with
          | zero =>
            intro k G H locs hm7 hinv ls hl
            obtain ⟨hS, hinv⟩ := hinv
            obtain ⟨hi1, hW, hz8⟩ := hinv
            exact absurd hm7 (by omega)
          | succ n7 ih7 =>
            intro k G H locs hm7 hinv ls hl
            obtain ⟨hS, hinv⟩ := hinv
            obtain ⟨hi1, hW, hz8⟩ := hinv
            refine lv_iload_n hx hb dX10_init_178 rfl (lv_at hl 0 rfl) ?_
            refine lv_bipush (v := 8) hx hb dX10_init_179 (by decide) ?_
            refine lv_icmp_ge (tgt := 205) hx hb dX10_init_181 (by decide) (fun c_181 => ?_) (fun c_181 => ?_)
            · have hk : 8 ≤ k := (nI_leI (a := 8) (by omega) (by omega)).mp c_181
              have hk8 : k = 8 := by omega
              subst hk8
              exact hk_vret X hr hlk hQ hS (Nat.le_of_ble_eq_true rfl) (Nat.le_of_ble_eq_true rfl) dX10_init_205 (⟨rfl, _, _, _, G, i_R, HWn.hw (by rw [N_fin] at hW; exact hW)⟩)
            · have hk : k < 8 := Nat.lt_of_not_le (fun h => c_181 (nI_le (a := 8) h (by omega)))
              refine lv_aload_n hx hb dX10_init_184 rfl (lv_at hl 1 rfl) ?_
              refine hk_get (ref := "LightcurveHouse") (v := .ref (i_li H0.size 1)) X K (hW.1) rfl iX10_init_X10 1 (by decide) (by decide +kernel) (fun _ h => h) rfl dX10_init_185 ?_
              refine hk_new (ci := 9) (fs := [.int 0, .int 0]) X K rfl iX10_init_X9 tyX9 tyX9_ok (by decide +kernel) (by decide +kernel) (by decide +kernel) hS (fun j hj => by rcases (show j = 0 ∨ j = 1 by omega) with rfl | rfl <;> rfl) (by show 40 + 2 * k + 1 ≤ 80; omega) (by show 2700 + 152 * k + 2 ≤ 4000; omega) dX10_init_188 (fun H51 hOH51 hzH51 hqH51 hS => ?_)
              obtain ⟨a52, ea52⟩ : ∃ z : Nat, z = H.size := ⟨_, rfl⟩
              rw [← ea52] at hOH51 ⊢
              refine lv_dup hx hb dX10_init_191 rfl ?_
              refine hk_callIN (host := RX10) 0 (As := []) (rest := [.ref a52, .ref (i_li H0.size 1)]) X K hAE hS hl.1 (c_X9_init E l H51 hOH51 (hZA _ (hZn _ (by omega)))) (fun q h => by rw [h]; exact hZn _ (by omega)) gX10_init_X9_init_n69 rfl (by decide +kernel) (by decide +kernel) (by decide +kernel) rfl hd_X9_init rfl ⟨⟨(Nat.le_of_ble_eq_true rfl), (Nat.le_of_ble_eq_true rfl)⟩, (by show 40 + 2 * k + 1 + 0 ≤ 80; omega), (by show 2700 + 152 * k + 2 + 0 ≤ 4000; omega)⟩ rfl (Nat.le_of_ble_eq_true rfl) dX10_init_192 (fun v9 H53 locsH53 hp hS hzH53 hkH53 => ?_)
              obtain ⟨hv, hOH53, hzzH53⟩ := hp
              subst hv
              have hbq : ∀ q : Nat, q < H.size → H53[q]? = H[q]? := fun q hq => (hkH53 q (by omega) (by omega)).trans (hqH51 q hq)
              have hWb := hW.kept (H1 := H53) (fun q hq _ => hbq q hq)
              refine hk_callV 1 (As := [.ref a52]) (rest := []) X K hAE hS hl.1 (hWb.2.1 1 (by decide)).1 rfl (c_haddn E l H53 hWb 1 (by decide) (show k ≤ 80 by omega) (v := a52) ⟨9, _, _, rfl, by decide +kernel, hOH53⟩ (fun g => by have q9 : i_li H0.size 1 < H.size := va_at.lt (hW.2.1 1 (by decide)).1; have q8 : a52 = i_li H0.size 1 := g; omega) (Nat.le_trans hbase (by omega))) (HWn.addA hWb (j0 := 1) (by decide) (fun q h => hZn q (by omega))) gX10_init_Jx4a65c_add_9ea2d rfl ⟨rfl, hd_Jx4a65c_add_9ea2d⟩ rfl ⟨⟨(Nat.le_of_ble_eq_true rfl), (Nat.le_of_ble_eq_true rfl)⟩, (by show 40 + 2 * k + 1 + 0 + 1 ≤ 80; omega), (by show 2700 + 152 * k + 2 + 0 + 150 ≤ 4000; omega)⟩ rfl (Nat.le_of_ble_eq_true rfl) dX10_init_195 (fun v9 H54 locsH54 hp hS hzH54 hkH54 => ?_)
              obtain ⟨hv, had⟩ := hp
              subst hv
              obtain ⟨G2, hW⟩ := HWn.add (N' := (va_up (va_up (fun _ => 0) 0 10) 1 (k + 1))) hW 1 (by decide) (v := a52) (by omega) (by omega) (fun q h => hZn q (by omega)) hbq hOH53 had hkH54 rfl (fun j9 h1 h2 => by unfold va_up; rw [if_neg h2, if_neg h2]) rfl (fun G9 ga => ⟨fun j9 i9 h1 h2 => by
                rcases lt7 h1 with g | g | g | g | g | g | g <;> subst g
                · exact ⟨rfl, rfl⟩
                · exact ⟨rfl, rfl⟩
                · exact absurd h2 (Nat.not_lt_zero _)
                · exact absurd h2 (Nat.not_lt_zero _)
                · exact absurd h2 (Nat.not_lt_zero _)
                · exact absurd h2 (Nat.not_lt_zero _)
                · exact absurd h2 (Nat.not_lt_zero _)
                , rfl, rfl⟩)
              refine lv_pop hx hb dX10_init_198 rfl ?_
              obtain ⟨q199, eq199⟩ : ∃ y : Int32, y = (nI k) + 1 := ⟨_, rfl⟩
              refine lv_iinc (v := q199) (lv' := [(1, .int q199), (0, .ref ho)]) hx hb dX10_init_199 hl (k := 0) rfl (by rw [eq199]; rfl) (by decide) rfl (fun ls hl => ?_)
              rw [nI_1] at eq199
              subst eq199
              refine lv_goto (tgt := 178) hx hb dX10_init_202 (by decide) ?_
              refine W.widen (k := 40 + 2 * (k + 1)) (n := 2700 + 152 * (k + 1)) (by show 40 + 2 * k + 1 + 0 + 1 ≤ _; omega) (by show 2700 + 152 * k + 2 + 0 + 150 ≤ _; omega) ?_
              exact ih7 (k + 1) G2 _ _ (by omega) ⟨hS, by omega, hW, by omega⟩ _ (lv_sub hl [0, 1] rfl)
        refine W.widen (k := 40 + 2 * 0) (n := 2700 + 152 * 0) (Nat.le_of_ble_eq_true rfl) (Nat.le_of_ble_eq_true rfl) ?_
        exact L178 9 0 G _ _ (by omega) ⟨hS, Nat.zero_le _, by rw [up_10 rfl]; exact hW, hz8⟩ _ (lv_sub hl [0, 1] rfl)
      · have hk : k < 10 := Nat.lt_of_not_le (fun h => c_152 (nI_le (a := 10) h (by omega)))
        refine lv_aload_n hx hb dX10_init_155 rfl (lv_at hl 1 rfl) ?_
        refine hk_get (ref := "LightcurveHouse") (v := .ref (i_li H0.size 0)) X K (hW.1) rfl iX10_init_X10 0 (by decide) (by decide +kernel) (fun _ h => h) rfl dX10_init_156 ?_
        refine hk_new (ci := 1) (fs := [.int 0]) X K rfl iX10_init_X0 tyX0 tyX0_ok (by decide +kernel) (by decide +kernel) (by decide +kernel) hS (fun j hj => by rcases (show j = 0 by omega) with rfl <;> rfl) (by show 20 + 2 * k + 1 ≤ 80; omega) (by show 1100 + 151 * k + 1 ≤ 4000; omega) dX10_init_159 (fun H55 hOH55 hzH55 hqH55 hS => ?_)
        obtain ⟨a56, ea56⟩ : ∃ z : Nat, z = H.size := ⟨_, rfl⟩
        rw [← ea56] at hOH55 ⊢
        refine lv_dup hx hb dX10_init_162 rfl ?_
        refine hk_callIN (host := RX10) 0 (As := []) (rest := [.ref a56, .ref (i_li H0.size 0)]) X K hAE hS hl.1 (c_X0_init E l H55 hOH55 (hZA _ (hZn _ (by omega)))) (fun q h => by rw [h]; exact hZn _ (by omega)) gX10_init_X0_init_n62 rfl (by decide +kernel) (by decide +kernel) (by decide +kernel) rfl hd_X0_init rfl ⟨⟨(Nat.le_of_ble_eq_true rfl), (Nat.le_of_ble_eq_true rfl)⟩, (by show 20 + 2 * k + 1 + 0 ≤ 80; omega), (by show 1100 + 151 * k + 1 + 0 ≤ 4000; omega)⟩ rfl (Nat.le_of_ble_eq_true rfl) dX10_init_163 (fun v9 H57 locsH57 hp hS hzH57 hkH57 => ?_)
        obtain ⟨hv, hOH57, hzzH57⟩ := hp
        subst hv
        have hbq : ∀ q : Nat, q < H.size → H57[q]? = H[q]? := fun q hq => (hkH57 q (by omega) (by omega)).trans (hqH55 q hq)
        have hWb := hW.kept (H1 := H57) (fun q hq _ => hbq q hq)
        refine hk_callV 1 (As := [.ref a56]) (rest := []) X K hAE hS hl.1 (hWb.2.1 0 (by decide)).1 rfl (c_haddn E l H57 hWb 0 (by decide) (show k ≤ 80 by omega) (v := a56) ⟨1, _, _, rfl, by decide +kernel, hOH57⟩ (fun g => by have q9 : i_li H0.size 0 < H.size := va_at.lt (hW.2.1 0 (by decide)).1; have q8 : a56 = i_li H0.size 0 := g; omega) (Nat.le_trans hbase (by omega))) (HWn.addA hWb (j0 := 0) (by decide) (fun q h => hZn q (by omega))) gX10_init_Jx4a65c_add_9ea2d rfl ⟨rfl, hd_Jx4a65c_add_9ea2d⟩ rfl ⟨⟨(Nat.le_of_ble_eq_true rfl), (Nat.le_of_ble_eq_true rfl)⟩, (by show 20 + 2 * k + 1 + 0 + 1 ≤ 80; omega), (by show 1100 + 151 * k + 1 + 0 + 150 ≤ 4000; omega)⟩ rfl (Nat.le_of_ble_eq_true rfl) dX10_init_166 (fun v9 H58 locsH58 hp hS hzH58 hkH58 => ?_)
        obtain ⟨hv, had⟩ := hp
        subst hv
        obtain ⟨G2, hW⟩ := HWn.add (N' := (va_up (fun _ => 0) 0 (k + 1))) hW 0 (by decide) (v := a56) (by omega) (by omega) (fun q h => hZn q (by omega)) hbq hOH57 had hkH58 rfl (fun j9 h1 h2 => by unfold va_up; rw [if_neg h2, if_neg h2]) rfl (fun G9 ga => ⟨fun j9 i9 h1 h2 => by
          rcases lt7 h1 with g | g | g | g | g | g | g <;> subst g
          · exact ⟨rfl, rfl⟩
          · exact absurd h2 (Nat.not_lt_zero _)
          · exact absurd h2 (Nat.not_lt_zero _)
          · exact absurd h2 (Nat.not_lt_zero _)
          · exact absurd h2 (Nat.not_lt_zero _)
          · exact absurd h2 (Nat.not_lt_zero _)
          · exact absurd h2 (Nat.not_lt_zero _)
          , rfl, by show [Value.int (if k < 10 then 1000 else 0)] = [Value.int 1000]; rw [if_pos hk]⟩)
        refine lv_pop hx hb dX10_init_169 rfl ?_
        obtain ⟨q170, eq170⟩ : ∃ y : Int32, y = (nI k) + 1 := ⟨_, rfl⟩
        refine lv_iinc (v := q170) (lv' := [(1, .int q170), (0, .ref ho)]) hx hb dX10_init_170 hl (k := 0) rfl (by rw [eq170]; rfl) (by decide) rfl (fun ls hl => ?_)
        rw [nI_1] at eq170
        subst eq170
        refine lv_goto (tgt := 149) hx hb dX10_init_173 (by decide) ?_
        refine W.widen (k := 20 + 2 * (k + 1)) (n := 1100 + 151 * (k + 1)) (by show 20 + 2 * k + 1 + 0 + 1 ≤ _; omega) (by show 1100 + 151 * k + 1 + 0 + 150 ≤ _; omega) ?_
        exact ih (k + 1) G2 _ _ (by omega) ⟨hS, by omega, hW, by omega⟩ _ (lv_sub hl [0, 1] rfl)
  refine W.widen (k := 20 + 2 * 0) (n := 1100 + 151 * 0) (Nat.le_of_ble_eq_true rfl) (Nat.le_of_ble_eq_true rfl) ?_
  exact L149 11 0 (i_G E H0.size) _ _ (by omega) ⟨hS, Nat.zero_le _, by rw [up_00]; exact hW, hz8⟩ _ (lv_sub hl [0, 1] rfl)

