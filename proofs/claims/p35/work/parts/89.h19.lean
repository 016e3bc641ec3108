abbrev rmJxa1e45_init_da8c8 : Room := { frames := 1, cells := 0, slots := 0, locals := 45 }
set_option maxHeartbeats 4000000 in
set_option maxRecDepth 100000 in
theorem c_Jxa1e45_init_da8c8 (E : hk_E) (l : Launch) (H0 : Heap) {a9 : Nat} (hO9 : hk_O E a9 0 [.int 0, .null, .int 0] H0) (hA9 : hk_A E a9) : hk_M E l yJxa1e45_init_da8c8 wsJxa1e45_init_da8c8 rmJxa1e45_init_da8c8 (fun q => q = a9) [.ref a9] H0 (fun z H1 => z = none ∧ hk_O E a9 0 [.int 0, .null, .int 0] H1 ∧ H1.size = H0.size) := by
  refine hk_M.ofW (cc := cJxa1e45_init_da8c8) (maxL := 1) (ret := none) (by decide +kernel) rfl (Nat.le_of_ble_eq_true rfl) ?_
  intro p e s m args below meth c ls Q hQ X hr hlk hnm K hs9 hS hl
  obtain ⟨hx, hb, hml, hown, hts⟩ := id X
  have hAE : ∀ q, (fun q => q = a9) q → hk_A E q := fun q h => by rw [h]; exact hA9
  have hl : lv_has ls 1 [(0, .ref a9)] := hl
  refine lv_aload_n hx hb dJxa1e45_init_da8c8_0 rfl (lv_at hl 0 rfl) ?_
  refine W.objInit hx hb hown (hts (.methodLink RJxa1e45 1 objectInit) (by decide +kernel)) (hts (.instanceMethod objectInit) (by decide +kernel)) (hts (.code objectInit ⟨#[0xb1]⟩ 1 none) (by decide +kernel)) rfl (by rw [hml]; exact hl.1) rfl dJxa1e45_init_da8c8_1 (Nat.le_of_ble_eq_true rfl) (Nat.le_of_ble_eq_true rfl) ?_
  refine W.eq (g2 := F0 m 4 ls []) rfl ?_
  exact hk_vret X hr hlk hQ hS (Nat.le_of_ble_eq_true rfl) (Nat.le_of_ble_eq_true rfl) dJxa1e45_init_da8c8_4 (⟨rfl, hO9, by omega⟩)

theorem hd_Jxa1e45_init_da8c8 : yJxa1e45_init_da8c8.cls ≠ "java/lang/invoke/MethodHandle" ∧ yJxa1e45_init_da8c8.cls ≠ "java/lang/invoke/VarHandle" ∧ (parseMethodDescriptor yJxa1e45_init_da8c8.desc).map (fun d => d.parameters.length) = some 0 := ⟨by decide, by decide, by decide +kernel⟩
abbrev rmJxc12de_init_da8c8 : Room := { frames := 2, cells := 0, slots := 0, locals := 65 }
theorem iJxc12de_init_da8c8_Jx4a65c : ∀ w ∈ wsJx4a65c0, w ∈ wsJxc12de_init_da8c8 := by decide +kernel
set_option maxHeartbeats 4000000 in
set_option maxRecDepth 100000 in
theorem c_Jxc12de_init_da8c8 (E : hk_E) (l : Launch) (H0 : Heap) {a9 : Nat} (hO9 : hk_O E a9 0 [.int 0, .null, .int 0] H0) (hA9 : hk_A E a9) : hk_M E l yJxc12de_init_da8c8 wsJxc12de_init_da8c8 rmJxc12de_init_da8c8 (fun q => q = a9) [.ref a9] H0 (fun z H1 => z = none ∧ hk_O E a9 0 [.int 0, .null, .int 0] H1 ∧ H1.size = H0.size) := by
  refine hk_M.ofW (cc := cJxc12de_init_da8c8) (maxL := 1) (ret := none) (by decide +kernel) rfl (Nat.le_of_ble_eq_true rfl) ?_
  intro p e s m args below meth c ls Q hQ X hr hlk hnm K hs9 hS hl
  obtain ⟨hx, hb, hml, hown, hts⟩ := id X
  have hAE : ∀ q, (fun q => q = a9) q → hk_A E q := fun q h => by rw [h]; exact hA9
  have hl : lv_has ls 1 [(0, .ref a9)] := hl
  refine lv_aload_n hx hb dJxc12de_init_da8c8_0 rfl (lv_at hl 0 rfl) ?_
  refine hk_callI 0 (As := []) (rest := []) X K hAE hS hl.1 (c_Jxa1e45_init_da8c8 E l H0 hO9 hA9) (fun _ h => h) gJxc12de_init_da8c8_Jxa1e45_init_da8c8 rfl (by decide +kernel) (by decide +kernel) (by decide +kernel) rfl hd_Jxa1e45_init_da8c8 rfl ⟨⟨(Nat.le_of_ble_eq_true rfl), (Nat.le_of_ble_eq_true rfl)⟩, (Nat.le_of_ble_eq_true rfl), (Nat.le_of_ble_eq_true rfl)⟩ rfl (Nat.le_of_ble_eq_true rfl) dJxc12de_init_da8c8_1 (fun v9 H1 locsH1 hp hS hzH1 hkH1 => ?_)
  obtain ⟨hv, hO9, hz9⟩ := hp
  subst hv
  refine lv_aload_n hx hb dJxc12de_init_da8c8_4 rfl (lv_at hl 0 rfl) ?_
  refine lv_iconst (v := 0) hx hb dJxc12de_init_da8c8_5 (by decide) ?_
  refine hk_put (ref := "java/util/AbstractList") X K hO9 rfl iJxc12de_init_da8c8_Jx4a65c tyJx4a65c tyJx4a65c_ok nmJx4a65c hS rfl 0 (by decide) (by decide +kernel) (fun _ h => h) (by decide +kernel) rfl rfl (Nat.le_of_ble_eq_true rfl) dJxc12de_init_da8c8_6 (fun H2 locsH2 hOH2 hzH2 hqH2 hS => ?_)
  have hOH2 : hk_O E a9 0 [.int 0, .null, .int 0] H2 := hOH2
  exact hk_vret X hr hlk hQ hS (Nat.le_of_ble_eq_true rfl) (Nat.le_of_ble_eq_true rfl) dJxc12de_init_da8c8_9 (⟨rfl, hOH2, by omega⟩)

theorem hd_Jxc12de_init_da8c8 : yJxc12de_init_da8c8.cls ≠ "java/lang/invoke/MethodHandle" ∧ yJxc12de_init_da8c8.cls ≠ "java/lang/invoke/VarHandle" ∧ (parseMethodDescriptor yJxc12de_init_da8c8.desc).map (fun d => d.parameters.length) = some 0 := ⟨by decide, by decide, by decide +kernel⟩
abbrev rmJx4a65c_init_da8c8 : Room := { frames := 3, cells := 0, slots := 0, locals := 85 }
theorem iJx4a65c_init_da8c8_Jx4a65c : ∀ w ∈ wsJx4a65c0, w ∈ wsJx4a65c_init_da8c8 := by decide +kernel
set_option maxHeartbeats 4000000 in
set_option maxRecDepth 100000 in
theorem c_Jx4a65c_init_da8c8 (E : hk_E) (l : Launch) (H0 : Heap) {a9 : Nat} (hO9 : hk_O E a9 0 [.int 0, .null, .int 0] H0) (hA9 : hk_A E a9) : hk_M E l yJx4a65c_init_da8c8 wsJx4a65c_init_da8c8 rmJx4a65c_init_da8c8 (fun q => q = a9) [.ref a9] H0 (fun z H1 => z = none ∧ hk_O E a9 0 [.int 0, .ref E.2.2.2.1, .int 0] H1 ∧ H1.size = H0.size) := by
  refine hk_M.ofW (cc := cJx4a65c_init_da8c8) (maxL := 1) (ret := none) (by decide +kernel) rfl (Nat.le_of_ble_eq_true rfl) ?_
  intro p e s m args below meth c ls Q hQ X hr hlk hnm K hs9 hS hl
  obtain ⟨hx, hb, hml, hown, hts⟩ := id X
  have hAE : ∀ q, (fun q => q = a9) q → hk_A E q := fun q h => by rw [h]; exact hA9
  have hl : lv_has ls 1 [(0, .ref a9)] := hl
  refine lv_aload_n hx hb dJx4a65c_init_da8c8_0 rfl (lv_at hl 0 rfl) ?_
  refine hk_callI 0 (As := []) (rest := []) X K hAE hS hl.1 (c_Jxc12de_init_da8c8 E l H0 hO9 hA9) (fun _ h => h) gJx4a65c_init_da8c8_Jxc12de_init_da8c8 rfl (by decide +kernel) (by decide +kernel) (by decide +kernel) rfl hd_Jxc12de_init_da8c8 rfl ⟨⟨(Nat.le_of_ble_eq_true rfl), (Nat.le_of_ble_eq_true rfl)⟩, (Nat.le_of_ble_eq_true rfl), (Nat.le_of_ble_eq_true rfl)⟩ rfl (Nat.le_of_ble_eq_true rfl) dJx4a65c_init_da8c8_1 (fun v9 H1 locsH1 hp hS hzH1 hkH1 => ?_)
  obtain ⟨hv, hO9, hz9⟩ := hp
  subst hv
  refine lv_aload_n hx hb dJx4a65c_init_da8c8_4 rfl (lv_at hl 0 rfl) ?_
  refine va_gets hx hb (hk_Zs K hAE) hS hown (hts (.fieldLink RJx4a65c 39 "java/util/ArrayList" "DEFAULTCAPACITY_EMPTY_ELEMENTDATA" "[Ljava/lang/Object;") (by decide +kernel)) (fun _ h => h) dJx4a65c_init_da8c8_5 ?_
  refine hk_put (ref := "java/util/ArrayList") X K hO9 rfl iJx4a65c_init_da8c8_Jx4a65c tyJx4a65c tyJx4a65c_ok nmJx4a65c hS rfl 1 (by decide) (by decide +kernel) (fun _ h => h) (by decide +kernel) rfl rfl (Nat.le_of_ble_eq_true rfl) dJx4a65c_init_da8c8_8 (fun H2 locsH2 hOH2 hzH2 hqH2 hS => ?_)
  have hOH2 : hk_O E a9 0 [.int 0, .ref E.2.2.2.1, .int 0] H2 := hOH2
  exact hk_vret X hr hlk hQ hS (Nat.le_of_ble_eq_true rfl) (Nat.le_of_ble_eq_true rfl) dJx4a65c_init_da8c8_11 (⟨rfl, hOH2, by omega⟩)

abbrev rmX5_init : Room := { frames := 1, cells := 2, slots := 200, locals := 45 }
theorem iX5_init_X5 : ∀ w ∈ wsX50, w ∈ wsX5_init := by decide +kernel
set_option maxHeartbeats 4000000 in
set_option maxRecDepth 100000 in
theorem c_X5_init (E : hk_E) (l : Launch) (H0 : Heap) {a9 m9 : Nat} (hm9 : m9 ≤ 100) (hO9 : hk_O E a9 5 [.null, .null, .int 0] H0) (hA9 : hk_A E a9) : hk_M E l yX5_init wsX5_init rmX5_init (fun q => q = a9 ∨ H0.size ≤ q) [.ref a9, .int (nI m9)] H0 (fun z H1 => z = none ∧ hk_O E a9 5 [.ref H0.size, .ref (H0.size + 1), .int 0] H1 ∧ hk_I E 0 H0.size m9 (fun _ => 0) H1 ∧ hk_I E 0 (H0.size + 1) m9 (fun _ => 0) H1 ∧ H1.size = H0.size + 2) := by
  refine hk_M.ofW (cc := cX5_init) (maxL := 3) (ret := none) (by decide +kernel) rfl (Nat.le_of_ble_eq_true rfl) ?_
  intro p e s m args below meth c ls Q hQ X hr hlk hnm K hs9 hS hl
  obtain ⟨hx, hb, hml, hown, hts⟩ := id X
  have hAE : ∀ q, (fun q => q = a9 ∨ H0.size ≤ q) q → hk_A E q := fun q h => h.elim (fun h => by rw [h]; exact hA9) (fun h => Nat.le_trans (by rw [← hs9]; exact K.2.2.2.2.2.2.2) h)
  have hl : lv_has ls 3 [(0, .ref a9), (1, .int (nI m9))] := hl
  have hlt0 : a9 < H0.size := va_at.lt hO9
  refine lv_aload_n hx hb dX5_init_0 rfl (lv_at hl 0 rfl) ?_
  refine W.objInit hx hb hown (hts (.methodLink RX5 1 objectInit) (by decide +kernel)) (hts (.instanceMethod objectInit) (by decide +kernel)) (hts (.code objectInit ⟨#[0xb1]⟩ 1 none) (by decide +kernel)) rfl (by rw [hml]; exact hl.1) rfl dX5_init_1 (Nat.le_of_ble_eq_true rfl) (Nat.le_of_ble_eq_true rfl) ?_
  refine W.eq (g2 := F0 m 4 ls []) rfl ?_
  refine lv_aload_n hx hb dX5_init_4 rfl (lv_at hl 0 rfl) ?_
  refine lv_iconst (v := 0) hx hb dX5_init_5 (by decide) ?_
  refine hk_put (ref := "LightcurveHouse$Row") X K hO9 rfl iX5_init_X5 tyX5 tyX5_ok nmX5 hS (Or.inl rfl) 2 (by decide) (by decide +kernel) (fun _ h => h) (by decide +kernel) rfl rfl (Nat.le_of_ble_eq_true rfl) dX5_init_6 (fun H1 locsH1 hOH1 hzH1 hqH1 hS => ?_)
  have hOH1 : hk_O E a9 5 [.null, .null, .int 0] H1 := hOH1
  refine lv_iload_n hx hb dX5_init_9 rfl (lv_at hl 1 rfl) ?_
  refine lv_iconst (v := 0) hx hb dX5_init_10 (by decide) ?_
  refine va_mmax (rest := []) hx hb (by rw [hml]; exact hl.1.symm) hown (hts (.methodLink RX5 13 Lib.Math.max.name) (by decide +kernel)) (hts (.static Lib.Math.max.name) (by decide +kernel)) (hts (.initialized "java/lang/Math") (by decide +kernel)) (hts (.code Lib.Math.max.name Lib.Math.max.code 2 (some .int)) (by decide +kernel)) (Nat.le_of_ble_eq_true rfl) (Nat.le_of_ble_eq_true rfl) (Nat.zero_le _) (Nat.zero_le _) dX5_init_11 ?_
  refine lv_topi (fun mx emx => ?_)
  rw [show (if nI m9 < 0 then 0 else nI m9) = nI m9 from if_neg (nI_pos (by omega))] at emx
  subst emx
  refine lv_istore_n (lv' := [(2, .int (nI m9)), (0, .ref a9), (1, .int (nI m9))]) hx hb dX5_init_14 rfl hl (by decide) rfl (fun ls hl => ?_)
  refine lv_aload_n hx hb dX5_init_15 rfl (lv_at hl 1 rfl) ?_
  refine lv_iload_n hx hb dX5_init_16 rfl (lv_at hl 0 rfl) ?_
  refine hk_newi (N := m9) X K (by decide +kernel) hS (nI_pos (by omega)) (nI_clamp (by omega)) (by omega) (Nat.le_of_ble_eq_true rfl) (by show 0 + m9 ≤ 200; omega) dX5_init_17 (fun H2 hIH2 hzH2 hqH2 hS => ?_)
  obtain ⟨a3, ea3⟩ : ∃ z : Nat, z = H1.size := ⟨_, rfl⟩
  rw [← ea3] at hIH2 ⊢
  have fH2_a9 : hk_O E a9 5 [.null, .null, .int 0] H2 := va_at.kept hOH1 (hqH2 _ (va_at.lt hOH1))
  have v1 : a3 = H0.size := by omega
  refine W.widen (k := 1) (n := 100) (Nat.le_refl _) (by show 0 + m9 ≤ 100; omega) ?_
  refine hk_putF (ref := "LightcurveHouse$Row") X K fH2_a9 rfl iX5_init_X5 tyX5 tyX5_ok nmX5 hS (Or.inl rfl) 0 (by decide) (by decide +kernel) (fun _ h => h) (by decide +kernel) hnm (by decide +kernel) rfl rfl (Nat.le_of_ble_eq_true rfl) dX5_init_19 (fun H4 locsH4 hOH4 hzH4 hqH4 hS => ?_)
  have hOH4 : hk_O E a9 5 [.ref a3, .null, .int 0] H4 := hOH4
  have fH4_a3 := (hqH4 _ (by omega)).trans hIH2
  refine lv_aload_n hx hb dX5_init_22 rfl (lv_at hl 1 rfl) ?_
  refine lv_iload_n hx hb dX5_init_23 rfl (lv_at hl 0 rfl) ?_
  refine hk_newi (N := m9) X K (by decide +kernel) hS (nI_pos (by omega)) (nI_clamp (by omega)) (by omega) (Nat.le_of_ble_eq_true rfl) (by show 100 + m9 ≤ 200; omega) dX5_init_24 (fun H5 hIH5 hzH5 hqH5 hS => ?_)
  obtain ⟨a6, ea6⟩ : ∃ z : Nat, z = H4.size := ⟨_, rfl⟩
  rw [← ea6] at hIH5 ⊢
  have fH5_a9 : hk_O E a9 5 [.ref a3, .null, .int 0] H5 := va_at.kept hOH4 (hqH5 _ (va_at.lt hOH4))
  have fH5_a3 := (hqH5 _ (Array.getElem?_eq_some_iff.mp fH4_a3).1).trans fH4_a3
  have v2 : a6 = H0.size + 1 := by omega
  refine W.widen (k := 2) (n := 200) (Nat.le_refl _) (by show 100 + m9 ≤ 200; omega) ?_
  refine hk_putF (ref := "LightcurveHouse$Row") X K fH5_a9 rfl iX5_init_X5 tyX5 tyX5_ok nmX5 hS (Or.inl rfl) 1 (by decide) (by decide +kernel) (fun _ h => h) (by decide +kernel) hnm (by decide +kernel) rfl rfl (Nat.le_of_ble_eq_true rfl) dX5_init_26 (fun H7 locsH7 hOH7 hzH7 hqH7 hS => ?_)
  have hOH7 : hk_O E a9 5 [.ref a3, .ref a6, .int 0] H7 := hOH7
  have fH7_a3 := (hqH7 _ (by omega)).trans fH5_a3
  have fH7_a6 := (hqH7 _ (by omega)).trans hIH5
  exact hk_vret X hr hlk hQ hS (Nat.le_of_ble_eq_true rfl) (Nat.le_of_ble_eq_true rfl) dX5_init_29 (⟨rfl, by have q := hOH7; rw [v1, v2] at q; exact q, by have q := fH7_a3; rw [v1] at q; exact q, by have q := fH7_a6; rw [v2] at q; exact q, by omega⟩)

