abbrev rmX0_init : Room := { frames := 1, cells := 0, slots := 0, locals := 45 }
theorem iX0_init_X0 : ∀ w ∈ wsX00, w ∈ wsX0_init := by decide +kernel
set_option maxHeartbeats 4000000 in
set_option maxRecDepth 100000 in
theorem c_X0_init (E : hk_E) (l : Launch) (H0 : Heap) {a9 : Nat} (hO9 : hk_O E a9 1 [.int 0] H0) (hA9 : hk_A E a9) : hk_M E l yX0_init wsX0_init rmX0_init (fun q => q = a9) [.ref a9] H0 (fun z H1 => z = none ∧ hk_O E a9 1 [.int 1000] H1 ∧ H1.size = H0.size) := by
  refine hk_M.ofW (cc := cX0_init) (maxL := 1) (ret := none) (by decide +kernel) rfl (Nat.le_of_ble_eq_true rfl) ?_
  intro p e s m args below meth c ls Q hQ X hr hlk hnm K hs9 hS hl
  obtain ⟨hx, hb, hml, hown, hts⟩ := id X
  have hAE : ∀ q, (fun q => q = a9) q → hk_A E q := fun q h => by rw [h]; exact hA9
  have hl : lv_has ls 1 [(0, .ref a9)] := hl
  refine lv_aload_n hx hb dX0_init_0 rfl (lv_at hl 0 rfl) ?_
  refine W.objInit hx hb hown (hts (.methodLink RX0 3 objectInit) (by decide +kernel)) (hts (.instanceMethod objectInit) (by decide +kernel)) (hts (.code objectInit ⟨#[0xb1]⟩ 1 none) (by decide +kernel)) rfl (by rw [hml]; exact hl.1) rfl dX0_init_1 (Nat.le_of_ble_eq_true rfl) (Nat.le_of_ble_eq_true rfl) ?_
  refine W.eq (g2 := F0 m 4 ls []) rfl ?_
  refine lv_aload_n hx hb dX0_init_4 rfl (lv_at hl 0 rfl) ?_
  refine lv_sipush (v := 1000) hx hb dX0_init_5 (by decide) ?_
  refine hk_put (ref := "LightcurveHouse$Comparison") X K hO9 rfl iX0_init_X0 tyX0 tyX0_ok nmX0 hS rfl 0 (by decide) (by decide +kernel) (fun _ h => h) (by decide +kernel) rfl rfl (Nat.le_of_ble_eq_true rfl) dX0_init_8 (fun H1 locsH1 hOH1 hzH1 hqH1 hS => ?_)
  have hOH1 : hk_O E a9 1 [.int 1000] H1 := hOH1
  exact hk_vret X hr hlk hQ hS (Nat.le_of_ble_eq_true rfl) (Nat.le_of_ble_eq_true rfl) dX0_init_11 (⟨rfl, hOH1, by omega⟩)

abbrev rmX9_init : Room := { frames := 1, cells := 0, slots := 0, locals := 45 }
theorem iX9_init_X9 : ∀ w ∈ wsX90, w ∈ wsX9_init := by decide +kernel
set_option maxHeartbeats 4000000 in
set_option maxRecDepth 100000 in
theorem c_X9_init (E : hk_E) (l : Launch) (H0 : Heap) {a9 : Nat} (hO9 : hk_O E a9 9 [.int 0, .int 0] H0) (hA9 : hk_A E a9) : hk_M E l yX9_init wsX9_init rmX9_init (fun q => q = a9) [.ref a9] H0 (fun z H1 => z = none ∧ hk_O E a9 9 [.int 0, .int 0] H1 ∧ H1.size = H0.size) := by
  refine hk_M.ofW (cc := cX9_init) (maxL := 1) (ret := none) (by decide +kernel) rfl (Nat.le_of_ble_eq_true rfl) ?_
  intro p e s m args below meth c ls Q hQ X hr hlk hnm K hs9 hS hl
  obtain ⟨hx, hb, hml, hown, hts⟩ := id X
  have hAE : ∀ q, (fun q => q = a9) q → hk_A E q := fun q h => by rw [h]; exact hA9
  have hl : lv_has ls 1 [(0, .ref a9)] := hl
  refine lv_aload_n hx hb dX9_init_0 rfl (lv_at hl 0 rfl) ?_
  refine W.objInit hx hb hown (hts (.methodLink RX9 1 objectInit) (by decide +kernel)) (hts (.instanceMethod objectInit) (by decide +kernel)) (hts (.code objectInit ⟨#[0xb1]⟩ 1 none) (by decide +kernel)) rfl (by rw [hml]; exact hl.1) rfl dX9_init_1 (Nat.le_of_ble_eq_true rfl) (Nat.le_of_ble_eq_true rfl) ?_
  refine W.eq (g2 := F0 m 4 ls []) rfl ?_
  refine lv_aload_n hx hb dX9_init_4 rfl (lv_at hl 0 rfl) ?_
  refine lv_iconst (v := 0) hx hb dX9_init_5 (by decide) ?_
  refine hk_put (ref := "LightcurveHouse$Watcher") X K hO9 rfl iX9_init_X9 tyX9 tyX9_ok nmX9 hS rfl 0 (by decide) (by decide +kernel) (fun _ h => h) (by decide +kernel) rfl rfl (Nat.le_of_ble_eq_true rfl) dX9_init_6 (fun H1 locsH1 hOH1 hzH1 hqH1 hS => ?_)
  have hOH1 : hk_O E a9 9 [.int 0, .int 0] H1 := hOH1
  refine lv_aload_n hx hb dX9_init_9 rfl (lv_at hl 0 rfl) ?_
  refine lv_iconst (v := 0) hx hb dX9_init_10 (by decide) ?_
  refine hk_put (ref := "LightcurveHouse$Watcher") X K hOH1 rfl iX9_init_X9 tyX9 tyX9_ok nmX9 hS rfl 1 (by decide) (by decide +kernel) (fun _ h => h) (by decide +kernel) rfl rfl (Nat.le_of_ble_eq_true rfl) dX9_init_11 (fun H2 locsH2 hOH2 hzH2 hqH2 hS => ?_)
  have hOH2 : hk_O E a9 9 [.int 0, .int 0] H2 := hOH2
  exact hk_vret X hr hlk hQ hS (Nat.le_of_ble_eq_true rfl) (Nat.le_of_ble_eq_true rfl) dX9_init_14 (⟨rfl, hOH2, by omega⟩)

abbrev rmX7_init : Room := { frames := 1, cells := 0, slots := 0, locals := 45 }
theorem iX7_init_X7 : ∀ w ∈ wsX70, w ∈ wsX7_init := by decide +kernel
set_option maxHeartbeats 4000000 in
set_option maxRecDepth 100000 in
theorem c_X7_init (E : hk_E) (l : Launch) (H0 : Heap) {a9 : Nat} {u1 u2 : Int32} (hO9 : hk_O E a9 7 [.int 0, .int 0, .int 0, .int 0, .int 0] H0) (hA9 : hk_A E a9) : hk_M E l yX7_init wsX7_init rmX7_init (fun q => q = a9) [.ref a9, .int u1, .int u2] H0 (fun z H1 => z = none ∧ hk_O E a9 7 [.int u1, .int u2, .int u1, .int 0, .int 0] H1 ∧ H1.size = H0.size) := by
  refine hk_M.ofW (cc := cX7_init) (maxL := 3) (ret := none) (by decide +kernel) rfl (Nat.le_of_ble_eq_true rfl) ?_
  intro p e s m args below meth c ls Q hQ X hr hlk hnm K hs9 hS hl
  obtain ⟨hx, hb, hml, hown, hts⟩ := id X
  have hAE : ∀ q, (fun q => q = a9) q → hk_A E q := fun q h => by rw [h]; exact hA9
  have hl : lv_has ls 3 [(0, .ref a9), (1, .int u1), (2, .int u2)] := hl
  refine lv_aload_n hx hb dX7_init_0 rfl (lv_at hl 0 rfl) ?_
  refine W.objInit hx hb hown (hts (.methodLink RX7 3 objectInit) (by decide +kernel)) (hts (.instanceMethod objectInit) (by decide +kernel)) (hts (.code objectInit ⟨#[0xb1]⟩ 1 none) (by decide +kernel)) rfl (by rw [hml]; exact hl.1) rfl dX7_init_1 (Nat.le_of_ble_eq_true rfl) (Nat.le_of_ble_eq_true rfl) ?_
  refine W.eq (g2 := F0 m 4 ls []) rfl ?_
  refine lv_aload_n hx hb dX7_init_4 rfl (lv_at hl 0 rfl) ?_
  refine lv_iconst (v := 0) hx hb dX7_init_5 (by decide) ?_
  refine hk_put (ref := "LightcurveHouse$Star") X K hO9 rfl iX7_init_X7 tyX7 tyX7_ok nmX7 hS rfl 3 (by decide) (by decide +kernel) (fun _ h => h) (by decide +kernel) rfl rfl (Nat.le_of_ble_eq_true rfl) dX7_init_6 (fun H1 locsH1 hOH1 hzH1 hqH1 hS => ?_)
  have hOH1 : hk_O E a9 7 [.int 0, .int 0, .int 0, .int 0, .int 0] H1 := hOH1
  refine lv_aload_n hx hb dX7_init_9 rfl (lv_at hl 0 rfl) ?_
  refine lv_iconst (v := 0) hx hb dX7_init_10 (by decide) ?_
  refine hk_put (ref := "LightcurveHouse$Star") X K hOH1 rfl iX7_init_X7 tyX7 tyX7_ok nmX7 hS rfl 4 (by decide) (by decide +kernel) (fun _ h => h) (by decide +kernel) rfl rfl (Nat.le_of_ble_eq_true rfl) dX7_init_11 (fun H2 locsH2 hOH2 hzH2 hqH2 hS => ?_)
  have hOH2 : hk_O E a9 7 [.int 0, .int 0, .int 0, .int 0, .int 0] H2 := hOH2
  refine lv_aload_n hx hb dX7_init_14 rfl (lv_at hl 0 rfl) ?_
  refine lv_iload_n hx hb dX7_init_15 rfl (lv_at hl 1 rfl) ?_
  refine hk_putF (ref := "LightcurveHouse$Star") X K hOH2 rfl iX7_init_X7 tyX7 tyX7_ok nmX7 hS rfl 0 (by decide) (by decide +kernel) (fun _ h => h) (by decide +kernel) hnm (by decide +kernel) rfl rfl (Nat.le_of_ble_eq_true rfl) dX7_init_16 (fun H3 locsH3 hOH3 hzH3 hqH3 hS => ?_)
  have hOH3 : hk_O E a9 7 [.int u1, .int 0, .int 0, .int 0, .int 0] H3 := hOH3
  refine lv_aload_n hx hb dX7_init_19 rfl (lv_at hl 0 rfl) ?_
  refine lv_iload_n hx hb dX7_init_20 rfl (lv_at hl 2 rfl) ?_
  refine hk_putF (ref := "LightcurveHouse$Star") X K hOH3 rfl iX7_init_X7 tyX7 tyX7_ok nmX7 hS rfl 1 (by decide) (by decide +kernel) (fun _ h => h) (by decide +kernel) hnm (by decide +kernel) rfl rfl (Nat.le_of_ble_eq_true rfl) dX7_init_21 (fun H4 locsH4 hOH4 hzH4 hqH4 hS => ?_)
  have hOH4 : hk_O E a9 7 [.int u1, .int u2, .int 0, .int 0, .int 0] H4 := hOH4
  refine lv_aload_n hx hb dX7_init_24 rfl (lv_at hl 0 rfl) ?_
  refine lv_iload_n hx hb dX7_init_25 rfl (lv_at hl 1 rfl) ?_
  refine hk_put (ref := "LightcurveHouse$Star") X K hOH4 rfl iX7_init_X7 tyX7 tyX7_ok nmX7 hS rfl 2 (by decide) (by decide +kernel) (fun _ h => h) (by decide +kernel) rfl rfl (Nat.le_of_ble_eq_true rfl) dX7_init_26 (fun H5 locsH5 hOH5 hzH5 hqH5 hS => ?_)
  have hOH5 : hk_O E a9 7 [.int u1, .int u2, .int u1, .int 0, .int 0] H5 := hOH5
  exact hk_vret X hr hlk hQ hS (Nat.le_of_ble_eq_true rfl) (Nat.le_of_ble_eq_true rfl) dX7_init_29 (⟨rfl, hOH5, by omega⟩)

abbrev rmX4_init : Room := { frames := 1, cells := 0, slots := 0, locals := 45 }
theorem iX4_init_X4 : ∀ w ∈ wsX40, w ∈ wsX4_init := by decide +kernel
set_option maxHeartbeats 4000000 in
set_option maxRecDepth 100000 in
theorem c_X4_init (E : hk_E) (l : Launch) (H0 : Heap) {a9 : Nat} {u1 u2 u3 : Int32} (hO9 : hk_O E a9 4 [.int 0, .int 0, .int 0] H0) (hA9 : hk_A E a9) : hk_M E l yX4_init wsX4_init rmX4_init (fun q => q = a9) [.ref a9, .int u1, .int u2, .int u3] H0 (fun z H1 => z = none ∧ hk_O E a9 4 [.int u1, .int u3, .int u2] H1 ∧ H1.size = H0.size) := by
  refine hk_M.ofW (cc := cX4_init) (maxL := 4) (ret := none) (by decide +kernel) rfl (Nat.le_of_ble_eq_true rfl) ?_
  intro p e s m args below meth c ls Q hQ X hr hlk hnm K hs9 hS hl
  obtain ⟨hx, hb, hml, hown, hts⟩ := id X
  have hAE : ∀ q, (fun q => q = a9) q → hk_A E q := fun q h => by rw [h]; exact hA9
  have hl : lv_has ls 4 [(0, .ref a9), (1, .int u1), (2, .int u2), (3, .int u3)] := hl
  refine lv_aload_n hx hb dX4_init_0 rfl (lv_at hl 0 rfl) ?_
  refine W.objInit hx hb hown (hts (.methodLink RX4 1 objectInit) (by decide +kernel)) (hts (.instanceMethod objectInit) (by decide +kernel)) (hts (.code objectInit ⟨#[0xb1]⟩ 1 none) (by decide +kernel)) rfl (by rw [hml]; exact hl.1) rfl dX4_init_1 (Nat.le_of_ble_eq_true rfl) (Nat.le_of_ble_eq_true rfl) ?_
  refine W.eq (g2 := F0 m 4 ls []) rfl ?_
  refine lv_aload_n hx hb dX4_init_4 rfl (lv_at hl 0 rfl) ?_
  refine lv_iload_n hx hb dX4_init_5 rfl (lv_at hl 1 rfl) ?_
  refine hk_putF (ref := "LightcurveHouse$Plate") X K hO9 rfl iX4_init_X4 tyX4 tyX4_ok nmX4 hS rfl 0 (by decide) (by decide +kernel) (fun _ h => h) (by decide +kernel) hnm (by decide +kernel) rfl rfl (Nat.le_of_ble_eq_true rfl) dX4_init_6 (fun H1 locsH1 hOH1 hzH1 hqH1 hS => ?_)
  have hOH1 : hk_O E a9 4 [.int u1, .int 0, .int 0] H1 := hOH1
  refine lv_aload_n hx hb dX4_init_9 rfl (lv_at hl 0 rfl) ?_
  refine lv_iload_n hx hb dX4_init_10 rfl (lv_at hl 2 rfl) ?_
  refine hk_put (ref := "LightcurveHouse$Plate") X K hOH1 rfl iX4_init_X4 tyX4 tyX4_ok nmX4 hS rfl 2 (by decide) (by decide +kernel) (fun _ h => h) (by decide +kernel) rfl rfl (Nat.le_of_ble_eq_true rfl) dX4_init_11 (fun H2 locsH2 hOH2 hzH2 hqH2 hS => ?_)
  have hOH2 : hk_O E a9 4 [.int u1, .int 0, .int u2] H2 := hOH2
  refine lv_aload_n hx hb dX4_init_14 rfl (lv_at hl 0 rfl) ?_
  refine lv_iload_n hx hb dX4_init_15 rfl (lv_at hl 3 rfl) ?_
  refine hk_putF (ref := "LightcurveHouse$Plate") X K hOH2 rfl iX4_init_X4 tyX4 tyX4_ok nmX4 hS rfl 1 (by decide) (by decide +kernel) (fun _ h => h) (by decide +kernel) hnm (by decide +kernel) rfl rfl (Nat.le_of_ble_eq_true rfl) dX4_init_16 (fun H3 locsH3 hOH3 hzH3 hqH3 hS => ?_)
  have hOH3 : hk_O E a9 4 [.int u1, .int u3, .int u2] H3 := hOH3
  exact hk_vret X hr hlk hQ hS (Nat.le_of_ble_eq_true rfl) (Nat.le_of_ble_eq_true rfl) dX4_init_19 (⟨rfl, hOH3, by omega⟩)

abbrev rmX3_init : Room := { frames := 1, cells := 0, slots := 0, locals := 45 }
theorem iX3_init_X3 : ∀ w ∈ wsX30, w ∈ wsX3_init := by decide +kernel
set_option maxHeartbeats 4000000 in
set_option maxRecDepth 100000 in
theorem c_X3_init (E : hk_E) (l : Launch) (H0 : Heap) {a9 : Nat} {u1 : Int32} {o1 : Nat} (hO9 : hk_O E a9 3 [.null, .int 0] H0) (hA9 : hk_A E a9) : hk_M E l yX3_init wsX3_init rmX3_init (fun q => q = a9) [.ref a9, .ref o1, .int u1] H0 (fun z H1 => z = none ∧ hk_O E a9 3 [.ref o1, .int u1] H1 ∧ H1.size = H0.size) := by
  refine hk_M.ofW (cc := cX3_init) (maxL := 3) (ret := none) (by decide +kernel) rfl (Nat.le_of_ble_eq_true rfl) ?_
  intro p e s m args below meth c ls Q hQ X hr hlk hnm K hs9 hS hl
  obtain ⟨hx, hb, hml, hown, hts⟩ := id X
  have hAE : ∀ q, (fun q => q = a9) q → hk_A E q := fun q h => by rw [h]; exact hA9
  have hl : lv_has ls 3 [(0, .ref a9), (1, .ref o1), (2, .int u1)] := hl
  refine lv_aload_n hx hb dX3_init_0 rfl (lv_at hl 0 rfl) ?_
  refine W.objInit hx hb hown (hts (.methodLink RX3 1 objectInit) (by decide +kernel)) (hts (.instanceMethod objectInit) (by decide +kernel)) (hts (.code objectInit ⟨#[0xb1]⟩ 1 none) (by decide +kernel)) rfl (by rw [hml]; exact hl.1) rfl dX3_init_1 (Nat.le_of_ble_eq_true rfl) (Nat.le_of_ble_eq_true rfl) ?_
  refine W.eq (g2 := F0 m 4 ls []) rfl ?_
  refine lv_aload_n hx hb dX3_init_4 rfl (lv_at hl 0 rfl) ?_
  refine lv_aload_n hx hb dX3_init_5 rfl (lv_at hl 1 rfl) ?_
  refine hk_putF (ref := "LightcurveHouse$Minimum") X K hO9 rfl iX3_init_X3 tyX3 tyX3_ok nmX3 hS rfl 0 (by decide) (by decide +kernel) (fun _ h => h) (by decide +kernel) hnm (by decide +kernel) rfl rfl (Nat.le_of_ble_eq_true rfl) dX3_init_6 (fun H1 locsH1 hOH1 hzH1 hqH1 hS => ?_)
  have hOH1 : hk_O E a9 3 [.ref o1, .int 0] H1 := hOH1
  refine lv_aload_n hx hb dX3_init_9 rfl (lv_at hl 0 rfl) ?_
  refine lv_iload_n hx hb dX3_init_10 rfl (lv_at hl 2 rfl) ?_
  refine hk_putF (ref := "LightcurveHouse$Minimum") X K hOH1 rfl iX3_init_X3 tyX3 tyX3_ok nmX3 hS rfl 1 (by decide) (by decide +kernel) (fun _ h => h) (by decide +kernel) hnm (by decide +kernel) rfl rfl (Nat.le_of_ble_eq_true rfl) dX3_init_11 (fun H2 locsH2 hOH2 hzH2 hqH2 hS => ?_)
  have hOH2 : hk_O E a9 3 [.ref o1, .int u1] H2 := hOH2
  exact hk_vret X hr hlk hQ hS (Nat.le_of_ble_eq_true rfl) (Nat.le_of_ble_eq_true rfl) dX3_init_14 (⟨rfl, hOH2, by omega⟩)

abbrev rmX6_init : Room := { frames := 1, cells := 0, slots := 0, locals := 45 }
theorem iX6_init_X6 : ∀ w ∈ wsX60, w ∈ wsX6_init := by decide +kernel
set_option maxHeartbeats 4000000 in
set_option maxRecDepth 100000 in
theorem c_X6_init (E : hk_E) (l : Launch) (H0 : Heap) {a9 : Nat} {u1 u2 u3 u4 u5 : Int32} (hO9 : hk_O E a9 6 [.int 0, .int 0, .int 0, .int 0, .int 0, .int 0] H0) (hA9 : hk_A E a9) : hk_M E l yX6_init wsX6_init rmX6_init (fun q => q = a9) [.ref a9, .int u1, .int u2, .int u3, .int u4, .int u5] H0 (fun z H1 => z = none ∧ hk_O E a9 6 [.int u1, .int u2, .int u5, .int 0, .int u3, .int u4] H1 ∧ H1.size = H0.size) := by
  refine hk_M.ofW (cc := cX6_init) (maxL := 6) (ret := none) (by decide +kernel) rfl (Nat.le_of_ble_eq_true rfl) ?_
  intro p e s m args below meth c ls Q hQ X hr hlk hnm K hs9 hS hl
  obtain ⟨hx, hb, hml, hown, hts⟩ := id X
  have hAE : ∀ q, (fun q => q = a9) q → hk_A E q := fun q h => by rw [h]; exact hA9
  have hl : lv_has ls 6 [(0, .ref a9), (1, .int u1), (2, .int u2), (3, .int u3), (4, .int u4), (5, .int u5)] := hl
  refine lv_aload_n hx hb dX6_init_0 rfl (lv_at hl 0 rfl) ?_
  refine W.objInit hx hb hown (hts (.methodLink RX6 1 objectInit) (by decide +kernel)) (hts (.instanceMethod objectInit) (by decide +kernel)) (hts (.code objectInit ⟨#[0xb1]⟩ 1 none) (by decide +kernel)) rfl (by rw [hml]; exact hl.1) rfl dX6_init_1 (Nat.le_of_ble_eq_true rfl) (Nat.le_of_ble_eq_true rfl) ?_
  refine W.eq (g2 := F0 m 4 ls []) rfl ?_
  refine lv_aload_n hx hb dX6_init_4 rfl (lv_at hl 0 rfl) ?_
  refine lv_iconst (v := 0) hx hb dX6_init_5 (by decide) ?_
  refine hk_put (ref := "LightcurveHouse$Rule") X K hO9 rfl iX6_init_X6 tyX6 tyX6_ok nmX6 hS rfl 3 (by decide) (by decide +kernel) (fun _ h => h) (by decide +kernel) rfl rfl (Nat.le_of_ble_eq_true rfl) dX6_init_6 (fun H1 locsH1 hOH1 hzH1 hqH1 hS => ?_)
  have hOH1 : hk_O E a9 6 [.int 0, .int 0, .int 0, .int 0, .int 0, .int 0] H1 := hOH1
  refine lv_aload_n hx hb dX6_init_9 rfl (lv_at hl 0 rfl) ?_
  refine lv_iload_n hx hb dX6_init_10 rfl (lv_at hl 1 rfl) ?_
  refine hk_putF (ref := "LightcurveHouse$Rule") X K hOH1 rfl iX6_init_X6 tyX6 tyX6_ok nmX6 hS rfl 0 (by decide) (by decide +kernel) (fun _ h => h) (by decide +kernel) hnm (by decide +kernel) rfl rfl (Nat.le_of_ble_eq_true rfl) dX6_init_11 (fun H2 locsH2 hOH2 hzH2 hqH2 hS => ?_)
  have hOH2 : hk_O E a9 6 [.int u1, .int 0, .int 0, .int 0, .int 0, .int 0] H2 := hOH2
  refine lv_aload_n hx hb dX6_init_14 rfl (lv_at hl 0 rfl) ?_
  refine lv_iload_n hx hb dX6_init_15 rfl (lv_at hl 2 rfl) ?_
  refine hk_putF (ref := "LightcurveHouse$Rule") X K hOH2 rfl iX6_init_X6 tyX6 tyX6_ok nmX6 hS rfl 1 (by decide) (by decide +kernel) (fun _ h => h) (by decide +kernel) hnm (by decide +kernel) rfl rfl (Nat.le_of_ble_eq_true rfl) dX6_init_16 (fun H3 locsH3 hOH3 hzH3 hqH3 hS => ?_)
  have hOH3 : hk_O E a9 6 [.int u1, .int u2, .int 0, .int 0, .int 0, .int 0] H3 := hOH3
  refine lv_aload_n hx hb dX6_init_19 rfl (lv_at hl 0 rfl) ?_
  refine lv_iload_n hx hb dX6_init_20 rfl (lv_at hl 3 rfl) ?_
  refine hk_putF (ref := "LightcurveHouse$Rule") X K hOH3 rfl iX6_init_X6 tyX6 tyX6_ok nmX6 hS rfl 4 (by decide) (by decide +kernel) (fun _ h => h) (by decide +kernel) hnm (by decide +kernel) rfl rfl (Nat.le_of_ble_eq_true rfl) dX6_init_21 (fun H4 locsH4 hOH4 hzH4 hqH4 hS => ?_)
  have hOH4 : hk_O E a9 6 [.int u1, .int u2, .int 0, .int 0, .int u3, .int 0] H4 := hOH4
  refine lv_aload_n hx hb dX6_init_24 rfl (lv_at hl 0 rfl) ?_
  refine lv_iload hx hb dX6_init_25 (lv_at hl 4 rfl) ?_
  refine hk_putF (ref := "LightcurveHouse$Rule") X K hOH4 rfl iX6_init_X6 tyX6 tyX6_ok nmX6 hS rfl 5 (by decide) (by decide +kernel) (fun _ h => h) (by decide +kernel) hnm (by decide +kernel) rfl rfl (Nat.le_of_ble_eq_true rfl) dX6_init_27 (fun H5 locsH5 hOH5 hzH5 hqH5 hS => ?_)
  have hOH5 : hk_O E a9 6 [.int u1, .int u2, .int 0, .int 0, .int u3, .int u4] H5 := hOH5
  refine lv_aload_n hx hb dX6_init_30 rfl (lv_at hl 0 rfl) ?_
  refine lv_iload hx hb dX6_init_31 (lv_at hl 5 rfl) ?_
  refine hk_putF (ref := "LightcurveHouse$Rule") X K hOH5 rfl iX6_init_X6 tyX6 tyX6_ok nmX6 hS rfl 2 (by decide) (by decide +kernel) (fun _ h => h) (by decide +kernel) hnm (by decide +kernel) rfl rfl (Nat.le_of_ble_eq_true rfl) dX6_init_33 (fun H6 locsH6 hOH6 hzH6 hqH6 hS => ?_)
  have hOH6 : hk_O E a9 6 [.int u1, .int u2, .int u5, .int 0, .int u3, .int u4] H6 := hOH6
  exact hk_vret X hr hlk hQ hS (Nat.le_of_ble_eq_true rfl) (Nat.le_of_ble_eq_true rfl) dX6_init_36 (⟨rfl, hOH6, by omega⟩)

abbrev rmX2_init_8 : Room := { frames := 1, cells := 0, slots := 0, locals := 45 }
theorem iX2_init_X8 : ∀ w ∈ wsX80, w ∈ wsX2_init := by decide +kernel
set_option maxHeartbeats 4000000 in
set_option maxRecDepth 100000 in
theorem c_X2_init_8 (E : hk_E) (l : Launch) (H0 : Heap) {a9 : Nat} {o1 : Nat} (hO9 : hk_O E a9 8 [.null, .int 0, .null, .int 0, .null, .int 0, .int 0, .null] H0) (hA9 : hk_A E a9) : hk_M E l yX2_init wsX2_init rmX2_init_8 (fun q => q = a9) [.ref a9, .ref o1] H0 (fun z H1 => z = none ∧ hk_O E a9 8 [.ref o1, .int 0, .null, .int 0, .null, .int 0, .int 0, .null] H1 ∧ H1.size = H0.size) := by
  refine hk_M.ofW (cc := cX2_init) (maxL := 2) (ret := none) (by decide +kernel) rfl (Nat.le_of_ble_eq_true rfl) ?_
  intro p e s m args below meth c ls Q hQ X hr hlk hnm K hs9 hS hl
  obtain ⟨hx, hb, hml, hown, hts⟩ := id X
  have hAE : ∀ q, (fun q => q = a9) q → hk_A E q := fun q h => by rw [h]; exact hA9
  have hl : lv_has ls 2 [(0, .ref a9), (1, .ref o1)] := hl
  refine lv_aload_n hx hb dX2_init_0 rfl (lv_at hl 0 rfl) ?_
  refine W.objInit hx hb hown (hts (.methodLink RX2 1 objectInit) (by decide +kernel)) (hts (.instanceMethod objectInit) (by decide +kernel)) (hts (.code objectInit ⟨#[0xb1]⟩ 1 none) (by decide +kernel)) rfl (by rw [hml]; exact hl.1) rfl dX2_init_1 (Nat.le_of_ble_eq_true rfl) (Nat.le_of_ble_eq_true rfl) ?_
  refine W.eq (g2 := F0 m 4 ls []) rfl ?_
  refine lv_aload_n hx hb dX2_init_4 rfl (lv_at hl 0 rfl) ?_
  refine lv_iconst (v := 0) hx hb dX2_init_5 (by decide) ?_
  refine hk_put (ref := "LightcurveHouse$Look") X K hO9 rfl iX2_init_X8 tyX8 tyX8_ok nmX8 hS rfl 1 (by decide) (by decide +kernel) (fun _ h => h) (by decide +kernel) rfl rfl (Nat.le_of_ble_eq_true rfl) dX2_init_6 (fun H1 locsH1 hOH1 hzH1 hqH1 hS => ?_)
  have hOH1 : hk_O E a9 8 [.null, .int 0, .null, .int 0, .null, .int 0, .int 0, .null] H1 := hOH1
  refine lv_aload_n hx hb dX2_init_9 rfl (lv_at hl 0 rfl) ?_
  refine lv_aload_n hx hb dX2_init_10 rfl (lv_at hl 1 rfl) ?_
  refine hk_putF (ref := "LightcurveHouse$Look") X K hOH1 rfl iX2_init_X8 tyX8 tyX8_ok nmX8 hS rfl 0 (by decide) (by decide +kernel) (fun _ h => h) (by decide +kernel) hnm (by decide +kernel) rfl rfl (Nat.le_of_ble_eq_true rfl) dX2_init_11 (fun H2 locsH2 hOH2 hzH2 hqH2 hS => ?_)
  have hOH2 : hk_O E a9 8 [.ref o1, .int 0, .null, .int 0, .null, .int 0, .int 0, .null] H2 := hOH2
  exact hk_vret X hr hlk hQ hS (Nat.le_of_ble_eq_true rfl) (Nat.le_of_ble_eq_true rfl) dX2_init_14 (⟨rfl, hOH2, by omega⟩)

abbrev rmX2_init_2 : Room := { frames := 1, cells := 0, slots := 0, locals := 45 }
theorem iX2_init_X1 : ∀ w ∈ wsX10, w ∈ wsX2_init := by decide +kernel
set_option maxHeartbeats 4000000 in
set_option maxRecDepth 100000 in
theorem c_X2_init_2 (E : hk_E) (l : Launch) (H0 : Heap) {a9 : Nat} {o1 : Nat} (hO9 : hk_O E a9 2 [.null, .int 0, .null, .int 0] H0) (hA9 : hk_A E a9) : hk_M E l yX2_init wsX2_init rmX2_init_2 (fun q => q = a9) [.ref a9, .ref o1] H0 (fun z H1 => z = none ∧ hk_O E a9 2 [.ref o1, .int 0, .null, .int 0] H1 ∧ H1.size = H0.size) := by
  refine hk_M.ofW (cc := cX2_init) (maxL := 2) (ret := none) (by decide +kernel) rfl (Nat.le_of_ble_eq_true rfl) ?_
  intro p e s m args below meth c ls Q hQ X hr hlk hnm K hs9 hS hl
  obtain ⟨hx, hb, hml, hown, hts⟩ := id X
  have hAE : ∀ q, (fun q => q = a9) q → hk_A E q := fun q h => by rw [h]; exact hA9
  have hl : lv_has ls 2 [(0, .ref a9), (1, .ref o1)] := hl
  refine lv_aload_n hx hb dX2_init_0 rfl (lv_at hl 0 rfl) ?_
  refine W.objInit hx hb hown (hts (.methodLink RX2 1 objectInit) (by decide +kernel)) (hts (.instanceMethod objectInit) (by decide +kernel)) (hts (.code objectInit ⟨#[0xb1]⟩ 1 none) (by decide +kernel)) rfl (by rw [hml]; exact hl.1) rfl dX2_init_1 (Nat.le_of_ble_eq_true rfl) (Nat.le_of_ble_eq_true rfl) ?_
  refine W.eq (g2 := F0 m 4 ls []) rfl ?_
  refine lv_aload_n hx hb dX2_init_4 rfl (lv_at hl 0 rfl) ?_
  refine lv_iconst (v := 0) hx hb dX2_init_5 (by decide) ?_
  refine hk_put (ref := "LightcurveHouse$Look") X K hO9 rfl iX2_init_X1 tyX1 tyX1_ok nmX1 hS rfl 1 (by decide) (by decide +kernel) (fun _ h => h) (by decide +kernel) rfl rfl (Nat.le_of_ble_eq_true rfl) dX2_init_6 (fun H1 locsH1 hOH1 hzH1 hqH1 hS => ?_)
  have hOH1 : hk_O E a9 2 [.null, .int 0, .null, .int 0] H1 := hOH1
  refine lv_aload_n hx hb dX2_init_9 rfl (lv_at hl 0 rfl) ?_
  refine lv_aload_n hx hb dX2_init_10 rfl (lv_at hl 1 rfl) ?_
  refine hk_putF (ref := "LightcurveHouse$Look") X K hOH1 rfl iX2_init_X1 tyX1 tyX1_ok nmX1 hS rfl 0 (by decide) (by decide +kernel) (fun _ h => h) (by decide +kernel) hnm (by decide +kernel) rfl rfl (Nat.le_of_ble_eq_true rfl) dX2_init_11 (fun H2 locsH2 hOH2 hzH2 hqH2 hS => ?_)
  have hOH2 : hk_O E a9 2 [.ref o1, .int 0, .null, .int 0] H2 := hOH2
  exact hk_vret X hr hlk hQ hS (Nat.le_of_ble_eq_true rfl) (Nat.le_of_ble_eq_true rfl) dX2_init_14 (⟨rfl, hOH2, by omega⟩)

theorem hd_X2_init : yX2_init.cls ≠ "java/lang/invoke/MethodHandle" ∧ yX2_init.cls ≠ "java/lang/invoke/VarHandle" ∧ (parseMethodDescriptor yX2_init.desc).map (fun d => d.parameters.length) = some 1 := ⟨by decide, by decide, by decide +kernel⟩
abbrev rmX8_init : Room := { frames := 2, cells := 0, slots := 0, locals := 66 }
theorem iX8_init_X8 : ∀ w ∈ wsX80, w ∈ wsX8_init := by decide +kernel
set_option maxHeartbeats 4000000 in
set_option maxRecDepth 100000 in
theorem c_X8_init (E : hk_E) (l : Launch) (H0 : Heap) {a9 : Nat} {u1 u2 u3 : Int32} {o1 o2 o3 o4 : Nat} (hO9 : hk_O E a9 8 [.null, .int 0, .null, .int 0, .null, .int 0, .int 0, .null] H0) (hA9 : hk_A E a9) : hk_M E l yX8_init wsX8_init rmX8_init (fun q => q = a9) [.ref a9, .ref o1, .ref o2, .int u1, .ref o3, .int u2, .int u3, .ref o4] H0 (fun z H1 => z = none ∧ hk_O E a9 8 [.ref o1, .int 0, .ref o2, .int u1, .ref o3, .int u2, .int u3, .ref o4] H1 ∧ H1.size = H0.size) := by
  refine hk_M.ofW (cc := cX8_init) (maxL := 8) (ret := none) (by decide +kernel) rfl (Nat.le_of_ble_eq_true rfl) ?_
  intro p e s m args below meth c ls Q hQ X hr hlk hnm K hs9 hS hl
  obtain ⟨hx, hb, hml, hown, hts⟩ := id X
  have hAE : ∀ q, (fun q => q = a9) q → hk_A E q := fun q h => by rw [h]; exact hA9
  have hl : lv_has ls 8 [(0, .ref a9), (1, .ref o1), (2, .ref o2), (3, .int u1), (4, .ref o3), (5, .int u2), (6, .int u3), (7, .ref o4)] := hl
  refine lv_aload_n hx hb dX8_init_0 rfl (lv_at hl 0 rfl) ?_
  refine lv_aload_n hx hb dX8_init_1 rfl (lv_at hl 1 rfl) ?_
  refine hk_callI 1 (As := [.ref o1]) (rest := []) X K hAE hS hl.1 (c_X2_init_8 E l H0 hO9 hA9) (fun _ h => h) gX8_init_X2_init rfl (by decide +kernel) (by decide +kernel) (by decide +kernel) rfl hd_X2_init rfl ⟨⟨(Nat.le_of_ble_eq_true rfl), (Nat.le_of_ble_eq_true rfl)⟩, (Nat.le_of_ble_eq_true rfl), (Nat.le_of_ble_eq_true rfl)⟩ rfl (Nat.le_of_ble_eq_true rfl) dX8_init_2 (fun v9 H1 locsH1 hp hS hzH1 hkH1 => ?_)
  obtain ⟨hv, hO9, hz9⟩ := hp
  subst hv
  refine lv_aload_n hx hb dX8_init_5 rfl (lv_at hl 0 rfl) ?_
  refine lv_aload_n hx hb dX8_init_6 rfl (lv_at hl 2 rfl) ?_
  refine hk_putF (ref := "LightcurveHouse$StepLook") X K hO9 rfl iX8_init_X8 tyX8 tyX8_ok nmX8 hS rfl 2 (by decide) (by decide +kernel) (fun _ h => h) (by decide +kernel) hnm (by decide +kernel) rfl rfl (Nat.le_of_ble_eq_true rfl) dX8_init_7 (fun H2 locsH2 hOH2 hzH2 hqH2 hS => ?_)
  have hOH2 : hk_O E a9 8 [.ref o1, .int 0, .ref o2, .int 0, .null, .int 0, .int 0, .null] H2 := hOH2
  refine lv_aload_n hx hb dX8_init_10 rfl (lv_at hl 0 rfl) ?_
  refine lv_iload_n hx hb dX8_init_11 rfl (lv_at hl 3 rfl) ?_
  refine hk_putF (ref := "LightcurveHouse$StepLook") X K hOH2 rfl iX8_init_X8 tyX8 tyX8_ok nmX8 hS rfl 3 (by decide) (by decide +kernel) (fun _ h => h) (by decide +kernel) hnm (by decide +kernel) rfl rfl (Nat.le_of_ble_eq_true rfl) dX8_init_12 (fun H3 locsH3 hOH3 hzH3 hqH3 hS => ?_)
  have hOH3 : hk_O E a9 8 [.ref o1, .int 0, .ref o2, .int u1, .null, .int 0, .int 0, .null] H3 := hOH3
  refine lv_aload_n hx hb dX8_init_15 rfl (lv_at hl 0 rfl) ?_
  refine lv_aload hx hb dX8_init_16 (lv_at hl 4 rfl) ?_
  refine hk_putF (ref := "LightcurveHouse$StepLook") X K hOH3 rfl iX8_init_X8 tyX8 tyX8_ok nmX8 hS rfl 4 (by decide) (by decide +kernel) (fun _ h => h) (by decide +kernel) hnm (by decide +kernel) rfl rfl (Nat.le_of_ble_eq_true rfl) dX8_init_18 (fun H4 locsH4 hOH4 hzH4 hqH4 hS => ?_)
  have hOH4 : hk_O E a9 8 [.ref o1, .int 0, .ref o2, .int u1, .ref o3, .int 0, .int 0, .null] H4 := hOH4
  refine lv_aload_n hx hb dX8_init_21 rfl (lv_at hl 0 rfl) ?_
  refine lv_iload hx hb dX8_init_22 (lv_at hl 5 rfl) ?_
  refine hk_putF (ref := "LightcurveHouse$StepLook") X K hOH4 rfl iX8_init_X8 tyX8 tyX8_ok nmX8 hS rfl 5 (by decide) (by decide +kernel) (fun _ h => h) (by decide +kernel) hnm (by decide +kernel) rfl rfl (Nat.le_of_ble_eq_true rfl) dX8_init_24 (fun H5 locsH5 hOH5 hzH5 hqH5 hS => ?_)
  have hOH5 : hk_O E a9 8 [.ref o1, .int 0, .ref o2, .int u1, .ref o3, .int u2, .int 0, .null] H5 := hOH5
  refine lv_aload_n hx hb dX8_init_27 rfl (lv_at hl 0 rfl) ?_
  refine lv_iload hx hb dX8_init_28 (lv_at hl 6 rfl) ?_
  refine hk_putF (ref := "LightcurveHouse$StepLook") X K hOH5 rfl iX8_init_X8 tyX8 tyX8_ok nmX8 hS rfl 6 (by decide) (by decide +kernel) (fun _ h => h) (by decide +kernel) hnm (by decide +kernel) rfl rfl (Nat.le_of_ble_eq_true rfl) dX8_init_30 (fun H6 locsH6 hOH6 hzH6 hqH6 hS => ?_)
  have hOH6 : hk_O E a9 8 [.ref o1, .int 0, .ref o2, .int u1, .ref o3, .int u2, .int u3, .null] H6 := hOH6
  refine lv_aload_n hx hb dX8_init_33 rfl (lv_at hl 0 rfl) ?_
  refine lv_aload hx hb dX8_init_34 (lv_at hl 7 rfl) ?_
  refine hk_putF (ref := "LightcurveHouse$StepLook") X K hOH6 rfl iX8_init_X8 tyX8 tyX8_ok nmX8 hS rfl 7 (by decide) (by decide +kernel) (fun _ h => h) (by decide +kernel) hnm (by decide +kernel) rfl rfl (Nat.le_of_ble_eq_true rfl) dX8_init_36 (fun H7 locsH7 hOH7 hzH7 hqH7 hS => ?_)
  have hOH7 : hk_O E a9 8 [.ref o1, .int 0, .ref o2, .int u1, .ref o3, .int u2, .int u3, .ref o4] H7 := hOH7
  exact hk_vret X hr hlk hQ hS (Nat.le_of_ble_eq_true rfl) (Nat.le_of_ble_eq_true rfl) dX8_init_39 (⟨rfl, hOH7, by omega⟩)

abbrev rmX1_init : Room := { frames := 2, cells := 0, slots := 0, locals := 66 }
theorem iX1_init_X1 : ∀ w ∈ wsX10, w ∈ wsX1_init := by decide +kernel
set_option maxHeartbeats 4000000 in
set_option maxRecDepth 100000 in
theorem c_X1_init (E : hk_E) (l : Launch) (H0 : Heap) {a9 : Nat} {u1 : Int32} {o1 o2 : Nat} (hO9 : hk_O E a9 2 [.null, .int 0, .null, .int 0] H0) (hA9 : hk_A E a9) : hk_M E l yX1_init wsX1_init rmX1_init (fun q => q = a9) [.ref a9, .ref o1, .ref o2, .int u1] H0 (fun z H1 => z = none ∧ hk_O E a9 2 [.ref o1, .int 0, .ref o2, .int u1] H1 ∧ H1.size = H0.size) := by
  refine hk_M.ofW (cc := cX1_init) (maxL := 4) (ret := none) (by decide +kernel) rfl (Nat.le_of_ble_eq_true rfl) ?_
  intro p e s m args below meth c ls Q hQ X hr hlk hnm K hs9 hS hl
  obtain ⟨hx, hb, hml, hown, hts⟩ := id X
  have hAE : ∀ q, (fun q => q = a9) q → hk_A E q := fun q h => by rw [h]; exact hA9
  have hl : lv_has ls 4 [(0, .ref a9), (1, .ref o1), (2, .ref o2), (3, .int u1)] := hl
  refine lv_aload_n hx hb dX1_init_0 rfl (lv_at hl 0 rfl) ?_
  refine lv_aload_n hx hb dX1_init_1 rfl (lv_at hl 1 rfl) ?_
  refine hk_callI 1 (As := [.ref o1]) (rest := []) X K hAE hS hl.1 (c_X2_init_2 E l H0 hO9 hA9) (fun _ h => h) gX1_init_X2_init rfl (by decide +kernel) (by decide +kernel) (by decide +kernel) rfl hd_X2_init rfl ⟨⟨(Nat.le_of_ble_eq_true rfl), (Nat.le_of_ble_eq_true rfl)⟩, (Nat.le_of_ble_eq_true rfl), (Nat.le_of_ble_eq_true rfl)⟩ rfl (Nat.le_of_ble_eq_true rfl) dX1_init_2 (fun v9 H1 locsH1 hp hS hzH1 hkH1 => ?_)
  obtain ⟨hv, hO9, hz9⟩ := hp
  subst hv
  refine lv_aload_n hx hb dX1_init_5 rfl (lv_at hl 0 rfl) ?_
  refine lv_aload_n hx hb dX1_init_6 rfl (lv_at hl 2 rfl) ?_
  refine hk_putF (ref := "LightcurveHouse$DensityLook") X K hO9 rfl iX1_init_X1 tyX1 tyX1_ok nmX1 hS rfl 2 (by decide) (by decide +kernel) (fun _ h => h) (by decide +kernel) hnm (by decide +kernel) rfl rfl (Nat.le_of_ble_eq_true rfl) dX1_init_7 (fun H2 locsH2 hOH2 hzH2 hqH2 hS => ?_)
  have hOH2 : hk_O E a9 2 [.ref o1, .int 0, .ref o2, .int 0] H2 := hOH2
  refine lv_aload_n hx hb dX1_init_10 rfl (lv_at hl 0 rfl) ?_
  refine lv_iload_n hx hb dX1_init_11 rfl (lv_at hl 3 rfl) ?_
  refine hk_putF (ref := "LightcurveHouse$DensityLook") X K hOH2 rfl iX1_init_X1 tyX1 tyX1_ok nmX1 hS rfl 3 (by decide) (by decide +kernel) (fun _ h => h) (by decide +kernel) hnm (by decide +kernel) rfl rfl (Nat.le_of_ble_eq_true rfl) dX1_init_12 (fun H3 locsH3 hOH3 hzH3 hqH3 hS => ?_)
  have hOH3 : hk_O E a9 2 [.ref o1, .int 0, .ref o2, .int u1] H3 := hOH3
  exact hk_vret X hr hlk hQ hS (Nat.le_of_ble_eq_true rfl) (Nat.le_of_ble_eq_true rfl) dX1_init_15 (⟨rfl, hOH3, by omega⟩)

