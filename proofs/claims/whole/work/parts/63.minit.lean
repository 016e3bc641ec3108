/-- where the model's rows lie, behind the first free cell -/
def midx (k : Nat) : Nat := [0, 0, 1, 2, 3, 4, 5, 6, 0, 7, 8, 9, 0, 10, 11, 12, 13, 14, 15, 16, 17, 18, 0, 19, 20, 21, 22, 23, 24, 0, 25, 26, 0, 0, 0, 27, 28, 29, 0, 30, 31, 32].getD k 0
theorem midx_inj : ∀ j, j < 42 → ∀ k, k < 42 → 0 < mlen j → 0 < mlen k → midx j = midx k → j = k := by decide +kernel
theorem mlen_42 {k : Nat} (h : 0 < mlen k) : k < 42 := by
  refine Nat.lt_of_not_le (fun g => ?_)
  unfold mlen at h
  rw [List.getD_eq_getElem?_getD, List.getElem?_eq_none (by simpa using g)] at h
  exact absurd h (by decide)
def mz : Nat → Nat → Int32 := fun _ _ => 0
theorem va_up_id {μ : Nat → Nat → Int32} {k : Nat} : va_up μ k (μ k) = μ := by
  funext j
  unfold va_up
  by_cases e : j = k
  · rw [if_pos e, e]
  · rw [if_neg e]
abbrev rmX11_init : Room := { frames := 1, cells := 35, slots := 1500, locals := 45 }
theorem iX11_init_X11 : ∀ w ∈ wsX110, w ∈ wsX11_init := by decide +kernel
set_option maxHeartbeats 8000000 in
set_option maxRecDepth 100000 in
theorem c_X11_init (E : hk_E) (l : Launch) (H0 : Heap) {mo : Nat} {Z : Nat → Prop} (hO9 : hk_O E mo 11 [.null, .int 0, .null, .null, .null, .null, .null, .null, .int 0, .null, .null, .null, .int 0, .null, .null, .null, .null, .null, .null, .null, .null, .null, .int 0, .null, .null, .null, .null, .null, .null, .int 0, .null, .null, .int 0, .int 0, .int 0, .null, .null, .null, .int 0, .null, .null, .null] H0) (hZm : Z mo) (hZn : ∀ q, H0.size ≤ q → Z q) (hAm : hk_A E mo)  : hk_M E l yX11_init wsX11_init rmX11_init (fun q => q = mo ∨ H0.size ≤ q) [.ref mo] H0 (fun z H1 => z = none ∧ ∃ am, MW E mo am Z S0.1 S0.2.1 S0.2.2 H1) := by
  refine hk_M.ofW (cc := cX11_init) (maxL := 2) (ret := none) (by decide +kernel) rfl (Nat.le_of_ble_eq_true rfl) ?_
  intro p e s m args below meth c ls Q hQ X hr hlk hnm K hs9 hS hl
  obtain ⟨hx, hb, hml, hown, hts⟩ := id X
  have hAE : ∀ q, (fun q => q = mo ∨ H0.size ≤ q) q → hk_A E q := fun q h => h.elim (fun h => by rw [h]; exact hAm) (fun h => Nat.le_trans (by rw [← hs9]; exact K.2.2.2.2.2.2.2) h)
  have hl : lv_has ls 2 [(0, .ref mo)] := hl
  have hlt0 := va_at.lt hO9
  refine lv_aload_n hx hb dX11_init_0 rfl (lv_at hl 0 rfl) ?_
  refine W.objInit hx hb hown (hts (.methodLink RX11 1 objectInit) (by decide +kernel)) (hts (.instanceMethod objectInit) (by decide +kernel)) (hts (.code objectInit ⟨#[0xb1]⟩ 1 none) (by decide +kernel)) rfl (by rw [hml]; exact hl.1) rfl dX11_init_1 (Nat.le_of_ble_eq_true rfl) (Nat.le_of_ble_eq_true rfl) ?_
  refine W.eq (g2 := F0 m 4 ls []) rfl ?_
  refine lv_aload_n hx hb dX11_init_4 rfl (lv_at hl 0 rfl) ?_
  refine lv_bipush (v := 10) hx hb dX11_init_5 (by decide) ?_
  refine hk_newi (N := 10) X K (by decide +kernel) hS (by decide) (by decide) (Nat.le_of_ble_eq_true rfl) (Nat.le_of_ble_eq_true rfl) (Nat.le_of_ble_eq_true rfl) dX11_init_7 (fun H1 hIH1 hzH1 hqH1 hS => ?_)
  obtain ⟨a2, ea2⟩ : ∃ z : Nat, z = H0.size := ⟨_, rfl⟩
  rw [← ea2] at hIH1 ⊢
  have fH1_mo : hk_O E mo 11 [.null, .int 0, .null, .null, .null, .null, .null, .null, .int 0, .null, .null, .null, .int 0, .null, .null, .null, .null, .null, .null, .null, .null, .null, .int 0, .null, .null, .null, .null, .null, .null, .int 0, .null, .null, .int 0, .int 0, .int 0, .null, .null, .null, .int 0, .null, .null, .null] H1 := va_at.kept hO9 (hqH1 _ (va_at.lt hO9))
  have va2 : a2 = H0.size + 0 := ea2
  have zH1 : H1.size = H0.size + 1 := by rw [hzH1]
  have na2 : a2 ≠ mo := fun g => absurd hlt0 (by rw [← g, va2]; exact Nat.not_lt.mpr (Nat.le_add_right _ _))
  refine hk_putF (ref := "LightcurveHouseModel") X K fH1_mo rfl iX11_init_X11 tyX11 tyX11_ok nmX11 hS (Or.inl rfl) 0 (by decide) (by decide +kernel) (fun _ h => h) (by decide +kernel) hnm (by decide +kernel) rfl rfl (Nat.le_of_ble_eq_true rfl) dX11_init_9 (fun H3 locsH3 hOH3 hzH3 hqH3 hS => ?_)
  have hOH3 : hk_O E mo 11 [.ref a2, .int 0, .null, .null, .null, .null, .null, .null, .int 0, .null, .null, .null, .int 0, .null, .null, .null, .null, .null, .null, .null, .null, .null, .int 0, .null, .null, .null, .null, .null, .null, .int 0, .null, .null, .int 0, .int 0, .int 0, .null, .null, .null, .int 0, .null, .null, .null] H3 := hOH3
  have fH3_a2 := (hqH3 _ na2).trans hIH1
  have zH3 := hzH3.trans zH1
  refine lv_aload_n hx hb dX11_init_12 rfl (lv_at hl 0 rfl) ?_
  refine lv_bipush (v := 12) hx hb dX11_init_13 (by decide) ?_
  refine hk_newi (N := 12) X K (by decide +kernel) hS (by decide) (by decide) (Nat.le_of_ble_eq_true rfl) (Nat.le_of_ble_eq_true rfl) (Nat.le_of_ble_eq_true rfl) dX11_init_15 (fun H4 hIH4 hzH4 hqH4 hS => ?_)
  obtain ⟨a5, ea5⟩ : ∃ z : Nat, z = H3.size := ⟨_, rfl⟩
  rw [← ea5] at hIH4 ⊢
  have fH4_mo : hk_O E mo 11 [.ref a2, .int 0, .null, .null, .null, .null, .null, .null, .int 0, .null, .null, .null, .int 0, .null, .null, .null, .null, .null, .null, .null, .null, .null, .int 0, .null, .null, .null, .null, .null, .null, .int 0, .null, .null, .int 0, .int 0, .int 0, .null, .null, .null, .int 0, .null, .null, .null] H4 := va_at.kept hOH3 (hqH4 _ (va_at.lt hOH3))
  have fH4_a2 := (hqH4 _ (Array.getElem?_eq_some_iff.mp fH3_a2).1).trans fH3_a2
  have va5 : a5 = H0.size + 1 := ea5.trans zH3
  have zH4 : H4.size = H0.size + 2 := by rw [hzH4, zH3]
  have na5 : a5 ≠ mo := fun g => absurd hlt0 (by rw [← g, va5]; exact Nat.not_lt.mpr (Nat.le_add_right _ _))
  refine hk_putF (ref := "LightcurveHouseModel") X K fH4_mo rfl iX11_init_X11 tyX11 tyX11_ok nmX11 hS (Or.inl rfl) 2 (by decide) (by decide +kernel) (fun _ h => h) (by decide +kernel) hnm (by decide +kernel) rfl rfl (Nat.le_of_ble_eq_true rfl) dX11_init_17 (fun H6 locsH6 hOH6 hzH6 hqH6 hS => ?_)
  have hOH6 : hk_O E mo 11 [.ref a2, .int 0, .ref a5, .null, .null, .null, .null, .null, .int 0, .null, .null, .null, .int 0, .null, .null, .null, .null, .null, .null, .null, .null, .null, .int 0, .null, .null, .null, .null, .null, .null, .int 0, .null, .null, .int 0, .int 0, .int 0, .null, .null, .null, .int 0, .null, .null, .null] H6 := hOH6
  have fH6_a2 := (hqH6 _ na2).trans fH4_a2
  have fH6_a5 := (hqH6 _ na5).trans hIH4
  have zH6 := hzH6.trans zH4
  refine lv_aload_n hx hb dX11_init_20 rfl (lv_at hl 0 rfl) ?_
  refine lv_bipush (v := 12) hx hb dX11_init_21 (by decide) ?_
  refine hk_newi (N := 12) X K (by decide +kernel) hS (by decide) (by decide) (Nat.le_of_ble_eq_true rfl) (Nat.le_of_ble_eq_true rfl) (Nat.le_of_ble_eq_true rfl) dX11_init_23 (fun H7 hIH7 hzH7 hqH7 hS => ?_)
  obtain ⟨a8, ea8⟩ : ∃ z : Nat, z = H6.size := ⟨_, rfl⟩
  rw [← ea8] at hIH7 ⊢
  have fH7_mo : hk_O E mo 11 [.ref a2, .int 0, .ref a5, .null, .null, .null, .null, .null, .int 0, .null, .null, .null, .int 0, .null, .null, .null, .null, .null, .null, .null, .null, .null, .int 0, .null, .null, .null, .null, .null, .null, .int 0, .null, .null, .int 0, .int 0, .int 0, .null, .null, .null, .int 0, .null, .null, .null] H7 := va_at.kept hOH6 (hqH7 _ (va_at.lt hOH6))
  have fH7_a2 := (hqH7 _ (Array.getElem?_eq_some_iff.mp fH6_a2).1).trans fH6_a2
  have fH7_a5 := (hqH7 _ (Array.getElem?_eq_some_iff.mp fH6_a5).1).trans fH6_a5
  have va8 : a8 = H0.size + 2 := ea8.trans zH6
  have zH7 : H7.size = H0.size + 3 := by rw [hzH7, zH6]
  have na8 : a8 ≠ mo := fun g => absurd hlt0 (by rw [← g, va8]; exact Nat.not_lt.mpr (Nat.le_add_right _ _))
  refine hk_putF (ref := "LightcurveHouseModel") X K fH7_mo rfl iX11_init_X11 tyX11 tyX11_ok nmX11 hS (Or.inl rfl) 3 (by decide) (by decide +kernel) (fun _ h => h) (by decide +kernel) hnm (by decide +kernel) rfl rfl (Nat.le_of_ble_eq_true rfl) dX11_init_25 (fun H9 locsH9 hOH9 hzH9 hqH9 hS => ?_)
  have hOH9 : hk_O E mo 11 [.ref a2, .int 0, .ref a5, .ref a8, .null, .null, .null, .null, .int 0, .null, .null, .null, .int 0, .null, .null, .null, .null, .null, .null, .null, .null, .null, .int 0, .null, .null, .null, .null, .null, .null, .int 0, .null, .null, .int 0, .int 0, .int 0, .null, .null, .null, .int 0, .null, .null, .null] H9 := hOH9
  have fH9_a2 := (hqH9 _ na2).trans fH7_a2
  have fH9_a5 := (hqH9 _ na5).trans fH7_a5
  have fH9_a8 := (hqH9 _ na8).trans hIH7
  have zH9 := hzH9.trans zH7
  refine lv_aload_n hx hb dX11_init_28 rfl (lv_at hl 0 rfl) ?_
  refine lv_bipush (v := 12) hx hb dX11_init_29 (by decide) ?_
  refine hk_newi (N := 12) X K (by decide +kernel) hS (by decide) (by decide) (Nat.le_of_ble_eq_true rfl) (Nat.le_of_ble_eq_true rfl) (Nat.le_of_ble_eq_true rfl) dX11_init_31 (fun H10 hIH10 hzH10 hqH10 hS => ?_)
  obtain ⟨a11, ea11⟩ : ∃ z : Nat, z = H9.size := ⟨_, rfl⟩
  rw [← ea11] at hIH10 ⊢
  have fH10_mo : hk_O E mo 11 [.ref a2, .int 0, .ref a5, .ref a8, .null, .null, .null, .null, .int 0, .null, .null, .null, .int 0, .null, .null, .null, .null, .null, .null, .null, .null, .null, .int 0, .null, .null, .null, .null, .null, .null, .int 0, .null, .null, .int 0, .int 0, .int 0, .null, .null, .null, .int 0, .null, .null, .null] H10 := va_at.kept hOH9 (hqH10 _ (va_at.lt hOH9))
  have fH10_a2 := (hqH10 _ (Array.getElem?_eq_some_iff.mp fH9_a2).1).trans fH9_a2
  have fH10_a5 := (hqH10 _ (Array.getElem?_eq_some_iff.mp fH9_a5).1).trans fH9_a5
  have fH10_a8 := (hqH10 _ (Array.getElem?_eq_some_iff.mp fH9_a8).1).trans fH9_a8
  have va11 : a11 = H0.size + 3 := ea11.trans zH9
  have zH10 : H10.size = H0.size + 4 := by rw [hzH10, zH9]
  have na11 : a11 ≠ mo := fun g => absurd hlt0 (by rw [← g, va11]; exact Nat.not_lt.mpr (Nat.le_add_right _ _))
  refine hk_putF (ref := "LightcurveHouseModel") X K fH10_mo rfl iX11_init_X11 tyX11 tyX11_ok nmX11 hS (Or.inl rfl) 4 (by decide) (by decide +kernel) (fun _ h => h) (by decide +kernel) hnm (by decide +kernel) rfl rfl (Nat.le_of_ble_eq_true rfl) dX11_init_33 (fun H12 locsH12 hOH12 hzH12 hqH12 hS => ?_)
  have hOH12 : hk_O E mo 11 [.ref a2, .int 0, .ref a5, .ref a8, .ref a11, .null, .null, .null, .int 0, .null, .null, .null, .int 0, .null, .null, .null, .null, .null, .null, .null, .null, .null, .int 0, .null, .null, .null, .null, .null, .null, .int 0, .null, .null, .int 0, .int 0, .int 0, .null, .null, .null, .int 0, .null, .null, .null] H12 := hOH12
  have fH12_a2 := (hqH12 _ na2).trans fH10_a2
  have fH12_a5 := (hqH12 _ na5).trans fH10_a5
  have fH12_a8 := (hqH12 _ na8).trans fH10_a8
  have fH12_a11 := (hqH12 _ na11).trans hIH10
  have zH12 := hzH12.trans zH10
  refine lv_aload_n hx hb dX11_init_36 rfl (lv_at hl 0 rfl) ?_
  refine lv_bipush (v := 12) hx hb dX11_init_37 (by decide) ?_
  refine hk_newi (N := 12) X K (by decide +kernel) hS (by decide) (by decide) (Nat.le_of_ble_eq_true rfl) (Nat.le_of_ble_eq_true rfl) (Nat.le_of_ble_eq_true rfl) dX11_init_39 (fun H13 hIH13 hzH13 hqH13 hS => ?_)
  obtain ⟨a14, ea14⟩ : ∃ z : Nat, z = H12.size := ⟨_, rfl⟩
  rw [← ea14] at hIH13 ⊢
  have fH13_mo : hk_O E mo 11 [.ref a2, .int 0, .ref a5, .ref a8, .ref a11, .null, .null, .null, .int 0, .null, .null, .null, .int 0, .null, .null, .null, .null, .null, .null, .null, .null, .null, .int 0, .null, .null, .null, .null, .null, .null, .int 0, .null, .null, .int 0, .int 0, .int 0, .null, .null, .null, .int 0, .null, .null, .null] H13 := va_at.kept hOH12 (hqH13 _ (va_at.lt hOH12))
  have fH13_a2 := (hqH13 _ (Array.getElem?_eq_some_iff.mp fH12_a2).1).trans fH12_a2
  have fH13_a5 := (hqH13 _ (Array.getElem?_eq_some_iff.mp fH12_a5).1).trans fH12_a5
  have fH13_a8 := (hqH13 _ (Array.getElem?_eq_some_iff.mp fH12_a8).1).trans fH12_a8
  have fH13_a11 := (hqH13 _ (Array.getElem?_eq_some_iff.mp fH12_a11).1).trans fH12_a11
  have va14 : a14 = H0.size + 4 := ea14.trans zH12
  have zH13 : H13.size = H0.size + 5 := by rw [hzH13, zH12]
  have na14 : a14 ≠ mo := fun g => absurd hlt0 (by rw [← g, va14]; exact Nat.not_lt.mpr (Nat.le_add_right _ _))
  refine hk_putF (ref := "LightcurveHouseModel") X K fH13_mo rfl iX11_init_X11 tyX11 tyX11_ok nmX11 hS (Or.inl rfl) 5 (by decide) (by decide +kernel) (fun _ h => h) (by decide +kernel) hnm (by decide +kernel) rfl rfl (Nat.le_of_ble_eq_true rfl) dX11_init_41 (fun H15 locsH15 hOH15 hzH15 hqH15 hS => ?_)
  have hOH15 : hk_O E mo 11 [.ref a2, .int 0, .ref a5, .ref a8, .ref a11, .ref a14, .null, .null, .int 0, .null, .null, .null, .int 0, .null, .null, .null, .null, .null, .null, .null, .null, .null, .int 0, .null, .null, .null, .null, .null, .null, .int 0, .null, .null, .int 0, .int 0, .int 0, .null, .null, .null, .int 0, .null, .null, .null] H15 := hOH15
  have fH15_a2 := (hqH15 _ na2).trans fH13_a2
  have fH15_a5 := (hqH15 _ na5).trans fH13_a5
  have fH15_a8 := (hqH15 _ na8).trans fH13_a8
  have fH15_a11 := (hqH15 _ na11).trans fH13_a11
  have fH15_a14 := (hqH15 _ na14).trans hIH13
  have zH15 := hzH15.trans zH13
  refine lv_aload_n hx hb dX11_init_44 rfl (lv_at hl 0 rfl) ?_
  refine lv_bipush (v := 8) hx hb dX11_init_45 (by decide) ?_
  refine hk_newi (N := 8) X K (by decide +kernel) hS (by decide) (by decide) (Nat.le_of_ble_eq_true rfl) (Nat.le_of_ble_eq_true rfl) (Nat.le_of_ble_eq_true rfl) dX11_init_47 (fun H16 hIH16 hzH16 hqH16 hS => ?_)
  obtain ⟨a17, ea17⟩ : ∃ z : Nat, z = H15.size := ⟨_, rfl⟩
  rw [← ea17] at hIH16 ⊢
  have fH16_mo : hk_O E mo 11 [.ref a2, .int 0, .ref a5, .ref a8, .ref a11, .ref a14, .null, .null, .int 0, .null, .null, .null, .int 0, .null, .null, .null, .null, .null, .null, .null, .null, .null, .int 0, .null, .null, .null, .null, .null, .null, .int 0, .null, .null, .int 0, .int 0, .int 0, .null, .null, .null, .int 0, .null, .null, .null] H16 := va_at.kept hOH15 (hqH16 _ (va_at.lt hOH15))
  have fH16_a2 := (hqH16 _ (Array.getElem?_eq_some_iff.mp fH15_a2).1).trans fH15_a2
  have fH16_a5 := (hqH16 _ (Array.getElem?_eq_some_iff.mp fH15_a5).1).trans fH15_a5
  have fH16_a8 := (hqH16 _ (Array.getElem?_eq_some_iff.mp fH15_a8).1).trans fH15_a8
  have fH16_a11 := (hqH16 _ (Array.getElem?_eq_some_iff.mp fH15_a11).1).trans fH15_a11
  have fH16_a14 := (hqH16 _ (Array.getElem?_eq_some_iff.mp fH15_a14).1).trans fH15_a14
  have va17 : a17 = H0.size + 5 := ea17.trans zH15
  have zH16 : H16.size = H0.size + 6 := by rw [hzH16, zH15]
  have na17 : a17 ≠ mo := fun g => absurd hlt0 (by rw [← g, va17]; exact Nat.not_lt.mpr (Nat.le_add_right _ _))
  refine hk_putF (ref := "LightcurveHouseModel") X K fH16_mo rfl iX11_init_X11 tyX11 tyX11_ok nmX11 hS (Or.inl rfl) 6 (by decide) (by decide +kernel) (fun _ h => h) (by decide +kernel) hnm (by decide +kernel) rfl rfl (Nat.le_of_ble_eq_true rfl) dX11_init_49 (fun H18 locsH18 hOH18 hzH18 hqH18 hS => ?_)
  have hOH18 : hk_O E mo 11 [.ref a2, .int 0, .ref a5, .ref a8, .ref a11, .ref a14, .ref a17, .null, .int 0, .null, .null, .null, .int 0, .null, .null, .null, .null, .null, .null, .null, .null, .null, .int 0, .null, .null, .null, .null, .null, .null, .int 0, .null, .null, .int 0, .int 0, .int 0, .null, .null, .null, .int 0, .null, .null, .null] H18 := hOH18
  have fH18_a2 := (hqH18 _ na2).trans fH16_a2
  have fH18_a5 := (hqH18 _ na5).trans fH16_a5
  have fH18_a8 := (hqH18 _ na8).trans fH16_a8
  have fH18_a11 := (hqH18 _ na11).trans fH16_a11
  have fH18_a14 := (hqH18 _ na14).trans fH16_a14
  have fH18_a17 := (hqH18 _ na17).trans hIH16
  have zH18 := hzH18.trans zH16
  refine lv_aload_n hx hb dX11_init_52 rfl (lv_at hl 0 rfl) ?_
  refine lv_bipush (v := 8) hx hb dX11_init_53 (by decide) ?_
  refine hk_newi (N := 8) X K (by decide +kernel) hS (by decide) (by decide) (Nat.le_of_ble_eq_true rfl) (Nat.le_of_ble_eq_true rfl) (Nat.le_of_ble_eq_true rfl) dX11_init_55 (fun H19 hIH19 hzH19 hqH19 hS => ?_)
  obtain ⟨a20, ea20⟩ : ∃ z : Nat, z = H18.size := ⟨_, rfl⟩
  rw [← ea20] at hIH19 ⊢
  have fH19_mo : hk_O E mo 11 [.ref a2, .int 0, .ref a5, .ref a8, .ref a11, .ref a14, .ref a17, .null, .int 0, .null, .null, .null, .int 0, .null, .null, .null, .null, .null, .null, .null, .null, .null, .int 0, .null, .null, .null, .null, .null, .null, .int 0, .null, .null, .int 0, .int 0, .int 0, .null, .null, .null, .int 0, .null, .null, .null] H19 := va_at.kept hOH18 (hqH19 _ (va_at.lt hOH18))
  have fH19_a2 := (hqH19 _ (Array.getElem?_eq_some_iff.mp fH18_a2).1).trans fH18_a2
  have fH19_a5 := (hqH19 _ (Array.getElem?_eq_some_iff.mp fH18_a5).1).trans fH18_a5
  have fH19_a8 := (hqH19 _ (Array.getElem?_eq_some_iff.mp fH18_a8).1).trans fH18_a8
  have fH19_a11 := (hqH19 _ (Array.getElem?_eq_some_iff.mp fH18_a11).1).trans fH18_a11
  have fH19_a14 := (hqH19 _ (Array.getElem?_eq_some_iff.mp fH18_a14).1).trans fH18_a14
  have fH19_a17 := (hqH19 _ (Array.getElem?_eq_some_iff.mp fH18_a17).1).trans fH18_a17
  have va20 : a20 = H0.size + 6 := ea20.trans zH18
  have zH19 : H19.size = H0.size + 7 := by rw [hzH19, zH18]
  have na20 : a20 ≠ mo := fun g => absurd hlt0 (by rw [← g, va20]; exact Nat.not_lt.mpr (Nat.le_add_right _ _))
  refine hk_putF (ref := "LightcurveHouseModel") X K fH19_mo rfl iX11_init_X11 tyX11 tyX11_ok nmX11 hS (Or.inl rfl) 7 (by decide) (by decide +kernel) (fun _ h => h) (by decide +kernel) hnm (by decide +kernel) rfl rfl (Nat.le_of_ble_eq_true rfl) dX11_init_57 (fun H21 locsH21 hOH21 hzH21 hqH21 hS => ?_)
  have hOH21 : hk_O E mo 11 [.ref a2, .int 0, .ref a5, .ref a8, .ref a11, .ref a14, .ref a17, .ref a20, .int 0, .null, .null, .null, .int 0, .null, .null, .null, .null, .null, .null, .null, .null, .null, .int 0, .null, .null, .null, .null, .null, .null, .int 0, .null, .null, .int 0, .int 0, .int 0, .null, .null, .null, .int 0, .null, .null, .null] H21 := hOH21
  have fH21_a2 := (hqH21 _ na2).trans fH19_a2
  have fH21_a5 := (hqH21 _ na5).trans fH19_a5
  have fH21_a8 := (hqH21 _ na8).trans fH19_a8
  have fH21_a11 := (hqH21 _ na11).trans fH19_a11
  have fH21_a14 := (hqH21 _ na14).trans fH19_a14
  have fH21_a17 := (hqH21 _ na17).trans fH19_a17
  have fH21_a20 := (hqH21 _ na20).trans hIH19
  have zH21 := hzH21.trans zH19
  refine lv_aload_n hx hb dX11_init_60 rfl (lv_at hl 0 rfl) ?_
  refine lv_bipush (v := 8) hx hb dX11_init_61 (by decide) ?_
  refine hk_newi (N := 8) X K (by decide +kernel) hS (by decide) (by decide) (Nat.le_of_ble_eq_true rfl) (Nat.le_of_ble_eq_true rfl) (Nat.le_of_ble_eq_true rfl) dX11_init_63 (fun H22 hIH22 hzH22 hqH22 hS => ?_)
  obtain ⟨a23, ea23⟩ : ∃ z : Nat, z = H21.size := ⟨_, rfl⟩
  rw [← ea23] at hIH22 ⊢
  have fH22_mo : hk_O E mo 11 [.ref a2, .int 0, .ref a5, .ref a8, .ref a11, .ref a14, .ref a17, .ref a20, .int 0, .null, .null, .null, .int 0, .null, .null, .null, .null, .null, .null, .null, .null, .null, .int 0, .null, .null, .null, .null, .null, .null, .int 0, .null, .null, .int 0, .int 0, .int 0, .null, .null, .null, .int 0, .null, .null, .null] H22 := va_at.kept hOH21 (hqH22 _ (va_at.lt hOH21))
  have fH22_a2 := (hqH22 _ (Array.getElem?_eq_some_iff.mp fH21_a2).1).trans fH21_a2
  have fH22_a5 := (hqH22 _ (Array.getElem?_eq_some_iff.mp fH21_a5).1).trans fH21_a5
  have fH22_a8 := (hqH22 _ (Array.getElem?_eq_some_iff.mp fH21_a8).1).trans fH21_a8
  have fH22_a11 := (hqH22 _ (Array.getElem?_eq_some_iff.mp fH21_a11).1).trans fH21_a11
  have fH22_a14 := (hqH22 _ (Array.getElem?_eq_some_iff.mp fH21_a14).1).trans fH21_a14
  have fH22_a17 := (hqH22 _ (Array.getElem?_eq_some_iff.mp fH21_a17).1).trans fH21_a17
  have fH22_a20 := (hqH22 _ (Array.getElem?_eq_some_iff.mp fH21_a20).1).trans fH21_a20
  have va23 : a23 = H0.size + 7 := ea23.trans zH21
  have zH22 : H22.size = H0.size + 8 := by rw [hzH22, zH21]
  have na23 : a23 ≠ mo := fun g => absurd hlt0 (by rw [← g, va23]; exact Nat.not_lt.mpr (Nat.le_add_right _ _))
  refine hk_putF (ref := "LightcurveHouseModel") X K fH22_mo rfl iX11_init_X11 tyX11 tyX11_ok nmX11 hS (Or.inl rfl) 9 (by decide) (by decide +kernel) (fun _ h => h) (by decide +kernel) hnm (by decide +kernel) rfl rfl (Nat.le_of_ble_eq_true rfl) dX11_init_65 (fun H24 locsH24 hOH24 hzH24 hqH24 hS => ?_)
  have hOH24 : hk_O E mo 11 [.ref a2, .int 0, .ref a5, .ref a8, .ref a11, .ref a14, .ref a17, .ref a20, .int 0, .ref a23, .null, .null, .int 0, .null, .null, .null, .null, .null, .null, .null, .null, .null, .int 0, .null, .null, .null, .null, .null, .null, .int 0, .null, .null, .int 0, .int 0, .int 0, .null, .null, .null, .int 0, .null, .null, .null] H24 := hOH24
  have fH24_a2 := (hqH24 _ na2).trans fH22_a2
  have fH24_a5 := (hqH24 _ na5).trans fH22_a5
  have fH24_a8 := (hqH24 _ na8).trans fH22_a8
  have fH24_a11 := (hqH24 _ na11).trans fH22_a11
  have fH24_a14 := (hqH24 _ na14).trans fH22_a14
  have fH24_a17 := (hqH24 _ na17).trans fH22_a17
  have fH24_a20 := (hqH24 _ na20).trans fH22_a20
  have fH24_a23 := (hqH24 _ na23).trans hIH22
  have zH24 := hzH24.trans zH22
  refine lv_aload_n hx hb dX11_init_68 rfl (lv_at hl 0 rfl) ?_
  refine lv_bipush (v := 8) hx hb dX11_init_69 (by decide) ?_
  refine hk_newi (N := 8) X K (by decide +kernel) hS (by decide) (by decide) (Nat.le_of_ble_eq_true rfl) (Nat.le_of_ble_eq_true rfl) (Nat.le_of_ble_eq_true rfl) dX11_init_71 (fun H25 hIH25 hzH25 hqH25 hS => ?_)
  obtain ⟨a26, ea26⟩ : ∃ z : Nat, z = H24.size := ⟨_, rfl⟩
  rw [← ea26] at hIH25 ⊢
  have fH25_mo : hk_O E mo 11 [.ref a2, .int 0, .ref a5, .ref a8, .ref a11, .ref a14, .ref a17, .ref a20, .int 0, .ref a23, .null, .null, .int 0, .null, .null, .null, .null, .null, .null, .null, .null, .null, .int 0, .null, .null, .null, .null, .null, .null, .int 0, .null, .null, .int 0, .int 0, .int 0, .null, .null, .null, .int 0, .null, .null, .null] H25 := va_at.kept hOH24 (hqH25 _ (va_at.lt hOH24))
  have fH25_a2 := (hqH25 _ (Array.getElem?_eq_some_iff.mp fH24_a2).1).trans fH24_a2
  have fH25_a5 := (hqH25 _ (Array.getElem?_eq_some_iff.mp fH24_a5).1).trans fH24_a5
  have fH25_a8 := (hqH25 _ (Array.getElem?_eq_some_iff.mp fH24_a8).1).trans fH24_a8
  have fH25_a11 := (hqH25 _ (Array.getElem?_eq_some_iff.mp fH24_a11).1).trans fH24_a11
  have fH25_a14 := (hqH25 _ (Array.getElem?_eq_some_iff.mp fH24_a14).1).trans fH24_a14
  have fH25_a17 := (hqH25 _ (Array.getElem?_eq_some_iff.mp fH24_a17).1).trans fH24_a17
  have fH25_a20 := (hqH25 _ (Array.getElem?_eq_some_iff.mp fH24_a20).1).trans fH24_a20
  have fH25_a23 := (hqH25 _ (Array.getElem?_eq_some_iff.mp fH24_a23).1).trans fH24_a23
  have va26 : a26 = H0.size + 8 := ea26.trans zH24
  have zH25 : H25.size = H0.size + 9 := by rw [hzH25, zH24]
  have na26 : a26 ≠ mo := fun g => absurd hlt0 (by rw [← g, va26]; exact Nat.not_lt.mpr (Nat.le_add_right _ _))
  refine hk_putF (ref := "LightcurveHouseModel") X K fH25_mo rfl iX11_init_X11 tyX11 tyX11_ok nmX11 hS (Or.inl rfl) 10 (by decide) (by decide +kernel) (fun _ h => h) (by decide +kernel) hnm (by decide +kernel) rfl rfl (Nat.le_of_ble_eq_true rfl) dX11_init_73 (fun H27 locsH27 hOH27 hzH27 hqH27 hS => ?_)
  have hOH27 : hk_O E mo 11 [.ref a2, .int 0, .ref a5, .ref a8, .ref a11, .ref a14, .ref a17, .ref a20, .int 0, .ref a23, .ref a26, .null, .int 0, .null, .null, .null, .null, .null, .null, .null, .null, .null, .int 0, .null, .null, .null, .null, .null, .null, .int 0, .null, .null, .int 0, .int 0, .int 0, .null, .null, .null, .int 0, .null, .null, .null] H27 := hOH27
  have fH27_a2 := (hqH27 _ na2).trans fH25_a2
  have fH27_a5 := (hqH27 _ na5).trans fH25_a5
  have fH27_a8 := (hqH27 _ na8).trans fH25_a8
  have fH27_a11 := (hqH27 _ na11).trans fH25_a11
  have fH27_a14 := (hqH27 _ na14).trans fH25_a14
  have fH27_a17 := (hqH27 _ na17).trans fH25_a17
  have fH27_a20 := (hqH27 _ na20).trans fH25_a20
  have fH27_a23 := (hqH27 _ na23).trans fH25_a23
  have fH27_a26 := (hqH27 _ na26).trans hIH25
  have zH27 := hzH27.trans zH25
  refine lv_aload_n hx hb dX11_init_76 rfl (lv_at hl 0 rfl) ?_
  refine lv_bipush (v := 8) hx hb dX11_init_77 (by decide) ?_
  refine hk_newi (N := 8) X K (by decide +kernel) hS (by decide) (by decide) (Nat.le_of_ble_eq_true rfl) (Nat.le_of_ble_eq_true rfl) (Nat.le_of_ble_eq_true rfl) dX11_init_79 (fun H28 hIH28 hzH28 hqH28 hS => ?_)
  obtain ⟨a29, ea29⟩ : ∃ z : Nat, z = H27.size := ⟨_, rfl⟩
  rw [← ea29] at hIH28 ⊢
  have fH28_mo : hk_O E mo 11 [.ref a2, .int 0, .ref a5, .ref a8, .ref a11, .ref a14, .ref a17, .ref a20, .int 0, .ref a23, .ref a26, .null, .int 0, .null, .null, .null, .null, .null, .null, .null, .null, .null, .int 0, .null, .null, .null, .null, .null, .null, .int 0, .null, .null, .int 0, .int 0, .int 0, .null, .null, .null, .int 0, .null, .null, .null] H28 := va_at.kept hOH27 (hqH28 _ (va_at.lt hOH27))
  have fH28_a2 := (hqH28 _ (Array.getElem?_eq_some_iff.mp fH27_a2).1).trans fH27_a2
  have fH28_a5 := (hqH28 _ (Array.getElem?_eq_some_iff.mp fH27_a5).1).trans fH27_a5
  have fH28_a8 := (hqH28 _ (Array.getElem?_eq_some_iff.mp fH27_a8).1).trans fH27_a8
  have fH28_a11 := (hqH28 _ (Array.getElem?_eq_some_iff.mp fH27_a11).1).trans fH27_a11
  have fH28_a14 := (hqH28 _ (Array.getElem?_eq_some_iff.mp fH27_a14).1).trans fH27_a14
  have fH28_a17 := (hqH28 _ (Array.getElem?_eq_some_iff.mp fH27_a17).1).trans fH27_a17
  have fH28_a20 := (hqH28 _ (Array.getElem?_eq_some_iff.mp fH27_a20).1).trans fH27_a20
  have fH28_a23 := (hqH28 _ (Array.getElem?_eq_some_iff.mp fH27_a23).1).trans fH27_a23
  have fH28_a26 := (hqH28 _ (Array.getElem?_eq_some_iff.mp fH27_a26).1).trans fH27_a26
  have va29 : a29 = H0.size + 9 := ea29.trans zH27
  have zH28 : H28.size = H0.size + 10 := by rw [hzH28, zH27]
  have na29 : a29 ≠ mo := fun g => absurd hlt0 (by rw [← g, va29]; exact Nat.not_lt.mpr (Nat.le_add_right _ _))
  refine hk_putF (ref := "LightcurveHouseModel") X K fH28_mo rfl iX11_init_X11 tyX11 tyX11_ok nmX11 hS (Or.inl rfl) 11 (by decide) (by decide +kernel) (fun _ h => h) (by decide +kernel) hnm (by decide +kernel) rfl rfl (Nat.le_of_ble_eq_true rfl) dX11_init_81 (fun H30 locsH30 hOH30 hzH30 hqH30 hS => ?_)
  have hOH30 : hk_O E mo 11 [.ref a2, .int 0, .ref a5, .ref a8, .ref a11, .ref a14, .ref a17, .ref a20, .int 0, .ref a23, .ref a26, .ref a29, .int 0, .null, .null, .null, .null, .null, .null, .null, .null, .null, .int 0, .null, .null, .null, .null, .null, .null, .int 0, .null, .null, .int 0, .int 0, .int 0, .null, .null, .null, .int 0, .null, .null, .null] H30 := hOH30
  have fH30_a2 := (hqH30 _ na2).trans fH28_a2
  have fH30_a5 := (hqH30 _ na5).trans fH28_a5
  have fH30_a8 := (hqH30 _ na8).trans fH28_a8
  have fH30_a11 := (hqH30 _ na11).trans fH28_a11
  have fH30_a14 := (hqH30 _ na14).trans fH28_a14
  have fH30_a17 := (hqH30 _ na17).trans fH28_a17
  have fH30_a20 := (hqH30 _ na20).trans fH28_a20
  have fH30_a23 := (hqH30 _ na23).trans fH28_a23
  have fH30_a26 := (hqH30 _ na26).trans fH28_a26
  have fH30_a29 := (hqH30 _ na29).trans hIH28
  have zH30 := hzH30.trans zH28
  refine lv_aload_n hx hb dX11_init_84 rfl (lv_at hl 0 rfl) ?_
  refine lv_bipush (v := 80) hx hb dX11_init_85 (by decide) ?_
  refine hk_newi (N := 80) X K (by decide +kernel) hS (by decide) (by decide) (Nat.le_of_ble_eq_true rfl) (Nat.le_of_ble_eq_true rfl) (Nat.le_of_ble_eq_true rfl) dX11_init_87 (fun H31 hIH31 hzH31 hqH31 hS => ?_)
  obtain ⟨a32, ea32⟩ : ∃ z : Nat, z = H30.size := ⟨_, rfl⟩
  rw [← ea32] at hIH31 ⊢
  have fH31_mo : hk_O E mo 11 [.ref a2, .int 0, .ref a5, .ref a8, .ref a11, .ref a14, .ref a17, .ref a20, .int 0, .ref a23, .ref a26, .ref a29, .int 0, .null, .null, .null, .null, .null, .null, .null, .null, .null, .int 0, .null, .null, .null, .null, .null, .null, .int 0, .null, .null, .int 0, .int 0, .int 0, .null, .null, .null, .int 0, .null, .null, .null] H31 := va_at.kept hOH30 (hqH31 _ (va_at.lt hOH30))
  have fH31_a2 := (hqH31 _ (Array.getElem?_eq_some_iff.mp fH30_a2).1).trans fH30_a2
  have fH31_a5 := (hqH31 _ (Array.getElem?_eq_some_iff.mp fH30_a5).1).trans fH30_a5
  have fH31_a8 := (hqH31 _ (Array.getElem?_eq_some_iff.mp fH30_a8).1).trans fH30_a8
  have fH31_a11 := (hqH31 _ (Array.getElem?_eq_some_iff.mp fH30_a11).1).trans fH30_a11
  have fH31_a14 := (hqH31 _ (Array.getElem?_eq_some_iff.mp fH30_a14).1).trans fH30_a14
  have fH31_a17 := (hqH31 _ (Array.getElem?_eq_some_iff.mp fH30_a17).1).trans fH30_a17
  have fH31_a20 := (hqH31 _ (Array.getElem?_eq_some_iff.mp fH30_a20).1).trans fH30_a20
  have fH31_a23 := (hqH31 _ (Array.getElem?_eq_some_iff.mp fH30_a23).1).trans fH30_a23
  have fH31_a26 := (hqH31 _ (Array.getElem?_eq_some_iff.mp fH30_a26).1).trans fH30_a26
  have fH31_a29 := (hqH31 _ (Array.getElem?_eq_some_iff.mp fH30_a29).1).trans fH30_a29
  have va32 : a32 = H0.size + 10 := ea32.trans zH30
  have zH31 : H31.size = H0.size + 11 := by rw [hzH31, zH30]
  have na32 : a32 ≠ mo := fun g => absurd hlt0 (by rw [← g, va32]; exact Nat.not_lt.mpr (Nat.le_add_right _ _))
  refine hk_putF (ref := "LightcurveHouseModel") X K fH31_mo rfl iX11_init_X11 tyX11 tyX11_ok nmX11 hS (Or.inl rfl) 13 (by decide) (by decide +kernel) (fun _ h => h) (by decide +kernel) hnm (by decide +kernel) rfl rfl (Nat.le_of_ble_eq_true rfl) dX11_init_89 (fun H33 locsH33 hOH33 hzH33 hqH33 hS => ?_)
  have hOH33 : hk_O E mo 11 [.ref a2, .int 0, .ref a5, .ref a8, .ref a11, .ref a14, .ref a17, .ref a20, .int 0, .ref a23, .ref a26, .ref a29, .int 0, .ref a32, .null, .null, .null, .null, .null, .null, .null, .null, .int 0, .null, .null, .null, .null, .null, .null, .int 0, .null, .null, .int 0, .int 0, .int 0, .null, .null, .null, .int 0, .null, .null, .null] H33 := hOH33
  have fH33_a2 := (hqH33 _ na2).trans fH31_a2
  have fH33_a5 := (hqH33 _ na5).trans fH31_a5
  have fH33_a8 := (hqH33 _ na8).trans fH31_a8
  have fH33_a11 := (hqH33 _ na11).trans fH31_a11
  have fH33_a14 := (hqH33 _ na14).trans fH31_a14
  have fH33_a17 := (hqH33 _ na17).trans fH31_a17
  have fH33_a20 := (hqH33 _ na20).trans fH31_a20
  have fH33_a23 := (hqH33 _ na23).trans fH31_a23
  have fH33_a26 := (hqH33 _ na26).trans fH31_a26
  have fH33_a29 := (hqH33 _ na29).trans fH31_a29
  have fH33_a32 := (hqH33 _ na32).trans hIH31
  have zH33 := hzH33.trans zH31
  refine lv_aload_n hx hb dX11_init_92 rfl (lv_at hl 0 rfl) ?_
  refine lv_bipush (v := 80) hx hb dX11_init_93 (by decide) ?_
  refine hk_newi (N := 80) X K (by decide +kernel) hS (by decide) (by decide) (Nat.le_of_ble_eq_true rfl) (Nat.le_of_ble_eq_true rfl) (Nat.le_of_ble_eq_true rfl) dX11_init_95 (fun H34 hIH34 hzH34 hqH34 hS => ?_)
  obtain ⟨a35, ea35⟩ : ∃ z : Nat, z = H33.size := ⟨_, rfl⟩
  rw [← ea35] at hIH34 ⊢
  have fH34_mo : hk_O E mo 11 [.ref a2, .int 0, .ref a5, .ref a8, .ref a11, .ref a14, .ref a17, .ref a20, .int 0, .ref a23, .ref a26, .ref a29, .int 0, .ref a32, .null, .null, .null, .null, .null, .null, .null, .null, .int 0, .null, .null, .null, .null, .null, .null, .int 0, .null, .null, .int 0, .int 0, .int 0, .null, .null, .null, .int 0, .null, .null, .null] H34 := va_at.kept hOH33 (hqH34 _ (va_at.lt hOH33))
  have fH34_a2 := (hqH34 _ (Array.getElem?_eq_some_iff.mp fH33_a2).1).trans fH33_a2
  have fH34_a5 := (hqH34 _ (Array.getElem?_eq_some_iff.mp fH33_a5).1).trans fH33_a5
  have fH34_a8 := (hqH34 _ (Array.getElem?_eq_some_iff.mp fH33_a8).1).trans fH33_a8
  have fH34_a11 := (hqH34 _ (Array.getElem?_eq_some_iff.mp fH33_a11).1).trans fH33_a11
  have fH34_a14 := (hqH34 _ (Array.getElem?_eq_some_iff.mp fH33_a14).1).trans fH33_a14
  have fH34_a17 := (hqH34 _ (Array.getElem?_eq_some_iff.mp fH33_a17).1).trans fH33_a17
  have fH34_a20 := (hqH34 _ (Array.getElem?_eq_some_iff.mp fH33_a20).1).trans fH33_a20
  have fH34_a23 := (hqH34 _ (Array.getElem?_eq_some_iff.mp fH33_a23).1).trans fH33_a23
  have fH34_a26 := (hqH34 _ (Array.getElem?_eq_some_iff.mp fH33_a26).1).trans fH33_a26
  have fH34_a29 := (hqH34 _ (Array.getElem?_eq_some_iff.mp fH33_a29).1).trans fH33_a29
  have fH34_a32 := (hqH34 _ (Array.getElem?_eq_some_iff.mp fH33_a32).1).trans fH33_a32
  have va35 : a35 = H0.size + 11 := ea35.trans zH33
  have zH34 : H34.size = H0.size + 12 := by rw [hzH34, zH33]
  have na35 : a35 ≠ mo := fun g => absurd hlt0 (by rw [← g, va35]; exact Nat.not_lt.mpr (Nat.le_add_right _ _))
  refine hk_putF (ref := "LightcurveHouseModel") X K fH34_mo rfl iX11_init_X11 tyX11 tyX11_ok nmX11 hS (Or.inl rfl) 14 (by decide) (by decide +kernel) (fun _ h => h) (by decide +kernel) hnm (by decide +kernel) rfl rfl (Nat.le_of_ble_eq_true rfl) dX11_init_97 (fun H36 locsH36 hOH36 hzH36 hqH36 hS => ?_)
  have hOH36 : hk_O E mo 11 [.ref a2, .int 0, .ref a5, .ref a8, .ref a11, .ref a14, .ref a17, .ref a20, .int 0, .ref a23, .ref a26, .ref a29, .int 0, .ref a32, .ref a35, .null, .null, .null, .null, .null, .null, .null, .int 0, .null, .null, .null, .null, .null, .null, .int 0, .null, .null, .int 0, .int 0, .int 0, .null, .null, .null, .int 0, .null, .null, .null] H36 := hOH36
  have fH36_a2 := (hqH36 _ na2).trans fH34_a2
  have fH36_a5 := (hqH36 _ na5).trans fH34_a5
  have fH36_a8 := (hqH36 _ na8).trans fH34_a8
  have fH36_a11 := (hqH36 _ na11).trans fH34_a11
  have fH36_a14 := (hqH36 _ na14).trans fH34_a14
  have fH36_a17 := (hqH36 _ na17).trans fH34_a17
  have fH36_a20 := (hqH36 _ na20).trans fH34_a20
  have fH36_a23 := (hqH36 _ na23).trans fH34_a23
  have fH36_a26 := (hqH36 _ na26).trans fH34_a26
  have fH36_a29 := (hqH36 _ na29).trans fH34_a29
  have fH36_a32 := (hqH36 _ na32).trans fH34_a32
  have fH36_a35 := (hqH36 _ na35).trans hIH34
  have zH36 := hzH36.trans zH34
  refine lv_aload_n hx hb dX11_init_100 rfl (lv_at hl 0 rfl) ?_
  refine lv_bipush (v := 80) hx hb dX11_init_101 (by decide) ?_
  refine hk_newi (N := 80) X K (by decide +kernel) hS (by decide) (by decide) (Nat.le_of_ble_eq_true rfl) (Nat.le_of_ble_eq_true rfl) (Nat.le_of_ble_eq_true rfl) dX11_init_103 (fun H37 hIH37 hzH37 hqH37 hS => ?_)
  obtain ⟨a38, ea38⟩ : ∃ z : Nat, z = H36.size := ⟨_, rfl⟩
  rw [← ea38] at hIH37 ⊢
  have fH37_mo : hk_O E mo 11 [.ref a2, .int 0, .ref a5, .ref a8, .ref a11, .ref a14, .ref a17, .ref a20, .int 0, .ref a23, .ref a26, .ref a29, .int 0, .ref a32, .ref a35, .null, .null, .null, .null, .null, .null, .null, .int 0, .null, .null, .null, .null, .null, .null, .int 0, .null, .null, .int 0, .int 0, .int 0, .null, .null, .null, .int 0, .null, .null, .null] H37 := va_at.kept hOH36 (hqH37 _ (va_at.lt hOH36))
  have fH37_a2 := (hqH37 _ (Array.getElem?_eq_some_iff.mp fH36_a2).1).trans fH36_a2
  have fH37_a5 := (hqH37 _ (Array.getElem?_eq_some_iff.mp fH36_a5).1).trans fH36_a5
  have fH37_a8 := (hqH37 _ (Array.getElem?_eq_some_iff.mp fH36_a8).1).trans fH36_a8
  have fH37_a11 := (hqH37 _ (Array.getElem?_eq_some_iff.mp fH36_a11).1).trans fH36_a11
  have fH37_a14 := (hqH37 _ (Array.getElem?_eq_some_iff.mp fH36_a14).1).trans fH36_a14
  have fH37_a17 := (hqH37 _ (Array.getElem?_eq_some_iff.mp fH36_a17).1).trans fH36_a17
  have fH37_a20 := (hqH37 _ (Array.getElem?_eq_some_iff.mp fH36_a20).1).trans fH36_a20
  have fH37_a23 := (hqH37 _ (Array.getElem?_eq_some_iff.mp fH36_a23).1).trans fH36_a23
  have fH37_a26 := (hqH37 _ (Array.getElem?_eq_some_iff.mp fH36_a26).1).trans fH36_a26
  have fH37_a29 := (hqH37 _ (Array.getElem?_eq_some_iff.mp fH36_a29).1).trans fH36_a29
  have fH37_a32 := (hqH37 _ (Array.getElem?_eq_some_iff.mp fH36_a32).1).trans fH36_a32
  have fH37_a35 := (hqH37 _ (Array.getElem?_eq_some_iff.mp fH36_a35).1).trans fH36_a35
  have va38 : a38 = H0.size + 12 := ea38.trans zH36
  have zH37 : H37.size = H0.size + 13 := by rw [hzH37, zH36]
  have na38 : a38 ≠ mo := fun g => absurd hlt0 (by rw [← g, va38]; exact Nat.not_lt.mpr (Nat.le_add_right _ _))
  refine hk_putF (ref := "LightcurveHouseModel") X K fH37_mo rfl iX11_init_X11 tyX11 tyX11_ok nmX11 hS (Or.inl rfl) 15 (by decide) (by decide +kernel) (fun _ h => h) (by decide +kernel) hnm (by decide +kernel) rfl rfl (Nat.le_of_ble_eq_true rfl) dX11_init_105 (fun H39 locsH39 hOH39 hzH39 hqH39 hS => ?_)
  have hOH39 : hk_O E mo 11 [.ref a2, .int 0, .ref a5, .ref a8, .ref a11, .ref a14, .ref a17, .ref a20, .int 0, .ref a23, .ref a26, .ref a29, .int 0, .ref a32, .ref a35, .ref a38, .null, .null, .null, .null, .null, .null, .int 0, .null, .null, .null, .null, .null, .null, .int 0, .null, .null, .int 0, .int 0, .int 0, .null, .null, .null, .int 0, .null, .null, .null] H39 := hOH39
  have fH39_a2 := (hqH39 _ na2).trans fH37_a2
  have fH39_a5 := (hqH39 _ na5).trans fH37_a5
  have fH39_a8 := (hqH39 _ na8).trans fH37_a8
  have fH39_a11 := (hqH39 _ na11).trans fH37_a11
  have fH39_a14 := (hqH39 _ na14).trans fH37_a14
  have fH39_a17 := (hqH39 _ na17).trans fH37_a17
  have fH39_a20 := (hqH39 _ na20).trans fH37_a20
  have fH39_a23 := (hqH39 _ na23).trans fH37_a23
  have fH39_a26 := (hqH39 _ na26).trans fH37_a26
  have fH39_a29 := (hqH39 _ na29).trans fH37_a29
  have fH39_a32 := (hqH39 _ na32).trans fH37_a32
  have fH39_a35 := (hqH39 _ na35).trans fH37_a35
  have fH39_a38 := (hqH39 _ na38).trans hIH37
  have zH39 := hzH39.trans zH37
  refine lv_aload_n hx hb dX11_init_108 rfl (lv_at hl 0 rfl) ?_
  refine lv_bipush (v := 80) hx hb dX11_init_109 (by decide) ?_
  refine hk_newi (N := 80) X K (by decide +kernel) hS (by decide) (by decide) (Nat.le_of_ble_eq_true rfl) (Nat.le_of_ble_eq_true rfl) (Nat.le_of_ble_eq_true rfl) dX11_init_111 (fun H40 hIH40 hzH40 hqH40 hS => ?_)
  obtain ⟨a41, ea41⟩ : ∃ z : Nat, z = H39.size := ⟨_, rfl⟩
  rw [← ea41] at hIH40 ⊢
  have fH40_mo : hk_O E mo 11 [.ref a2, .int 0, .ref a5, .ref a8, .ref a11, .ref a14, .ref a17, .ref a20, .int 0, .ref a23, .ref a26, .ref a29, .int 0, .ref a32, .ref a35, .ref a38, .null, .null, .null, .null, .null, .null, .int 0, .null, .null, .null, .null, .null, .null, .int 0, .null, .null, .int 0, .int 0, .int 0, .null, .null, .null, .int 0, .null, .null, .null] H40 := va_at.kept hOH39 (hqH40 _ (va_at.lt hOH39))
  have fH40_a2 := (hqH40 _ (Array.getElem?_eq_some_iff.mp fH39_a2).1).trans fH39_a2
  have fH40_a5 := (hqH40 _ (Array.getElem?_eq_some_iff.mp fH39_a5).1).trans fH39_a5
  have fH40_a8 := (hqH40 _ (Array.getElem?_eq_some_iff.mp fH39_a8).1).trans fH39_a8
  have fH40_a11 := (hqH40 _ (Array.getElem?_eq_some_iff.mp fH39_a11).1).trans fH39_a11
  have fH40_a14 := (hqH40 _ (Array.getElem?_eq_some_iff.mp fH39_a14).1).trans fH39_a14
  have fH40_a17 := (hqH40 _ (Array.getElem?_eq_some_iff.mp fH39_a17).1).trans fH39_a17
  have fH40_a20 := (hqH40 _ (Array.getElem?_eq_some_iff.mp fH39_a20).1).trans fH39_a20
  have fH40_a23 := (hqH40 _ (Array.getElem?_eq_some_iff.mp fH39_a23).1).trans fH39_a23
  have fH40_a26 := (hqH40 _ (Array.getElem?_eq_some_iff.mp fH39_a26).1).trans fH39_a26
  have fH40_a29 := (hqH40 _ (Array.getElem?_eq_some_iff.mp fH39_a29).1).trans fH39_a29
  have fH40_a32 := (hqH40 _ (Array.getElem?_eq_some_iff.mp fH39_a32).1).trans fH39_a32
  have fH40_a35 := (hqH40 _ (Array.getElem?_eq_some_iff.mp fH39_a35).1).trans fH39_a35
  have fH40_a38 := (hqH40 _ (Array.getElem?_eq_some_iff.mp fH39_a38).1).trans fH39_a38
  have va41 : a41 = H0.size + 13 := ea41.trans zH39
  have zH40 : H40.size = H0.size + 14 := by rw [hzH40, zH39]
  have na41 : a41 ≠ mo := fun g => absurd hlt0 (by rw [← g, va41]; exact Nat.not_lt.mpr (Nat.le_add_right _ _))
  refine hk_putF (ref := "LightcurveHouseModel") X K fH40_mo rfl iX11_init_X11 tyX11 tyX11_ok nmX11 hS (Or.inl rfl) 16 (by decide) (by decide +kernel) (fun _ h => h) (by decide +kernel) hnm (by decide +kernel) rfl rfl (Nat.le_of_ble_eq_true rfl) dX11_init_113 (fun H42 locsH42 hOH42 hzH42 hqH42 hS => ?_)
  have hOH42 : hk_O E mo 11 [.ref a2, .int 0, .ref a5, .ref a8, .ref a11, .ref a14, .ref a17, .ref a20, .int 0, .ref a23, .ref a26, .ref a29, .int 0, .ref a32, .ref a35, .ref a38, .ref a41, .null, .null, .null, .null, .null, .int 0, .null, .null, .null, .null, .null, .null, .int 0, .null, .null, .int 0, .int 0, .int 0, .null, .null, .null, .int 0, .null, .null, .null] H42 := hOH42
  have fH42_a2 := (hqH42 _ na2).trans fH40_a2
  have fH42_a5 := (hqH42 _ na5).trans fH40_a5
  have fH42_a8 := (hqH42 _ na8).trans fH40_a8
  have fH42_a11 := (hqH42 _ na11).trans fH40_a11
  have fH42_a14 := (hqH42 _ na14).trans fH40_a14
  have fH42_a17 := (hqH42 _ na17).trans fH40_a17
  have fH42_a20 := (hqH42 _ na20).trans fH40_a20
  have fH42_a23 := (hqH42 _ na23).trans fH40_a23
  have fH42_a26 := (hqH42 _ na26).trans fH40_a26
  have fH42_a29 := (hqH42 _ na29).trans fH40_a29
  have fH42_a32 := (hqH42 _ na32).trans fH40_a32
  have fH42_a35 := (hqH42 _ na35).trans fH40_a35
  have fH42_a38 := (hqH42 _ na38).trans fH40_a38
  have fH42_a41 := (hqH42 _ na41).trans hIH40
  have zH42 := hzH42.trans zH40
  refine lv_aload_n hx hb dX11_init_116 rfl (lv_at hl 0 rfl) ?_
  refine lv_bipush (v := 80) hx hb dX11_init_117 (by decide) ?_
  refine hk_newi (N := 80) X K (by decide +kernel) hS (by decide) (by decide) (Nat.le_of_ble_eq_true rfl) (Nat.le_of_ble_eq_true rfl) (Nat.le_of_ble_eq_true rfl) dX11_init_119 (fun H43 hIH43 hzH43 hqH43 hS => ?_)
  obtain ⟨a44, ea44⟩ : ∃ z : Nat, z = H42.size := ⟨_, rfl⟩
  rw [← ea44] at hIH43 ⊢
  have fH43_mo : hk_O E mo 11 [.ref a2, .int 0, .ref a5, .ref a8, .ref a11, .ref a14, .ref a17, .ref a20, .int 0, .ref a23, .ref a26, .ref a29, .int 0, .ref a32, .ref a35, .ref a38, .ref a41, .null, .null, .null, .null, .null, .int 0, .null, .null, .null, .null, .null, .null, .int 0, .null, .null, .int 0, .int 0, .int 0, .null, .null, .null, .int 0, .null, .null, .null] H43 := va_at.kept hOH42 (hqH43 _ (va_at.lt hOH42))
  have fH43_a2 := (hqH43 _ (Array.getElem?_eq_some_iff.mp fH42_a2).1).trans fH42_a2
  have fH43_a5 := (hqH43 _ (Array.getElem?_eq_some_iff.mp fH42_a5).1).trans fH42_a5
  have fH43_a8 := (hqH43 _ (Array.getElem?_eq_some_iff.mp fH42_a8).1).trans fH42_a8
  have fH43_a11 := (hqH43 _ (Array.getElem?_eq_some_iff.mp fH42_a11).1).trans fH42_a11
  have fH43_a14 := (hqH43 _ (Array.getElem?_eq_some_iff.mp fH42_a14).1).trans fH42_a14
  have fH43_a17 := (hqH43 _ (Array.getElem?_eq_some_iff.mp fH42_a17).1).trans fH42_a17
  have fH43_a20 := (hqH43 _ (Array.getElem?_eq_some_iff.mp fH42_a20).1).trans fH42_a20
  have fH43_a23 := (hqH43 _ (Array.getElem?_eq_some_iff.mp fH42_a23).1).trans fH42_a23
  have fH43_a26 := (hqH43 _ (Array.getElem?_eq_some_iff.mp fH42_a26).1).trans fH42_a26
  have fH43_a29 := (hqH43 _ (Array.getElem?_eq_some_iff.mp fH42_a29).1).trans fH42_a29
  have fH43_a32 := (hqH43 _ (Array.getElem?_eq_some_iff.mp fH42_a32).1).trans fH42_a32
  have fH43_a35 := (hqH43 _ (Array.getElem?_eq_some_iff.mp fH42_a35).1).trans fH42_a35
  have fH43_a38 := (hqH43 _ (Array.getElem?_eq_some_iff.mp fH42_a38).1).trans fH42_a38
  have fH43_a41 := (hqH43 _ (Array.getElem?_eq_some_iff.mp fH42_a41).1).trans fH42_a41
  have va44 : a44 = H0.size + 14 := ea44.trans zH42
  have zH43 : H43.size = H0.size + 15 := by rw [hzH43, zH42]
  have na44 : a44 ≠ mo := fun g => absurd hlt0 (by rw [← g, va44]; exact Nat.not_lt.mpr (Nat.le_add_right _ _))
  refine hk_putF (ref := "LightcurveHouseModel") X K fH43_mo rfl iX11_init_X11 tyX11 tyX11_ok nmX11 hS (Or.inl rfl) 17 (by decide) (by decide +kernel) (fun _ h => h) (by decide +kernel) hnm (by decide +kernel) rfl rfl (Nat.le_of_ble_eq_true rfl) dX11_init_121 (fun H45 locsH45 hOH45 hzH45 hqH45 hS => ?_)
  have hOH45 : hk_O E mo 11 [.ref a2, .int 0, .ref a5, .ref a8, .ref a11, .ref a14, .ref a17, .ref a20, .int 0, .ref a23, .ref a26, .ref a29, .int 0, .ref a32, .ref a35, .ref a38, .ref a41, .ref a44, .null, .null, .null, .null, .int 0, .null, .null, .null, .null, .null, .null, .int 0, .null, .null, .int 0, .int 0, .int 0, .null, .null, .null, .int 0, .null, .null, .null] H45 := hOH45
  have fH45_a2 := (hqH45 _ na2).trans fH43_a2
  have fH45_a5 := (hqH45 _ na5).trans fH43_a5
  have fH45_a8 := (hqH45 _ na8).trans fH43_a8
  have fH45_a11 := (hqH45 _ na11).trans fH43_a11
  have fH45_a14 := (hqH45 _ na14).trans fH43_a14
  have fH45_a17 := (hqH45 _ na17).trans fH43_a17
  have fH45_a20 := (hqH45 _ na20).trans fH43_a20
  have fH45_a23 := (hqH45 _ na23).trans fH43_a23
  have fH45_a26 := (hqH45 _ na26).trans fH43_a26
  have fH45_a29 := (hqH45 _ na29).trans fH43_a29
  have fH45_a32 := (hqH45 _ na32).trans fH43_a32
  have fH45_a35 := (hqH45 _ na35).trans fH43_a35
  have fH45_a38 := (hqH45 _ na38).trans fH43_a38
  have fH45_a41 := (hqH45 _ na41).trans fH43_a41
  have fH45_a44 := (hqH45 _ na44).trans hIH43
  have zH45 := hzH45.trans zH43
  refine lv_aload_n hx hb dX11_init_124 rfl (lv_at hl 0 rfl) ?_
  refine lv_bipush (v := 80) hx hb dX11_init_125 (by decide) ?_
  refine hk_newi (N := 80) X K (by decide +kernel) hS (by decide) (by decide) (Nat.le_of_ble_eq_true rfl) (Nat.le_of_ble_eq_true rfl) (Nat.le_of_ble_eq_true rfl) dX11_init_127 (fun H46 hIH46 hzH46 hqH46 hS => ?_)
  obtain ⟨a47, ea47⟩ : ∃ z : Nat, z = H45.size := ⟨_, rfl⟩
  rw [← ea47] at hIH46 ⊢
  have fH46_mo : hk_O E mo 11 [.ref a2, .int 0, .ref a5, .ref a8, .ref a11, .ref a14, .ref a17, .ref a20, .int 0, .ref a23, .ref a26, .ref a29, .int 0, .ref a32, .ref a35, .ref a38, .ref a41, .ref a44, .null, .null, .null, .null, .int 0, .null, .null, .null, .null, .null, .null, .int 0, .null, .null, .int 0, .int 0, .int 0, .null, .null, .null, .int 0, .null, .null, .null] H46 := va_at.kept hOH45 (hqH46 _ (va_at.lt hOH45))
  have fH46_a2 := (hqH46 _ (Array.getElem?_eq_some_iff.mp fH45_a2).1).trans fH45_a2
  have fH46_a5 := (hqH46 _ (Array.getElem?_eq_some_iff.mp fH45_a5).1).trans fH45_a5
  have fH46_a8 := (hqH46 _ (Array.getElem?_eq_some_iff.mp fH45_a8).1).trans fH45_a8
  have fH46_a11 := (hqH46 _ (Array.getElem?_eq_some_iff.mp fH45_a11).1).trans fH45_a11
  have fH46_a14 := (hqH46 _ (Array.getElem?_eq_some_iff.mp fH45_a14).1).trans fH45_a14
  have fH46_a17 := (hqH46 _ (Array.getElem?_eq_some_iff.mp fH45_a17).1).trans fH45_a17
  have fH46_a20 := (hqH46 _ (Array.getElem?_eq_some_iff.mp fH45_a20).1).trans fH45_a20
  have fH46_a23 := (hqH46 _ (Array.getElem?_eq_some_iff.mp fH45_a23).1).trans fH45_a23
  have fH46_a26 := (hqH46 _ (Array.getElem?_eq_some_iff.mp fH45_a26).1).trans fH45_a26
  have fH46_a29 := (hqH46 _ (Array.getElem?_eq_some_iff.mp fH45_a29).1).trans fH45_a29
  have fH46_a32 := (hqH46 _ (Array.getElem?_eq_some_iff.mp fH45_a32).1).trans fH45_a32
  have fH46_a35 := (hqH46 _ (Array.getElem?_eq_some_iff.mp fH45_a35).1).trans fH45_a35
  have fH46_a38 := (hqH46 _ (Array.getElem?_eq_some_iff.mp fH45_a38).1).trans fH45_a38
  have fH46_a41 := (hqH46 _ (Array.getElem?_eq_some_iff.mp fH45_a41).1).trans fH45_a41
  have fH46_a44 := (hqH46 _ (Array.getElem?_eq_some_iff.mp fH45_a44).1).trans fH45_a44
  have va47 : a47 = H0.size + 15 := ea47.trans zH45
  have zH46 : H46.size = H0.size + 16 := by rw [hzH46, zH45]
  have na47 : a47 ≠ mo := fun g => absurd hlt0 (by rw [← g, va47]; exact Nat.not_lt.mpr (Nat.le_add_right _ _))
  refine hk_putF (ref := "LightcurveHouseModel") X K fH46_mo rfl iX11_init_X11 tyX11 tyX11_ok nmX11 hS (Or.inl rfl) 18 (by decide) (by decide +kernel) (fun _ h => h) (by decide +kernel) hnm (by decide +kernel) rfl rfl (Nat.le_of_ble_eq_true rfl) dX11_init_129 (fun H48 locsH48 hOH48 hzH48 hqH48 hS => ?_)
  have hOH48 : hk_O E mo 11 [.ref a2, .int 0, .ref a5, .ref a8, .ref a11, .ref a14, .ref a17, .ref a20, .int 0, .ref a23, .ref a26, .ref a29, .int 0, .ref a32, .ref a35, .ref a38, .ref a41, .ref a44, .ref a47, .null, .null, .null, .int 0, .null, .null, .null, .null, .null, .null, .int 0, .null, .null, .int 0, .int 0, .int 0, .null, .null, .null, .int 0, .null, .null, .null] H48 := hOH48
  have fH48_a2 := (hqH48 _ na2).trans fH46_a2
  have fH48_a5 := (hqH48 _ na5).trans fH46_a5
  have fH48_a8 := (hqH48 _ na8).trans fH46_a8
  have fH48_a11 := (hqH48 _ na11).trans fH46_a11
  have fH48_a14 := (hqH48 _ na14).trans fH46_a14
  have fH48_a17 := (hqH48 _ na17).trans fH46_a17
  have fH48_a20 := (hqH48 _ na20).trans fH46_a20
  have fH48_a23 := (hqH48 _ na23).trans fH46_a23
  have fH48_a26 := (hqH48 _ na26).trans fH46_a26
  have fH48_a29 := (hqH48 _ na29).trans fH46_a29
  have fH48_a32 := (hqH48 _ na32).trans fH46_a32
  have fH48_a35 := (hqH48 _ na35).trans fH46_a35
  have fH48_a38 := (hqH48 _ na38).trans fH46_a38
  have fH48_a41 := (hqH48 _ na41).trans fH46_a41
  have fH48_a44 := (hqH48 _ na44).trans fH46_a44
  have fH48_a47 := (hqH48 _ na47).trans hIH46
  have zH48 := hzH48.trans zH46
  refine lv_aload_n hx hb dX11_init_132 rfl (lv_at hl 0 rfl) ?_
  refine lv_bipush (v := 80) hx hb dX11_init_133 (by decide) ?_
  refine hk_newi (N := 80) X K (by decide +kernel) hS (by decide) (by decide) (Nat.le_of_ble_eq_true rfl) (Nat.le_of_ble_eq_true rfl) (Nat.le_of_ble_eq_true rfl) dX11_init_135 (fun H49 hIH49 hzH49 hqH49 hS => ?_)
  obtain ⟨a50, ea50⟩ : ∃ z : Nat, z = H48.size := ⟨_, rfl⟩
  rw [← ea50] at hIH49 ⊢
  have fH49_mo : hk_O E mo 11 [.ref a2, .int 0, .ref a5, .ref a8, .ref a11, .ref a14, .ref a17, .ref a20, .int 0, .ref a23, .ref a26, .ref a29, .int 0, .ref a32, .ref a35, .ref a38, .ref a41, .ref a44, .ref a47, .null, .null, .null, .int 0, .null, .null, .null, .null, .null, .null, .int 0, .null, .null, .int 0, .int 0, .int 0, .null, .null, .null, .int 0, .null, .null, .null] H49 := va_at.kept hOH48 (hqH49 _ (va_at.lt hOH48))
  have fH49_a2 := (hqH49 _ (Array.getElem?_eq_some_iff.mp fH48_a2).1).trans fH48_a2
  have fH49_a5 := (hqH49 _ (Array.getElem?_eq_some_iff.mp fH48_a5).1).trans fH48_a5
  have fH49_a8 := (hqH49 _ (Array.getElem?_eq_some_iff.mp fH48_a8).1).trans fH48_a8
  have fH49_a11 := (hqH49 _ (Array.getElem?_eq_some_iff.mp fH48_a11).1).trans fH48_a11
  have fH49_a14 := (hqH49 _ (Array.getElem?_eq_some_iff.mp fH48_a14).1).trans fH48_a14
  have fH49_a17 := (hqH49 _ (Array.getElem?_eq_some_iff.mp fH48_a17).1).trans fH48_a17
  have fH49_a20 := (hqH49 _ (Array.getElem?_eq_some_iff.mp fH48_a20).1).trans fH48_a20
  have fH49_a23 := (hqH49 _ (Array.getElem?_eq_some_iff.mp fH48_a23).1).trans fH48_a23
  have fH49_a26 := (hqH49 _ (Array.getElem?_eq_some_iff.mp fH48_a26).1).trans fH48_a26
  have fH49_a29 := (hqH49 _ (Array.getElem?_eq_some_iff.mp fH48_a29).1).trans fH48_a29
  have fH49_a32 := (hqH49 _ (Array.getElem?_eq_some_iff.mp fH48_a32).1).trans fH48_a32
  have fH49_a35 := (hqH49 _ (Array.getElem?_eq_some_iff.mp fH48_a35).1).trans fH48_a35
  have fH49_a38 := (hqH49 _ (Array.getElem?_eq_some_iff.mp fH48_a38).1).trans fH48_a38
  have fH49_a41 := (hqH49 _ (Array.getElem?_eq_some_iff.mp fH48_a41).1).trans fH48_a41
  have fH49_a44 := (hqH49 _ (Array.getElem?_eq_some_iff.mp fH48_a44).1).trans fH48_a44
  have fH49_a47 := (hqH49 _ (Array.getElem?_eq_some_iff.mp fH48_a47).1).trans fH48_a47
  have va50 : a50 = H0.size + 16 := ea50.trans zH48
  have zH49 : H49.size = H0.size + 17 := by rw [hzH49, zH48]
  have na50 : a50 ≠ mo := fun g => absurd hlt0 (by rw [← g, va50]; exact Nat.not_lt.mpr (Nat.le_add_right _ _))
  refine hk_putF (ref := "LightcurveHouseModel") X K fH49_mo rfl iX11_init_X11 tyX11 tyX11_ok nmX11 hS (Or.inl rfl) 19 (by decide) (by decide +kernel) (fun _ h => h) (by decide +kernel) hnm (by decide +kernel) rfl rfl (Nat.le_of_ble_eq_true rfl) dX11_init_137 (fun H51 locsH51 hOH51 hzH51 hqH51 hS => ?_)
  have hOH51 : hk_O E mo 11 [.ref a2, .int 0, .ref a5, .ref a8, .ref a11, .ref a14, .ref a17, .ref a20, .int 0, .ref a23, .ref a26, .ref a29, .int 0, .ref a32, .ref a35, .ref a38, .ref a41, .ref a44, .ref a47, .ref a50, .null, .null, .int 0, .null, .null, .null, .null, .null, .null, .int 0, .null, .null, .int 0, .int 0, .int 0, .null, .null, .null, .int 0, .null, .null, .null] H51 := hOH51
  have fH51_a2 := (hqH51 _ na2).trans fH49_a2
  have fH51_a5 := (hqH51 _ na5).trans fH49_a5
  have fH51_a8 := (hqH51 _ na8).trans fH49_a8
  have fH51_a11 := (hqH51 _ na11).trans fH49_a11
  have fH51_a14 := (hqH51 _ na14).trans fH49_a14
  have fH51_a17 := (hqH51 _ na17).trans fH49_a17
  have fH51_a20 := (hqH51 _ na20).trans fH49_a20
  have fH51_a23 := (hqH51 _ na23).trans fH49_a23
  have fH51_a26 := (hqH51 _ na26).trans fH49_a26
  have fH51_a29 := (hqH51 _ na29).trans fH49_a29
  have fH51_a32 := (hqH51 _ na32).trans fH49_a32
  have fH51_a35 := (hqH51 _ na35).trans fH49_a35
  have fH51_a38 := (hqH51 _ na38).trans fH49_a38
  have fH51_a41 := (hqH51 _ na41).trans fH49_a41
  have fH51_a44 := (hqH51 _ na44).trans fH49_a44
  have fH51_a47 := (hqH51 _ na47).trans fH49_a47
  have fH51_a50 := (hqH51 _ na50).trans hIH49
  have zH51 := hzH51.trans zH49
  refine lv_aload_n hx hb dX11_init_140 rfl (lv_at hl 0 rfl) ?_
  refine lv_bipush (v := 80) hx hb dX11_init_141 (by decide) ?_
  refine hk_newi (N := 80) X K (by decide +kernel) hS (by decide) (by decide) (Nat.le_of_ble_eq_true rfl) (Nat.le_of_ble_eq_true rfl) (Nat.le_of_ble_eq_true rfl) dX11_init_143 (fun H52 hIH52 hzH52 hqH52 hS => ?_)
  obtain ⟨a53, ea53⟩ : ∃ z : Nat, z = H51.size := ⟨_, rfl⟩
  rw [← ea53] at hIH52 ⊢
  have fH52_mo : hk_O E mo 11 [.ref a2, .int 0, .ref a5, .ref a8, .ref a11, .ref a14, .ref a17, .ref a20, .int 0, .ref a23, .ref a26, .ref a29, .int 0, .ref a32, .ref a35, .ref a38, .ref a41, .ref a44, .ref a47, .ref a50, .null, .null, .int 0, .null, .null, .null, .null, .null, .null, .int 0, .null, .null, .int 0, .int 0, .int 0, .null, .null, .null, .int 0, .null, .null, .null] H52 := va_at.kept hOH51 (hqH52 _ (va_at.lt hOH51))
  have fH52_a2 := (hqH52 _ (Array.getElem?_eq_some_iff.mp fH51_a2).1).trans fH51_a2
  have fH52_a5 := (hqH52 _ (Array.getElem?_eq_some_iff.mp fH51_a5).1).trans fH51_a5
  have fH52_a8 := (hqH52 _ (Array.getElem?_eq_some_iff.mp fH51_a8).1).trans fH51_a8
  have fH52_a11 := (hqH52 _ (Array.getElem?_eq_some_iff.mp fH51_a11).1).trans fH51_a11
  have fH52_a14 := (hqH52 _ (Array.getElem?_eq_some_iff.mp fH51_a14).1).trans fH51_a14
  have fH52_a17 := (hqH52 _ (Array.getElem?_eq_some_iff.mp fH51_a17).1).trans fH51_a17
  have fH52_a20 := (hqH52 _ (Array.getElem?_eq_some_iff.mp fH51_a20).1).trans fH51_a20
  have fH52_a23 := (hqH52 _ (Array.getElem?_eq_some_iff.mp fH51_a23).1).trans fH51_a23
  have fH52_a26 := (hqH52 _ (Array.getElem?_eq_some_iff.mp fH51_a26).1).trans fH51_a26
  have fH52_a29 := (hqH52 _ (Array.getElem?_eq_some_iff.mp fH51_a29).1).trans fH51_a29
  have fH52_a32 := (hqH52 _ (Array.getElem?_eq_some_iff.mp fH51_a32).1).trans fH51_a32
  have fH52_a35 := (hqH52 _ (Array.getElem?_eq_some_iff.mp fH51_a35).1).trans fH51_a35
  have fH52_a38 := (hqH52 _ (Array.getElem?_eq_some_iff.mp fH51_a38).1).trans fH51_a38
  have fH52_a41 := (hqH52 _ (Array.getElem?_eq_some_iff.mp fH51_a41).1).trans fH51_a41
  have fH52_a44 := (hqH52 _ (Array.getElem?_eq_some_iff.mp fH51_a44).1).trans fH51_a44
  have fH52_a47 := (hqH52 _ (Array.getElem?_eq_some_iff.mp fH51_a47).1).trans fH51_a47
  have fH52_a50 := (hqH52 _ (Array.getElem?_eq_some_iff.mp fH51_a50).1).trans fH51_a50
  have va53 : a53 = H0.size + 17 := ea53.trans zH51
  have zH52 : H52.size = H0.size + 18 := by rw [hzH52, zH51]
  have na53 : a53 ≠ mo := fun g => absurd hlt0 (by rw [← g, va53]; exact Nat.not_lt.mpr (Nat.le_add_right _ _))
  refine hk_putF (ref := "LightcurveHouseModel") X K fH52_mo rfl iX11_init_X11 tyX11 tyX11_ok nmX11 hS (Or.inl rfl) 20 (by decide) (by decide +kernel) (fun _ h => h) (by decide +kernel) hnm (by decide +kernel) rfl rfl (Nat.le_of_ble_eq_true rfl) dX11_init_145 (fun H54 locsH54 hOH54 hzH54 hqH54 hS => ?_)
  have hOH54 : hk_O E mo 11 [.ref a2, .int 0, .ref a5, .ref a8, .ref a11, .ref a14, .ref a17, .ref a20, .int 0, .ref a23, .ref a26, .ref a29, .int 0, .ref a32, .ref a35, .ref a38, .ref a41, .ref a44, .ref a47, .ref a50, .ref a53, .null, .int 0, .null, .null, .null, .null, .null, .null, .int 0, .null, .null, .int 0, .int 0, .int 0, .null, .null, .null, .int 0, .null, .null, .null] H54 := hOH54
  have fH54_a2 := (hqH54 _ na2).trans fH52_a2
  have fH54_a5 := (hqH54 _ na5).trans fH52_a5
  have fH54_a8 := (hqH54 _ na8).trans fH52_a8
  have fH54_a11 := (hqH54 _ na11).trans fH52_a11
  have fH54_a14 := (hqH54 _ na14).trans fH52_a14
  have fH54_a17 := (hqH54 _ na17).trans fH52_a17
  have fH54_a20 := (hqH54 _ na20).trans fH52_a20
  have fH54_a23 := (hqH54 _ na23).trans fH52_a23
  have fH54_a26 := (hqH54 _ na26).trans fH52_a26
  have fH54_a29 := (hqH54 _ na29).trans fH52_a29
  have fH54_a32 := (hqH54 _ na32).trans fH52_a32
  have fH54_a35 := (hqH54 _ na35).trans fH52_a35
  have fH54_a38 := (hqH54 _ na38).trans fH52_a38
  have fH54_a41 := (hqH54 _ na41).trans fH52_a41
  have fH54_a44 := (hqH54 _ na44).trans fH52_a44
  have fH54_a47 := (hqH54 _ na47).trans fH52_a47
  have fH54_a50 := (hqH54 _ na50).trans fH52_a50
  have fH54_a53 := (hqH54 _ na53).trans hIH52
  have zH54 := hzH54.trans zH52
  refine lv_aload_n hx hb dX11_init_148 rfl (lv_at hl 0 rfl) ?_
  refine lv_bipush (v := 80) hx hb dX11_init_149 (by decide) ?_
  refine hk_newz (N := 80) X K (by decide +kernel) hS (by decide) (by decide) (Nat.le_of_ble_eq_true rfl) (Nat.le_of_ble_eq_true rfl) (Nat.le_of_ble_eq_true rfl) dX11_init_151 (fun H55 hIH55 hzH55 hqH55 hS => ?_)
  obtain ⟨a56, ea56⟩ : ∃ z : Nat, z = H54.size := ⟨_, rfl⟩
  rw [← ea56] at hIH55 ⊢
  have fH55_mo : hk_O E mo 11 [.ref a2, .int 0, .ref a5, .ref a8, .ref a11, .ref a14, .ref a17, .ref a20, .int 0, .ref a23, .ref a26, .ref a29, .int 0, .ref a32, .ref a35, .ref a38, .ref a41, .ref a44, .ref a47, .ref a50, .ref a53, .null, .int 0, .null, .null, .null, .null, .null, .null, .int 0, .null, .null, .int 0, .int 0, .int 0, .null, .null, .null, .int 0, .null, .null, .null] H55 := va_at.kept hOH54 (hqH55 _ (va_at.lt hOH54))
  have fH55_a2 := (hqH55 _ (Array.getElem?_eq_some_iff.mp fH54_a2).1).trans fH54_a2
  have fH55_a5 := (hqH55 _ (Array.getElem?_eq_some_iff.mp fH54_a5).1).trans fH54_a5
  have fH55_a8 := (hqH55 _ (Array.getElem?_eq_some_iff.mp fH54_a8).1).trans fH54_a8
  have fH55_a11 := (hqH55 _ (Array.getElem?_eq_some_iff.mp fH54_a11).1).trans fH54_a11
  have fH55_a14 := (hqH55 _ (Array.getElem?_eq_some_iff.mp fH54_a14).1).trans fH54_a14
  have fH55_a17 := (hqH55 _ (Array.getElem?_eq_some_iff.mp fH54_a17).1).trans fH54_a17
  have fH55_a20 := (hqH55 _ (Array.getElem?_eq_some_iff.mp fH54_a20).1).trans fH54_a20
  have fH55_a23 := (hqH55 _ (Array.getElem?_eq_some_iff.mp fH54_a23).1).trans fH54_a23
  have fH55_a26 := (hqH55 _ (Array.getElem?_eq_some_iff.mp fH54_a26).1).trans fH54_a26
  have fH55_a29 := (hqH55 _ (Array.getElem?_eq_some_iff.mp fH54_a29).1).trans fH54_a29
  have fH55_a32 := (hqH55 _ (Array.getElem?_eq_some_iff.mp fH54_a32).1).trans fH54_a32
  have fH55_a35 := (hqH55 _ (Array.getElem?_eq_some_iff.mp fH54_a35).1).trans fH54_a35
  have fH55_a38 := (hqH55 _ (Array.getElem?_eq_some_iff.mp fH54_a38).1).trans fH54_a38
  have fH55_a41 := (hqH55 _ (Array.getElem?_eq_some_iff.mp fH54_a41).1).trans fH54_a41
  have fH55_a44 := (hqH55 _ (Array.getElem?_eq_some_iff.mp fH54_a44).1).trans fH54_a44
  have fH55_a47 := (hqH55 _ (Array.getElem?_eq_some_iff.mp fH54_a47).1).trans fH54_a47
  have fH55_a50 := (hqH55 _ (Array.getElem?_eq_some_iff.mp fH54_a50).1).trans fH54_a50
  have fH55_a53 := (hqH55 _ (Array.getElem?_eq_some_iff.mp fH54_a53).1).trans fH54_a53
  have va56 : a56 = H0.size + 18 := ea56.trans zH54
  have zH55 : H55.size = H0.size + 19 := by rw [hzH55, zH54]
  have na56 : a56 ≠ mo := fun g => absurd hlt0 (by rw [← g, va56]; exact Nat.not_lt.mpr (Nat.le_add_right _ _))
  refine hk_putF (ref := "LightcurveHouseModel") X K fH55_mo rfl iX11_init_X11 tyX11 tyX11_ok nmX11 hS (Or.inl rfl) 21 (by decide) (by decide +kernel) (fun _ h => h) (by decide +kernel) hnm (by decide +kernel) rfl rfl (Nat.le_of_ble_eq_true rfl) dX11_init_153 (fun H57 locsH57 hOH57 hzH57 hqH57 hS => ?_)
  have hOH57 : hk_O E mo 11 [.ref a2, .int 0, .ref a5, .ref a8, .ref a11, .ref a14, .ref a17, .ref a20, .int 0, .ref a23, .ref a26, .ref a29, .int 0, .ref a32, .ref a35, .ref a38, .ref a41, .ref a44, .ref a47, .ref a50, .ref a53, .ref a56, .int 0, .null, .null, .null, .null, .null, .null, .int 0, .null, .null, .int 0, .int 0, .int 0, .null, .null, .null, .int 0, .null, .null, .null] H57 := hOH57
  have fH57_a2 := (hqH57 _ na2).trans fH55_a2
  have fH57_a5 := (hqH57 _ na5).trans fH55_a5
  have fH57_a8 := (hqH57 _ na8).trans fH55_a8
  have fH57_a11 := (hqH57 _ na11).trans fH55_a11
  have fH57_a14 := (hqH57 _ na14).trans fH55_a14
  have fH57_a17 := (hqH57 _ na17).trans fH55_a17
  have fH57_a20 := (hqH57 _ na20).trans fH55_a20
  have fH57_a23 := (hqH57 _ na23).trans fH55_a23
  have fH57_a26 := (hqH57 _ na26).trans fH55_a26
  have fH57_a29 := (hqH57 _ na29).trans fH55_a29
  have fH57_a32 := (hqH57 _ na32).trans fH55_a32
  have fH57_a35 := (hqH57 _ na35).trans fH55_a35
  have fH57_a38 := (hqH57 _ na38).trans fH55_a38
  have fH57_a41 := (hqH57 _ na41).trans fH55_a41
  have fH57_a44 := (hqH57 _ na44).trans fH55_a44
  have fH57_a47 := (hqH57 _ na47).trans fH55_a47
  have fH57_a50 := (hqH57 _ na50).trans fH55_a50
  have fH57_a53 := (hqH57 _ na53).trans fH55_a53
  have fH57_a56 := (hqH57 _ na56).trans hIH55
  have zH57 := hzH57.trans zH55
  refine lv_aload_n hx hb dX11_init_156 rfl (lv_at hl 0 rfl) ?_
  refine lv_bipush (v := 8) hx hb dX11_init_157 (by decide) ?_
  refine hk_newi (N := 8) X K (by decide +kernel) hS (by decide) (by decide) (Nat.le_of_ble_eq_true rfl) (Nat.le_of_ble_eq_true rfl) (Nat.le_of_ble_eq_true rfl) dX11_init_159 (fun H58 hIH58 hzH58 hqH58 hS => ?_)
  obtain ⟨a59, ea59⟩ : ∃ z : Nat, z = H57.size := ⟨_, rfl⟩
  rw [← ea59] at hIH58 ⊢
  have fH58_mo : hk_O E mo 11 [.ref a2, .int 0, .ref a5, .ref a8, .ref a11, .ref a14, .ref a17, .ref a20, .int 0, .ref a23, .ref a26, .ref a29, .int 0, .ref a32, .ref a35, .ref a38, .ref a41, .ref a44, .ref a47, .ref a50, .ref a53, .ref a56, .int 0, .null, .null, .null, .null, .null, .null, .int 0, .null, .null, .int 0, .int 0, .int 0, .null, .null, .null, .int 0, .null, .null, .null] H58 := va_at.kept hOH57 (hqH58 _ (va_at.lt hOH57))
  have fH58_a2 := (hqH58 _ (Array.getElem?_eq_some_iff.mp fH57_a2).1).trans fH57_a2
  have fH58_a5 := (hqH58 _ (Array.getElem?_eq_some_iff.mp fH57_a5).1).trans fH57_a5
  have fH58_a8 := (hqH58 _ (Array.getElem?_eq_some_iff.mp fH57_a8).1).trans fH57_a8
  have fH58_a11 := (hqH58 _ (Array.getElem?_eq_some_iff.mp fH57_a11).1).trans fH57_a11
  have fH58_a14 := (hqH58 _ (Array.getElem?_eq_some_iff.mp fH57_a14).1).trans fH57_a14
  have fH58_a17 := (hqH58 _ (Array.getElem?_eq_some_iff.mp fH57_a17).1).trans fH57_a17
  have fH58_a20 := (hqH58 _ (Array.getElem?_eq_some_iff.mp fH57_a20).1).trans fH57_a20
  have fH58_a23 := (hqH58 _ (Array.getElem?_eq_some_iff.mp fH57_a23).1).trans fH57_a23
  have fH58_a26 := (hqH58 _ (Array.getElem?_eq_some_iff.mp fH57_a26).1).trans fH57_a26
  have fH58_a29 := (hqH58 _ (Array.getElem?_eq_some_iff.mp fH57_a29).1).trans fH57_a29
  have fH58_a32 := (hqH58 _ (Array.getElem?_eq_some_iff.mp fH57_a32).1).trans fH57_a32
  have fH58_a35 := (hqH58 _ (Array.getElem?_eq_some_iff.mp fH57_a35).1).trans fH57_a35
  have fH58_a38 := (hqH58 _ (Array.getElem?_eq_some_iff.mp fH57_a38).1).trans fH57_a38
  have fH58_a41 := (hqH58 _ (Array.getElem?_eq_some_iff.mp fH57_a41).1).trans fH57_a41
  have fH58_a44 := (hqH58 _ (Array.getElem?_eq_some_iff.mp fH57_a44).1).trans fH57_a44
  have fH58_a47 := (hqH58 _ (Array.getElem?_eq_some_iff.mp fH57_a47).1).trans fH57_a47
  have fH58_a50 := (hqH58 _ (Array.getElem?_eq_some_iff.mp fH57_a50).1).trans fH57_a50
  have fH58_a53 := (hqH58 _ (Array.getElem?_eq_some_iff.mp fH57_a53).1).trans fH57_a53
  have fH58_a56 := (hqH58 _ (Array.getElem?_eq_some_iff.mp fH57_a56).1).trans fH57_a56
  have va59 : a59 = H0.size + 19 := ea59.trans zH57
  have zH58 : H58.size = H0.size + 20 := by rw [hzH58, zH57]
  have na59 : a59 ≠ mo := fun g => absurd hlt0 (by rw [← g, va59]; exact Nat.not_lt.mpr (Nat.le_add_right _ _))
  refine hk_putF (ref := "LightcurveHouseModel") X K fH58_mo rfl iX11_init_X11 tyX11 tyX11_ok nmX11 hS (Or.inl rfl) 23 (by decide) (by decide +kernel) (fun _ h => h) (by decide +kernel) hnm (by decide +kernel) rfl rfl (Nat.le_of_ble_eq_true rfl) dX11_init_161 (fun H60 locsH60 hOH60 hzH60 hqH60 hS => ?_)
  have hOH60 : hk_O E mo 11 [.ref a2, .int 0, .ref a5, .ref a8, .ref a11, .ref a14, .ref a17, .ref a20, .int 0, .ref a23, .ref a26, .ref a29, .int 0, .ref a32, .ref a35, .ref a38, .ref a41, .ref a44, .ref a47, .ref a50, .ref a53, .ref a56, .int 0, .ref a59, .null, .null, .null, .null, .null, .int 0, .null, .null, .int 0, .int 0, .int 0, .null, .null, .null, .int 0, .null, .null, .null] H60 := hOH60
  have fH60_a2 := (hqH60 _ na2).trans fH58_a2
  have fH60_a5 := (hqH60 _ na5).trans fH58_a5
  have fH60_a8 := (hqH60 _ na8).trans fH58_a8
  have fH60_a11 := (hqH60 _ na11).trans fH58_a11
  have fH60_a14 := (hqH60 _ na14).trans fH58_a14
  have fH60_a17 := (hqH60 _ na17).trans fH58_a17
  have fH60_a20 := (hqH60 _ na20).trans fH58_a20
  have fH60_a23 := (hqH60 _ na23).trans fH58_a23
  have fH60_a26 := (hqH60 _ na26).trans fH58_a26
  have fH60_a29 := (hqH60 _ na29).trans fH58_a29
  have fH60_a32 := (hqH60 _ na32).trans fH58_a32
  have fH60_a35 := (hqH60 _ na35).trans fH58_a35
  have fH60_a38 := (hqH60 _ na38).trans fH58_a38
  have fH60_a41 := (hqH60 _ na41).trans fH58_a41
  have fH60_a44 := (hqH60 _ na44).trans fH58_a44
  have fH60_a47 := (hqH60 _ na47).trans fH58_a47
  have fH60_a50 := (hqH60 _ na50).trans fH58_a50
  have fH60_a53 := (hqH60 _ na53).trans fH58_a53
  have fH60_a56 := (hqH60 _ na56).trans fH58_a56
  have fH60_a59 := (hqH60 _ na59).trans hIH58
  have zH60 := hzH60.trans zH58
  refine lv_aload_n hx hb dX11_init_164 rfl (lv_at hl 0 rfl) ?_
  refine lv_bipush (v := 8) hx hb dX11_init_165 (by decide) ?_
  refine hk_newi (N := 8) X K (by decide +kernel) hS (by decide) (by decide) (Nat.le_of_ble_eq_true rfl) (Nat.le_of_ble_eq_true rfl) (Nat.le_of_ble_eq_true rfl) dX11_init_167 (fun H61 hIH61 hzH61 hqH61 hS => ?_)
  obtain ⟨a62, ea62⟩ : ∃ z : Nat, z = H60.size := ⟨_, rfl⟩
  rw [← ea62] at hIH61 ⊢
  have fH61_mo : hk_O E mo 11 [.ref a2, .int 0, .ref a5, .ref a8, .ref a11, .ref a14, .ref a17, .ref a20, .int 0, .ref a23, .ref a26, .ref a29, .int 0, .ref a32, .ref a35, .ref a38, .ref a41, .ref a44, .ref a47, .ref a50, .ref a53, .ref a56, .int 0, .ref a59, .null, .null, .null, .null, .null, .int 0, .null, .null, .int 0, .int 0, .int 0, .null, .null, .null, .int 0, .null, .null, .null] H61 := va_at.kept hOH60 (hqH61 _ (va_at.lt hOH60))
  have fH61_a2 := (hqH61 _ (Array.getElem?_eq_some_iff.mp fH60_a2).1).trans fH60_a2
  have fH61_a5 := (hqH61 _ (Array.getElem?_eq_some_iff.mp fH60_a5).1).trans fH60_a5
  have fH61_a8 := (hqH61 _ (Array.getElem?_eq_some_iff.mp fH60_a8).1).trans fH60_a8
  have fH61_a11 := (hqH61 _ (Array.getElem?_eq_some_iff.mp fH60_a11).1).trans fH60_a11
  have fH61_a14 := (hqH61 _ (Array.getElem?_eq_some_iff.mp fH60_a14).1).trans fH60_a14
  have fH61_a17 := (hqH61 _ (Array.getElem?_eq_some_iff.mp fH60_a17).1).trans fH60_a17
  have fH61_a20 := (hqH61 _ (Array.getElem?_eq_some_iff.mp fH60_a20).1).trans fH60_a20
  have fH61_a23 := (hqH61 _ (Array.getElem?_eq_some_iff.mp fH60_a23).1).trans fH60_a23
  have fH61_a26 := (hqH61 _ (Array.getElem?_eq_some_iff.mp fH60_a26).1).trans fH60_a26
  have fH61_a29 := (hqH61 _ (Array.getElem?_eq_some_iff.mp fH60_a29).1).trans fH60_a29
  have fH61_a32 := (hqH61 _ (Array.getElem?_eq_some_iff.mp fH60_a32).1).trans fH60_a32
  have fH61_a35 := (hqH61 _ (Array.getElem?_eq_some_iff.mp fH60_a35).1).trans fH60_a35
  have fH61_a38 := (hqH61 _ (Array.getElem?_eq_some_iff.mp fH60_a38).1).trans fH60_a38
  have fH61_a41 := (hqH61 _ (Array.getElem?_eq_some_iff.mp fH60_a41).1).trans fH60_a41
  have fH61_a44 := (hqH61 _ (Array.getElem?_eq_some_iff.mp fH60_a44).1).trans fH60_a44
  have fH61_a47 := (hqH61 _ (Array.getElem?_eq_some_iff.mp fH60_a47).1).trans fH60_a47
  have fH61_a50 := (hqH61 _ (Array.getElem?_eq_some_iff.mp fH60_a50).1).trans fH60_a50
  have fH61_a53 := (hqH61 _ (Array.getElem?_eq_some_iff.mp fH60_a53).1).trans fH60_a53
  have fH61_a56 := (hqH61 _ (Array.getElem?_eq_some_iff.mp fH60_a56).1).trans fH60_a56
  have fH61_a59 := (hqH61 _ (Array.getElem?_eq_some_iff.mp fH60_a59).1).trans fH60_a59
  have va62 : a62 = H0.size + 20 := ea62.trans zH60
  have zH61 : H61.size = H0.size + 21 := by rw [hzH61, zH60]
  have na62 : a62 ≠ mo := fun g => absurd hlt0 (by rw [← g, va62]; exact Nat.not_lt.mpr (Nat.le_add_right _ _))
  refine hk_putF (ref := "LightcurveHouseModel") X K fH61_mo rfl iX11_init_X11 tyX11 tyX11_ok nmX11 hS (Or.inl rfl) 24 (by decide) (by decide +kernel) (fun _ h => h) (by decide +kernel) hnm (by decide +kernel) rfl rfl (Nat.le_of_ble_eq_true rfl) dX11_init_169 (fun H63 locsH63 hOH63 hzH63 hqH63 hS => ?_)
  have hOH63 : hk_O E mo 11 [.ref a2, .int 0, .ref a5, .ref a8, .ref a11, .ref a14, .ref a17, .ref a20, .int 0, .ref a23, .ref a26, .ref a29, .int 0, .ref a32, .ref a35, .ref a38, .ref a41, .ref a44, .ref a47, .ref a50, .ref a53, .ref a56, .int 0, .ref a59, .ref a62, .null, .null, .null, .null, .int 0, .null, .null, .int 0, .int 0, .int 0, .null, .null, .null, .int 0, .null, .null, .null] H63 := hOH63
  have fH63_a2 := (hqH63 _ na2).trans fH61_a2
  have fH63_a5 := (hqH63 _ na5).trans fH61_a5
  have fH63_a8 := (hqH63 _ na8).trans fH61_a8
  have fH63_a11 := (hqH63 _ na11).trans fH61_a11
  have fH63_a14 := (hqH63 _ na14).trans fH61_a14
  have fH63_a17 := (hqH63 _ na17).trans fH61_a17
  have fH63_a20 := (hqH63 _ na20).trans fH61_a20
  have fH63_a23 := (hqH63 _ na23).trans fH61_a23
  have fH63_a26 := (hqH63 _ na26).trans fH61_a26
  have fH63_a29 := (hqH63 _ na29).trans fH61_a29
  have fH63_a32 := (hqH63 _ na32).trans fH61_a32
  have fH63_a35 := (hqH63 _ na35).trans fH61_a35
  have fH63_a38 := (hqH63 _ na38).trans fH61_a38
  have fH63_a41 := (hqH63 _ na41).trans fH61_a41
  have fH63_a44 := (hqH63 _ na44).trans fH61_a44
  have fH63_a47 := (hqH63 _ na47).trans fH61_a47
  have fH63_a50 := (hqH63 _ na50).trans fH61_a50
  have fH63_a53 := (hqH63 _ na53).trans fH61_a53
  have fH63_a56 := (hqH63 _ na56).trans fH61_a56
  have fH63_a59 := (hqH63 _ na59).trans fH61_a59
  have fH63_a62 := (hqH63 _ na62).trans hIH61
  have zH63 := hzH63.trans zH61
  refine lv_aload_n hx hb dX11_init_172 rfl (lv_at hl 0 rfl) ?_
  refine lv_bipush (v := 8) hx hb dX11_init_173 (by decide) ?_
  refine hk_newi (N := 8) X K (by decide +kernel) hS (by decide) (by decide) (Nat.le_of_ble_eq_true rfl) (Nat.le_of_ble_eq_true rfl) (Nat.le_of_ble_eq_true rfl) dX11_init_175 (fun H64 hIH64 hzH64 hqH64 hS => ?_)
  obtain ⟨a65, ea65⟩ : ∃ z : Nat, z = H63.size := ⟨_, rfl⟩
  rw [← ea65] at hIH64 ⊢
  have fH64_mo : hk_O E mo 11 [.ref a2, .int 0, .ref a5, .ref a8, .ref a11, .ref a14, .ref a17, .ref a20, .int 0, .ref a23, .ref a26, .ref a29, .int 0, .ref a32, .ref a35, .ref a38, .ref a41, .ref a44, .ref a47, .ref a50, .ref a53, .ref a56, .int 0, .ref a59, .ref a62, .null, .null, .null, .null, .int 0, .null, .null, .int 0, .int 0, .int 0, .null, .null, .null, .int 0, .null, .null, .null] H64 := va_at.kept hOH63 (hqH64 _ (va_at.lt hOH63))
  have fH64_a2 := (hqH64 _ (Array.getElem?_eq_some_iff.mp fH63_a2).1).trans fH63_a2
  have fH64_a5 := (hqH64 _ (Array.getElem?_eq_some_iff.mp fH63_a5).1).trans fH63_a5
  have fH64_a8 := (hqH64 _ (Array.getElem?_eq_some_iff.mp fH63_a8).1).trans fH63_a8
  have fH64_a11 := (hqH64 _ (Array.getElem?_eq_some_iff.mp fH63_a11).1).trans fH63_a11
  have fH64_a14 := (hqH64 _ (Array.getElem?_eq_some_iff.mp fH63_a14).1).trans fH63_a14
  have fH64_a17 := (hqH64 _ (Array.getElem?_eq_some_iff.mp fH63_a17).1).trans fH63_a17
  have fH64_a20 := (hqH64 _ (Array.getElem?_eq_some_iff.mp fH63_a20).1).trans fH63_a20
  have fH64_a23 := (hqH64 _ (Array.getElem?_eq_some_iff.mp fH63_a23).1).trans fH63_a23
  have fH64_a26 := (hqH64 _ (Array.getElem?_eq_some_iff.mp fH63_a26).1).trans fH63_a26
  have fH64_a29 := (hqH64 _ (Array.getElem?_eq_some_iff.mp fH63_a29).1).trans fH63_a29
  have fH64_a32 := (hqH64 _ (Array.getElem?_eq_some_iff.mp fH63_a32).1).trans fH63_a32
  have fH64_a35 := (hqH64 _ (Array.getElem?_eq_some_iff.mp fH63_a35).1).trans fH63_a35
  have fH64_a38 := (hqH64 _ (Array.getElem?_eq_some_iff.mp fH63_a38).1).trans fH63_a38
  have fH64_a41 := (hqH64 _ (Array.getElem?_eq_some_iff.mp fH63_a41).1).trans fH63_a41
  have fH64_a44 := (hqH64 _ (Array.getElem?_eq_some_iff.mp fH63_a44).1).trans fH63_a44
  have fH64_a47 := (hqH64 _ (Array.getElem?_eq_some_iff.mp fH63_a47).1).trans fH63_a47
  have fH64_a50 := (hqH64 _ (Array.getElem?_eq_some_iff.mp fH63_a50).1).trans fH63_a50
  have fH64_a53 := (hqH64 _ (Array.getElem?_eq_some_iff.mp fH63_a53).1).trans fH63_a53
  have fH64_a56 := (hqH64 _ (Array.getElem?_eq_some_iff.mp fH63_a56).1).trans fH63_a56
  have fH64_a59 := (hqH64 _ (Array.getElem?_eq_some_iff.mp fH63_a59).1).trans fH63_a59
  have fH64_a62 := (hqH64 _ (Array.getElem?_eq_some_iff.mp fH63_a62).1).trans fH63_a62
  have va65 : a65 = H0.size + 21 := ea65.trans zH63
  have zH64 : H64.size = H0.size + 22 := by rw [hzH64, zH63]
  have na65 : a65 ≠ mo := fun g => absurd hlt0 (by rw [← g, va65]; exact Nat.not_lt.mpr (Nat.le_add_right _ _))
  refine hk_putF (ref := "LightcurveHouseModel") X K fH64_mo rfl iX11_init_X11 tyX11 tyX11_ok nmX11 hS (Or.inl rfl) 25 (by decide) (by decide +kernel) (fun _ h => h) (by decide +kernel) hnm (by decide +kernel) rfl rfl (Nat.le_of_ble_eq_true rfl) dX11_init_177 (fun H66 locsH66 hOH66 hzH66 hqH66 hS => ?_)
  have hOH66 : hk_O E mo 11 [.ref a2, .int 0, .ref a5, .ref a8, .ref a11, .ref a14, .ref a17, .ref a20, .int 0, .ref a23, .ref a26, .ref a29, .int 0, .ref a32, .ref a35, .ref a38, .ref a41, .ref a44, .ref a47, .ref a50, .ref a53, .ref a56, .int 0, .ref a59, .ref a62, .ref a65, .null, .null, .null, .int 0, .null, .null, .int 0, .int 0, .int 0, .null, .null, .null, .int 0, .null, .null, .null] H66 := hOH66
  have fH66_a2 := (hqH66 _ na2).trans fH64_a2
  have fH66_a5 := (hqH66 _ na5).trans fH64_a5
  have fH66_a8 := (hqH66 _ na8).trans fH64_a8
  have fH66_a11 := (hqH66 _ na11).trans fH64_a11
  have fH66_a14 := (hqH66 _ na14).trans fH64_a14
  have fH66_a17 := (hqH66 _ na17).trans fH64_a17
  have fH66_a20 := (hqH66 _ na20).trans fH64_a20
  have fH66_a23 := (hqH66 _ na23).trans fH64_a23
  have fH66_a26 := (hqH66 _ na26).trans fH64_a26
  have fH66_a29 := (hqH66 _ na29).trans fH64_a29
  have fH66_a32 := (hqH66 _ na32).trans fH64_a32
  have fH66_a35 := (hqH66 _ na35).trans fH64_a35
  have fH66_a38 := (hqH66 _ na38).trans fH64_a38
  have fH66_a41 := (hqH66 _ na41).trans fH64_a41
  have fH66_a44 := (hqH66 _ na44).trans fH64_a44
  have fH66_a47 := (hqH66 _ na47).trans fH64_a47
  have fH66_a50 := (hqH66 _ na50).trans fH64_a50
  have fH66_a53 := (hqH66 _ na53).trans fH64_a53
  have fH66_a56 := (hqH66 _ na56).trans fH64_a56
  have fH66_a59 := (hqH66 _ na59).trans fH64_a59
  have fH66_a62 := (hqH66 _ na62).trans fH64_a62
  have fH66_a65 := (hqH66 _ na65).trans hIH64
  have zH66 := hzH66.trans zH64
  refine lv_aload_n hx hb dX11_init_180 rfl (lv_at hl 0 rfl) ?_
  refine lv_bipush (v := 8) hx hb dX11_init_181 (by decide) ?_
  refine hk_newi (N := 8) X K (by decide +kernel) hS (by decide) (by decide) (Nat.le_of_ble_eq_true rfl) (Nat.le_of_ble_eq_true rfl) (Nat.le_of_ble_eq_true rfl) dX11_init_183 (fun H67 hIH67 hzH67 hqH67 hS => ?_)
  obtain ⟨a68, ea68⟩ : ∃ z : Nat, z = H66.size := ⟨_, rfl⟩
  rw [← ea68] at hIH67 ⊢
  have fH67_mo : hk_O E mo 11 [.ref a2, .int 0, .ref a5, .ref a8, .ref a11, .ref a14, .ref a17, .ref a20, .int 0, .ref a23, .ref a26, .ref a29, .int 0, .ref a32, .ref a35, .ref a38, .ref a41, .ref a44, .ref a47, .ref a50, .ref a53, .ref a56, .int 0, .ref a59, .ref a62, .ref a65, .null, .null, .null, .int 0, .null, .null, .int 0, .int 0, .int 0, .null, .null, .null, .int 0, .null, .null, .null] H67 := va_at.kept hOH66 (hqH67 _ (va_at.lt hOH66))
  have fH67_a2 := (hqH67 _ (Array.getElem?_eq_some_iff.mp fH66_a2).1).trans fH66_a2
  have fH67_a5 := (hqH67 _ (Array.getElem?_eq_some_iff.mp fH66_a5).1).trans fH66_a5
  have fH67_a8 := (hqH67 _ (Array.getElem?_eq_some_iff.mp fH66_a8).1).trans fH66_a8
  have fH67_a11 := (hqH67 _ (Array.getElem?_eq_some_iff.mp fH66_a11).1).trans fH66_a11
  have fH67_a14 := (hqH67 _ (Array.getElem?_eq_some_iff.mp fH66_a14).1).trans fH66_a14
  have fH67_a17 := (hqH67 _ (Array.getElem?_eq_some_iff.mp fH66_a17).1).trans fH66_a17
  have fH67_a20 := (hqH67 _ (Array.getElem?_eq_some_iff.mp fH66_a20).1).trans fH66_a20
  have fH67_a23 := (hqH67 _ (Array.getElem?_eq_some_iff.mp fH66_a23).1).trans fH66_a23
  have fH67_a26 := (hqH67 _ (Array.getElem?_eq_some_iff.mp fH66_a26).1).trans fH66_a26
  have fH67_a29 := (hqH67 _ (Array.getElem?_eq_some_iff.mp fH66_a29).1).trans fH66_a29
  have fH67_a32 := (hqH67 _ (Array.getElem?_eq_some_iff.mp fH66_a32).1).trans fH66_a32
  have fH67_a35 := (hqH67 _ (Array.getElem?_eq_some_iff.mp fH66_a35).1).trans fH66_a35
  have fH67_a38 := (hqH67 _ (Array.getElem?_eq_some_iff.mp fH66_a38).1).trans fH66_a38
  have fH67_a41 := (hqH67 _ (Array.getElem?_eq_some_iff.mp fH66_a41).1).trans fH66_a41
  have fH67_a44 := (hqH67 _ (Array.getElem?_eq_some_iff.mp fH66_a44).1).trans fH66_a44
  have fH67_a47 := (hqH67 _ (Array.getElem?_eq_some_iff.mp fH66_a47).1).trans fH66_a47
  have fH67_a50 := (hqH67 _ (Array.getElem?_eq_some_iff.mp fH66_a50).1).trans fH66_a50
  have fH67_a53 := (hqH67 _ (Array.getElem?_eq_some_iff.mp fH66_a53).1).trans fH66_a53
  have fH67_a56 := (hqH67 _ (Array.getElem?_eq_some_iff.mp fH66_a56).1).trans fH66_a56
  have fH67_a59 := (hqH67 _ (Array.getElem?_eq_some_iff.mp fH66_a59).1).trans fH66_a59
  have fH67_a62 := (hqH67 _ (Array.getElem?_eq_some_iff.mp fH66_a62).1).trans fH66_a62
  have fH67_a65 := (hqH67 _ (Array.getElem?_eq_some_iff.mp fH66_a65).1).trans fH66_a65
  have va68 : a68 = H0.size + 22 := ea68.trans zH66
  have zH67 : H67.size = H0.size + 23 := by rw [hzH67, zH66]
  have na68 : a68 ≠ mo := fun g => absurd hlt0 (by rw [← g, va68]; exact Nat.not_lt.mpr (Nat.le_add_right _ _))
  refine hk_putF (ref := "LightcurveHouseModel") X K fH67_mo rfl iX11_init_X11 tyX11 tyX11_ok nmX11 hS (Or.inl rfl) 26 (by decide) (by decide +kernel) (fun _ h => h) (by decide +kernel) hnm (by decide +kernel) rfl rfl (Nat.le_of_ble_eq_true rfl) dX11_init_185 (fun H69 locsH69 hOH69 hzH69 hqH69 hS => ?_)
  have hOH69 : hk_O E mo 11 [.ref a2, .int 0, .ref a5, .ref a8, .ref a11, .ref a14, .ref a17, .ref a20, .int 0, .ref a23, .ref a26, .ref a29, .int 0, .ref a32, .ref a35, .ref a38, .ref a41, .ref a44, .ref a47, .ref a50, .ref a53, .ref a56, .int 0, .ref a59, .ref a62, .ref a65, .ref a68, .null, .null, .int 0, .null, .null, .int 0, .int 0, .int 0, .null, .null, .null, .int 0, .null, .null, .null] H69 := hOH69
  have fH69_a2 := (hqH69 _ na2).trans fH67_a2
  have fH69_a5 := (hqH69 _ na5).trans fH67_a5
  have fH69_a8 := (hqH69 _ na8).trans fH67_a8
  have fH69_a11 := (hqH69 _ na11).trans fH67_a11
  have fH69_a14 := (hqH69 _ na14).trans fH67_a14
  have fH69_a17 := (hqH69 _ na17).trans fH67_a17
  have fH69_a20 := (hqH69 _ na20).trans fH67_a20
  have fH69_a23 := (hqH69 _ na23).trans fH67_a23
  have fH69_a26 := (hqH69 _ na26).trans fH67_a26
  have fH69_a29 := (hqH69 _ na29).trans fH67_a29
  have fH69_a32 := (hqH69 _ na32).trans fH67_a32
  have fH69_a35 := (hqH69 _ na35).trans fH67_a35
  have fH69_a38 := (hqH69 _ na38).trans fH67_a38
  have fH69_a41 := (hqH69 _ na41).trans fH67_a41
  have fH69_a44 := (hqH69 _ na44).trans fH67_a44
  have fH69_a47 := (hqH69 _ na47).trans fH67_a47
  have fH69_a50 := (hqH69 _ na50).trans fH67_a50
  have fH69_a53 := (hqH69 _ na53).trans fH67_a53
  have fH69_a56 := (hqH69 _ na56).trans fH67_a56
  have fH69_a59 := (hqH69 _ na59).trans fH67_a59
  have fH69_a62 := (hqH69 _ na62).trans fH67_a62
  have fH69_a65 := (hqH69 _ na65).trans fH67_a65
  have fH69_a68 := (hqH69 _ na68).trans hIH67
  have zH69 := hzH69.trans zH67
  refine lv_aload_n hx hb dX11_init_188 rfl (lv_at hl 0 rfl) ?_
  refine lv_bipush (v := 8) hx hb dX11_init_189 (by decide) ?_
  refine hk_newi (N := 8) X K (by decide +kernel) hS (by decide) (by decide) (Nat.le_of_ble_eq_true rfl) (Nat.le_of_ble_eq_true rfl) (Nat.le_of_ble_eq_true rfl) dX11_init_191 (fun H70 hIH70 hzH70 hqH70 hS => ?_)
  obtain ⟨a71, ea71⟩ : ∃ z : Nat, z = H69.size := ⟨_, rfl⟩
  rw [← ea71] at hIH70 ⊢
  have fH70_mo : hk_O E mo 11 [.ref a2, .int 0, .ref a5, .ref a8, .ref a11, .ref a14, .ref a17, .ref a20, .int 0, .ref a23, .ref a26, .ref a29, .int 0, .ref a32, .ref a35, .ref a38, .ref a41, .ref a44, .ref a47, .ref a50, .ref a53, .ref a56, .int 0, .ref a59, .ref a62, .ref a65, .ref a68, .null, .null, .int 0, .null, .null, .int 0, .int 0, .int 0, .null, .null, .null, .int 0, .null, .null, .null] H70 := va_at.kept hOH69 (hqH70 _ (va_at.lt hOH69))
  have fH70_a2 := (hqH70 _ (Array.getElem?_eq_some_iff.mp fH69_a2).1).trans fH69_a2
  have fH70_a5 := (hqH70 _ (Array.getElem?_eq_some_iff.mp fH69_a5).1).trans fH69_a5
  have fH70_a8 := (hqH70 _ (Array.getElem?_eq_some_iff.mp fH69_a8).1).trans fH69_a8
  have fH70_a11 := (hqH70 _ (Array.getElem?_eq_some_iff.mp fH69_a11).1).trans fH69_a11
  have fH70_a14 := (hqH70 _ (Array.getElem?_eq_some_iff.mp fH69_a14).1).trans fH69_a14
  have fH70_a17 := (hqH70 _ (Array.getElem?_eq_some_iff.mp fH69_a17).1).trans fH69_a17
  have fH70_a20 := (hqH70 _ (Array.getElem?_eq_some_iff.mp fH69_a20).1).trans fH69_a20
  have fH70_a23 := (hqH70 _ (Array.getElem?_eq_some_iff.mp fH69_a23).1).trans fH69_a23
  have fH70_a26 := (hqH70 _ (Array.getElem?_eq_some_iff.mp fH69_a26).1).trans fH69_a26
  have fH70_a29 := (hqH70 _ (Array.getElem?_eq_some_iff.mp fH69_a29).1).trans fH69_a29
  have fH70_a32 := (hqH70 _ (Array.getElem?_eq_some_iff.mp fH69_a32).1).trans fH69_a32
  have fH70_a35 := (hqH70 _ (Array.getElem?_eq_some_iff.mp fH69_a35).1).trans fH69_a35
  have fH70_a38 := (hqH70 _ (Array.getElem?_eq_some_iff.mp fH69_a38).1).trans fH69_a38
  have fH70_a41 := (hqH70 _ (Array.getElem?_eq_some_iff.mp fH69_a41).1).trans fH69_a41
  have fH70_a44 := (hqH70 _ (Array.getElem?_eq_some_iff.mp fH69_a44).1).trans fH69_a44
  have fH70_a47 := (hqH70 _ (Array.getElem?_eq_some_iff.mp fH69_a47).1).trans fH69_a47
  have fH70_a50 := (hqH70 _ (Array.getElem?_eq_some_iff.mp fH69_a50).1).trans fH69_a50
  have fH70_a53 := (hqH70 _ (Array.getElem?_eq_some_iff.mp fH69_a53).1).trans fH69_a53
  have fH70_a56 := (hqH70 _ (Array.getElem?_eq_some_iff.mp fH69_a56).1).trans fH69_a56
  have fH70_a59 := (hqH70 _ (Array.getElem?_eq_some_iff.mp fH69_a59).1).trans fH69_a59
  have fH70_a62 := (hqH70 _ (Array.getElem?_eq_some_iff.mp fH69_a62).1).trans fH69_a62
  have fH70_a65 := (hqH70 _ (Array.getElem?_eq_some_iff.mp fH69_a65).1).trans fH69_a65
  have fH70_a68 := (hqH70 _ (Array.getElem?_eq_some_iff.mp fH69_a68).1).trans fH69_a68
  have va71 : a71 = H0.size + 23 := ea71.trans zH69
  have zH70 : H70.size = H0.size + 24 := by rw [hzH70, zH69]
  have na71 : a71 ≠ mo := fun g => absurd hlt0 (by rw [← g, va71]; exact Nat.not_lt.mpr (Nat.le_add_right _ _))
  refine hk_putF (ref := "LightcurveHouseModel") X K fH70_mo rfl iX11_init_X11 tyX11 tyX11_ok nmX11 hS (Or.inl rfl) 27 (by decide) (by decide +kernel) (fun _ h => h) (by decide +kernel) hnm (by decide +kernel) rfl rfl (Nat.le_of_ble_eq_true rfl) dX11_init_193 (fun H72 locsH72 hOH72 hzH72 hqH72 hS => ?_)
  have hOH72 : hk_O E mo 11 [.ref a2, .int 0, .ref a5, .ref a8, .ref a11, .ref a14, .ref a17, .ref a20, .int 0, .ref a23, .ref a26, .ref a29, .int 0, .ref a32, .ref a35, .ref a38, .ref a41, .ref a44, .ref a47, .ref a50, .ref a53, .ref a56, .int 0, .ref a59, .ref a62, .ref a65, .ref a68, .ref a71, .null, .int 0, .null, .null, .int 0, .int 0, .int 0, .null, .null, .null, .int 0, .null, .null, .null] H72 := hOH72
  have fH72_a2 := (hqH72 _ na2).trans fH70_a2
  have fH72_a5 := (hqH72 _ na5).trans fH70_a5
  have fH72_a8 := (hqH72 _ na8).trans fH70_a8
  have fH72_a11 := (hqH72 _ na11).trans fH70_a11
  have fH72_a14 := (hqH72 _ na14).trans fH70_a14
  have fH72_a17 := (hqH72 _ na17).trans fH70_a17
  have fH72_a20 := (hqH72 _ na20).trans fH70_a20
  have fH72_a23 := (hqH72 _ na23).trans fH70_a23
  have fH72_a26 := (hqH72 _ na26).trans fH70_a26
  have fH72_a29 := (hqH72 _ na29).trans fH70_a29
  have fH72_a32 := (hqH72 _ na32).trans fH70_a32
  have fH72_a35 := (hqH72 _ na35).trans fH70_a35
  have fH72_a38 := (hqH72 _ na38).trans fH70_a38
  have fH72_a41 := (hqH72 _ na41).trans fH70_a41
  have fH72_a44 := (hqH72 _ na44).trans fH70_a44
  have fH72_a47 := (hqH72 _ na47).trans fH70_a47
  have fH72_a50 := (hqH72 _ na50).trans fH70_a50
  have fH72_a53 := (hqH72 _ na53).trans fH70_a53
  have fH72_a56 := (hqH72 _ na56).trans fH70_a56
  have fH72_a59 := (hqH72 _ na59).trans fH70_a59
  have fH72_a62 := (hqH72 _ na62).trans fH70_a62
  have fH72_a65 := (hqH72 _ na65).trans fH70_a65
  have fH72_a68 := (hqH72 _ na68).trans fH70_a68
  have fH72_a71 := (hqH72 _ na71).trans hIH70
  have zH72 := hzH72.trans zH70
  refine lv_aload_n hx hb dX11_init_196 rfl (lv_at hl 0 rfl) ?_
  refine lv_bipush (v := 8) hx hb dX11_init_197 (by decide) ?_
  refine hk_newz (N := 8) X K (by decide +kernel) hS (by decide) (by decide) (Nat.le_of_ble_eq_true rfl) (Nat.le_of_ble_eq_true rfl) (Nat.le_of_ble_eq_true rfl) dX11_init_199 (fun H73 hIH73 hzH73 hqH73 hS => ?_)
  obtain ⟨a74, ea74⟩ : ∃ z : Nat, z = H72.size := ⟨_, rfl⟩
  rw [← ea74] at hIH73 ⊢
  have fH73_mo : hk_O E mo 11 [.ref a2, .int 0, .ref a5, .ref a8, .ref a11, .ref a14, .ref a17, .ref a20, .int 0, .ref a23, .ref a26, .ref a29, .int 0, .ref a32, .ref a35, .ref a38, .ref a41, .ref a44, .ref a47, .ref a50, .ref a53, .ref a56, .int 0, .ref a59, .ref a62, .ref a65, .ref a68, .ref a71, .null, .int 0, .null, .null, .int 0, .int 0, .int 0, .null, .null, .null, .int 0, .null, .null, .null] H73 := va_at.kept hOH72 (hqH73 _ (va_at.lt hOH72))
  have fH73_a2 := (hqH73 _ (Array.getElem?_eq_some_iff.mp fH72_a2).1).trans fH72_a2
  have fH73_a5 := (hqH73 _ (Array.getElem?_eq_some_iff.mp fH72_a5).1).trans fH72_a5
  have fH73_a8 := (hqH73 _ (Array.getElem?_eq_some_iff.mp fH72_a8).1).trans fH72_a8
  have fH73_a11 := (hqH73 _ (Array.getElem?_eq_some_iff.mp fH72_a11).1).trans fH72_a11
  have fH73_a14 := (hqH73 _ (Array.getElem?_eq_some_iff.mp fH72_a14).1).trans fH72_a14
  have fH73_a17 := (hqH73 _ (Array.getElem?_eq_some_iff.mp fH72_a17).1).trans fH72_a17
  have fH73_a20 := (hqH73 _ (Array.getElem?_eq_some_iff.mp fH72_a20).1).trans fH72_a20
  have fH73_a23 := (hqH73 _ (Array.getElem?_eq_some_iff.mp fH72_a23).1).trans fH72_a23
  have fH73_a26 := (hqH73 _ (Array.getElem?_eq_some_iff.mp fH72_a26).1).trans fH72_a26
  have fH73_a29 := (hqH73 _ (Array.getElem?_eq_some_iff.mp fH72_a29).1).trans fH72_a29
  have fH73_a32 := (hqH73 _ (Array.getElem?_eq_some_iff.mp fH72_a32).1).trans fH72_a32
  have fH73_a35 := (hqH73 _ (Array.getElem?_eq_some_iff.mp fH72_a35).1).trans fH72_a35
  have fH73_a38 := (hqH73 _ (Array.getElem?_eq_some_iff.mp fH72_a38).1).trans fH72_a38
  have fH73_a41 := (hqH73 _ (Array.getElem?_eq_some_iff.mp fH72_a41).1).trans fH72_a41
  have fH73_a44 := (hqH73 _ (Array.getElem?_eq_some_iff.mp fH72_a44).1).trans fH72_a44
  have fH73_a47 := (hqH73 _ (Array.getElem?_eq_some_iff.mp fH72_a47).1).trans fH72_a47
  have fH73_a50 := (hqH73 _ (Array.getElem?_eq_some_iff.mp fH72_a50).1).trans fH72_a50
  have fH73_a53 := (hqH73 _ (Array.getElem?_eq_some_iff.mp fH72_a53).1).trans fH72_a53
  have fH73_a56 := (hqH73 _ (Array.getElem?_eq_some_iff.mp fH72_a56).1).trans fH72_a56
  have fH73_a59 := (hqH73 _ (Array.getElem?_eq_some_iff.mp fH72_a59).1).trans fH72_a59
  have fH73_a62 := (hqH73 _ (Array.getElem?_eq_some_iff.mp fH72_a62).1).trans fH72_a62
  have fH73_a65 := (hqH73 _ (Array.getElem?_eq_some_iff.mp fH72_a65).1).trans fH72_a65
  have fH73_a68 := (hqH73 _ (Array.getElem?_eq_some_iff.mp fH72_a68).1).trans fH72_a68
  have fH73_a71 := (hqH73 _ (Array.getElem?_eq_some_iff.mp fH72_a71).1).trans fH72_a71
  have va74 : a74 = H0.size + 24 := ea74.trans zH72
  have zH73 : H73.size = H0.size + 25 := by rw [hzH73, zH72]
  have na74 : a74 ≠ mo := fun g => absurd hlt0 (by rw [← g, va74]; exact Nat.not_lt.mpr (Nat.le_add_right _ _))
  refine hk_putF (ref := "LightcurveHouseModel") X K fH73_mo rfl iX11_init_X11 tyX11 tyX11_ok nmX11 hS (Or.inl rfl) 28 (by decide) (by decide +kernel) (fun _ h => h) (by decide +kernel) hnm (by decide +kernel) rfl rfl (Nat.le_of_ble_eq_true rfl) dX11_init_201 (fun H75 locsH75 hOH75 hzH75 hqH75 hS => ?_)
  have hOH75 : hk_O E mo 11 [.ref a2, .int 0, .ref a5, .ref a8, .ref a11, .ref a14, .ref a17, .ref a20, .int 0, .ref a23, .ref a26, .ref a29, .int 0, .ref a32, .ref a35, .ref a38, .ref a41, .ref a44, .ref a47, .ref a50, .ref a53, .ref a56, .int 0, .ref a59, .ref a62, .ref a65, .ref a68, .ref a71, .ref a74, .int 0, .null, .null, .int 0, .int 0, .int 0, .null, .null, .null, .int 0, .null, .null, .null] H75 := hOH75
  have fH75_a2 := (hqH75 _ na2).trans fH73_a2
  have fH75_a5 := (hqH75 _ na5).trans fH73_a5
  have fH75_a8 := (hqH75 _ na8).trans fH73_a8
  have fH75_a11 := (hqH75 _ na11).trans fH73_a11
  have fH75_a14 := (hqH75 _ na14).trans fH73_a14
  have fH75_a17 := (hqH75 _ na17).trans fH73_a17
  have fH75_a20 := (hqH75 _ na20).trans fH73_a20
  have fH75_a23 := (hqH75 _ na23).trans fH73_a23
  have fH75_a26 := (hqH75 _ na26).trans fH73_a26
  have fH75_a29 := (hqH75 _ na29).trans fH73_a29
  have fH75_a32 := (hqH75 _ na32).trans fH73_a32
  have fH75_a35 := (hqH75 _ na35).trans fH73_a35
  have fH75_a38 := (hqH75 _ na38).trans fH73_a38
  have fH75_a41 := (hqH75 _ na41).trans fH73_a41
  have fH75_a44 := (hqH75 _ na44).trans fH73_a44
  have fH75_a47 := (hqH75 _ na47).trans fH73_a47
  have fH75_a50 := (hqH75 _ na50).trans fH73_a50
  have fH75_a53 := (hqH75 _ na53).trans fH73_a53
  have fH75_a56 := (hqH75 _ na56).trans fH73_a56
  have fH75_a59 := (hqH75 _ na59).trans fH73_a59
  have fH75_a62 := (hqH75 _ na62).trans fH73_a62
  have fH75_a65 := (hqH75 _ na65).trans fH73_a65
  have fH75_a68 := (hqH75 _ na68).trans fH73_a68
  have fH75_a71 := (hqH75 _ na71).trans fH73_a71
  have fH75_a74 := (hqH75 _ na74).trans hIH73
  have zH75 := hzH75.trans zH73
  refine lv_aload_n hx hb dX11_init_204 rfl (lv_at hl 0 rfl) ?_
  refine lv_bipush (v := 30) hx hb dX11_init_205 (by decide) ?_
  refine hk_newi (N := 30) X K (by decide +kernel) hS (by decide) (by decide) (Nat.le_of_ble_eq_true rfl) (Nat.le_of_ble_eq_true rfl) (Nat.le_of_ble_eq_true rfl) dX11_init_207 (fun H76 hIH76 hzH76 hqH76 hS => ?_)
  obtain ⟨a77, ea77⟩ : ∃ z : Nat, z = H75.size := ⟨_, rfl⟩
  rw [← ea77] at hIH76 ⊢
  have fH76_mo : hk_O E mo 11 [.ref a2, .int 0, .ref a5, .ref a8, .ref a11, .ref a14, .ref a17, .ref a20, .int 0, .ref a23, .ref a26, .ref a29, .int 0, .ref a32, .ref a35, .ref a38, .ref a41, .ref a44, .ref a47, .ref a50, .ref a53, .ref a56, .int 0, .ref a59, .ref a62, .ref a65, .ref a68, .ref a71, .ref a74, .int 0, .null, .null, .int 0, .int 0, .int 0, .null, .null, .null, .int 0, .null, .null, .null] H76 := va_at.kept hOH75 (hqH76 _ (va_at.lt hOH75))
  have fH76_a2 := (hqH76 _ (Array.getElem?_eq_some_iff.mp fH75_a2).1).trans fH75_a2
  have fH76_a5 := (hqH76 _ (Array.getElem?_eq_some_iff.mp fH75_a5).1).trans fH75_a5
  have fH76_a8 := (hqH76 _ (Array.getElem?_eq_some_iff.mp fH75_a8).1).trans fH75_a8
  have fH76_a11 := (hqH76 _ (Array.getElem?_eq_some_iff.mp fH75_a11).1).trans fH75_a11
  have fH76_a14 := (hqH76 _ (Array.getElem?_eq_some_iff.mp fH75_a14).1).trans fH75_a14
  have fH76_a17 := (hqH76 _ (Array.getElem?_eq_some_iff.mp fH75_a17).1).trans fH75_a17
  have fH76_a20 := (hqH76 _ (Array.getElem?_eq_some_iff.mp fH75_a20).1).trans fH75_a20
  have fH76_a23 := (hqH76 _ (Array.getElem?_eq_some_iff.mp fH75_a23).1).trans fH75_a23
  have fH76_a26 := (hqH76 _ (Array.getElem?_eq_some_iff.mp fH75_a26).1).trans fH75_a26
  have fH76_a29 := (hqH76 _ (Array.getElem?_eq_some_iff.mp fH75_a29).1).trans fH75_a29
  have fH76_a32 := (hqH76 _ (Array.getElem?_eq_some_iff.mp fH75_a32).1).trans fH75_a32
  have fH76_a35 := (hqH76 _ (Array.getElem?_eq_some_iff.mp fH75_a35).1).trans fH75_a35
  have fH76_a38 := (hqH76 _ (Array.getElem?_eq_some_iff.mp fH75_a38).1).trans fH75_a38
  have fH76_a41 := (hqH76 _ (Array.getElem?_eq_some_iff.mp fH75_a41).1).trans fH75_a41
  have fH76_a44 := (hqH76 _ (Array.getElem?_eq_some_iff.mp fH75_a44).1).trans fH75_a44
  have fH76_a47 := (hqH76 _ (Array.getElem?_eq_some_iff.mp fH75_a47).1).trans fH75_a47
  have fH76_a50 := (hqH76 _ (Array.getElem?_eq_some_iff.mp fH75_a50).1).trans fH75_a50
  have fH76_a53 := (hqH76 _ (Array.getElem?_eq_some_iff.mp fH75_a53).1).trans fH75_a53
  have fH76_a56 := (hqH76 _ (Array.getElem?_eq_some_iff.mp fH75_a56).1).trans fH75_a56
  have fH76_a59 := (hqH76 _ (Array.getElem?_eq_some_iff.mp fH75_a59).1).trans fH75_a59
  have fH76_a62 := (hqH76 _ (Array.getElem?_eq_some_iff.mp fH75_a62).1).trans fH75_a62
  have fH76_a65 := (hqH76 _ (Array.getElem?_eq_some_iff.mp fH75_a65).1).trans fH75_a65
  have fH76_a68 := (hqH76 _ (Array.getElem?_eq_some_iff.mp fH75_a68).1).trans fH75_a68
  have fH76_a71 := (hqH76 _ (Array.getElem?_eq_some_iff.mp fH75_a71).1).trans fH75_a71
  have fH76_a74 := (hqH76 _ (Array.getElem?_eq_some_iff.mp fH75_a74).1).trans fH75_a74
  have va77 : a77 = H0.size + 25 := ea77.trans zH75
  have zH76 : H76.size = H0.size + 26 := by rw [hzH76, zH75]
  have na77 : a77 ≠ mo := fun g => absurd hlt0 (by rw [← g, va77]; exact Nat.not_lt.mpr (Nat.le_add_right _ _))
  refine hk_putF (ref := "LightcurveHouseModel") X K fH76_mo rfl iX11_init_X11 tyX11 tyX11_ok nmX11 hS (Or.inl rfl) 30 (by decide) (by decide +kernel) (fun _ h => h) (by decide +kernel) hnm (by decide +kernel) rfl rfl (Nat.le_of_ble_eq_true rfl) dX11_init_209 (fun H78 locsH78 hOH78 hzH78 hqH78 hS => ?_)
  have hOH78 : hk_O E mo 11 [.ref a2, .int 0, .ref a5, .ref a8, .ref a11, .ref a14, .ref a17, .ref a20, .int 0, .ref a23, .ref a26, .ref a29, .int 0, .ref a32, .ref a35, .ref a38, .ref a41, .ref a44, .ref a47, .ref a50, .ref a53, .ref a56, .int 0, .ref a59, .ref a62, .ref a65, .ref a68, .ref a71, .ref a74, .int 0, .ref a77, .null, .int 0, .int 0, .int 0, .null, .null, .null, .int 0, .null, .null, .null] H78 := hOH78
  have fH78_a2 := (hqH78 _ na2).trans fH76_a2
  have fH78_a5 := (hqH78 _ na5).trans fH76_a5
  have fH78_a8 := (hqH78 _ na8).trans fH76_a8
  have fH78_a11 := (hqH78 _ na11).trans fH76_a11
  have fH78_a14 := (hqH78 _ na14).trans fH76_a14
  have fH78_a17 := (hqH78 _ na17).trans fH76_a17
  have fH78_a20 := (hqH78 _ na20).trans fH76_a20
  have fH78_a23 := (hqH78 _ na23).trans fH76_a23
  have fH78_a26 := (hqH78 _ na26).trans fH76_a26
  have fH78_a29 := (hqH78 _ na29).trans fH76_a29
  have fH78_a32 := (hqH78 _ na32).trans fH76_a32
  have fH78_a35 := (hqH78 _ na35).trans fH76_a35
  have fH78_a38 := (hqH78 _ na38).trans fH76_a38
  have fH78_a41 := (hqH78 _ na41).trans fH76_a41
  have fH78_a44 := (hqH78 _ na44).trans fH76_a44
  have fH78_a47 := (hqH78 _ na47).trans fH76_a47
  have fH78_a50 := (hqH78 _ na50).trans fH76_a50
  have fH78_a53 := (hqH78 _ na53).trans fH76_a53
  have fH78_a56 := (hqH78 _ na56).trans fH76_a56
  have fH78_a59 := (hqH78 _ na59).trans fH76_a59
  have fH78_a62 := (hqH78 _ na62).trans fH76_a62
  have fH78_a65 := (hqH78 _ na65).trans fH76_a65
  have fH78_a68 := (hqH78 _ na68).trans fH76_a68
  have fH78_a71 := (hqH78 _ na71).trans fH76_a71
  have fH78_a74 := (hqH78 _ na74).trans fH76_a74
  have fH78_a77 := (hqH78 _ na77).trans hIH76
  have zH78 := hzH78.trans zH76
  refine lv_aload_n hx hb dX11_init_212 rfl (lv_at hl 0 rfl) ?_
  refine lv_bipush (v := 30) hx hb dX11_init_213 (by decide) ?_
  refine hk_newi (N := 30) X K (by decide +kernel) hS (by decide) (by decide) (Nat.le_of_ble_eq_true rfl) (Nat.le_of_ble_eq_true rfl) (Nat.le_of_ble_eq_true rfl) dX11_init_215 (fun H79 hIH79 hzH79 hqH79 hS => ?_)
  obtain ⟨a80, ea80⟩ : ∃ z : Nat, z = H78.size := ⟨_, rfl⟩
  rw [← ea80] at hIH79 ⊢
  have fH79_mo : hk_O E mo 11 [.ref a2, .int 0, .ref a5, .ref a8, .ref a11, .ref a14, .ref a17, .ref a20, .int 0, .ref a23, .ref a26, .ref a29, .int 0, .ref a32, .ref a35, .ref a38, .ref a41, .ref a44, .ref a47, .ref a50, .ref a53, .ref a56, .int 0, .ref a59, .ref a62, .ref a65, .ref a68, .ref a71, .ref a74, .int 0, .ref a77, .null, .int 0, .int 0, .int 0, .null, .null, .null, .int 0, .null, .null, .null] H79 := va_at.kept hOH78 (hqH79 _ (va_at.lt hOH78))
  have fH79_a2 := (hqH79 _ (Array.getElem?_eq_some_iff.mp fH78_a2).1).trans fH78_a2
  have fH79_a5 := (hqH79 _ (Array.getElem?_eq_some_iff.mp fH78_a5).1).trans fH78_a5
  have fH79_a8 := (hqH79 _ (Array.getElem?_eq_some_iff.mp fH78_a8).1).trans fH78_a8
  have fH79_a11 := (hqH79 _ (Array.getElem?_eq_some_iff.mp fH78_a11).1).trans fH78_a11
  have fH79_a14 := (hqH79 _ (Array.getElem?_eq_some_iff.mp fH78_a14).1).trans fH78_a14
  have fH79_a17 := (hqH79 _ (Array.getElem?_eq_some_iff.mp fH78_a17).1).trans fH78_a17
  have fH79_a20 := (hqH79 _ (Array.getElem?_eq_some_iff.mp fH78_a20).1).trans fH78_a20
  have fH79_a23 := (hqH79 _ (Array.getElem?_eq_some_iff.mp fH78_a23).1).trans fH78_a23
  have fH79_a26 := (hqH79 _ (Array.getElem?_eq_some_iff.mp fH78_a26).1).trans fH78_a26
  have fH79_a29 := (hqH79 _ (Array.getElem?_eq_some_iff.mp fH78_a29).1).trans fH78_a29
  have fH79_a32 := (hqH79 _ (Array.getElem?_eq_some_iff.mp fH78_a32).1).trans fH78_a32
  have fH79_a35 := (hqH79 _ (Array.getElem?_eq_some_iff.mp fH78_a35).1).trans fH78_a35
  have fH79_a38 := (hqH79 _ (Array.getElem?_eq_some_iff.mp fH78_a38).1).trans fH78_a38
  have fH79_a41 := (hqH79 _ (Array.getElem?_eq_some_iff.mp fH78_a41).1).trans fH78_a41
  have fH79_a44 := (hqH79 _ (Array.getElem?_eq_some_iff.mp fH78_a44).1).trans fH78_a44
  have fH79_a47 := (hqH79 _ (Array.getElem?_eq_some_iff.mp fH78_a47).1).trans fH78_a47
  have fH79_a50 := (hqH79 _ (Array.getElem?_eq_some_iff.mp fH78_a50).1).trans fH78_a50
  have fH79_a53 := (hqH79 _ (Array.getElem?_eq_some_iff.mp fH78_a53).1).trans fH78_a53
  have fH79_a56 := (hqH79 _ (Array.getElem?_eq_some_iff.mp fH78_a56).1).trans fH78_a56
  have fH79_a59 := (hqH79 _ (Array.getElem?_eq_some_iff.mp fH78_a59).1).trans fH78_a59
  have fH79_a62 := (hqH79 _ (Array.getElem?_eq_some_iff.mp fH78_a62).1).trans fH78_a62
  have fH79_a65 := (hqH79 _ (Array.getElem?_eq_some_iff.mp fH78_a65).1).trans fH78_a65
  have fH79_a68 := (hqH79 _ (Array.getElem?_eq_some_iff.mp fH78_a68).1).trans fH78_a68
  have fH79_a71 := (hqH79 _ (Array.getElem?_eq_some_iff.mp fH78_a71).1).trans fH78_a71
  have fH79_a74 := (hqH79 _ (Array.getElem?_eq_some_iff.mp fH78_a74).1).trans fH78_a74
  have fH79_a77 := (hqH79 _ (Array.getElem?_eq_some_iff.mp fH78_a77).1).trans fH78_a77
  have va80 : a80 = H0.size + 26 := ea80.trans zH78
  have zH79 : H79.size = H0.size + 27 := by rw [hzH79, zH78]
  have na80 : a80 ≠ mo := fun g => absurd hlt0 (by rw [← g, va80]; exact Nat.not_lt.mpr (Nat.le_add_right _ _))
  refine hk_putF (ref := "LightcurveHouseModel") X K fH79_mo rfl iX11_init_X11 tyX11 tyX11_ok nmX11 hS (Or.inl rfl) 31 (by decide) (by decide +kernel) (fun _ h => h) (by decide +kernel) hnm (by decide +kernel) rfl rfl (Nat.le_of_ble_eq_true rfl) dX11_init_217 (fun H81 locsH81 hOH81 hzH81 hqH81 hS => ?_)
  have hOH81 : hk_O E mo 11 [.ref a2, .int 0, .ref a5, .ref a8, .ref a11, .ref a14, .ref a17, .ref a20, .int 0, .ref a23, .ref a26, .ref a29, .int 0, .ref a32, .ref a35, .ref a38, .ref a41, .ref a44, .ref a47, .ref a50, .ref a53, .ref a56, .int 0, .ref a59, .ref a62, .ref a65, .ref a68, .ref a71, .ref a74, .int 0, .ref a77, .ref a80, .int 0, .int 0, .int 0, .null, .null, .null, .int 0, .null, .null, .null] H81 := hOH81
  have fH81_a2 := (hqH81 _ na2).trans fH79_a2
  have fH81_a5 := (hqH81 _ na5).trans fH79_a5
  have fH81_a8 := (hqH81 _ na8).trans fH79_a8
  have fH81_a11 := (hqH81 _ na11).trans fH79_a11
  have fH81_a14 := (hqH81 _ na14).trans fH79_a14
  have fH81_a17 := (hqH81 _ na17).trans fH79_a17
  have fH81_a20 := (hqH81 _ na20).trans fH79_a20
  have fH81_a23 := (hqH81 _ na23).trans fH79_a23
  have fH81_a26 := (hqH81 _ na26).trans fH79_a26
  have fH81_a29 := (hqH81 _ na29).trans fH79_a29
  have fH81_a32 := (hqH81 _ na32).trans fH79_a32
  have fH81_a35 := (hqH81 _ na35).trans fH79_a35
  have fH81_a38 := (hqH81 _ na38).trans fH79_a38
  have fH81_a41 := (hqH81 _ na41).trans fH79_a41
  have fH81_a44 := (hqH81 _ na44).trans fH79_a44
  have fH81_a47 := (hqH81 _ na47).trans fH79_a47
  have fH81_a50 := (hqH81 _ na50).trans fH79_a50
  have fH81_a53 := (hqH81 _ na53).trans fH79_a53
  have fH81_a56 := (hqH81 _ na56).trans fH79_a56
  have fH81_a59 := (hqH81 _ na59).trans fH79_a59
  have fH81_a62 := (hqH81 _ na62).trans fH79_a62
  have fH81_a65 := (hqH81 _ na65).trans fH79_a65
  have fH81_a68 := (hqH81 _ na68).trans fH79_a68
  have fH81_a71 := (hqH81 _ na71).trans fH79_a71
  have fH81_a74 := (hqH81 _ na74).trans fH79_a74
  have fH81_a77 := (hqH81 _ na77).trans fH79_a77
  have fH81_a80 := (hqH81 _ na80).trans hIH79
  have zH81 := hzH81.trans zH79
  refine lv_aload_n hx hb dX11_init_220 rfl (lv_at hl 0 rfl) ?_
  refine lv_bipush (v := 80) hx hb dX11_init_221 (by decide) ?_
  refine hk_newi (N := 80) X K (by decide +kernel) hS (by decide) (by decide) (Nat.le_of_ble_eq_true rfl) (Nat.le_of_ble_eq_true rfl) (Nat.le_of_ble_eq_true rfl) dX11_init_223 (fun H82 hIH82 hzH82 hqH82 hS => ?_)
  obtain ⟨a83, ea83⟩ : ∃ z : Nat, z = H81.size := ⟨_, rfl⟩
  rw [← ea83] at hIH82 ⊢
  have fH82_mo : hk_O E mo 11 [.ref a2, .int 0, .ref a5, .ref a8, .ref a11, .ref a14, .ref a17, .ref a20, .int 0, .ref a23, .ref a26, .ref a29, .int 0, .ref a32, .ref a35, .ref a38, .ref a41, .ref a44, .ref a47, .ref a50, .ref a53, .ref a56, .int 0, .ref a59, .ref a62, .ref a65, .ref a68, .ref a71, .ref a74, .int 0, .ref a77, .ref a80, .int 0, .int 0, .int 0, .null, .null, .null, .int 0, .null, .null, .null] H82 := va_at.kept hOH81 (hqH82 _ (va_at.lt hOH81))
  have fH82_a2 := (hqH82 _ (Array.getElem?_eq_some_iff.mp fH81_a2).1).trans fH81_a2
  have fH82_a5 := (hqH82 _ (Array.getElem?_eq_some_iff.mp fH81_a5).1).trans fH81_a5
  have fH82_a8 := (hqH82 _ (Array.getElem?_eq_some_iff.mp fH81_a8).1).trans fH81_a8
  have fH82_a11 := (hqH82 _ (Array.getElem?_eq_some_iff.mp fH81_a11).1).trans fH81_a11
  have fH82_a14 := (hqH82 _ (Array.getElem?_eq_some_iff.mp fH81_a14).1).trans fH81_a14
  have fH82_a17 := (hqH82 _ (Array.getElem?_eq_some_iff.mp fH81_a17).1).trans fH81_a17
  have fH82_a20 := (hqH82 _ (Array.getElem?_eq_some_iff.mp fH81_a20).1).trans fH81_a20
  have fH82_a23 := (hqH82 _ (Array.getElem?_eq_some_iff.mp fH81_a23).1).trans fH81_a23
  have fH82_a26 := (hqH82 _ (Array.getElem?_eq_some_iff.mp fH81_a26).1).trans fH81_a26
  have fH82_a29 := (hqH82 _ (Array.getElem?_eq_some_iff.mp fH81_a29).1).trans fH81_a29
  have fH82_a32 := (hqH82 _ (Array.getElem?_eq_some_iff.mp fH81_a32).1).trans fH81_a32
  have fH82_a35 := (hqH82 _ (Array.getElem?_eq_some_iff.mp fH81_a35).1).trans fH81_a35
  have fH82_a38 := (hqH82 _ (Array.getElem?_eq_some_iff.mp fH81_a38).1).trans fH81_a38
  have fH82_a41 := (hqH82 _ (Array.getElem?_eq_some_iff.mp fH81_a41).1).trans fH81_a41
  have fH82_a44 := (hqH82 _ (Array.getElem?_eq_some_iff.mp fH81_a44).1).trans fH81_a44
  have fH82_a47 := (hqH82 _ (Array.getElem?_eq_some_iff.mp fH81_a47).1).trans fH81_a47
  have fH82_a50 := (hqH82 _ (Array.getElem?_eq_some_iff.mp fH81_a50).1).trans fH81_a50
  have fH82_a53 := (hqH82 _ (Array.getElem?_eq_some_iff.mp fH81_a53).1).trans fH81_a53
  have fH82_a56 := (hqH82 _ (Array.getElem?_eq_some_iff.mp fH81_a56).1).trans fH81_a56
  have fH82_a59 := (hqH82 _ (Array.getElem?_eq_some_iff.mp fH81_a59).1).trans fH81_a59
  have fH82_a62 := (hqH82 _ (Array.getElem?_eq_some_iff.mp fH81_a62).1).trans fH81_a62
  have fH82_a65 := (hqH82 _ (Array.getElem?_eq_some_iff.mp fH81_a65).1).trans fH81_a65
  have fH82_a68 := (hqH82 _ (Array.getElem?_eq_some_iff.mp fH81_a68).1).trans fH81_a68
  have fH82_a71 := (hqH82 _ (Array.getElem?_eq_some_iff.mp fH81_a71).1).trans fH81_a71
  have fH82_a74 := (hqH82 _ (Array.getElem?_eq_some_iff.mp fH81_a74).1).trans fH81_a74
  have fH82_a77 := (hqH82 _ (Array.getElem?_eq_some_iff.mp fH81_a77).1).trans fH81_a77
  have fH82_a80 := (hqH82 _ (Array.getElem?_eq_some_iff.mp fH81_a80).1).trans fH81_a80
  have va83 : a83 = H0.size + 27 := ea83.trans zH81
  have zH82 : H82.size = H0.size + 28 := by rw [hzH82, zH81]
  have na83 : a83 ≠ mo := fun g => absurd hlt0 (by rw [← g, va83]; exact Nat.not_lt.mpr (Nat.le_add_right _ _))
  refine hk_putF (ref := "LightcurveHouseModel") X K fH82_mo rfl iX11_init_X11 tyX11 tyX11_ok nmX11 hS (Or.inl rfl) 35 (by decide) (by decide +kernel) (fun _ h => h) (by decide +kernel) hnm (by decide +kernel) rfl rfl (Nat.le_of_ble_eq_true rfl) dX11_init_225 (fun H84 locsH84 hOH84 hzH84 hqH84 hS => ?_)
  have hOH84 : hk_O E mo 11 [.ref a2, .int 0, .ref a5, .ref a8, .ref a11, .ref a14, .ref a17, .ref a20, .int 0, .ref a23, .ref a26, .ref a29, .int 0, .ref a32, .ref a35, .ref a38, .ref a41, .ref a44, .ref a47, .ref a50, .ref a53, .ref a56, .int 0, .ref a59, .ref a62, .ref a65, .ref a68, .ref a71, .ref a74, .int 0, .ref a77, .ref a80, .int 0, .int 0, .int 0, .ref a83, .null, .null, .int 0, .null, .null, .null] H84 := hOH84
  have fH84_a2 := (hqH84 _ na2).trans fH82_a2
  have fH84_a5 := (hqH84 _ na5).trans fH82_a5
  have fH84_a8 := (hqH84 _ na8).trans fH82_a8
  have fH84_a11 := (hqH84 _ na11).trans fH82_a11
  have fH84_a14 := (hqH84 _ na14).trans fH82_a14
  have fH84_a17 := (hqH84 _ na17).trans fH82_a17
  have fH84_a20 := (hqH84 _ na20).trans fH82_a20
  have fH84_a23 := (hqH84 _ na23).trans fH82_a23
  have fH84_a26 := (hqH84 _ na26).trans fH82_a26
  have fH84_a29 := (hqH84 _ na29).trans fH82_a29
  have fH84_a32 := (hqH84 _ na32).trans fH82_a32
  have fH84_a35 := (hqH84 _ na35).trans fH82_a35
  have fH84_a38 := (hqH84 _ na38).trans fH82_a38
  have fH84_a41 := (hqH84 _ na41).trans fH82_a41
  have fH84_a44 := (hqH84 _ na44).trans fH82_a44
  have fH84_a47 := (hqH84 _ na47).trans fH82_a47
  have fH84_a50 := (hqH84 _ na50).trans fH82_a50
  have fH84_a53 := (hqH84 _ na53).trans fH82_a53
  have fH84_a56 := (hqH84 _ na56).trans fH82_a56
  have fH84_a59 := (hqH84 _ na59).trans fH82_a59
  have fH84_a62 := (hqH84 _ na62).trans fH82_a62
  have fH84_a65 := (hqH84 _ na65).trans fH82_a65
  have fH84_a68 := (hqH84 _ na68).trans fH82_a68
  have fH84_a71 := (hqH84 _ na71).trans fH82_a71
  have fH84_a74 := (hqH84 _ na74).trans fH82_a74
  have fH84_a77 := (hqH84 _ na77).trans fH82_a77
  have fH84_a80 := (hqH84 _ na80).trans fH82_a80
  have fH84_a83 := (hqH84 _ na83).trans hIH82
  have zH84 := hzH84.trans zH82
  refine lv_aload_n hx hb dX11_init_228 rfl (lv_at hl 0 rfl) ?_
  refine lv_bipush (v := 80) hx hb dX11_init_229 (by decide) ?_
  refine hk_newi (N := 80) X K (by decide +kernel) hS (by decide) (by decide) (Nat.le_of_ble_eq_true rfl) (Nat.le_of_ble_eq_true rfl) (Nat.le_of_ble_eq_true rfl) dX11_init_231 (fun H85 hIH85 hzH85 hqH85 hS => ?_)
  obtain ⟨a86, ea86⟩ : ∃ z : Nat, z = H84.size := ⟨_, rfl⟩
  rw [← ea86] at hIH85 ⊢
  have fH85_mo : hk_O E mo 11 [.ref a2, .int 0, .ref a5, .ref a8, .ref a11, .ref a14, .ref a17, .ref a20, .int 0, .ref a23, .ref a26, .ref a29, .int 0, .ref a32, .ref a35, .ref a38, .ref a41, .ref a44, .ref a47, .ref a50, .ref a53, .ref a56, .int 0, .ref a59, .ref a62, .ref a65, .ref a68, .ref a71, .ref a74, .int 0, .ref a77, .ref a80, .int 0, .int 0, .int 0, .ref a83, .null, .null, .int 0, .null, .null, .null] H85 := va_at.kept hOH84 (hqH85 _ (va_at.lt hOH84))
  have fH85_a2 := (hqH85 _ (Array.getElem?_eq_some_iff.mp fH84_a2).1).trans fH84_a2
  have fH85_a5 := (hqH85 _ (Array.getElem?_eq_some_iff.mp fH84_a5).1).trans fH84_a5
  have fH85_a8 := (hqH85 _ (Array.getElem?_eq_some_iff.mp fH84_a8).1).trans fH84_a8
  have fH85_a11 := (hqH85 _ (Array.getElem?_eq_some_iff.mp fH84_a11).1).trans fH84_a11
  have fH85_a14 := (hqH85 _ (Array.getElem?_eq_some_iff.mp fH84_a14).1).trans fH84_a14
  have fH85_a17 := (hqH85 _ (Array.getElem?_eq_some_iff.mp fH84_a17).1).trans fH84_a17
  have fH85_a20 := (hqH85 _ (Array.getElem?_eq_some_iff.mp fH84_a20).1).trans fH84_a20
  have fH85_a23 := (hqH85 _ (Array.getElem?_eq_some_iff.mp fH84_a23).1).trans fH84_a23
  have fH85_a26 := (hqH85 _ (Array.getElem?_eq_some_iff.mp fH84_a26).1).trans fH84_a26
  have fH85_a29 := (hqH85 _ (Array.getElem?_eq_some_iff.mp fH84_a29).1).trans fH84_a29
  have fH85_a32 := (hqH85 _ (Array.getElem?_eq_some_iff.mp fH84_a32).1).trans fH84_a32
  have fH85_a35 := (hqH85 _ (Array.getElem?_eq_some_iff.mp fH84_a35).1).trans fH84_a35
  have fH85_a38 := (hqH85 _ (Array.getElem?_eq_some_iff.mp fH84_a38).1).trans fH84_a38
  have fH85_a41 := (hqH85 _ (Array.getElem?_eq_some_iff.mp fH84_a41).1).trans fH84_a41
  have fH85_a44 := (hqH85 _ (Array.getElem?_eq_some_iff.mp fH84_a44).1).trans fH84_a44
  have fH85_a47 := (hqH85 _ (Array.getElem?_eq_some_iff.mp fH84_a47).1).trans fH84_a47
  have fH85_a50 := (hqH85 _ (Array.getElem?_eq_some_iff.mp fH84_a50).1).trans fH84_a50
  have fH85_a53 := (hqH85 _ (Array.getElem?_eq_some_iff.mp fH84_a53).1).trans fH84_a53
  have fH85_a56 := (hqH85 _ (Array.getElem?_eq_some_iff.mp fH84_a56).1).trans fH84_a56
  have fH85_a59 := (hqH85 _ (Array.getElem?_eq_some_iff.mp fH84_a59).1).trans fH84_a59
  have fH85_a62 := (hqH85 _ (Array.getElem?_eq_some_iff.mp fH84_a62).1).trans fH84_a62
  have fH85_a65 := (hqH85 _ (Array.getElem?_eq_some_iff.mp fH84_a65).1).trans fH84_a65
  have fH85_a68 := (hqH85 _ (Array.getElem?_eq_some_iff.mp fH84_a68).1).trans fH84_a68
  have fH85_a71 := (hqH85 _ (Array.getElem?_eq_some_iff.mp fH84_a71).1).trans fH84_a71
  have fH85_a74 := (hqH85 _ (Array.getElem?_eq_some_iff.mp fH84_a74).1).trans fH84_a74
  have fH85_a77 := (hqH85 _ (Array.getElem?_eq_some_iff.mp fH84_a77).1).trans fH84_a77
  have fH85_a80 := (hqH85 _ (Array.getElem?_eq_some_iff.mp fH84_a80).1).trans fH84_a80
  have fH85_a83 := (hqH85 _ (Array.getElem?_eq_some_iff.mp fH84_a83).1).trans fH84_a83
  have va86 : a86 = H0.size + 28 := ea86.trans zH84
  have zH85 : H85.size = H0.size + 29 := by rw [hzH85, zH84]
  have na86 : a86 ≠ mo := fun g => absurd hlt0 (by rw [← g, va86]; exact Nat.not_lt.mpr (Nat.le_add_right _ _))
  refine hk_putF (ref := "LightcurveHouseModel") X K fH85_mo rfl iX11_init_X11 tyX11 tyX11_ok nmX11 hS (Or.inl rfl) 36 (by decide) (by decide +kernel) (fun _ h => h) (by decide +kernel) hnm (by decide +kernel) rfl rfl (Nat.le_of_ble_eq_true rfl) dX11_init_233 (fun H87 locsH87 hOH87 hzH87 hqH87 hS => ?_)
  have hOH87 : hk_O E mo 11 [.ref a2, .int 0, .ref a5, .ref a8, .ref a11, .ref a14, .ref a17, .ref a20, .int 0, .ref a23, .ref a26, .ref a29, .int 0, .ref a32, .ref a35, .ref a38, .ref a41, .ref a44, .ref a47, .ref a50, .ref a53, .ref a56, .int 0, .ref a59, .ref a62, .ref a65, .ref a68, .ref a71, .ref a74, .int 0, .ref a77, .ref a80, .int 0, .int 0, .int 0, .ref a83, .ref a86, .null, .int 0, .null, .null, .null] H87 := hOH87
  have fH87_a2 := (hqH87 _ na2).trans fH85_a2
  have fH87_a5 := (hqH87 _ na5).trans fH85_a5
  have fH87_a8 := (hqH87 _ na8).trans fH85_a8
  have fH87_a11 := (hqH87 _ na11).trans fH85_a11
  have fH87_a14 := (hqH87 _ na14).trans fH85_a14
  have fH87_a17 := (hqH87 _ na17).trans fH85_a17
  have fH87_a20 := (hqH87 _ na20).trans fH85_a20
  have fH87_a23 := (hqH87 _ na23).trans fH85_a23
  have fH87_a26 := (hqH87 _ na26).trans fH85_a26
  have fH87_a29 := (hqH87 _ na29).trans fH85_a29
  have fH87_a32 := (hqH87 _ na32).trans fH85_a32
  have fH87_a35 := (hqH87 _ na35).trans fH85_a35
  have fH87_a38 := (hqH87 _ na38).trans fH85_a38
  have fH87_a41 := (hqH87 _ na41).trans fH85_a41
  have fH87_a44 := (hqH87 _ na44).trans fH85_a44
  have fH87_a47 := (hqH87 _ na47).trans fH85_a47
  have fH87_a50 := (hqH87 _ na50).trans fH85_a50
  have fH87_a53 := (hqH87 _ na53).trans fH85_a53
  have fH87_a56 := (hqH87 _ na56).trans fH85_a56
  have fH87_a59 := (hqH87 _ na59).trans fH85_a59
  have fH87_a62 := (hqH87 _ na62).trans fH85_a62
  have fH87_a65 := (hqH87 _ na65).trans fH85_a65
  have fH87_a68 := (hqH87 _ na68).trans fH85_a68
  have fH87_a71 := (hqH87 _ na71).trans fH85_a71
  have fH87_a74 := (hqH87 _ na74).trans fH85_a74
  have fH87_a77 := (hqH87 _ na77).trans fH85_a77
  have fH87_a80 := (hqH87 _ na80).trans fH85_a80
  have fH87_a83 := (hqH87 _ na83).trans fH85_a83
  have fH87_a86 := (hqH87 _ na86).trans hIH85
  have zH87 := hzH87.trans zH85
  refine lv_aload_n hx hb dX11_init_236 rfl (lv_at hl 0 rfl) ?_
  refine lv_bipush (v := 80) hx hb dX11_init_237 (by decide) ?_
  refine hk_newi (N := 80) X K (by decide +kernel) hS (by decide) (by decide) (Nat.le_of_ble_eq_true rfl) (Nat.le_of_ble_eq_true rfl) (Nat.le_of_ble_eq_true rfl) dX11_init_239 (fun H88 hIH88 hzH88 hqH88 hS => ?_)
  obtain ⟨a89, ea89⟩ : ∃ z : Nat, z = H87.size := ⟨_, rfl⟩
  rw [← ea89] at hIH88 ⊢
  have fH88_mo : hk_O E mo 11 [.ref a2, .int 0, .ref a5, .ref a8, .ref a11, .ref a14, .ref a17, .ref a20, .int 0, .ref a23, .ref a26, .ref a29, .int 0, .ref a32, .ref a35, .ref a38, .ref a41, .ref a44, .ref a47, .ref a50, .ref a53, .ref a56, .int 0, .ref a59, .ref a62, .ref a65, .ref a68, .ref a71, .ref a74, .int 0, .ref a77, .ref a80, .int 0, .int 0, .int 0, .ref a83, .ref a86, .null, .int 0, .null, .null, .null] H88 := va_at.kept hOH87 (hqH88 _ (va_at.lt hOH87))
  have fH88_a2 := (hqH88 _ (Array.getElem?_eq_some_iff.mp fH87_a2).1).trans fH87_a2
  have fH88_a5 := (hqH88 _ (Array.getElem?_eq_some_iff.mp fH87_a5).1).trans fH87_a5
  have fH88_a8 := (hqH88 _ (Array.getElem?_eq_some_iff.mp fH87_a8).1).trans fH87_a8
  have fH88_a11 := (hqH88 _ (Array.getElem?_eq_some_iff.mp fH87_a11).1).trans fH87_a11
  have fH88_a14 := (hqH88 _ (Array.getElem?_eq_some_iff.mp fH87_a14).1).trans fH87_a14
  have fH88_a17 := (hqH88 _ (Array.getElem?_eq_some_iff.mp fH87_a17).1).trans fH87_a17
  have fH88_a20 := (hqH88 _ (Array.getElem?_eq_some_iff.mp fH87_a20).1).trans fH87_a20
  have fH88_a23 := (hqH88 _ (Array.getElem?_eq_some_iff.mp fH87_a23).1).trans fH87_a23
  have fH88_a26 := (hqH88 _ (Array.getElem?_eq_some_iff.mp fH87_a26).1).trans fH87_a26
  have fH88_a29 := (hqH88 _ (Array.getElem?_eq_some_iff.mp fH87_a29).1).trans fH87_a29
  have fH88_a32 := (hqH88 _ (Array.getElem?_eq_some_iff.mp fH87_a32).1).trans fH87_a32
  have fH88_a35 := (hqH88 _ (Array.getElem?_eq_some_iff.mp fH87_a35).1).trans fH87_a35
  have fH88_a38 := (hqH88 _ (Array.getElem?_eq_some_iff.mp fH87_a38).1).trans fH87_a38
  have fH88_a41 := (hqH88 _ (Array.getElem?_eq_some_iff.mp fH87_a41).1).trans fH87_a41
  have fH88_a44 := (hqH88 _ (Array.getElem?_eq_some_iff.mp fH87_a44).1).trans fH87_a44
  have fH88_a47 := (hqH88 _ (Array.getElem?_eq_some_iff.mp fH87_a47).1).trans fH87_a47
  have fH88_a50 := (hqH88 _ (Array.getElem?_eq_some_iff.mp fH87_a50).1).trans fH87_a50
  have fH88_a53 := (hqH88 _ (Array.getElem?_eq_some_iff.mp fH87_a53).1).trans fH87_a53
  have fH88_a56 := (hqH88 _ (Array.getElem?_eq_some_iff.mp fH87_a56).1).trans fH87_a56
  have fH88_a59 := (hqH88 _ (Array.getElem?_eq_some_iff.mp fH87_a59).1).trans fH87_a59
  have fH88_a62 := (hqH88 _ (Array.getElem?_eq_some_iff.mp fH87_a62).1).trans fH87_a62
  have fH88_a65 := (hqH88 _ (Array.getElem?_eq_some_iff.mp fH87_a65).1).trans fH87_a65
  have fH88_a68 := (hqH88 _ (Array.getElem?_eq_some_iff.mp fH87_a68).1).trans fH87_a68
  have fH88_a71 := (hqH88 _ (Array.getElem?_eq_some_iff.mp fH87_a71).1).trans fH87_a71
  have fH88_a74 := (hqH88 _ (Array.getElem?_eq_some_iff.mp fH87_a74).1).trans fH87_a74
  have fH88_a77 := (hqH88 _ (Array.getElem?_eq_some_iff.mp fH87_a77).1).trans fH87_a77
  have fH88_a80 := (hqH88 _ (Array.getElem?_eq_some_iff.mp fH87_a80).1).trans fH87_a80
  have fH88_a83 := (hqH88 _ (Array.getElem?_eq_some_iff.mp fH87_a83).1).trans fH87_a83
  have fH88_a86 := (hqH88 _ (Array.getElem?_eq_some_iff.mp fH87_a86).1).trans fH87_a86
  have va89 : a89 = H0.size + 29 := ea89.trans zH87
  have zH88 : H88.size = H0.size + 30 := by rw [hzH88, zH87]
  have na89 : a89 ≠ mo := fun g => absurd hlt0 (by rw [← g, va89]; exact Nat.not_lt.mpr (Nat.le_add_right _ _))
  refine hk_putF (ref := "LightcurveHouseModel") X K fH88_mo rfl iX11_init_X11 tyX11 tyX11_ok nmX11 hS (Or.inl rfl) 37 (by decide) (by decide +kernel) (fun _ h => h) (by decide +kernel) hnm (by decide +kernel) rfl rfl (Nat.le_of_ble_eq_true rfl) dX11_init_241 (fun H90 locsH90 hOH90 hzH90 hqH90 hS => ?_)
  have hOH90 : hk_O E mo 11 [.ref a2, .int 0, .ref a5, .ref a8, .ref a11, .ref a14, .ref a17, .ref a20, .int 0, .ref a23, .ref a26, .ref a29, .int 0, .ref a32, .ref a35, .ref a38, .ref a41, .ref a44, .ref a47, .ref a50, .ref a53, .ref a56, .int 0, .ref a59, .ref a62, .ref a65, .ref a68, .ref a71, .ref a74, .int 0, .ref a77, .ref a80, .int 0, .int 0, .int 0, .ref a83, .ref a86, .ref a89, .int 0, .null, .null, .null] H90 := hOH90
  have fH90_a2 := (hqH90 _ na2).trans fH88_a2
  have fH90_a5 := (hqH90 _ na5).trans fH88_a5
  have fH90_a8 := (hqH90 _ na8).trans fH88_a8
  have fH90_a11 := (hqH90 _ na11).trans fH88_a11
  have fH90_a14 := (hqH90 _ na14).trans fH88_a14
  have fH90_a17 := (hqH90 _ na17).trans fH88_a17
  have fH90_a20 := (hqH90 _ na20).trans fH88_a20
  have fH90_a23 := (hqH90 _ na23).trans fH88_a23
  have fH90_a26 := (hqH90 _ na26).trans fH88_a26
  have fH90_a29 := (hqH90 _ na29).trans fH88_a29
  have fH90_a32 := (hqH90 _ na32).trans fH88_a32
  have fH90_a35 := (hqH90 _ na35).trans fH88_a35
  have fH90_a38 := (hqH90 _ na38).trans fH88_a38
  have fH90_a41 := (hqH90 _ na41).trans fH88_a41
  have fH90_a44 := (hqH90 _ na44).trans fH88_a44
  have fH90_a47 := (hqH90 _ na47).trans fH88_a47
  have fH90_a50 := (hqH90 _ na50).trans fH88_a50
  have fH90_a53 := (hqH90 _ na53).trans fH88_a53
  have fH90_a56 := (hqH90 _ na56).trans fH88_a56
  have fH90_a59 := (hqH90 _ na59).trans fH88_a59
  have fH90_a62 := (hqH90 _ na62).trans fH88_a62
  have fH90_a65 := (hqH90 _ na65).trans fH88_a65
  have fH90_a68 := (hqH90 _ na68).trans fH88_a68
  have fH90_a71 := (hqH90 _ na71).trans fH88_a71
  have fH90_a74 := (hqH90 _ na74).trans fH88_a74
  have fH90_a77 := (hqH90 _ na77).trans fH88_a77
  have fH90_a80 := (hqH90 _ na80).trans fH88_a80
  have fH90_a83 := (hqH90 _ na83).trans fH88_a83
  have fH90_a86 := (hqH90 _ na86).trans fH88_a86
  have fH90_a89 := (hqH90 _ na89).trans hIH88
  have zH90 := hzH90.trans zH88
  refine lv_aload_n hx hb dX11_init_244 rfl (lv_at hl 0 rfl) ?_
  refine lv_bipush (v := 30) hx hb dX11_init_245 (by decide) ?_
  refine hk_newi (N := 30) X K (by decide +kernel) hS (by decide) (by decide) (Nat.le_of_ble_eq_true rfl) (Nat.le_of_ble_eq_true rfl) (Nat.le_of_ble_eq_true rfl) dX11_init_247 (fun H91 hIH91 hzH91 hqH91 hS => ?_)
  obtain ⟨a92, ea92⟩ : ∃ z : Nat, z = H90.size := ⟨_, rfl⟩
  rw [← ea92] at hIH91 ⊢
  have fH91_mo : hk_O E mo 11 [.ref a2, .int 0, .ref a5, .ref a8, .ref a11, .ref a14, .ref a17, .ref a20, .int 0, .ref a23, .ref a26, .ref a29, .int 0, .ref a32, .ref a35, .ref a38, .ref a41, .ref a44, .ref a47, .ref a50, .ref a53, .ref a56, .int 0, .ref a59, .ref a62, .ref a65, .ref a68, .ref a71, .ref a74, .int 0, .ref a77, .ref a80, .int 0, .int 0, .int 0, .ref a83, .ref a86, .ref a89, .int 0, .null, .null, .null] H91 := va_at.kept hOH90 (hqH91 _ (va_at.lt hOH90))
  have fH91_a2 := (hqH91 _ (Array.getElem?_eq_some_iff.mp fH90_a2).1).trans fH90_a2
  have fH91_a5 := (hqH91 _ (Array.getElem?_eq_some_iff.mp fH90_a5).1).trans fH90_a5
  have fH91_a8 := (hqH91 _ (Array.getElem?_eq_some_iff.mp fH90_a8).1).trans fH90_a8
  have fH91_a11 := (hqH91 _ (Array.getElem?_eq_some_iff.mp fH90_a11).1).trans fH90_a11
  have fH91_a14 := (hqH91 _ (Array.getElem?_eq_some_iff.mp fH90_a14).1).trans fH90_a14
  have fH91_a17 := (hqH91 _ (Array.getElem?_eq_some_iff.mp fH90_a17).1).trans fH90_a17
  have fH91_a20 := (hqH91 _ (Array.getElem?_eq_some_iff.mp fH90_a20).1).trans fH90_a20
  have fH91_a23 := (hqH91 _ (Array.getElem?_eq_some_iff.mp fH90_a23).1).trans fH90_a23
  have fH91_a26 := (hqH91 _ (Array.getElem?_eq_some_iff.mp fH90_a26).1).trans fH90_a26
  have fH91_a29 := (hqH91 _ (Array.getElem?_eq_some_iff.mp fH90_a29).1).trans fH90_a29
  have fH91_a32 := (hqH91 _ (Array.getElem?_eq_some_iff.mp fH90_a32).1).trans fH90_a32
  have fH91_a35 := (hqH91 _ (Array.getElem?_eq_some_iff.mp fH90_a35).1).trans fH90_a35
  have fH91_a38 := (hqH91 _ (Array.getElem?_eq_some_iff.mp fH90_a38).1).trans fH90_a38
  have fH91_a41 := (hqH91 _ (Array.getElem?_eq_some_iff.mp fH90_a41).1).trans fH90_a41
  have fH91_a44 := (hqH91 _ (Array.getElem?_eq_some_iff.mp fH90_a44).1).trans fH90_a44
  have fH91_a47 := (hqH91 _ (Array.getElem?_eq_some_iff.mp fH90_a47).1).trans fH90_a47
  have fH91_a50 := (hqH91 _ (Array.getElem?_eq_some_iff.mp fH90_a50).1).trans fH90_a50
  have fH91_a53 := (hqH91 _ (Array.getElem?_eq_some_iff.mp fH90_a53).1).trans fH90_a53
  have fH91_a56 := (hqH91 _ (Array.getElem?_eq_some_iff.mp fH90_a56).1).trans fH90_a56
  have fH91_a59 := (hqH91 _ (Array.getElem?_eq_some_iff.mp fH90_a59).1).trans fH90_a59
  have fH91_a62 := (hqH91 _ (Array.getElem?_eq_some_iff.mp fH90_a62).1).trans fH90_a62
  have fH91_a65 := (hqH91 _ (Array.getElem?_eq_some_iff.mp fH90_a65).1).trans fH90_a65
  have fH91_a68 := (hqH91 _ (Array.getElem?_eq_some_iff.mp fH90_a68).1).trans fH90_a68
  have fH91_a71 := (hqH91 _ (Array.getElem?_eq_some_iff.mp fH90_a71).1).trans fH90_a71
  have fH91_a74 := (hqH91 _ (Array.getElem?_eq_some_iff.mp fH90_a74).1).trans fH90_a74
  have fH91_a77 := (hqH91 _ (Array.getElem?_eq_some_iff.mp fH90_a77).1).trans fH90_a77
  have fH91_a80 := (hqH91 _ (Array.getElem?_eq_some_iff.mp fH90_a80).1).trans fH90_a80
  have fH91_a83 := (hqH91 _ (Array.getElem?_eq_some_iff.mp fH90_a83).1).trans fH90_a83
  have fH91_a86 := (hqH91 _ (Array.getElem?_eq_some_iff.mp fH90_a86).1).trans fH90_a86
  have fH91_a89 := (hqH91 _ (Array.getElem?_eq_some_iff.mp fH90_a89).1).trans fH90_a89
  have va92 : a92 = H0.size + 30 := ea92.trans zH90
  have zH91 : H91.size = H0.size + 31 := by rw [hzH91, zH90]
  have na92 : a92 ≠ mo := fun g => absurd hlt0 (by rw [← g, va92]; exact Nat.not_lt.mpr (Nat.le_add_right _ _))
  refine hk_putF (ref := "LightcurveHouseModel") X K fH91_mo rfl iX11_init_X11 tyX11 tyX11_ok nmX11 hS (Or.inl rfl) 39 (by decide) (by decide +kernel) (fun _ h => h) (by decide +kernel) hnm (by decide +kernel) rfl rfl (Nat.le_of_ble_eq_true rfl) dX11_init_249 (fun H93 locsH93 hOH93 hzH93 hqH93 hS => ?_)
  have hOH93 : hk_O E mo 11 [.ref a2, .int 0, .ref a5, .ref a8, .ref a11, .ref a14, .ref a17, .ref a20, .int 0, .ref a23, .ref a26, .ref a29, .int 0, .ref a32, .ref a35, .ref a38, .ref a41, .ref a44, .ref a47, .ref a50, .ref a53, .ref a56, .int 0, .ref a59, .ref a62, .ref a65, .ref a68, .ref a71, .ref a74, .int 0, .ref a77, .ref a80, .int 0, .int 0, .int 0, .ref a83, .ref a86, .ref a89, .int 0, .ref a92, .null, .null] H93 := hOH93
  have fH93_a2 := (hqH93 _ na2).trans fH91_a2
  have fH93_a5 := (hqH93 _ na5).trans fH91_a5
  have fH93_a8 := (hqH93 _ na8).trans fH91_a8
  have fH93_a11 := (hqH93 _ na11).trans fH91_a11
  have fH93_a14 := (hqH93 _ na14).trans fH91_a14
  have fH93_a17 := (hqH93 _ na17).trans fH91_a17
  have fH93_a20 := (hqH93 _ na20).trans fH91_a20
  have fH93_a23 := (hqH93 _ na23).trans fH91_a23
  have fH93_a26 := (hqH93 _ na26).trans fH91_a26
  have fH93_a29 := (hqH93 _ na29).trans fH91_a29
  have fH93_a32 := (hqH93 _ na32).trans fH91_a32
  have fH93_a35 := (hqH93 _ na35).trans fH91_a35
  have fH93_a38 := (hqH93 _ na38).trans fH91_a38
  have fH93_a41 := (hqH93 _ na41).trans fH91_a41
  have fH93_a44 := (hqH93 _ na44).trans fH91_a44
  have fH93_a47 := (hqH93 _ na47).trans fH91_a47
  have fH93_a50 := (hqH93 _ na50).trans fH91_a50
  have fH93_a53 := (hqH93 _ na53).trans fH91_a53
  have fH93_a56 := (hqH93 _ na56).trans fH91_a56
  have fH93_a59 := (hqH93 _ na59).trans fH91_a59
  have fH93_a62 := (hqH93 _ na62).trans fH91_a62
  have fH93_a65 := (hqH93 _ na65).trans fH91_a65
  have fH93_a68 := (hqH93 _ na68).trans fH91_a68
  have fH93_a71 := (hqH93 _ na71).trans fH91_a71
  have fH93_a74 := (hqH93 _ na74).trans fH91_a74
  have fH93_a77 := (hqH93 _ na77).trans fH91_a77
  have fH93_a80 := (hqH93 _ na80).trans fH91_a80
  have fH93_a83 := (hqH93 _ na83).trans fH91_a83
  have fH93_a86 := (hqH93 _ na86).trans fH91_a86
  have fH93_a89 := (hqH93 _ na89).trans fH91_a89
  have fH93_a92 := (hqH93 _ na92).trans hIH91
  have zH93 := hzH93.trans zH91
  refine lv_aload_n hx hb dX11_init_252 rfl (lv_at hl 0 rfl) ?_
  refine lv_bipush (v := 12) hx hb dX11_init_253 (by decide) ?_
  refine hk_newi (N := 12) X K (by decide +kernel) hS (by decide) (by decide) (Nat.le_of_ble_eq_true rfl) (Nat.le_of_ble_eq_true rfl) (Nat.le_of_ble_eq_true rfl) dX11_init_255 (fun H94 hIH94 hzH94 hqH94 hS => ?_)
  obtain ⟨a95, ea95⟩ : ∃ z : Nat, z = H93.size := ⟨_, rfl⟩
  rw [← ea95] at hIH94 ⊢
  have fH94_mo : hk_O E mo 11 [.ref a2, .int 0, .ref a5, .ref a8, .ref a11, .ref a14, .ref a17, .ref a20, .int 0, .ref a23, .ref a26, .ref a29, .int 0, .ref a32, .ref a35, .ref a38, .ref a41, .ref a44, .ref a47, .ref a50, .ref a53, .ref a56, .int 0, .ref a59, .ref a62, .ref a65, .ref a68, .ref a71, .ref a74, .int 0, .ref a77, .ref a80, .int 0, .int 0, .int 0, .ref a83, .ref a86, .ref a89, .int 0, .ref a92, .null, .null] H94 := va_at.kept hOH93 (hqH94 _ (va_at.lt hOH93))
  have fH94_a2 := (hqH94 _ (Array.getElem?_eq_some_iff.mp fH93_a2).1).trans fH93_a2
  have fH94_a5 := (hqH94 _ (Array.getElem?_eq_some_iff.mp fH93_a5).1).trans fH93_a5
  have fH94_a8 := (hqH94 _ (Array.getElem?_eq_some_iff.mp fH93_a8).1).trans fH93_a8
  have fH94_a11 := (hqH94 _ (Array.getElem?_eq_some_iff.mp fH93_a11).1).trans fH93_a11
  have fH94_a14 := (hqH94 _ (Array.getElem?_eq_some_iff.mp fH93_a14).1).trans fH93_a14
  have fH94_a17 := (hqH94 _ (Array.getElem?_eq_some_iff.mp fH93_a17).1).trans fH93_a17
  have fH94_a20 := (hqH94 _ (Array.getElem?_eq_some_iff.mp fH93_a20).1).trans fH93_a20
  have fH94_a23 := (hqH94 _ (Array.getElem?_eq_some_iff.mp fH93_a23).1).trans fH93_a23
  have fH94_a26 := (hqH94 _ (Array.getElem?_eq_some_iff.mp fH93_a26).1).trans fH93_a26
  have fH94_a29 := (hqH94 _ (Array.getElem?_eq_some_iff.mp fH93_a29).1).trans fH93_a29
  have fH94_a32 := (hqH94 _ (Array.getElem?_eq_some_iff.mp fH93_a32).1).trans fH93_a32
  have fH94_a35 := (hqH94 _ (Array.getElem?_eq_some_iff.mp fH93_a35).1).trans fH93_a35
  have fH94_a38 := (hqH94 _ (Array.getElem?_eq_some_iff.mp fH93_a38).1).trans fH93_a38
  have fH94_a41 := (hqH94 _ (Array.getElem?_eq_some_iff.mp fH93_a41).1).trans fH93_a41
  have fH94_a44 := (hqH94 _ (Array.getElem?_eq_some_iff.mp fH93_a44).1).trans fH93_a44
  have fH94_a47 := (hqH94 _ (Array.getElem?_eq_some_iff.mp fH93_a47).1).trans fH93_a47
  have fH94_a50 := (hqH94 _ (Array.getElem?_eq_some_iff.mp fH93_a50).1).trans fH93_a50
  have fH94_a53 := (hqH94 _ (Array.getElem?_eq_some_iff.mp fH93_a53).1).trans fH93_a53
  have fH94_a56 := (hqH94 _ (Array.getElem?_eq_some_iff.mp fH93_a56).1).trans fH93_a56
  have fH94_a59 := (hqH94 _ (Array.getElem?_eq_some_iff.mp fH93_a59).1).trans fH93_a59
  have fH94_a62 := (hqH94 _ (Array.getElem?_eq_some_iff.mp fH93_a62).1).trans fH93_a62
  have fH94_a65 := (hqH94 _ (Array.getElem?_eq_some_iff.mp fH93_a65).1).trans fH93_a65
  have fH94_a68 := (hqH94 _ (Array.getElem?_eq_some_iff.mp fH93_a68).1).trans fH93_a68
  have fH94_a71 := (hqH94 _ (Array.getElem?_eq_some_iff.mp fH93_a71).1).trans fH93_a71
  have fH94_a74 := (hqH94 _ (Array.getElem?_eq_some_iff.mp fH93_a74).1).trans fH93_a74
  have fH94_a77 := (hqH94 _ (Array.getElem?_eq_some_iff.mp fH93_a77).1).trans fH93_a77
  have fH94_a80 := (hqH94 _ (Array.getElem?_eq_some_iff.mp fH93_a80).1).trans fH93_a80
  have fH94_a83 := (hqH94 _ (Array.getElem?_eq_some_iff.mp fH93_a83).1).trans fH93_a83
  have fH94_a86 := (hqH94 _ (Array.getElem?_eq_some_iff.mp fH93_a86).1).trans fH93_a86
  have fH94_a89 := (hqH94 _ (Array.getElem?_eq_some_iff.mp fH93_a89).1).trans fH93_a89
  have fH94_a92 := (hqH94 _ (Array.getElem?_eq_some_iff.mp fH93_a92).1).trans fH93_a92
  have va95 : a95 = H0.size + 31 := ea95.trans zH93
  have zH94 : H94.size = H0.size + 32 := by rw [hzH94, zH93]
  have na95 : a95 ≠ mo := fun g => absurd hlt0 (by rw [← g, va95]; exact Nat.not_lt.mpr (Nat.le_add_right _ _))
  refine hk_putF (ref := "LightcurveHouseModel") X K fH94_mo rfl iX11_init_X11 tyX11 tyX11_ok nmX11 hS (Or.inl rfl) 40 (by decide) (by decide +kernel) (fun _ h => h) (by decide +kernel) hnm (by decide +kernel) rfl rfl (Nat.le_of_ble_eq_true rfl) dX11_init_257 (fun H96 locsH96 hOH96 hzH96 hqH96 hS => ?_)
  have hOH96 : hk_O E mo 11 [.ref a2, .int 0, .ref a5, .ref a8, .ref a11, .ref a14, .ref a17, .ref a20, .int 0, .ref a23, .ref a26, .ref a29, .int 0, .ref a32, .ref a35, .ref a38, .ref a41, .ref a44, .ref a47, .ref a50, .ref a53, .ref a56, .int 0, .ref a59, .ref a62, .ref a65, .ref a68, .ref a71, .ref a74, .int 0, .ref a77, .ref a80, .int 0, .int 0, .int 0, .ref a83, .ref a86, .ref a89, .int 0, .ref a92, .ref a95, .null] H96 := hOH96
  have fH96_a2 := (hqH96 _ na2).trans fH94_a2
  have fH96_a5 := (hqH96 _ na5).trans fH94_a5
  have fH96_a8 := (hqH96 _ na8).trans fH94_a8
  have fH96_a11 := (hqH96 _ na11).trans fH94_a11
  have fH96_a14 := (hqH96 _ na14).trans fH94_a14
  have fH96_a17 := (hqH96 _ na17).trans fH94_a17
  have fH96_a20 := (hqH96 _ na20).trans fH94_a20
  have fH96_a23 := (hqH96 _ na23).trans fH94_a23
  have fH96_a26 := (hqH96 _ na26).trans fH94_a26
  have fH96_a29 := (hqH96 _ na29).trans fH94_a29
  have fH96_a32 := (hqH96 _ na32).trans fH94_a32
  have fH96_a35 := (hqH96 _ na35).trans fH94_a35
  have fH96_a38 := (hqH96 _ na38).trans fH94_a38
  have fH96_a41 := (hqH96 _ na41).trans fH94_a41
  have fH96_a44 := (hqH96 _ na44).trans fH94_a44
  have fH96_a47 := (hqH96 _ na47).trans fH94_a47
  have fH96_a50 := (hqH96 _ na50).trans fH94_a50
  have fH96_a53 := (hqH96 _ na53).trans fH94_a53
  have fH96_a56 := (hqH96 _ na56).trans fH94_a56
  have fH96_a59 := (hqH96 _ na59).trans fH94_a59
  have fH96_a62 := (hqH96 _ na62).trans fH94_a62
  have fH96_a65 := (hqH96 _ na65).trans fH94_a65
  have fH96_a68 := (hqH96 _ na68).trans fH94_a68
  have fH96_a71 := (hqH96 _ na71).trans fH94_a71
  have fH96_a74 := (hqH96 _ na74).trans fH94_a74
  have fH96_a77 := (hqH96 _ na77).trans fH94_a77
  have fH96_a80 := (hqH96 _ na80).trans fH94_a80
  have fH96_a83 := (hqH96 _ na83).trans fH94_a83
  have fH96_a86 := (hqH96 _ na86).trans fH94_a86
  have fH96_a89 := (hqH96 _ na89).trans fH94_a89
  have fH96_a92 := (hqH96 _ na92).trans fH94_a92
  have fH96_a95 := (hqH96 _ na95).trans hIH94
  have zH96 := hzH96.trans zH94
  refine lv_aload_n hx hb dX11_init_260 rfl (lv_at hl 0 rfl) ?_
  refine lv_bipush (v := 12) hx hb dX11_init_261 (by decide) ?_
  refine hk_newz (N := 12) X K (by decide +kernel) hS (by decide) (by decide) (Nat.le_of_ble_eq_true rfl) (Nat.le_of_ble_eq_true rfl) (Nat.le_of_ble_eq_true rfl) dX11_init_263 (fun H97 hIH97 hzH97 hqH97 hS => ?_)
  obtain ⟨a98, ea98⟩ : ∃ z : Nat, z = H96.size := ⟨_, rfl⟩
  rw [← ea98] at hIH97 ⊢
  have fH97_mo : hk_O E mo 11 [.ref a2, .int 0, .ref a5, .ref a8, .ref a11, .ref a14, .ref a17, .ref a20, .int 0, .ref a23, .ref a26, .ref a29, .int 0, .ref a32, .ref a35, .ref a38, .ref a41, .ref a44, .ref a47, .ref a50, .ref a53, .ref a56, .int 0, .ref a59, .ref a62, .ref a65, .ref a68, .ref a71, .ref a74, .int 0, .ref a77, .ref a80, .int 0, .int 0, .int 0, .ref a83, .ref a86, .ref a89, .int 0, .ref a92, .ref a95, .null] H97 := va_at.kept hOH96 (hqH97 _ (va_at.lt hOH96))
  have fH97_a2 := (hqH97 _ (Array.getElem?_eq_some_iff.mp fH96_a2).1).trans fH96_a2
  have fH97_a5 := (hqH97 _ (Array.getElem?_eq_some_iff.mp fH96_a5).1).trans fH96_a5
  have fH97_a8 := (hqH97 _ (Array.getElem?_eq_some_iff.mp fH96_a8).1).trans fH96_a8
  have fH97_a11 := (hqH97 _ (Array.getElem?_eq_some_iff.mp fH96_a11).1).trans fH96_a11
  have fH97_a14 := (hqH97 _ (Array.getElem?_eq_some_iff.mp fH96_a14).1).trans fH96_a14
  have fH97_a17 := (hqH97 _ (Array.getElem?_eq_some_iff.mp fH96_a17).1).trans fH96_a17
  have fH97_a20 := (hqH97 _ (Array.getElem?_eq_some_iff.mp fH96_a20).1).trans fH96_a20
  have fH97_a23 := (hqH97 _ (Array.getElem?_eq_some_iff.mp fH96_a23).1).trans fH96_a23
  have fH97_a26 := (hqH97 _ (Array.getElem?_eq_some_iff.mp fH96_a26).1).trans fH96_a26
  have fH97_a29 := (hqH97 _ (Array.getElem?_eq_some_iff.mp fH96_a29).1).trans fH96_a29
  have fH97_a32 := (hqH97 _ (Array.getElem?_eq_some_iff.mp fH96_a32).1).trans fH96_a32
  have fH97_a35 := (hqH97 _ (Array.getElem?_eq_some_iff.mp fH96_a35).1).trans fH96_a35
  have fH97_a38 := (hqH97 _ (Array.getElem?_eq_some_iff.mp fH96_a38).1).trans fH96_a38
  have fH97_a41 := (hqH97 _ (Array.getElem?_eq_some_iff.mp fH96_a41).1).trans fH96_a41
  have fH97_a44 := (hqH97 _ (Array.getElem?_eq_some_iff.mp fH96_a44).1).trans fH96_a44
  have fH97_a47 := (hqH97 _ (Array.getElem?_eq_some_iff.mp fH96_a47).1).trans fH96_a47
  have fH97_a50 := (hqH97 _ (Array.getElem?_eq_some_iff.mp fH96_a50).1).trans fH96_a50
  have fH97_a53 := (hqH97 _ (Array.getElem?_eq_some_iff.mp fH96_a53).1).trans fH96_a53
  have fH97_a56 := (hqH97 _ (Array.getElem?_eq_some_iff.mp fH96_a56).1).trans fH96_a56
  have fH97_a59 := (hqH97 _ (Array.getElem?_eq_some_iff.mp fH96_a59).1).trans fH96_a59
  have fH97_a62 := (hqH97 _ (Array.getElem?_eq_some_iff.mp fH96_a62).1).trans fH96_a62
  have fH97_a65 := (hqH97 _ (Array.getElem?_eq_some_iff.mp fH96_a65).1).trans fH96_a65
  have fH97_a68 := (hqH97 _ (Array.getElem?_eq_some_iff.mp fH96_a68).1).trans fH96_a68
  have fH97_a71 := (hqH97 _ (Array.getElem?_eq_some_iff.mp fH96_a71).1).trans fH96_a71
  have fH97_a74 := (hqH97 _ (Array.getElem?_eq_some_iff.mp fH96_a74).1).trans fH96_a74
  have fH97_a77 := (hqH97 _ (Array.getElem?_eq_some_iff.mp fH96_a77).1).trans fH96_a77
  have fH97_a80 := (hqH97 _ (Array.getElem?_eq_some_iff.mp fH96_a80).1).trans fH96_a80
  have fH97_a83 := (hqH97 _ (Array.getElem?_eq_some_iff.mp fH96_a83).1).trans fH96_a83
  have fH97_a86 := (hqH97 _ (Array.getElem?_eq_some_iff.mp fH96_a86).1).trans fH96_a86
  have fH97_a89 := (hqH97 _ (Array.getElem?_eq_some_iff.mp fH96_a89).1).trans fH96_a89
  have fH97_a92 := (hqH97 _ (Array.getElem?_eq_some_iff.mp fH96_a92).1).trans fH96_a92
  have fH97_a95 := (hqH97 _ (Array.getElem?_eq_some_iff.mp fH96_a95).1).trans fH96_a95
  have va98 : a98 = H0.size + 32 := ea98.trans zH96
  have zH97 : H97.size = H0.size + 33 := by rw [hzH97, zH96]
  have na98 : a98 ≠ mo := fun g => absurd hlt0 (by rw [← g, va98]; exact Nat.not_lt.mpr (Nat.le_add_right _ _))
  refine hk_putF (ref := "LightcurveHouseModel") X K fH97_mo rfl iX11_init_X11 tyX11 tyX11_ok nmX11 hS (Or.inl rfl) 41 (by decide) (by decide +kernel) (fun _ h => h) (by decide +kernel) hnm (by decide +kernel) rfl rfl (Nat.le_of_ble_eq_true rfl) dX11_init_265 (fun H99 locsH99 hOH99 hzH99 hqH99 hS => ?_)
  have hOH99 : hk_O E mo 11 [.ref a2, .int 0, .ref a5, .ref a8, .ref a11, .ref a14, .ref a17, .ref a20, .int 0, .ref a23, .ref a26, .ref a29, .int 0, .ref a32, .ref a35, .ref a38, .ref a41, .ref a44, .ref a47, .ref a50, .ref a53, .ref a56, .int 0, .ref a59, .ref a62, .ref a65, .ref a68, .ref a71, .ref a74, .int 0, .ref a77, .ref a80, .int 0, .int 0, .int 0, .ref a83, .ref a86, .ref a89, .int 0, .ref a92, .ref a95, .ref a98] H99 := hOH99
  have fH99_a2 := (hqH99 _ na2).trans fH97_a2
  have fH99_a5 := (hqH99 _ na5).trans fH97_a5
  have fH99_a8 := (hqH99 _ na8).trans fH97_a8
  have fH99_a11 := (hqH99 _ na11).trans fH97_a11
  have fH99_a14 := (hqH99 _ na14).trans fH97_a14
  have fH99_a17 := (hqH99 _ na17).trans fH97_a17
  have fH99_a20 := (hqH99 _ na20).trans fH97_a20
  have fH99_a23 := (hqH99 _ na23).trans fH97_a23
  have fH99_a26 := (hqH99 _ na26).trans fH97_a26
  have fH99_a29 := (hqH99 _ na29).trans fH97_a29
  have fH99_a32 := (hqH99 _ na32).trans fH97_a32
  have fH99_a35 := (hqH99 _ na35).trans fH97_a35
  have fH99_a38 := (hqH99 _ na38).trans fH97_a38
  have fH99_a41 := (hqH99 _ na41).trans fH97_a41
  have fH99_a44 := (hqH99 _ na44).trans fH97_a44
  have fH99_a47 := (hqH99 _ na47).trans fH97_a47
  have fH99_a50 := (hqH99 _ na50).trans fH97_a50
  have fH99_a53 := (hqH99 _ na53).trans fH97_a53
  have fH99_a56 := (hqH99 _ na56).trans fH97_a56
  have fH99_a59 := (hqH99 _ na59).trans fH97_a59
  have fH99_a62 := (hqH99 _ na62).trans fH97_a62
  have fH99_a65 := (hqH99 _ na65).trans fH97_a65
  have fH99_a68 := (hqH99 _ na68).trans fH97_a68
  have fH99_a71 := (hqH99 _ na71).trans fH97_a71
  have fH99_a74 := (hqH99 _ na74).trans fH97_a74
  have fH99_a77 := (hqH99 _ na77).trans fH97_a77
  have fH99_a80 := (hqH99 _ na80).trans fH97_a80
  have fH99_a83 := (hqH99 _ na83).trans fH97_a83
  have fH99_a86 := (hqH99 _ na86).trans fH97_a86
  have fH99_a89 := (hqH99 _ na89).trans fH97_a89
  have fH99_a92 := (hqH99 _ na92).trans fH97_a92
  have fH99_a95 := (hqH99 _ na95).trans fH97_a95
  have fH99_a98 := (hqH99 _ na98).trans hIH97
  have zH99 := hzH99.trans zH97
  obtain ⟨am, hamd⟩ : ∃ am : Nat → Nat, am = fun k => H0.size + midx k := ⟨_, rfl⟩
  have wa2 : a2 = am 0 := by rw [va2, hamd]; rfl
  have wa5 : a5 = am 2 := by rw [va5, hamd]; rfl
  have wa8 : a8 = am 3 := by rw [va8, hamd]; rfl
  have wa11 : a11 = am 4 := by rw [va11, hamd]; rfl
  have wa14 : a14 = am 5 := by rw [va14, hamd]; rfl
  have wa17 : a17 = am 6 := by rw [va17, hamd]; rfl
  have wa20 : a20 = am 7 := by rw [va20, hamd]; rfl
  have wa23 : a23 = am 9 := by rw [va23, hamd]; rfl
  have wa26 : a26 = am 10 := by rw [va26, hamd]; rfl
  have wa29 : a29 = am 11 := by rw [va29, hamd]; rfl
  have wa32 : a32 = am 13 := by rw [va32, hamd]; rfl
  have wa35 : a35 = am 14 := by rw [va35, hamd]; rfl
  have wa38 : a38 = am 15 := by rw [va38, hamd]; rfl
  have wa41 : a41 = am 16 := by rw [va41, hamd]; rfl
  have wa44 : a44 = am 17 := by rw [va44, hamd]; rfl
  have wa47 : a47 = am 18 := by rw [va47, hamd]; rfl
  have wa50 : a50 = am 19 := by rw [va50, hamd]; rfl
  have wa53 : a53 = am 20 := by rw [va53, hamd]; rfl
  have wa56 : a56 = am 21 := by rw [va56, hamd]; rfl
  have wa59 : a59 = am 23 := by rw [va59, hamd]; rfl
  have wa62 : a62 = am 24 := by rw [va62, hamd]; rfl
  have wa65 : a65 = am 25 := by rw [va65, hamd]; rfl
  have wa68 : a68 = am 26 := by rw [va68, hamd]; rfl
  have wa71 : a71 = am 27 := by rw [va71, hamd]; rfl
  have wa74 : a74 = am 28 := by rw [va74, hamd]; rfl
  have wa77 : a77 = am 30 := by rw [va77, hamd]; rfl
  have wa80 : a80 = am 31 := by rw [va80, hamd]; rfl
  have wa83 : a83 = am 35 := by rw [va83, hamd]; rfl
  have wa86 : a86 = am 36 := by rw [va86, hamd]; rfl
  have wa89 : a89 = am 37 := by rw [va89, hamd]; rfl
  have wa92 : a92 = am 39 := by rw [va92, hamd]; rfl
  have wa95 : a95 = am 40 := by rw [va95, hamd]; rfl
  have wa98 : a98 = am 41 := by rw [va98, hamd]; rfl
  have hM : MW E mo am Z (fun _ => 0) (fun _ => 0) mz H99 := by
    refine ⟨?_, ?_, fun j k hj hk g => ?_, fun k hk g => ?_, hZm, fun k hk => hZn _ (by rw [hamd]; exact Nat.le_add_right _ _)⟩
    · have q := hOH99
      rw [wa2, wa5, wa8, wa11, wa14, wa17, wa20, wa23, wa26, wa29, wa32, wa35, wa38, wa41, wa44, wa47, wa50, wa53, wa56, wa59, wa62, wa65, wa68, wa71, wa74, wa77, wa80, wa83, wa86, wa89, wa92, wa95, wa98] at q
      exact q
    · intro k hk
      rcases k with _ | k
      · rw [← wa2]; exact fH99_a2
      rcases k with _ | k
      · exact absurd hk (by decide)
      rcases k with _ | k
      · rw [← wa5]; exact fH99_a5
      rcases k with _ | k
      · rw [← wa8]; exact fH99_a8
      rcases k with _ | k
      · rw [← wa11]; exact fH99_a11
      rcases k with _ | k
      · rw [← wa14]; exact fH99_a14
      rcases k with _ | k
      · rw [← wa17]; exact fH99_a17
      rcases k with _ | k
      · rw [← wa20]; exact fH99_a20
      rcases k with _ | k
      · exact absurd hk (by decide)
      rcases k with _ | k
      · rw [← wa23]; exact fH99_a23
      rcases k with _ | k
      · rw [← wa26]; exact fH99_a26
      rcases k with _ | k
      · rw [← wa29]; exact fH99_a29
      rcases k with _ | k
      · exact absurd hk (by decide)
      rcases k with _ | k
      · rw [← wa32]; exact fH99_a32
      rcases k with _ | k
      · rw [← wa35]; exact fH99_a35
      rcases k with _ | k
      · rw [← wa38]; exact fH99_a38
      rcases k with _ | k
      · rw [← wa41]; exact fH99_a41
      rcases k with _ | k
      · rw [← wa44]; exact fH99_a44
      rcases k with _ | k
      · rw [← wa47]; exact fH99_a47
      rcases k with _ | k
      · rw [← wa50]; exact fH99_a50
      rcases k with _ | k
      · rw [← wa53]; exact fH99_a53
      rcases k with _ | k
      · rw [← wa56]; exact fH99_a56
      rcases k with _ | k
      · exact absurd hk (by decide)
      rcases k with _ | k
      · rw [← wa59]; exact fH99_a59
      rcases k with _ | k
      · rw [← wa62]; exact fH99_a62
      rcases k with _ | k
      · rw [← wa65]; exact fH99_a65
      rcases k with _ | k
      · rw [← wa68]; exact fH99_a68
      rcases k with _ | k
      · rw [← wa71]; exact fH99_a71
      rcases k with _ | k
      · rw [← wa74]; exact fH99_a74
      rcases k with _ | k
      · exact absurd hk (by decide)
      rcases k with _ | k
      · rw [← wa77]; exact fH99_a77
      rcases k with _ | k
      · rw [← wa80]; exact fH99_a80
      rcases k with _ | k
      · exact absurd hk (by decide)
      rcases k with _ | k
      · exact absurd hk (by decide)
      rcases k with _ | k
      · exact absurd hk (by decide)
      rcases k with _ | k
      · rw [← wa83]; exact fH99_a83
      rcases k with _ | k
      · rw [← wa86]; exact fH99_a86
      rcases k with _ | k
      · rw [← wa89]; exact fH99_a89
      rcases k with _ | k
      · exact absurd hk (by decide)
      rcases k with _ | k
      · rw [← wa92]; exact fH99_a92
      rcases k with _ | k
      · rw [← wa95]; exact fH99_a95
      rcases k with _ | k
      · rw [← wa98]; exact fH99_a98
      exact absurd (mlen_42 hk) (by omega)
    · rw [hamd] at g
      exact midx_inj j (mlen_42 hj) k (mlen_42 hk) hj hk (Nat.add_left_cancel g)
    · rw [hamd] at g
      exact absurd hlt0 (by rw [← g]; exact Nat.not_lt.mpr (Nat.le_add_right _ _))
  have ham0 : ∀ k, H0.size ≤ am k := fun k => by rw [hamd]; exact Nat.le_add_right _ _
  refine lv_iconst (v := 0) hx hb dX11_init_268 (by decide) ?_
  refine lv_topi (fun z_100 ez_100 => ?_)
  have ez_100 : z_100 = nI 0 := ez_100
  subst ez_100
  refine lv_istore_n (lv' := [(1, .int (nI 0)), (0, .ref mo)]) hx hb dX11_init_269 rfl hl (by decide) rfl (fun ls hl => ?_)
  have L270 : ∀ (n9 : Nat) (k9 : Nat) (f9 : Nat → Int32) (H : Heap) (locs : List Loc), 11 ≤ k9 + n9 → (k9 ≤ 10 ∧ (∀ i, i < k9 → f9 i = 1000) ∧ MW E mo am Z (fun _ => 0) (fun _ => 0) (va_up mz 0 f9) H ∧ va_S (fun q => q = mo ∨ H0.size ≤ q) s.heap H locs) → ∀ (ls : Array Slot), lv_has ls 2 [(1, .int (nI k9)), (0, .ref mo)] → W p l e rmX11_init s m args below meth c H locs 33 1220 Q (F0 m 270 ls []) := by
    intro n9
    induction n9 with
    | zero =>
      intro k9 f9 H locs hm hinv ls hl
      obtain ⟨hi9, hf9, hM, hS⟩ := hinv
      exact absurd hm (by omega)
    | succ n9 ih =>
      intro k9 f9 H locs hm hinv ls hl
      obtain ⟨hi9, hf9, hM, hS⟩ := hinv
      refine lv_iload_n hx hb dX11_init_270 rfl (lv_at hl 0 rfl) ?_
      refine lv_bipush (v := 10) hx hb dX11_init_271 (by decide) ?_
      refine lv_icmp_ge (tgt := 291) hx hb dX11_init_273 (by decide) (fun c_273 => ?_) (fun c_273 => ?_)
      · have hk9 : 10 ≤ k9 := (nI_leI (a := 10) (by omega) (by omega)).mp c_273
        refine hk_vret X hr hlk hQ hS (Nat.le_of_ble_eq_true rfl) (Nat.le_of_ble_eq_true rfl) dX11_init_291 ?_
        refine ⟨rfl, am, hM.1, fun k hk => ?_, hM.2.2⟩
        have q := hM.2.1 k hk
        by_cases g : k = 0
        · subst g
          refine hk_Icong q (fun i hi => ?_)
          show f9 i = if i < 10 then 1000 else 0
          have hi2 : i < 10 := hi
          rw [if_pos hi2, hf9 i (by omega)]
        · rw [show va_up mz 0 f9 k = mz k from if_neg g] at q
          rw [show S0.2.2 k = mz k from if_neg g]
          exact q
      · have hk9 : k9 < 10 := Nat.lt_of_not_le (fun h => c_273 (nI_le h (by omega)))
        refine lv_aload_n hx hb dX11_init_276 rfl (lv_at hl 1 rfl) ?_
        refine hk_get (ref := "LightcurveHouseModel") (v := .ref (am 0)) X K hM.1 rfl iX11_init_X11 0 (by decide) (by decide +kernel) (fun _ h => h) rfl dX11_init_277 ?_
        refine lv_iload_n hx hb dX11_init_280 rfl (lv_at hl 0 rfl) ?_
        refine lv_sipush (v := 1000) hx hb dX11_init_281 (by decide) ?_
        refine hk_ist (f := f9) X K (hM.a0) hS (Or.inr (ham0 0)) (vp_in_nI (by omega) (by omega)) dX11_init_284 (fun H101 locsH101 hIH101 hzH101 hqH101 hS => ?_)
        rw [show (nI k9).toNatClampNeg = k9 from nI_clamp (by omega)] at hIH101
        have hM := MW.set hM 0 (by decide) hIH101 hqH101
        obtain ⟨q9, eq9⟩ : ∃ y : Int32, y = (nI k9) + 1 := ⟨_, rfl⟩
        refine lv_iinc (v := q9) (lv' := [(1, .int q9), (0, .ref mo)]) hx hb dX11_init_285 hl (k := 0) rfl (by rw [eq9]; rfl) (by decide) rfl (fun ls hl => ?_)
        rw [nI_1] at eq9
        subst eq9
        refine lv_goto (tgt := 270) hx hb dX11_init_288 (by decide) ?_
        exact ih (k9 + 1) (upd f9 k9 1000) _ _ (by omega) ⟨hk9, fun i hi => by
          unfold upd
          by_cases g : i = k9
          · rw [if_pos g]
          · rw [if_neg g]; exact hf9 i (by omega), by rw [va_up2] at hM; exact hM, hS⟩ _ (lv_sub hl [0, 1] rfl)
  exact L270 11 0 (mz 0) _ _ (by omega) ⟨Nat.zero_le _, fun i hi => absurd hi (Nat.not_lt_zero _), by rw [va_up_id]; exact hM, hS⟩ _ (lv_sub hl [0, 1] rfl)

