theorem hkw_X10_needPlace_0_187 : ∀ w ∈ (vx_atS RX10 187 "java/lang/IndexOutOfBoundsException" ["java/lang/RuntimeException", "java/lang/Exception"]).filter goodWord, w ∈ wsX10_needPlace := by decide +kernel
theorem hkb_0 : (vx_atS RX10 187 "java/lang/IndexOutOfBoundsException" ["java/lang/RuntimeException", "java/lang/Exception"]).filter (fun w => !goodWord w) = [.declares (Bundle.initS "java/lang/RuntimeException"), .declares (Bundle.initS "java/lang/Exception"), .declares (Bundle.initS Bundle.tN), .castable "java/lang/IndexOutOfBoundsException" "java/lang/IndexOutOfBoundsException"] := by decide +kernel
theorem hkg_0_187 : ∀ w ∈ Cond.classLink RX10 183 "java/lang/IndexOutOfBoundsException" :: Cond.initialized "java/lang/IndexOutOfBoundsException" :: vx_atS RX10 187 "java/lang/IndexOutOfBoundsException" ["java/lang/RuntimeException", "java/lang/Exception"], vx_ot w = true := by decide +kernel
abbrev rmX10_needPlace : Room := { frames := 6, cells := 1, slots := 6, locals := 90 }
set_option maxHeartbeats 4000000 in
set_option maxRecDepth 100000 in
theorem c_X10_needPlace (E : hk_E) (l : Launch) (hl9 : l.stackTraces = false) (H0 : Heap) {i9 : Int32} {n9 : Nat}  : hk_X E l yX10_needPlace wsX10_needPlace rmX10_needPlace (fun q => H0.size ≤ q) [.int i9, .int (nI n9)] H0 (fun z H1 => (z = none ∧ isS n9 i9) ∧ H0 = H1) (fun x H1 => x = XI ∧ ¬ isS n9 i9) := by
  refine hk_X.ofW (cc := cX10_needPlace) (maxL := 2) (ret := none) (by decide +kernel) rfl (Nat.le_of_ble_eq_true rfl) ?_
  intro p e s m args below meth c ls Q hQ X hr hlk hx9 K hs9 hS hl
  obtain ⟨hx, hb, hml, hown, hts⟩ := id X
  have hAE : ∀ q, (fun q => H0.size ≤ q) q → hk_A E q := fun q h => Nat.le_trans (by rw [← hs9]; exact K.2.2.2.2.2.2.2) h
  have hl : lv_has ls 2 [(0, .int i9), (1, .int (nI n9))] := hl
  refine lv_iload_n hx hb dX10_needPlace_0 rfl (lv_at hl 0 rfl) ?_
  refine lv_if_lt (tgt := 9) hx hb dX10_needPlace_1 (by decide) (fun c_1 => ?_) (fun c_1 => ?_)
  · exact hk_throw (text := "no such place") X rfl K hl9 hx9 hlk hQ hS hAE (by decide) (by decide +kernel) (by decide +kernel) (by decide +kernel) hkw_X10_needPlace_0_187 hkb_0 (by decide +kernel) hkg_0_187 hl.1 dX10_needPlace_9 dX10_needPlace_12 dX10_needPlace_13 dX10_needPlace_15 dX10_needPlace_18 (Nat.le_of_ble_eq_true rfl) (Nat.le_of_ble_eq_true rfl) (Nat.le_of_ble_eq_true rfl) (Nat.le_of_ble_eq_true rfl) (fun _ _ _ => ⟨rfl, fun h => absurd c_1 (Int32.not_lt.mpr h.1)⟩) (Nat.le_of_ble_eq_true rfl) (Nat.le_of_ble_eq_true rfl)
  · refine lv_iload_n hx hb dX10_needPlace_4 rfl (lv_at hl 0 rfl) ?_
    refine lv_iload_n hx hb dX10_needPlace_5 rfl (lv_at hl 1 rfl) ?_
    refine lv_icmp_lt (tgt := 19) hx hb dX10_needPlace_6 (by decide) (fun c_6 => ?_) (fun c_6 => ?_)
    · exact hk_vretx X hr hlk hQ hS (Nat.le_of_ble_eq_true rfl) (Nat.le_of_ble_eq_true rfl) dX10_needPlace_19 (⟨⟨rfl, Int32.not_lt.mp c_1, c_6⟩, rfl⟩)
    · exact hk_throw (text := "no such place") X rfl K hl9 hx9 hlk hQ hS hAE (by decide) (by decide +kernel) (by decide +kernel) (by decide +kernel) hkw_X10_needPlace_0_187 hkb_0 (by decide +kernel) hkg_0_187 hl.1 dX10_needPlace_9 dX10_needPlace_12 dX10_needPlace_13 dX10_needPlace_15 dX10_needPlace_18 (Nat.le_of_ble_eq_true rfl) (Nat.le_of_ble_eq_true rfl) (Nat.le_of_ble_eq_true rfl) (Nat.le_of_ble_eq_true rfl) (fun _ _ _ => ⟨rfl, fun h => c_6 h.2⟩) (Nat.le_of_ble_eq_true rfl) (Nat.le_of_ble_eq_true rfl)

theorem hkw_X10_needRange_1_126 : ∀ w ∈ (vx_atS RX10 126 "java/lang/IllegalArgumentException" ["java/lang/RuntimeException", "java/lang/Exception"]).filter goodWord, w ∈ wsX10_needRange := by decide +kernel
theorem hkb_1 : (vx_atS RX10 126 "java/lang/IllegalArgumentException" ["java/lang/RuntimeException", "java/lang/Exception"]).filter (fun w => !goodWord w) = [.declares (Bundle.initS "java/lang/RuntimeException"), .declares (Bundle.initS "java/lang/Exception"), .declares (Bundle.initS Bundle.tN), .castable "java/lang/IllegalArgumentException" "java/lang/IllegalArgumentException"] := by decide +kernel
theorem hkg_1_126 : ∀ w ∈ Cond.classLink RX10 122 "java/lang/IllegalArgumentException" :: Cond.initialized "java/lang/IllegalArgumentException" :: vx_atS RX10 126 "java/lang/IllegalArgumentException" ["java/lang/RuntimeException", "java/lang/Exception"], vx_ot w = true := by decide +kernel
abbrev rmX10_needRange : Room := { frames := 6, cells := 1, slots := 6, locals := 90 }
set_option maxHeartbeats 4000000 in
set_option maxRecDepth 100000 in
theorem c_X10_needRange (E : hk_E) (l : Launch) (hl9 : l.stackTraces = false) (H0 : Heap) {a9 lo hi : Int32}  : hk_X E l yX10_needRange wsX10_needRange rmX10_needRange (fun q => H0.size ≤ q) [.int a9, .int lo, .int hi] H0 (fun z H1 => (z = none ∧ inr a9 lo hi) ∧ H0 = H1) (fun x H1 => x = XA ∧ ¬ inr a9 lo hi) := by
  refine hk_X.ofW (cc := cX10_needRange) (maxL := 3) (ret := none) (by decide +kernel) rfl (Nat.le_of_ble_eq_true rfl) ?_
  intro p e s m args below meth c ls Q hQ X hr hlk hx9 K hs9 hS hl
  obtain ⟨hx, hb, hml, hown, hts⟩ := id X
  have hAE : ∀ q, (fun q => H0.size ≤ q) q → hk_A E q := fun q h => Nat.le_trans (by rw [← hs9]; exact K.2.2.2.2.2.2.2) h
  have hl : lv_has ls 3 [(0, .int a9), (1, .int lo), (2, .int hi)] := hl
  refine lv_iload_n hx hb dX10_needRange_0 rfl (lv_at hl 0 rfl) ?_
  refine lv_iload_n hx hb dX10_needRange_1 rfl (lv_at hl 1 rfl) ?_
  refine lv_icmp_lt (tgt := 10) hx hb dX10_needRange_2 (by decide) (fun c_2 => ?_) (fun c_2 => ?_)
  · exact hk_throwW (text := "an argument is out of its range") X rfl K hl9 hx9 hlk hQ hS hAE (by decide) (by decide +kernel) (by decide +kernel) (by decide +kernel) hkw_X10_needRange_1_126 hkb_1 (by decide +kernel) hkg_1_126 hl.1 dX10_needRange_10 dX10_needRange_13 dX10_needRange_14 dX10_needRange_17 dX10_needRange_20 (Nat.le_of_ble_eq_true rfl) (Nat.le_of_ble_eq_true rfl) (Nat.le_of_ble_eq_true rfl) (Nat.le_of_ble_eq_true rfl) (fun _ _ _ => ⟨rfl, fun h => absurd c_2 (Int32.not_lt.mpr h.1)⟩) (Nat.le_of_ble_eq_true rfl) (Nat.le_of_ble_eq_true rfl)
  · refine lv_iload_n hx hb dX10_needRange_5 rfl (lv_at hl 0 rfl) ?_
    refine lv_iload_n hx hb dX10_needRange_6 rfl (lv_at hl 2 rfl) ?_
    refine lv_icmp_le (tgt := 21) hx hb dX10_needRange_7 (by decide) (fun c_7 => ?_) (fun c_7 => ?_)
    · exact hk_vretx X hr hlk hQ hS (Nat.le_of_ble_eq_true rfl) (Nat.le_of_ble_eq_true rfl) dX10_needRange_21 (⟨⟨rfl, Int32.not_lt.mp c_2, c_7⟩, rfl⟩)
    · exact hk_throwW (text := "an argument is out of its range") X rfl K hl9 hx9 hlk hQ hS hAE (by decide) (by decide +kernel) (by decide +kernel) (by decide +kernel) hkw_X10_needRange_1_126 hkb_1 (by decide +kernel) hkg_1_126 hl.1 dX10_needRange_10 dX10_needRange_13 dX10_needRange_14 dX10_needRange_17 dX10_needRange_20 (Nat.le_of_ble_eq_true rfl) (Nat.le_of_ble_eq_true rfl) (Nat.le_of_ble_eq_true rfl) (Nat.le_of_ble_eq_true rfl) (fun _ _ _ => ⟨rfl, fun h => c_7 h.2⟩) (Nat.le_of_ble_eq_true rfl) (Nat.le_of_ble_eq_true rfl)

theorem hd_X10_needRange : yX10_needRange.cls ≠ "java/lang/invoke/MethodHandle" ∧ yX10_needRange.cls ≠ "java/lang/invoke/VarHandle" ∧ (parseMethodDescriptor yX10_needRange.desc).map (fun d => d.parameters.length) = some 3 := ⟨by decide, by decide, by decide +kernel⟩
abbrev rmX10_needPeriod : Room := { frames := 7, cells := 1, slots := 6, locals := 112 }
set_option maxHeartbeats 4000000 in
set_option maxRecDepth 100000 in
theorem c_X10_needPeriod (E : hk_E) (l : Launch) (hl9 : l.stackTraces = false) (H0 : Heap) {a9 : Int32}  : hk_X E l yX10_needPeriod wsX10_needPeriod rmX10_needPeriod (fun q => H0.size ≤ q) [.int a9] H0 (fun z H1 => (z = none ∧ inr a9 30 1000000) ∧ H0 = H1) (fun x H1 => x = XA ∧ ¬ inr a9 30 1000000) := by
  refine hk_X.ofW (cc := cX10_needPeriod) (maxL := 1) (ret := none) (by decide +kernel) rfl (Nat.le_of_ble_eq_true rfl) ?_
  intro p e s m args below meth c ls Q hQ X hr hlk hx9 K hs9 hS hl
  obtain ⟨hx, hb, hml, hown, hts⟩ := id X
  have hAE : ∀ q, (fun q => H0.size ≤ q) q → hk_A E q := fun q h => Nat.le_trans (by rw [← hs9]; exact K.2.2.2.2.2.2.2) h
  have hl : lv_has ls 1 [(0, .int a9)] := hl
  refine lv_iload_n hx hb dX10_needPeriod_0 rfl (lv_at hl 0 rfl) ?_
  refine lv_bipush (v := 30) hx hb dX10_needPeriod_1 (by decide) ?_
  refine lv_ldc hx hb hown (hts (.constant RX10 246 (1000000)) (by decide +kernel)) dX10_needPeriod_3 ?_
  refine hk_callSx 3 (As := [.int a9, .int 30, .int 1000000]) (rest := []) X K hAE hS hl.1 (c_X10_needRange E l hl9 H0 (a9 := a9) (lo := 30) (hi := 1000000)) (fun _ h => h) gX10_needPeriod_X10_needRange rfl hd_X10_needRange rfl ⟨⟨(Nat.le_of_ble_eq_true rfl), (Nat.le_of_ble_eq_true rfl)⟩, (Nat.le_of_ble_eq_true rfl), (Nat.le_of_ble_eq_true rfl)⟩ rfl (Nat.le_of_ble_eq_true rfl) dX10_needPeriod_5 (fun x9 ce9 q9 H1 locsH1 hp hS hzH1 hkH1 hce hcv hcl => hk_out hx9 hlk hQ hS hce hcv hcl (Nat.le_of_ble_eq_true rfl) (Nat.le_of_ble_eq_true rfl) (hp)) (fun v9 H1 locsH1 hp hS hzH1 hkH1 => ?_)
  obtain ⟨hv, hh⟩ := hp
  obtain ⟨hv, c_9⟩ := hv
  subst hv; subst hh
  exact hk_vretx X hr hlk hQ hS (Nat.le_of_ble_eq_true rfl) (Nat.le_of_ble_eq_true rfl) dX10_needPeriod_8 (⟨⟨rfl, c_9⟩, rfl⟩)

abbrev rmX10_needPlateZero : Room := { frames := 7, cells := 1, slots := 6, locals := 112 }
set_option maxHeartbeats 4000000 in
set_option maxRecDepth 100000 in
theorem c_X10_needPlateZero (E : hk_E) (l : Launch) (hl9 : l.stackTraces = false) (H0 : Heap) {a9 : Int32}  : hk_X E l yX10_needPlateZero wsX10_needPlateZero rmX10_needPlateZero (fun q => H0.size ≤ q) [.int a9] H0 (fun z H1 => (z = none ∧ inr a9 (-500) 3000) ∧ H0 = H1) (fun x H1 => x = XA ∧ ¬ inr a9 (-500) 3000) := by
  refine hk_X.ofW (cc := cX10_needPlateZero) (maxL := 1) (ret := none) (by decide +kernel) rfl (Nat.le_of_ble_eq_true rfl) ?_
  intro p e s m args below meth c ls Q hQ X hr hlk hx9 K hs9 hS hl
  obtain ⟨hx, hb, hml, hown, hts⟩ := id X
  have hAE : ∀ q, (fun q => H0.size ≤ q) q → hk_A E q := fun q h => Nat.le_trans (by rw [← hs9]; exact K.2.2.2.2.2.2.2) h
  have hl : lv_has ls 1 [(0, .int a9)] := hl
  refine lv_iload_n hx hb dX10_needPlateZero_0 rfl (lv_at hl 0 rfl) ?_
  refine lv_sipush (v := (-500)) hx hb dX10_needPlateZero_1 (by decide) ?_
  refine lv_sipush (v := 3000) hx hb dX10_needPlateZero_4 (by decide) ?_
  refine hk_callSx 3 (As := [.int a9, .int (-500), .int 3000]) (rest := []) X K hAE hS hl.1 (c_X10_needRange E l hl9 H0 (a9 := a9) (lo := (-500)) (hi := 3000)) (fun _ h => h) gX10_needPlateZero_X10_needRange rfl hd_X10_needRange rfl ⟨⟨(Nat.le_of_ble_eq_true rfl), (Nat.le_of_ble_eq_true rfl)⟩, (Nat.le_of_ble_eq_true rfl), (Nat.le_of_ble_eq_true rfl)⟩ rfl (Nat.le_of_ble_eq_true rfl) dX10_needPlateZero_7 (fun x9 ce9 q9 H1 locsH1 hp hS hzH1 hkH1 hce hcv hcl => hk_out hx9 hlk hQ hS hce hcv hcl (Nat.le_of_ble_eq_true rfl) (Nat.le_of_ble_eq_true rfl) (hp)) (fun v9 H1 locsH1 hp hS hzH1 hkH1 => ?_)
  obtain ⟨hv, hh⟩ := hp
  obtain ⟨hv, c_9⟩ := hv
  subst hv; subst hh
  exact hk_vretx X hr hlk hQ hS (Nat.le_of_ble_eq_true rfl) (Nat.le_of_ble_eq_true rfl) dX10_needPlateZero_10 (⟨⟨rfl, c_9⟩, rfl⟩)

theorem hkw_X10_needRoom_2_161 : ∀ w ∈ (vx_atS RX10 161 "java/lang/IllegalStateException" ["java/lang/RuntimeException", "java/lang/Exception"]).filter goodWord, w ∈ wsX10_needRoom := by decide +kernel
theorem hkb_2 : (vx_atS RX10 161 "java/lang/IllegalStateException" ["java/lang/RuntimeException", "java/lang/Exception"]).filter (fun w => !goodWord w) = [.declares (Bundle.initS "java/lang/RuntimeException"), .declares (Bundle.initS "java/lang/Exception"), .declares (Bundle.initS Bundle.tN), .castable "java/lang/IllegalStateException" "java/lang/IllegalStateException"] := by decide +kernel
theorem hkg_2_161 : ∀ w ∈ Cond.classLink RX10 157 "java/lang/IllegalStateException" :: Cond.initialized "java/lang/IllegalStateException" :: vx_atS RX10 161 "java/lang/IllegalStateException" ["java/lang/RuntimeException", "java/lang/Exception"], vx_ot w = true := by decide +kernel
abbrev rmX10_needRoom : Room := { frames := 6, cells := 1, slots := 6, locals := 90 }
set_option maxHeartbeats 4000000 in
set_option maxRecDepth 100000 in
theorem c_X10_needRoom (E : hk_E) (l : Launch) (hl9 : l.stackTraces = false) (H0 : Heap) {a9 hi : Int32}  : hk_X E l yX10_needRoom wsX10_needRoom rmX10_needRoom (fun q => H0.size ≤ q) [.int a9, .int hi] H0 (fun z H1 => (z = none ∧ a9 < hi) ∧ H0 = H1) (fun x H1 => x = XS ∧ ¬ a9 < hi) := by
  refine hk_X.ofW (cc := cX10_needRoom) (maxL := 2) (ret := none) (by decide +kernel) rfl (Nat.le_of_ble_eq_true rfl) ?_
  intro p e s m args below meth c ls Q hQ X hr hlk hx9 K hs9 hS hl
  obtain ⟨hx, hb, hml, hown, hts⟩ := id X
  have hAE : ∀ q, (fun q => H0.size ≤ q) q → hk_A E q := fun q h => Nat.le_trans (by rw [← hs9]; exact K.2.2.2.2.2.2.2) h
  have hl : lv_has ls 2 [(0, .int a9), (1, .int hi)] := hl
  refine lv_iload_n hx hb dX10_needRoom_0 rfl (lv_at hl 0 rfl) ?_
  refine lv_iload_n hx hb dX10_needRoom_1 rfl (lv_at hl 1 rfl) ?_
  refine lv_icmp_lt (tgt := 16) hx hb dX10_needRoom_2 (by decide) (fun c_2 => ?_) (fun c_2 => ?_)
  · exact hk_vretx X hr hlk hQ hS (Nat.le_of_ble_eq_true rfl) (Nat.le_of_ble_eq_true rfl) dX10_needRoom_16 (⟨⟨rfl, c_2⟩, rfl⟩)
  · exact hk_throwW (text := "no more of these are kept") X rfl K hl9 hx9 hlk hQ hS hAE (by decide) (by decide +kernel) (by decide +kernel) (by decide +kernel) hkw_X10_needRoom_2_161 hkb_2 (by decide +kernel) hkg_2_161 hl.1 dX10_needRoom_5 dX10_needRoom_8 dX10_needRoom_9 dX10_needRoom_12 dX10_needRoom_15 (Nat.le_of_ble_eq_true rfl) (Nat.le_of_ble_eq_true rfl) (Nat.le_of_ble_eq_true rfl) (Nat.le_of_ble_eq_true rfl) (fun _ _ _ => ⟨rfl, c_2⟩) (Nat.le_of_ble_eq_true rfl) (Nat.le_of_ble_eq_true rfl)

theorem inr_10 {i : Int32} : inr i 0 9 ↔ isS 10 i := by
  have h := isS_of (n := 10) (i := i) (by decide)
  rwa [show nI 10 - 1 = (9 : Int32) from by decide] at h
theorem inr_8 {i : Int32} : inr i 0 7 ↔ isS 8 i := by
  have h := isS_of (n := 8) (i := i) (by decide)
  rwa [show nI 8 - 1 = (7 : Int32) from by decide] at h
theorem c_list_get (E : hk_E) (l : Launch) (H0 : Heap) {L el n cap : Nat} {mc : Int32} {x : Nat → Nat} (hli : hk_li E L el n cap mc x H0) (hn : n ≤ cap ∧ cap ≤ 150) {i : Int32} (hi : isS n i) : hk_M E l yJx4a65c_get_915e3 wsJx4a65c_get_915e3 rmJx4a65c_get_915e3 (fun _ => False) [.ref L, .int i] H0 (fun z H1 => z = some (.ref (x (ix i))) ∧ H0 = H1) := by
  have h := c_Jx4a65c_get_915e3 E l H0 hli hn.1 (by omega) (i := ix i) (isS_xl hi (by omega))
  rw [nI_ix hi.1] at h
  exact h

theorem hd_Jx4a65c_get_915e3 : yJx4a65c_get_915e3.cls ≠ "java/lang/invoke/MethodHandle" ∧ yJx4a65c_get_915e3.cls ≠ "java/lang/invoke/VarHandle" ∧ (parseMethodDescriptor yJx4a65c_get_915e3.desc).map (fun d => d.parameters.length) = some 1 := ⟨by decide, by decide, by decide +kernel⟩
theorem hd_Jx4a65c_size_8abf5 : yJx4a65c_size_8abf5.cls ≠ "java/lang/invoke/MethodHandle" ∧ yJx4a65c_size_8abf5.cls ≠ "java/lang/invoke/VarHandle" ∧ (parseMethodDescriptor yJx4a65c_size_8abf5.desc).map (fun d => d.parameters.length) = some 0 := ⟨by decide, by decide, by decide +kernel⟩
theorem hkw_X10_comparisonAt_0_187 : ∀ w ∈ (vx_atS RX10 187 "java/lang/IndexOutOfBoundsException" ["java/lang/RuntimeException", "java/lang/Exception"]).filter goodWord, w ∈ wsX10_comparisonAt := by decide +kernel
abbrev rmX10_comparisonAt : Room := { frames := 9, cells := 1, slots := 6, locals := 154 }
theorem iX10_comparisonAt_X10 : ∀ w ∈ wsX100, w ∈ wsX10_comparisonAt := by decide +kernel
set_option maxHeartbeats 4000000 in
set_option maxRecDepth 100000 in
theorem c_X10_comparisonAt (E : hk_E) (l : Launch) (hl9 : l.stackTraces = false) (H0 : Heap) {Z : Nat → Prop} {ho ts : Nat} {li : Nat → Nat} {rr : Nat → Nat → Nat} {G : hG} {R : hR} {cn : Nat → Nat} {sc : Nat → Int32} {μ : Nat → Nat → Int32} (hW : HW E Z (ho, li, rr, ts) G R (cn, sc, μ) H0) {i9 : Int32}  : hk_X E l yX10_comparisonAt wsX10_comparisonAt rmX10_comparisonAt (fun q => H0.size ≤ q) [.ref ho, .int i9] H0 (fun z H1 => (z = some (.ref (gad G 0 (ix i9))) ∧ inr i9 0 9) ∧ H0 = H1) (fun x H1 => x = XI ∧ ¬ inr i9 0 9) := by
  refine hk_X.ofW (cc := cX10_comparisonAt) (maxL := 2) (ret := (some (.object "LightcurveHouse$Comparison"))) (by decide +kernel) rfl (Nat.le_of_ble_eq_true rfl) ?_
  intro p e s m args below meth c ls Q hQ X hr hlk hx9 K hs9 hS hl
  obtain ⟨hx, hb, hml, hown, hts⟩ := id X
  have hAE : ∀ q, (fun q => H0.size ≤ q) q → hk_A E q := fun q h => Nat.le_trans (by rw [← hs9]; exact K.2.2.2.2.2.2.2) h
  have hl : lv_has ls 2 [(0, .ref ho), (1, .int i9)] := hl
  refine lv_iload_n hx hb dX10_comparisonAt_0 rfl (lv_at hl 1 rfl) ?_
  refine lv_if_lt (tgt := 15) hx hb dX10_comparisonAt_1 (by decide) (fun c_1 => ?_) (fun c_1 => ?_)
  · exact hk_throwW (text := "no such comparison") X rfl K hl9 hx9 hlk hQ hS hAE (by decide) (by decide +kernel) (by decide +kernel) (by decide +kernel) hkw_X10_comparisonAt_0_187 hkb_0 (by decide +kernel) hkg_0_187 hl.1 dX10_comparisonAt_15 dX10_comparisonAt_18 dX10_comparisonAt_19 dX10_comparisonAt_22 dX10_comparisonAt_25 (Nat.le_of_ble_eq_true rfl) (Nat.le_of_ble_eq_true rfl) (Nat.le_of_ble_eq_true rfl) (Nat.le_of_ble_eq_true rfl) (fun _ _ _ => ⟨rfl, fun h => absurd c_1 (Int32.not_lt.mpr h.1)⟩) (Nat.le_of_ble_eq_true rfl) (Nat.le_of_ble_eq_true rfl)
  · refine lv_iload_n hx hb dX10_comparisonAt_4 rfl (lv_at hl 1 rfl) ?_
    refine lv_aload_n hx hb dX10_comparisonAt_5 rfl (lv_at hl 0 rfl) ?_
    refine hk_get (ref := "LightcurveHouse") (v := .ref (li 0)) X K (HW.o hW) rfl iX10_comparisonAt_X10 0 (by decide) (by decide +kernel) (fun _ h => h) rfl dX10_comparisonAt_6 ?_
    refine hk_callV 0 (As := []) (rest := [.int i9]) X K hAE hS hl.1 (HW.l0 hW).1 rfl (c_Jx4a65c_size_8abf5 E l H0 (HW.l0 hW)) (fun _ h => h.elim) gX10_comparisonAt_Jx4a65c_size_8abf5 rfl ⟨rfl, hd_Jx4a65c_size_8abf5⟩ rfl ⟨⟨(Nat.le_of_ble_eq_true rfl), (Nat.le_of_ble_eq_true rfl)⟩, (Nat.le_of_ble_eq_true rfl), (Nat.le_of_ble_eq_true rfl)⟩ rfl (Nat.le_of_ble_eq_true rfl) dX10_comparisonAt_9 (fun v9 H1 locsH1 hp hS hzH1 hkH1 => ?_)
    obtain ⟨hv, hh⟩ := hp
    subst hv; subst hh
    refine lv_icmp_lt (tgt := 26) hx hb dX10_comparisonAt_12 (by decide) (fun c_12 => ?_) (fun c_12 => ?_)
    · refine lv_aload_n hx hb dX10_comparisonAt_26 rfl (lv_at hl 0 rfl) ?_
      refine hk_get (ref := "LightcurveHouse") (v := .ref (li 0)) X K (HW.o hW) rfl iX10_comparisonAt_X10 0 (by decide) (by decide +kernel) (fun _ h => h) rfl dX10_comparisonAt_27 ?_
      refine lv_iload_n hx hb dX10_comparisonAt_30 rfl (lv_at hl 1 rfl) ?_
      refine hk_callV 1 (As := [.int i9]) (rest := []) X K hAE hS hl.1 (HW.l0 hW).1 rfl (c_list_get E l H0 (HW.l0 hW) (HW.c0 hW) (show isS 10 i9 from ⟨Int32.not_lt.mp c_1, c_12⟩)) (fun _ h => h.elim) gX10_comparisonAt_Jx4a65c_get_915e3 rfl ⟨rfl, hd_Jx4a65c_get_915e3⟩ rfl ⟨⟨(Nat.le_of_ble_eq_true rfl), (Nat.le_of_ble_eq_true rfl)⟩, (Nat.le_of_ble_eq_true rfl), (Nat.le_of_ble_eq_true rfl)⟩ rfl (Nat.le_of_ble_eq_true rfl) dX10_comparisonAt_31 (fun v9 H2 locsH2 hp hS hzH2 hkH2 => ?_)
      obtain ⟨hv, hh⟩ := hp
      subst hv; subst hh
      refine hk_cast X K (HW.e0 hW (isS_xl (show isS 10 i9 from ⟨Int32.not_lt.mp c_1, c_12⟩) (by omega))) rfl (by decide +kernel) dX10_comparisonAt_34 ?_
      exact hk_aretx X hr (Or.inl ⟨_, rfl⟩) hlk hQ hS (Nat.le_of_ble_eq_true rfl) (Nat.le_of_ble_eq_true rfl) dX10_comparisonAt_37 (⟨⟨rfl, inr_10.mpr (show isS 10 i9 from ⟨Int32.not_lt.mp c_1, c_12⟩)⟩, rfl⟩)
    · exact hk_throwW (text := "no such comparison") X rfl K hl9 hx9 hlk hQ hS hAE (by decide) (by decide +kernel) (by decide +kernel) (by decide +kernel) hkw_X10_comparisonAt_0_187 hkb_0 (by decide +kernel) hkg_0_187 hl.1 dX10_comparisonAt_15 dX10_comparisonAt_18 dX10_comparisonAt_19 dX10_comparisonAt_22 dX10_comparisonAt_25 (Nat.le_of_ble_eq_true rfl) (Nat.le_of_ble_eq_true rfl) (Nat.le_of_ble_eq_true rfl) (Nat.le_of_ble_eq_true rfl) (fun _ _ _ => ⟨rfl, fun h => c_12 (inr_10.mp h).2⟩) (Nat.le_of_ble_eq_true rfl) (Nat.le_of_ble_eq_true rfl)

theorem hkw_X10_watcherAt_0_187 : ∀ w ∈ (vx_atS RX10 187 "java/lang/IndexOutOfBoundsException" ["java/lang/RuntimeException", "java/lang/Exception"]).filter goodWord, w ∈ wsX10_watcherAt := by decide +kernel
abbrev rmX10_watcherAt : Room := { frames := 9, cells := 1, slots := 6, locals := 154 }
theorem iX10_watcherAt_X10 : ∀ w ∈ wsX100, w ∈ wsX10_watcherAt := by decide +kernel
set_option maxHeartbeats 4000000 in
set_option maxRecDepth 100000 in
theorem c_X10_watcherAt (E : hk_E) (l : Launch) (hl9 : l.stackTraces = false) (H0 : Heap) {Z : Nat → Prop} {ho ts : Nat} {li : Nat → Nat} {rr : Nat → Nat → Nat} {G : hG} {R : hR} {cn : Nat → Nat} {sc : Nat → Int32} {μ : Nat → Nat → Int32} (hW : HW E Z (ho, li, rr, ts) G R (cn, sc, μ) H0) {i9 : Int32}  : hk_X E l yX10_watcherAt wsX10_watcherAt rmX10_watcherAt (fun q => H0.size ≤ q) [.ref ho, .int i9] H0 (fun z H1 => (z = some (.ref (gad G 1 (ix i9))) ∧ inr i9 0 7) ∧ H0 = H1) (fun x H1 => x = XI ∧ ¬ inr i9 0 7) := by
  refine hk_X.ofW (cc := cX10_watcherAt) (maxL := 2) (ret := (some (.object "LightcurveHouse$Watcher"))) (by decide +kernel) rfl (Nat.le_of_ble_eq_true rfl) ?_
  intro p e s m args below meth c ls Q hQ X hr hlk hx9 K hs9 hS hl
  obtain ⟨hx, hb, hml, hown, hts⟩ := id X
  have hAE : ∀ q, (fun q => H0.size ≤ q) q → hk_A E q := fun q h => Nat.le_trans (by rw [← hs9]; exact K.2.2.2.2.2.2.2) h
  have hl : lv_has ls 2 [(0, .ref ho), (1, .int i9)] := hl
  refine lv_iload_n hx hb dX10_watcherAt_0 rfl (lv_at hl 1 rfl) ?_
  refine lv_if_lt (tgt := 15) hx hb dX10_watcherAt_1 (by decide) (fun c_1 => ?_) (fun c_1 => ?_)
  · exact hk_throwW (text := "no such watcher") X rfl K hl9 hx9 hlk hQ hS hAE (by decide) (by decide +kernel) (by decide +kernel) (by decide +kernel) hkw_X10_watcherAt_0_187 hkb_0 (by decide +kernel) hkg_0_187 hl.1 dX10_watcherAt_15 dX10_watcherAt_18 dX10_watcherAt_19 dX10_watcherAt_22 dX10_watcherAt_25 (Nat.le_of_ble_eq_true rfl) (Nat.le_of_ble_eq_true rfl) (Nat.le_of_ble_eq_true rfl) (Nat.le_of_ble_eq_true rfl) (fun _ _ _ => ⟨rfl, fun h => absurd c_1 (Int32.not_lt.mpr h.1)⟩) (Nat.le_of_ble_eq_true rfl) (Nat.le_of_ble_eq_true rfl)
  · refine lv_iload_n hx hb dX10_watcherAt_4 rfl (lv_at hl 1 rfl) ?_
    refine lv_aload_n hx hb dX10_watcherAt_5 rfl (lv_at hl 0 rfl) ?_
    refine hk_get (ref := "LightcurveHouse") (v := .ref (li 1)) X K (HW.o hW) rfl iX10_watcherAt_X10 1 (by decide) (by decide +kernel) (fun _ h => h) rfl dX10_watcherAt_6 ?_
    refine hk_callV 0 (As := []) (rest := [.int i9]) X K hAE hS hl.1 (HW.l1 hW).1 rfl (c_Jx4a65c_size_8abf5 E l H0 (HW.l1 hW)) (fun _ h => h.elim) gX10_watcherAt_Jx4a65c_size_8abf5 rfl ⟨rfl, hd_Jx4a65c_size_8abf5⟩ rfl ⟨⟨(Nat.le_of_ble_eq_true rfl), (Nat.le_of_ble_eq_true rfl)⟩, (Nat.le_of_ble_eq_true rfl), (Nat.le_of_ble_eq_true rfl)⟩ rfl (Nat.le_of_ble_eq_true rfl) dX10_watcherAt_9 (fun v9 H1 locsH1 hp hS hzH1 hkH1 => ?_)
    obtain ⟨hv, hh⟩ := hp
    subst hv; subst hh
    refine lv_icmp_lt (tgt := 26) hx hb dX10_watcherAt_12 (by decide) (fun c_12 => ?_) (fun c_12 => ?_)
    · refine lv_aload_n hx hb dX10_watcherAt_26 rfl (lv_at hl 0 rfl) ?_
      refine hk_get (ref := "LightcurveHouse") (v := .ref (li 1)) X K (HW.o hW) rfl iX10_watcherAt_X10 1 (by decide) (by decide +kernel) (fun _ h => h) rfl dX10_watcherAt_27 ?_
      refine lv_iload_n hx hb dX10_watcherAt_30 rfl (lv_at hl 1 rfl) ?_
      refine hk_callV 1 (As := [.int i9]) (rest := []) X K hAE hS hl.1 (HW.l1 hW).1 rfl (c_list_get E l H0 (HW.l1 hW) (HW.c1 hW) (show isS 8 i9 from ⟨Int32.not_lt.mp c_1, c_12⟩)) (fun _ h => h.elim) gX10_watcherAt_Jx4a65c_get_915e3 rfl ⟨rfl, hd_Jx4a65c_get_915e3⟩ rfl ⟨⟨(Nat.le_of_ble_eq_true rfl), (Nat.le_of_ble_eq_true rfl)⟩, (Nat.le_of_ble_eq_true rfl), (Nat.le_of_ble_eq_true rfl)⟩ rfl (Nat.le_of_ble_eq_true rfl) dX10_watcherAt_31 (fun v9 H2 locsH2 hp hS hzH2 hkH2 => ?_)
      obtain ⟨hv, hh⟩ := hp
      subst hv; subst hh
      refine hk_cast X K (HW.e1 hW (isS_xl (show isS 8 i9 from ⟨Int32.not_lt.mp c_1, c_12⟩) (by omega))) rfl (by decide +kernel) dX10_watcherAt_34 ?_
      exact hk_aretx X hr (Or.inl ⟨_, rfl⟩) hlk hQ hS (Nat.le_of_ble_eq_true rfl) (Nat.le_of_ble_eq_true rfl) dX10_watcherAt_37 (⟨⟨rfl, inr_8.mpr (show isS 8 i9 from ⟨Int32.not_lt.mp c_1, c_12⟩)⟩, rfl⟩)
    · exact hk_throwW (text := "no such watcher") X rfl K hl9 hx9 hlk hQ hS hAE (by decide) (by decide +kernel) (by decide +kernel) (by decide +kernel) hkw_X10_watcherAt_0_187 hkb_0 (by decide +kernel) hkg_0_187 hl.1 dX10_watcherAt_15 dX10_watcherAt_18 dX10_watcherAt_19 dX10_watcherAt_22 dX10_watcherAt_25 (Nat.le_of_ble_eq_true rfl) (Nat.le_of_ble_eq_true rfl) (Nat.le_of_ble_eq_true rfl) (Nat.le_of_ble_eq_true rfl) (fun _ _ _ => ⟨rfl, fun h => c_12 (inr_8.mp h).2⟩) (Nat.le_of_ble_eq_true rfl) (Nat.le_of_ble_eq_true rfl)

theorem hkw_X10_starAt_0_187 : ∀ w ∈ (vx_atS RX10 187 "java/lang/IndexOutOfBoundsException" ["java/lang/RuntimeException", "java/lang/Exception"]).filter goodWord, w ∈ wsX10_starAt := by decide +kernel
abbrev rmX10_starAt : Room := { frames := 9, cells := 1, slots := 6, locals := 154 }
theorem iX10_starAt_X10 : ∀ w ∈ wsX100, w ∈ wsX10_starAt := by decide +kernel
set_option maxHeartbeats 4000000 in
set_option maxRecDepth 100000 in
theorem c_X10_starAt (E : hk_E) (l : Launch) (hl9 : l.stackTraces = false) (H0 : Heap) {Z : Nat → Prop} {ho ts : Nat} {li : Nat → Nat} {rr : Nat → Nat → Nat} {G : hG} {R : hR} {cn : Nat → Nat} {sc : Nat → Int32} {μ : Nat → Nat → Int32} (hW : HW E Z (ho, li, rr, ts) G R (cn, sc, μ) H0) (hN : cn 1 ≤ 12) {i9 : Int32}  : hk_X E l yX10_starAt wsX10_starAt rmX10_starAt (fun q => H0.size ≤ q) [.ref ho, .int i9] H0 (fun z H1 => (z = some (.ref (gad G 2 (ix i9))) ∧ isS (cn 1) i9) ∧ H0 = H1) (fun x H1 => x = XI ∧ ¬ isS (cn 1) i9) := by
  refine hk_X.ofW (cc := cX10_starAt) (maxL := 2) (ret := (some (.object "LightcurveHouse$Star"))) (by decide +kernel) rfl (Nat.le_of_ble_eq_true rfl) ?_
  intro p e s m args below meth c ls Q hQ X hr hlk hx9 K hs9 hS hl
  obtain ⟨hx, hb, hml, hown, hts⟩ := id X
  have hAE : ∀ q, (fun q => H0.size ≤ q) q → hk_A E q := fun q h => Nat.le_trans (by rw [← hs9]; exact K.2.2.2.2.2.2.2) h
  have hl : lv_has ls 2 [(0, .ref ho), (1, .int i9)] := hl
  refine lv_iload_n hx hb dX10_starAt_0 rfl (lv_at hl 1 rfl) ?_
  refine lv_if_lt (tgt := 15) hx hb dX10_starAt_1 (by decide) (fun c_1 => ?_) (fun c_1 => ?_)
  · exact hk_throwW (text := "no such star") X rfl K hl9 hx9 hlk hQ hS hAE (by decide) (by decide +kernel) (by decide +kernel) (by decide +kernel) hkw_X10_starAt_0_187 hkb_0 (by decide +kernel) hkg_0_187 hl.1 dX10_starAt_15 dX10_starAt_18 dX10_starAt_19 dX10_starAt_22 dX10_starAt_25 (Nat.le_of_ble_eq_true rfl) (Nat.le_of_ble_eq_true rfl) (Nat.le_of_ble_eq_true rfl) (Nat.le_of_ble_eq_true rfl) (fun _ _ _ => ⟨rfl, fun h => absurd c_1 (Int32.not_lt.mpr h.1)⟩) (Nat.le_of_ble_eq_true rfl) (Nat.le_of_ble_eq_true rfl)
  · refine lv_iload_n hx hb dX10_starAt_4 rfl (lv_at hl 1 rfl) ?_
    refine lv_aload_n hx hb dX10_starAt_5 rfl (lv_at hl 0 rfl) ?_
    refine hk_get (ref := "LightcurveHouse") (v := .ref (li 2)) X K (HW.o hW) rfl iX10_starAt_X10 2 (by decide) (by decide +kernel) (fun _ h => h) rfl dX10_starAt_6 ?_
    refine hk_callV 0 (As := []) (rest := [.int i9]) X K hAE hS hl.1 (HW.l2 hW).1 rfl (c_Jx4a65c_size_8abf5 E l H0 (HW.l2 hW)) (fun _ h => h.elim) gX10_starAt_Jx4a65c_size_8abf5 rfl ⟨rfl, hd_Jx4a65c_size_8abf5⟩ rfl ⟨⟨(Nat.le_of_ble_eq_true rfl), (Nat.le_of_ble_eq_true rfl)⟩, (Nat.le_of_ble_eq_true rfl), (Nat.le_of_ble_eq_true rfl)⟩ rfl (Nat.le_of_ble_eq_true rfl) dX10_starAt_9 (fun v9 H1 locsH1 hp hS hzH1 hkH1 => ?_)
    obtain ⟨hv, hh⟩ := hp
    subst hv; subst hh
    refine lv_icmp_lt (tgt := 26) hx hb dX10_starAt_12 (by decide) (fun c_12 => ?_) (fun c_12 => ?_)
    · refine lv_aload_n hx hb dX10_starAt_26 rfl (lv_at hl 0 rfl) ?_
      refine hk_get (ref := "LightcurveHouse") (v := .ref (li 2)) X K (HW.o hW) rfl iX10_starAt_X10 2 (by decide) (by decide +kernel) (fun _ h => h) rfl dX10_starAt_27 ?_
      refine lv_iload_n hx hb dX10_starAt_30 rfl (lv_at hl 1 rfl) ?_
      refine hk_callV 1 (As := [.int i9]) (rest := []) X K hAE hS hl.1 (HW.l2 hW).1 rfl (c_list_get E l H0 (HW.l2 hW) (HW.c2 hW) (show isS (cn 1) i9 from ⟨Int32.not_lt.mp c_1, c_12⟩)) (fun _ h => h.elim) gX10_starAt_Jx4a65c_get_915e3 rfl ⟨rfl, hd_Jx4a65c_get_915e3⟩ rfl ⟨⟨(Nat.le_of_ble_eq_true rfl), (Nat.le_of_ble_eq_true rfl)⟩, (Nat.le_of_ble_eq_true rfl), (Nat.le_of_ble_eq_true rfl)⟩ rfl (Nat.le_of_ble_eq_true rfl) dX10_starAt_31 (fun v9 H2 locsH2 hp hS hzH2 hkH2 => ?_)
      obtain ⟨hv, hh⟩ := hp
      subst hv; subst hh
      refine hk_cast X K (HW.e2 hW (isS_xl (show isS (cn 1) i9 from ⟨Int32.not_lt.mp c_1, c_12⟩) (by omega))) rfl (by decide +kernel) dX10_starAt_34 ?_
      exact hk_aretx X hr (Or.inl ⟨_, rfl⟩) hlk hQ hS (Nat.le_of_ble_eq_true rfl) (Nat.le_of_ble_eq_true rfl) dX10_starAt_37 (⟨⟨rfl, (show isS (cn 1) i9 from ⟨Int32.not_lt.mp c_1, c_12⟩)⟩, rfl⟩)
    · exact hk_throwW (text := "no such star") X rfl K hl9 hx9 hlk hQ hS hAE (by decide) (by decide +kernel) (by decide +kernel) (by decide +kernel) hkw_X10_starAt_0_187 hkb_0 (by decide +kernel) hkg_0_187 hl.1 dX10_starAt_15 dX10_starAt_18 dX10_starAt_19 dX10_starAt_22 dX10_starAt_25 (Nat.le_of_ble_eq_true rfl) (Nat.le_of_ble_eq_true rfl) (Nat.le_of_ble_eq_true rfl) (Nat.le_of_ble_eq_true rfl) (fun _ _ _ => ⟨rfl, fun h => c_12 (h).2⟩) (Nat.le_of_ble_eq_true rfl) (Nat.le_of_ble_eq_true rfl)

theorem hkw_X10_plateAt_0_187 : ∀ w ∈ (vx_atS RX10 187 "java/lang/IndexOutOfBoundsException" ["java/lang/RuntimeException", "java/lang/Exception"]).filter goodWord, w ∈ wsX10_plateAt := by decide +kernel
abbrev rmX10_plateAt : Room := { frames := 9, cells := 1, slots := 6, locals := 154 }
theorem iX10_plateAt_X10 : ∀ w ∈ wsX100, w ∈ wsX10_plateAt := by decide +kernel
set_option maxHeartbeats 4000000 in
set_option maxRecDepth 100000 in
theorem c_X10_plateAt (E : hk_E) (l : Launch) (hl9 : l.stackTraces = false) (H0 : Heap) {Z : Nat → Prop} {ho ts : Nat} {li : Nat → Nat} {rr : Nat → Nat → Nat} {G : hG} {R : hR} {cn : Nat → Nat} {sc : Nat → Int32} {μ : Nat → Nat → Int32} (hW : HW E Z (ho, li, rr, ts) G R (cn, sc, μ) H0) (hN : cn 8 ≤ 8) {i9 : Int32}  : hk_X E l yX10_plateAt wsX10_plateAt rmX10_plateAt (fun q => H0.size ≤ q) [.ref ho, .int i9] H0 (fun z H1 => (z = some (.ref (gad G 3 (ix i9))) ∧ isS (cn 8) i9) ∧ H0 = H1) (fun x H1 => x = XI ∧ ¬ isS (cn 8) i9) := by
  refine hk_X.ofW (cc := cX10_plateAt) (maxL := 2) (ret := (some (.object "LightcurveHouse$Plate"))) (by decide +kernel) rfl (Nat.le_of_ble_eq_true rfl) ?_
  intro p e s m args below meth c ls Q hQ X hr hlk hx9 K hs9 hS hl
  obtain ⟨hx, hb, hml, hown, hts⟩ := id X
  have hAE : ∀ q, (fun q => H0.size ≤ q) q → hk_A E q := fun q h => Nat.le_trans (by rw [← hs9]; exact K.2.2.2.2.2.2.2) h
  have hl : lv_has ls 2 [(0, .ref ho), (1, .int i9)] := hl
  refine lv_iload_n hx hb dX10_plateAt_0 rfl (lv_at hl 1 rfl) ?_
  refine lv_if_lt (tgt := 15) hx hb dX10_plateAt_1 (by decide) (fun c_1 => ?_) (fun c_1 => ?_)
  · exact hk_throwW (text := "no such plate") X rfl K hl9 hx9 hlk hQ hS hAE (by decide) (by decide +kernel) (by decide +kernel) (by decide +kernel) hkw_X10_plateAt_0_187 hkb_0 (by decide +kernel) hkg_0_187 hl.1 dX10_plateAt_15 dX10_plateAt_18 dX10_plateAt_19 dX10_plateAt_22 dX10_plateAt_25 (Nat.le_of_ble_eq_true rfl) (Nat.le_of_ble_eq_true rfl) (Nat.le_of_ble_eq_true rfl) (Nat.le_of_ble_eq_true rfl) (fun _ _ _ => ⟨rfl, fun h => absurd c_1 (Int32.not_lt.mpr h.1)⟩) (Nat.le_of_ble_eq_true rfl) (Nat.le_of_ble_eq_true rfl)
  · refine lv_iload_n hx hb dX10_plateAt_4 rfl (lv_at hl 1 rfl) ?_
    refine lv_aload_n hx hb dX10_plateAt_5 rfl (lv_at hl 0 rfl) ?_
    refine hk_get (ref := "LightcurveHouse") (v := .ref (li 3)) X K (HW.o hW) rfl iX10_plateAt_X10 3 (by decide) (by decide +kernel) (fun _ h => h) rfl dX10_plateAt_6 ?_
    refine hk_callV 0 (As := []) (rest := [.int i9]) X K hAE hS hl.1 (HW.l3 hW).1 rfl (c_Jx4a65c_size_8abf5 E l H0 (HW.l3 hW)) (fun _ h => h.elim) gX10_plateAt_Jx4a65c_size_8abf5 rfl ⟨rfl, hd_Jx4a65c_size_8abf5⟩ rfl ⟨⟨(Nat.le_of_ble_eq_true rfl), (Nat.le_of_ble_eq_true rfl)⟩, (Nat.le_of_ble_eq_true rfl), (Nat.le_of_ble_eq_true rfl)⟩ rfl (Nat.le_of_ble_eq_true rfl) dX10_plateAt_9 (fun v9 H1 locsH1 hp hS hzH1 hkH1 => ?_)
    obtain ⟨hv, hh⟩ := hp
    subst hv; subst hh
    refine lv_icmp_lt (tgt := 26) hx hb dX10_plateAt_12 (by decide) (fun c_12 => ?_) (fun c_12 => ?_)
    · refine lv_aload_n hx hb dX10_plateAt_26 rfl (lv_at hl 0 rfl) ?_
      refine hk_get (ref := "LightcurveHouse") (v := .ref (li 3)) X K (HW.o hW) rfl iX10_plateAt_X10 3 (by decide) (by decide +kernel) (fun _ h => h) rfl dX10_plateAt_27 ?_
      refine lv_iload_n hx hb dX10_plateAt_30 rfl (lv_at hl 1 rfl) ?_
      refine hk_callV 1 (As := [.int i9]) (rest := []) X K hAE hS hl.1 (HW.l3 hW).1 rfl (c_list_get E l H0 (HW.l3 hW) (HW.c3 hW) (show isS (cn 8) i9 from ⟨Int32.not_lt.mp c_1, c_12⟩)) (fun _ h => h.elim) gX10_plateAt_Jx4a65c_get_915e3 rfl ⟨rfl, hd_Jx4a65c_get_915e3⟩ rfl ⟨⟨(Nat.le_of_ble_eq_true rfl), (Nat.le_of_ble_eq_true rfl)⟩, (Nat.le_of_ble_eq_true rfl), (Nat.le_of_ble_eq_true rfl)⟩ rfl (Nat.le_of_ble_eq_true rfl) dX10_plateAt_31 (fun v9 H2 locsH2 hp hS hzH2 hkH2 => ?_)
      obtain ⟨hv, hh⟩ := hp
      subst hv; subst hh
      refine hk_cast X K (HW.e3 hW (isS_xl (show isS (cn 8) i9 from ⟨Int32.not_lt.mp c_1, c_12⟩) (by omega))) rfl (by decide +kernel) dX10_plateAt_34 ?_
      exact hk_aretx X hr (Or.inl ⟨_, rfl⟩) hlk hQ hS (Nat.le_of_ble_eq_true rfl) (Nat.le_of_ble_eq_true rfl) dX10_plateAt_37 (⟨⟨rfl, (show isS (cn 8) i9 from ⟨Int32.not_lt.mp c_1, c_12⟩)⟩, rfl⟩)
    · exact hk_throwW (text := "no such plate") X rfl K hl9 hx9 hlk hQ hS hAE (by decide) (by decide +kernel) (by decide +kernel) (by decide +kernel) hkw_X10_plateAt_0_187 hkb_0 (by decide +kernel) hkg_0_187 hl.1 dX10_plateAt_15 dX10_plateAt_18 dX10_plateAt_19 dX10_plateAt_22 dX10_plateAt_25 (Nat.le_of_ble_eq_true rfl) (Nat.le_of_ble_eq_true rfl) (Nat.le_of_ble_eq_true rfl) (Nat.le_of_ble_eq_true rfl) (fun _ _ _ => ⟨rfl, fun h => c_12 (h).2⟩) (Nat.le_of_ble_eq_true rfl) (Nat.le_of_ble_eq_true rfl)

theorem hkw_X10_lookAt_0_187 : ∀ w ∈ (vx_atS RX10 187 "java/lang/IndexOutOfBoundsException" ["java/lang/RuntimeException", "java/lang/Exception"]).filter goodWord, w ∈ wsX10_lookAt := by decide +kernel
abbrev rmX10_lookAt : Room := { frames := 9, cells := 1, slots := 6, locals := 154 }
theorem iX10_lookAt_X10 : ∀ w ∈ wsX100, w ∈ wsX10_lookAt := by decide +kernel
set_option maxHeartbeats 4000000 in
set_option maxRecDepth 100000 in
theorem c_X10_lookAt (E : hk_E) (l : Launch) (hl9 : l.stackTraces = false) (H0 : Heap) {Z : Nat → Prop} {ho ts : Nat} {li : Nat → Nat} {rr : Nat → Nat → Nat} {G : hG} {R : hR} {cn : Nat → Nat} {sc : Nat → Int32} {μ : Nat → Nat → Int32} (hW : HW E Z (ho, li, rr, ts) G R (cn, sc, μ) H0) (hN : cn 12 ≤ 80) {i9 : Int32}  : hk_X E l yX10_lookAt wsX10_lookAt rmX10_lookAt (fun q => H0.size ≤ q) [.ref ho, .int i9] H0 (fun z H1 => (z = some (.ref (gad G 4 (ix i9))) ∧ isS (cn 12) i9) ∧ H0 = H1) (fun x H1 => x = XI ∧ ¬ isS (cn 12) i9) := by
  refine hk_X.ofW (cc := cX10_lookAt) (maxL := 2) (ret := (some (.object "LightcurveHouse$Look"))) (by decide +kernel) rfl (Nat.le_of_ble_eq_true rfl) ?_
  intro p e s m args below meth c ls Q hQ X hr hlk hx9 K hs9 hS hl
  obtain ⟨hx, hb, hml, hown, hts⟩ := id X
  have hAE : ∀ q, (fun q => H0.size ≤ q) q → hk_A E q := fun q h => Nat.le_trans (by rw [← hs9]; exact K.2.2.2.2.2.2.2) h
  have hl : lv_has ls 2 [(0, .ref ho), (1, .int i9)] := hl
  refine lv_iload_n hx hb dX10_lookAt_0 rfl (lv_at hl 1 rfl) ?_
  refine lv_if_lt (tgt := 15) hx hb dX10_lookAt_1 (by decide) (fun c_1 => ?_) (fun c_1 => ?_)
  · exact hk_throwW (text := "no such look") X rfl K hl9 hx9 hlk hQ hS hAE (by decide) (by decide +kernel) (by decide +kernel) (by decide +kernel) hkw_X10_lookAt_0_187 hkb_0 (by decide +kernel) hkg_0_187 hl.1 dX10_lookAt_15 dX10_lookAt_18 dX10_lookAt_19 dX10_lookAt_22 dX10_lookAt_25 (Nat.le_of_ble_eq_true rfl) (Nat.le_of_ble_eq_true rfl) (Nat.le_of_ble_eq_true rfl) (Nat.le_of_ble_eq_true rfl) (fun _ _ _ => ⟨rfl, fun h => absurd c_1 (Int32.not_lt.mpr h.1)⟩) (Nat.le_of_ble_eq_true rfl) (Nat.le_of_ble_eq_true rfl)
  · refine lv_iload_n hx hb dX10_lookAt_4 rfl (lv_at hl 1 rfl) ?_
    refine lv_aload_n hx hb dX10_lookAt_5 rfl (lv_at hl 0 rfl) ?_
    refine hk_get (ref := "LightcurveHouse") (v := .ref (li 4)) X K (HW.o hW) rfl iX10_lookAt_X10 4 (by decide) (by decide +kernel) (fun _ h => h) rfl dX10_lookAt_6 ?_
    refine hk_callV 0 (As := []) (rest := [.int i9]) X K hAE hS hl.1 (HW.l4 hW).1 rfl (c_Jx4a65c_size_8abf5 E l H0 (HW.l4 hW)) (fun _ h => h.elim) gX10_lookAt_Jx4a65c_size_8abf5 rfl ⟨rfl, hd_Jx4a65c_size_8abf5⟩ rfl ⟨⟨(Nat.le_of_ble_eq_true rfl), (Nat.le_of_ble_eq_true rfl)⟩, (Nat.le_of_ble_eq_true rfl), (Nat.le_of_ble_eq_true rfl)⟩ rfl (Nat.le_of_ble_eq_true rfl) dX10_lookAt_9 (fun v9 H1 locsH1 hp hS hzH1 hkH1 => ?_)
    obtain ⟨hv, hh⟩ := hp
    subst hv; subst hh
    refine lv_icmp_lt (tgt := 26) hx hb dX10_lookAt_12 (by decide) (fun c_12 => ?_) (fun c_12 => ?_)
    · refine lv_aload_n hx hb dX10_lookAt_26 rfl (lv_at hl 0 rfl) ?_
      refine hk_get (ref := "LightcurveHouse") (v := .ref (li 4)) X K (HW.o hW) rfl iX10_lookAt_X10 4 (by decide) (by decide +kernel) (fun _ h => h) rfl dX10_lookAt_27 ?_
      refine lv_iload_n hx hb dX10_lookAt_30 rfl (lv_at hl 1 rfl) ?_
      refine hk_callV 1 (As := [.int i9]) (rest := []) X K hAE hS hl.1 (HW.l4 hW).1 rfl (c_list_get E l H0 (HW.l4 hW) (HW.c4 hW) (show isS (cn 12) i9 from ⟨Int32.not_lt.mp c_1, c_12⟩)) (fun _ h => h.elim) gX10_lookAt_Jx4a65c_get_915e3 rfl ⟨rfl, hd_Jx4a65c_get_915e3⟩ rfl ⟨⟨(Nat.le_of_ble_eq_true rfl), (Nat.le_of_ble_eq_true rfl)⟩, (Nat.le_of_ble_eq_true rfl), (Nat.le_of_ble_eq_true rfl)⟩ rfl (Nat.le_of_ble_eq_true rfl) dX10_lookAt_31 (fun v9 H2 locsH2 hp hS hzH2 hkH2 => ?_)
      obtain ⟨hv, hh⟩ := hp
      subst hv; subst hh
      by_cases hsrt : μ 13 (ix i9) = 0
      · refine hk_castY (nm := RX2) X K (HW.e8 hW (isS_xl (show isS (cn 12) i9 from ⟨Int32.not_lt.mp c_1, c_12⟩) (by omega)) hsrt) rfl (by decide +kernel) (by decide +kernel) dX10_lookAt_34 ?_
        exact hk_aretx X hr (Or.inl ⟨_, rfl⟩) hlk hQ hS (Nat.le_of_ble_eq_true rfl) (Nat.le_of_ble_eq_true rfl) dX10_lookAt_37 (⟨⟨rfl, (show isS (cn 12) i9 from ⟨Int32.not_lt.mp c_1, c_12⟩)⟩, rfl⟩)
      · refine hk_castY (nm := RX2) X K (HW.e9 hW (isS_xl (show isS (cn 12) i9 from ⟨Int32.not_lt.mp c_1, c_12⟩) (by omega)) hsrt) rfl (by decide +kernel) (by decide +kernel) dX10_lookAt_34 ?_
        exact hk_aretx X hr (Or.inl ⟨_, rfl⟩) hlk hQ hS (Nat.le_of_ble_eq_true rfl) (Nat.le_of_ble_eq_true rfl) dX10_lookAt_37 (⟨⟨rfl, (show isS (cn 12) i9 from ⟨Int32.not_lt.mp c_1, c_12⟩)⟩, rfl⟩)
    · exact hk_throwW (text := "no such look") X rfl K hl9 hx9 hlk hQ hS hAE (by decide) (by decide +kernel) (by decide +kernel) (by decide +kernel) hkw_X10_lookAt_0_187 hkb_0 (by decide +kernel) hkg_0_187 hl.1 dX10_lookAt_15 dX10_lookAt_18 dX10_lookAt_19 dX10_lookAt_22 dX10_lookAt_25 (Nat.le_of_ble_eq_true rfl) (Nat.le_of_ble_eq_true rfl) (Nat.le_of_ble_eq_true rfl) (Nat.le_of_ble_eq_true rfl) (fun _ _ _ => ⟨rfl, fun h => c_12 (h).2⟩) (Nat.le_of_ble_eq_true rfl) (Nat.le_of_ble_eq_true rfl)

theorem hkw_X10_ruleAt_0_187 : ∀ w ∈ (vx_atS RX10 187 "java/lang/IndexOutOfBoundsException" ["java/lang/RuntimeException", "java/lang/Exception"]).filter goodWord, w ∈ wsX10_ruleAt := by decide +kernel
abbrev rmX10_ruleAt : Room := { frames := 9, cells := 1, slots := 6, locals := 154 }
theorem iX10_ruleAt_X10 : ∀ w ∈ wsX100, w ∈ wsX10_ruleAt := by decide +kernel
set_option maxHeartbeats 4000000 in
set_option maxRecDepth 100000 in
theorem c_X10_ruleAt (E : hk_E) (l : Launch) (hl9 : l.stackTraces = false) (H0 : Heap) {Z : Nat → Prop} {ho ts : Nat} {li : Nat → Nat} {rr : Nat → Nat → Nat} {G : hG} {R : hR} {cn : Nat → Nat} {sc : Nat → Int32} {μ : Nat → Nat → Int32} (hW : HW E Z (ho, li, rr, ts) G R (cn, sc, μ) H0) (hN : cn 22 ≤ 8) {i9 : Int32}  : hk_X E l yX10_ruleAt wsX10_ruleAt rmX10_ruleAt (fun q => H0.size ≤ q) [.ref ho, .int i9] H0 (fun z H1 => (z = some (.ref (gad G 5 (ix i9))) ∧ isS (cn 22) i9) ∧ H0 = H1) (fun x H1 => x = XI ∧ ¬ isS (cn 22) i9) := by
  refine hk_X.ofW (cc := cX10_ruleAt) (maxL := 2) (ret := (some (.object "LightcurveHouse$Rule"))) (by decide +kernel) rfl (Nat.le_of_ble_eq_true rfl) ?_
  intro p e s m args below meth c ls Q hQ X hr hlk hx9 K hs9 hS hl
  obtain ⟨hx, hb, hml, hown, hts⟩ := id X
  have hAE : ∀ q, (fun q => H0.size ≤ q) q → hk_A E q := fun q h => Nat.le_trans (by rw [← hs9]; exact K.2.2.2.2.2.2.2) h
  have hl : lv_has ls 2 [(0, .ref ho), (1, .int i9)] := hl
  refine lv_iload_n hx hb dX10_ruleAt_0 rfl (lv_at hl 1 rfl) ?_
  refine lv_if_lt (tgt := 15) hx hb dX10_ruleAt_1 (by decide) (fun c_1 => ?_) (fun c_1 => ?_)
  · exact hk_throwW (text := "no such rule") X rfl K hl9 hx9 hlk hQ hS hAE (by decide) (by decide +kernel) (by decide +kernel) (by decide +kernel) hkw_X10_ruleAt_0_187 hkb_0 (by decide +kernel) hkg_0_187 hl.1 dX10_ruleAt_15 dX10_ruleAt_18 dX10_ruleAt_19 dX10_ruleAt_22 dX10_ruleAt_25 (Nat.le_of_ble_eq_true rfl) (Nat.le_of_ble_eq_true rfl) (Nat.le_of_ble_eq_true rfl) (Nat.le_of_ble_eq_true rfl) (fun _ _ _ => ⟨rfl, fun h => absurd c_1 (Int32.not_lt.mpr h.1)⟩) (Nat.le_of_ble_eq_true rfl) (Nat.le_of_ble_eq_true rfl)
  · refine lv_iload_n hx hb dX10_ruleAt_4 rfl (lv_at hl 1 rfl) ?_
    refine lv_aload_n hx hb dX10_ruleAt_5 rfl (lv_at hl 0 rfl) ?_
    refine hk_get (ref := "LightcurveHouse") (v := .ref (li 5)) X K (HW.o hW) rfl iX10_ruleAt_X10 5 (by decide) (by decide +kernel) (fun _ h => h) rfl dX10_ruleAt_6 ?_
    refine hk_callV 0 (As := []) (rest := [.int i9]) X K hAE hS hl.1 (HW.l5 hW).1 rfl (c_Jx4a65c_size_8abf5 E l H0 (HW.l5 hW)) (fun _ h => h.elim) gX10_ruleAt_Jx4a65c_size_8abf5 rfl ⟨rfl, hd_Jx4a65c_size_8abf5⟩ rfl ⟨⟨(Nat.le_of_ble_eq_true rfl), (Nat.le_of_ble_eq_true rfl)⟩, (Nat.le_of_ble_eq_true rfl), (Nat.le_of_ble_eq_true rfl)⟩ rfl (Nat.le_of_ble_eq_true rfl) dX10_ruleAt_9 (fun v9 H1 locsH1 hp hS hzH1 hkH1 => ?_)
    obtain ⟨hv, hh⟩ := hp
    subst hv; subst hh
    refine lv_icmp_lt (tgt := 26) hx hb dX10_ruleAt_12 (by decide) (fun c_12 => ?_) (fun c_12 => ?_)
    · refine lv_aload_n hx hb dX10_ruleAt_26 rfl (lv_at hl 0 rfl) ?_
      refine hk_get (ref := "LightcurveHouse") (v := .ref (li 5)) X K (HW.o hW) rfl iX10_ruleAt_X10 5 (by decide) (by decide +kernel) (fun _ h => h) rfl dX10_ruleAt_27 ?_
      refine lv_iload_n hx hb dX10_ruleAt_30 rfl (lv_at hl 1 rfl) ?_
      refine hk_callV 1 (As := [.int i9]) (rest := []) X K hAE hS hl.1 (HW.l5 hW).1 rfl (c_list_get E l H0 (HW.l5 hW) (HW.c5 hW) (show isS (cn 22) i9 from ⟨Int32.not_lt.mp c_1, c_12⟩)) (fun _ h => h.elim) gX10_ruleAt_Jx4a65c_get_915e3 rfl ⟨rfl, hd_Jx4a65c_get_915e3⟩ rfl ⟨⟨(Nat.le_of_ble_eq_true rfl), (Nat.le_of_ble_eq_true rfl)⟩, (Nat.le_of_ble_eq_true rfl), (Nat.le_of_ble_eq_true rfl)⟩ rfl (Nat.le_of_ble_eq_true rfl) dX10_ruleAt_31 (fun v9 H2 locsH2 hp hS hzH2 hkH2 => ?_)
      obtain ⟨hv, hh⟩ := hp
      subst hv; subst hh
      refine hk_cast X K (HW.e5 hW (isS_xl (show isS (cn 22) i9 from ⟨Int32.not_lt.mp c_1, c_12⟩) (by omega))) rfl (by decide +kernel) dX10_ruleAt_34 ?_
      exact hk_aretx X hr (Or.inl ⟨_, rfl⟩) hlk hQ hS (Nat.le_of_ble_eq_true rfl) (Nat.le_of_ble_eq_true rfl) dX10_ruleAt_37 (⟨⟨rfl, (show isS (cn 22) i9 from ⟨Int32.not_lt.mp c_1, c_12⟩)⟩, rfl⟩)
    · exact hk_throwW (text := "no such rule") X rfl K hl9 hx9 hlk hQ hS hAE (by decide) (by decide +kernel) (by decide +kernel) (by decide +kernel) hkw_X10_ruleAt_0_187 hkb_0 (by decide +kernel) hkg_0_187 hl.1 dX10_ruleAt_15 dX10_ruleAt_18 dX10_ruleAt_19 dX10_ruleAt_22 dX10_ruleAt_25 (Nat.le_of_ble_eq_true rfl) (Nat.le_of_ble_eq_true rfl) (Nat.le_of_ble_eq_true rfl) (Nat.le_of_ble_eq_true rfl) (fun _ _ _ => ⟨rfl, fun h => c_12 (h).2⟩) (Nat.le_of_ble_eq_true rfl) (Nat.le_of_ble_eq_true rfl)

theorem hd_J9_floorDiv_7cf53 : yJ9_floorDiv_7cf53.cls ≠ "java/lang/invoke/MethodHandle" ∧ yJ9_floorDiv_7cf53.cls ≠ "java/lang/invoke/VarHandle" ∧ (parseMethodDescriptor yJ9_floorDiv_7cf53.desc).map (fun d => d.parameters.length) = some 2 := ⟨by decide, by decide, by decide +kernel⟩
abbrev rmX10_quotient : Room := { frames := 1, cells := 0, slots := 0, locals := 22 }
set_option maxHeartbeats 4000000 in
set_option maxRecDepth 100000 in
theorem c_X10_quotient (E : hk_E) (l : Launch) (H0 : Heap) {n d : Int32} (hd : 0 < d)  : hk_M E l yX10_quotient wsX10_quotient rmX10_quotient (fun _ => False) [.int n, .int d] H0 (fun z H1 => z = some (.int (qd n d)) ∧ H0 = H1) := by
  refine hk_M.ofW (cc := cX10_quotient) (maxL := 2) (ret := (some .int)) (by decide +kernel) rfl (Nat.le_of_ble_eq_true rfl) ?_
  intro p e s m args below meth c ls Q hQ X hr hlk hnm K hs9 hS hl
  obtain ⟨hx, hb, hml, hown, hts⟩ := id X
  have hAE : ∀ q, (fun _ => False) q → hk_A E q := fun _ h => h.elim
  have hl : lv_has ls 2 [(0, .int n), (1, .int d)] := hl
  refine lv_iload_n hx hb dX10_quotient_0 rfl (lv_at hl 1 rfl) ?_
  refine lv_if_le (tgt := 12) hx hb dX10_quotient_1 (by decide) (fun c_1 => ?_) (fun c_1 => ?_)
  · exact absurd hd (Int32.not_lt.mpr c_1)
  · refine lv_iload_n hx hb dX10_quotient_4 rfl (lv_at hl 0 rfl) ?_
    refine lv_iload_n hx hb dX10_quotient_5 rfl (lv_at hl 1 rfl) ?_
    refine hk_callS 2 (As := [.int n, .int d]) (rest := []) X K hAE hS hl.1 (c_J9_floorDiv_7cf53 E l H0 hd) (fun _ h => h.elim) gX10_quotient_J9_floorDiv_7cf53 rfl hd_J9_floorDiv_7cf53 rfl ⟨⟨(Nat.le_of_ble_eq_true rfl), (Nat.le_of_ble_eq_true rfl)⟩, (Nat.le_of_ble_eq_true rfl), (Nat.le_of_ble_eq_true rfl)⟩ rfl (Nat.le_of_ble_eq_true rfl) dX10_quotient_6 (fun v9 H1 locsH1 hp hS hzH1 hkH1 => ?_)
    obtain ⟨hv, hh⟩ := hp
    subst hv; subst hh
    refine lv_goto (tgt := 13) hx hb dX10_quotient_9 (by decide) ?_
    exact hk_iret X hr hlk hQ hS (Nat.le_of_ble_eq_true rfl) (Nat.le_of_ble_eq_true rfl) dX10_quotient_13 (⟨rfl, rfl⟩)

theorem hd_J9_floorMod_7cf53 : yJ9_floorMod_7cf53.cls ≠ "java/lang/invoke/MethodHandle" ∧ yJ9_floorMod_7cf53.cls ≠ "java/lang/invoke/VarHandle" ∧ (parseMethodDescriptor yJ9_floorMod_7cf53.desc).map (fun d => d.parameters.length) = some 2 := ⟨by decide, by decide, by decide +kernel⟩
abbrev rmX10_remainder : Room := { frames := 1, cells := 0, slots := 0, locals := 22 }
set_option maxHeartbeats 4000000 in
set_option maxRecDepth 100000 in
theorem c_X10_remainder (E : hk_E) (l : Launch) (H0 : Heap) {n d : Int32} (hd : 0 < d)  : hk_M E l yX10_remainder wsX10_remainder rmX10_remainder (fun _ => False) [.int n, .int d] H0 (fun z H1 => z = some (.int (rmd n d)) ∧ H0 = H1) := by
  refine hk_M.ofW (cc := cX10_remainder) (maxL := 2) (ret := (some .int)) (by decide +kernel) rfl (Nat.le_of_ble_eq_true rfl) ?_
  intro p e s m args below meth c ls Q hQ X hr hlk hnm K hs9 hS hl
  obtain ⟨hx, hb, hml, hown, hts⟩ := id X
  have hAE : ∀ q, (fun _ => False) q → hk_A E q := fun _ h => h.elim
  have hl : lv_has ls 2 [(0, .int n), (1, .int d)] := hl
  refine lv_iload_n hx hb dX10_remainder_0 rfl (lv_at hl 1 rfl) ?_
  refine lv_if_le (tgt := 12) hx hb dX10_remainder_1 (by decide) (fun c_1 => ?_) (fun c_1 => ?_)
  · exact absurd hd (Int32.not_lt.mpr c_1)
  · refine lv_iload_n hx hb dX10_remainder_4 rfl (lv_at hl 0 rfl) ?_
    refine lv_iload_n hx hb dX10_remainder_5 rfl (lv_at hl 1 rfl) ?_
    refine hk_callS 2 (As := [.int n, .int d]) (rest := []) X K hAE hS hl.1 (c_J9_floorMod_7cf53 E l H0 hd) (fun _ h => h.elim) gX10_remainder_J9_floorMod_7cf53 rfl hd_J9_floorMod_7cf53 rfl ⟨⟨(Nat.le_of_ble_eq_true rfl), (Nat.le_of_ble_eq_true rfl)⟩, (Nat.le_of_ble_eq_true rfl), (Nat.le_of_ble_eq_true rfl)⟩ rfl (Nat.le_of_ble_eq_true rfl) dX10_remainder_6 (fun v9 H1 locsH1 hp hS hzH1 hkH1 => ?_)
    obtain ⟨hv, hh⟩ := hp
    subst hv; subst hh
    refine lv_goto (tgt := 13) hx hb dX10_remainder_9 (by decide) ?_
    exact hk_iret X hr hlk hQ hS (Nat.le_of_ble_eq_true rfl) (Nat.le_of_ble_eq_true rfl) dX10_remainder_13 (⟨rfl, rfl⟩)

