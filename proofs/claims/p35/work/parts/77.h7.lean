theorem HW.addA {E : hk_E} {Z : Nat → Prop} {C : hC} {G : hG} {R : hR} {S : mS} {H : Heap} (h : HW E Z C G R S H) {j0 N : Nat} (hj0 : j0 < 7) (hZ : ∀ q, N ≤ q → Z q) : ∀ q, (q = C.2.1 j0 ∨ (q = G.1 j0 ∧ hn S j0 < G.2.1 j0) ∨ N ≤ q) → Z q := by
  obtain ⟨t1, t2, t3, -⟩ := h.2.2.2.2.2
  rintro q (g | g | g)
  · rw [g]; exact (t2 j0 hj0).2
  · rcases t3 j0 hj0 with k | k
    · rw [g.1]; exact k.2.2.2.2
    · exact absurd g.2 (by omega)
  · exact hZ q g
theorem hfs_c0 {G : hG} {S S' : mS} {i : Nat} (h0 : S'.2.2 0 = S.2.2 0) : hci S' 0 i = hci S 0 i ∧ hfs G S' 0 i = hfs G S 0 i := ⟨rfl, by show [Value.int (S'.2.2 0 i)] = [Value.int (S.2.2 0 i)]; rw [h0]⟩
theorem hfs_c1 {G : hG} {S S' : mS} {i : Nat} (h6 : S'.2.2 6 = S.2.2 6) (h7 : S'.2.2 7 = S.2.2 7) : hci S' 1 i = hci S 1 i ∧ hfs G S' 1 i = hfs G S 1 i := ⟨rfl, by show [Value.int (S'.2.2 6 i), Value.int (S'.2.2 7 i)] = [Value.int (S.2.2 6 i), Value.int (S.2.2 7 i)]; rw [h6, h7]⟩
theorem hfs_c2 {G : hG} {S S' : mS} {i : Nat} (h2 : S'.2.2 2 = S.2.2 2) (h3 : S'.2.2 3 = S.2.2 3) (h4 : S'.2.2 4 = S.2.2 4) (h5 : S'.2.2 5 = S.2.2 5) : hci S' 2 i = hci S 2 i ∧ hfs G S' 2 i = hfs G S 2 i := ⟨rfl, by show [Value.int (nI i), Value.int (S'.2.2 2 i), Value.int (S'.2.2 3 i), Value.int (S'.2.2 4 i), Value.int (S'.2.2 5 i)] = [Value.int (nI i), Value.int (S.2.2 2 i), Value.int (S.2.2 3 i), Value.int (S.2.2 4 i), Value.int (S.2.2 5 i)]; rw [h2, h3, h4, h5]⟩
theorem hfs_c3 {G : hG} {S S' : mS} {i : Nat} (h9 : S'.2.2 9 = S.2.2 9) (h11 : S'.2.2 11 = S.2.2 11) (h10 : S'.2.2 10 = S.2.2 10) : hci S' 3 i = hci S 3 i ∧ hfs G S' 3 i = hfs G S 3 i := ⟨rfl, by show [Value.int (S'.2.2 9 i), Value.int (S'.2.2 11 i), Value.int (S'.2.2 10 i)] = [Value.int (S.2.2 9 i), Value.int (S.2.2 11 i), Value.int (S.2.2 10 i)]; rw [h9, h11, h10]⟩
theorem hfs_c4 {G : hG} {S S' : mS} {i : Nat} (h13 : S'.2.2 13 = S.2.2 13) (h14 : S'.2.2 14 = S.2.2 14) (h15 : S'.2.2 15 = S.2.2 15) (h16 : S'.2.2 16 = S.2.2 16) (h17 : S'.2.2 17 = S.2.2 17) (h18 : S'.2.2 18 = S.2.2 18) (h19 : S'.2.2 19 = S.2.2 19) (h20 : S'.2.2 20 = S.2.2 20) (h21 : S'.2.2 21 = S.2.2 21) : hci S' 4 i = hci S 4 i ∧ hfs G S' 4 i = hfs G S 4 i := ⟨by show (if S'.2.2 13 i = 0 then 8 else 2) = (if S.2.2 13 i = 0 then 8 else 2); rw [h13], by show (if S'.2.2 13 i = 0 then [Value.ref (gad G 2 (ix (S'.2.2 14 i))), Value.int (S'.2.2 21 i), Value.ref (gad G 1 (ix (S'.2.2 15 i))), Value.int (S'.2.2 16 i), Value.ref (gad G 0 (ix (S'.2.2 17 i))), Value.int (S'.2.2 18 i), Value.int (S'.2.2 19 i), Value.ref (gad G 0 (ix (S'.2.2 20 i)))] else [Value.ref (gad G 2 (ix (S'.2.2 14 i))), Value.int (S'.2.2 21 i), Value.ref (gad G 3 (ix (S'.2.2 15 i))), Value.int (S'.2.2 16 i)]) = (if S.2.2 13 i = 0 then [Value.ref (gad G 2 (ix (S.2.2 14 i))), Value.int (S.2.2 21 i), Value.ref (gad G 1 (ix (S.2.2 15 i))), Value.int (S.2.2 16 i), Value.ref (gad G 0 (ix (S.2.2 17 i))), Value.int (S.2.2 18 i), Value.int (S.2.2 19 i), Value.ref (gad G 0 (ix (S.2.2 20 i)))] else [Value.ref (gad G 2 (ix (S.2.2 14 i))), Value.int (S.2.2 21 i), Value.ref (gad G 3 (ix (S.2.2 15 i))), Value.int (S.2.2 16 i)]); rw [h13, h14, h15, h16, h17, h18, h19, h20, h21]⟩
theorem hfs_c5 {G : hG} {S S' : mS} {i : Nat} (h23 : S'.2.2 23 = S.2.2 23) (h24 : S'.2.2 24 = S.2.2 24) (h25 : S'.2.2 25 = S.2.2 25) (h26 : S'.2.2 26 = S.2.2 26) (h27 : S'.2.2 27 = S.2.2 27) (h28 : S'.2.2 28 = S.2.2 28) : hci S' 5 i = hci S 5 i ∧ hfs G S' 5 i = hfs G S 5 i := ⟨rfl, by show [Value.int (S'.2.2 23 i), Value.int (S'.2.2 24 i), Value.int (S'.2.2 27 i), Value.int (S'.2.2 28 i), Value.int (S'.2.2 25 i), Value.int (S'.2.2 26 i)] = [Value.int (S.2.2 23 i), Value.int (S.2.2 24 i), Value.int (S.2.2 27 i), Value.int (S.2.2 28 i), Value.int (S.2.2 25 i), Value.int (S.2.2 26 i)]; rw [h23, h24, h25, h26, h27, h28]⟩
theorem hfs_c6 {G : hG} {S S' : mS} {i : Nat} (h30 : S'.2.2 30 = S.2.2 30) (h31 : S'.2.2 31 = S.2.2 31) : hci S' 6 i = hci S 6 i ∧ hfs G S' 6 i = hfs G S 6 i := ⟨rfl, by show [Value.ref (gad G 2 (ix (S'.2.2 30 i))), Value.int (S'.2.2 31 i)] = [Value.ref (gad G 2 (ix (S.2.2 30 i))), Value.int (S.2.2 31 i)]; rw [h30, h31]⟩
theorem hd_Jx4a65c_add_9ea2d : yJx4a65c_add_9ea2d.cls ≠ "java/lang/invoke/MethodHandle" ∧ yJx4a65c_add_9ea2d.cls ≠ "java/lang/invoke/VarHandle" ∧ (parseMethodDescriptor yJx4a65c_add_9ea2d.desc).map (fun d => d.parameters.length) = some 1 := ⟨by decide, by decide, by decide +kernel⟩
theorem hd_X10_needRoom : yX10_needRoom.cls ≠ "java/lang/invoke/MethodHandle" ∧ yX10_needRoom.cls ≠ "java/lang/invoke/VarHandle" ∧ (parseMethodDescriptor yX10_needRoom.desc).map (fun d => d.parameters.length) = some 2 := ⟨by decide, by decide, by decide +kernel⟩
theorem hd_X7_init : yX7_init.cls ≠ "java/lang/invoke/MethodHandle" ∧ yX7_init.cls ≠ "java/lang/invoke/VarHandle" ∧ (parseMethodDescriptor yX7_init.desc).map (fun d => d.parameters.length) = some 2 := ⟨by decide, by decide, by decide +kernel⟩
abbrev rmX10_star : Room := { frames := 10, cells := 12, slots := 600, locals := 330 }
theorem iX10_star_X10 : ∀ w ∈ wsX100, w ∈ wsX10_star := by decide +kernel
theorem iX10_star_X7 : ∀ w ∈ wsX70, w ∈ wsX10_star := by decide +kernel
set_option maxHeartbeats 4000000 in
set_option maxRecDepth 100000 in
theorem c_X10_star (E : hk_E) (l : Launch) (hl9 : l.stackTraces = false) (H0 : Heap) {Z : Nat → Prop} {ho ts : Nat} {li : Nat → Nat} {rr : Nat → Nat → Nat} {G : hG} {R : hR} {cn : Nat → Nat} {sc : Nat → Int32} {μ : Nat → Nat → Int32} (hW : HW E Z (ho, li, rr, ts) G R (cn, sc, μ) H0) (hI : InvF (cn, sc, μ)) (hZn : ∀ q, H0.size ≤ q → Z q) {p0 : Int32}  : hk_X E l yX10_star wsX10_star rmX10_star (Z) [.ref ho, .int p0] H0 (hpost E Z (ho, li, rr, ts) (cd_star p0 (cn, sc, μ)) (an_star p0 (cn, sc, μ)) (st_star p0 (cn, sc, μ))) (hpx E Z (ho, li, rr, ts) (cd_star p0 (cn, sc, μ)) (cn, sc, μ) [XA, XS]) := by
  refine hk_X.ofW (cc := cX10_star) (maxL := 3) (ret := (some .int)) (by decide +kernel) rfl (Nat.le_of_ble_eq_true rfl) ?_
  intro p e s m args below meth c ls Q hQ X hr hlk hx9 K hs9 hS hl
  obtain ⟨hx, hb, hml, hown, hts⟩ := id X
  have hAE : ∀ q, (Z) q → hk_A E q := hW.2.2.2.2.2.2.2.2.2.2.2.2
  have hl : lv_has ls 3 [(0, .ref ho), (1, .int p0)] := hl
  have hbase : E.2.2.1 ≤ H0.size := by rw [← hs9]; exact K.2.2.2.2.2.2.2
  have hI9 := hI.1
  have hZA : ∀ q, Z q → hk_A E q := hW.2.2.2.2.2.2.2.2.2.2.2.2
  have hc1 : cn 1 ≤ 12 := hI9.1.1
  have hc8 : cn 8 ≤ 8 := hI9.1.2.1
  have hc12 : cn 12 ≤ 80 := hI9.1.2.2.1
  have hc22 : cn 22 ≤ 8 := hI9.1.2.2.2.1
  have hc29 : cn 29 ≤ 30 := hI9.1.2.2.2.2
  refine lv_iload_n hx hb dX10_star_0 rfl (lv_at hl 1 rfl) ?_
  refine lv_iconst (v := 0) hx hb dX10_star_1 (by decide) ?_
  refine lv_sipush (v := 363) hx hb dX10_star_2 (by decide) ?_
  refine hk_callSx 3 (As := [.int p0, .int 0, .int 363]) (rest := []) X K hAE hS hl.1 (c_X10_needRange E l hl9 H0 (a9 := p0) (lo := 0) (hi := 363)) (fun q h => hZn q (Nat.le_trans (Nat.le_refl _) h)) gX10_star_X10_needRange rfl hd_X10_needRange rfl ⟨⟨(Nat.le_of_ble_eq_true rfl), (Nat.le_of_ble_eq_true rfl)⟩, (Nat.le_of_ble_eq_true rfl), (Nat.le_of_ble_eq_true rfl)⟩ rfl (Nat.le_of_ble_eq_true rfl) dX10_star_5 (fun x9 ce9 q9 H1 locsH1 hp hS hzH1 hkH1 hce hcv hcl => hk_out hx9 hlk hQ hS hce hcv hcl (Nat.le_of_ble_eq_true rfl) (Nat.le_of_ble_eq_true rfl) (hpx_1 hW (fun q h1 h2 => hkH1 q h1 h2) (Or.inl ⟨by unfold cd_star; (try dsimp only); rw [if_neg hp.2], hp.1⟩))) (fun v9 H1 locsH1 hp hS hzH1 hkH1 => ?_)
  obtain ⟨hv, hh⟩ := hp
  obtain ⟨hv, c_5⟩ := hv
  subst hv; subst hh
  refine lv_aload_n hx hb dX10_star_8 rfl (lv_at hl 0 rfl) ?_
  refine hk_get (ref := "LightcurveHouse") (v := .ref (li 2)) X K (HW.o hW) rfl iX10_star_X10 2 (by decide) (by decide +kernel) (fun _ h => h) rfl dX10_star_9 ?_
  refine hk_callV 0 (As := []) (rest := []) X K hAE hS hl.1 (HW.l2 hW).1 rfl (c_Jx4a65c_size_8abf5 E l H0 (HW.l2 hW)) (fun _ h => h.elim) gX10_star_Jx4a65c_size_8abf5 rfl ⟨rfl, hd_Jx4a65c_size_8abf5⟩ rfl ⟨⟨(Nat.le_of_ble_eq_true rfl), (Nat.le_of_ble_eq_true rfl)⟩, (Nat.le_of_ble_eq_true rfl), (Nat.le_of_ble_eq_true rfl)⟩ rfl (Nat.le_of_ble_eq_true rfl) dX10_star_12 (fun v9 H2 locsH2 hp hS hzH2 hkH2 => ?_)
  obtain ⟨hv, hh⟩ := hp
  subst hv; subst hh
  refine lv_istore_n (lv' := [(2, .int (nI (cn 1))), (0, .ref ho), (1, .int p0)]) hx hb dX10_star_15 rfl hl (by decide) rfl (fun ls hl => ?_)
  refine lv_iload_n hx hb dX10_star_16 rfl (lv_at hl 0 rfl) ?_
  refine lv_bipush (v := 12) hx hb dX10_star_17 (by decide) ?_
  refine hk_callSx 2 (As := [.int (nI (cn 1)), .int 12]) (rest := []) X K hAE hS hl.1 (c_X10_needRoom E l hl9 H0 (a9 := nI (cn 1)) (hi := 12)) (fun q h => hZn q (Nat.le_trans (Nat.le_refl _) h)) gX10_star_X10_needRoom rfl hd_X10_needRoom rfl ⟨⟨(Nat.le_of_ble_eq_true rfl), (Nat.le_of_ble_eq_true rfl)⟩, (Nat.le_of_ble_eq_true rfl), (Nat.le_of_ble_eq_true rfl)⟩ rfl (Nat.le_of_ble_eq_true rfl) dX10_star_19 (fun x9 ce9 q9 H3 locsH3 hp hS hzH3 hkH3 hce hcv hcl => hk_out hx9 hlk hQ hS hce hcv hcl (Nat.le_of_ble_eq_true rfl) (Nat.le_of_ble_eq_true rfl) (hpx_1 hW (fun q h1 h2 => hkH3 q h1 h2) (Or.inr (Or.inl ⟨by unfold cd_star; (try dsimp only); rw [if_pos c_5, if_pos (show nI (cn 1) = 12 from full_eq (N := 12) (by decide) hc1 hp.2)], hp.1⟩)))) (fun v9 H3 locsH3 hp hS hzH3 hkH3 => ?_)
  obtain ⟨hv, hh⟩ := hp
  obtain ⟨hv, c_19⟩ := hv
  subst hv; subst hh
  refine lv_aload_n hx hb dX10_star_22 rfl (lv_at hl 1 rfl) ?_
  refine hk_get (ref := "LightcurveHouse") (v := .ref (li 2)) X K (HW.o hW) rfl iX10_star_X10 2 (by decide) (by decide +kernel) (fun _ h => h) rfl dX10_star_23 ?_
  refine hk_new (ci := 7) (fs := [.int 0, .int 0, .int 0, .int 0, .int 0]) X K rfl iX10_star_X7 tyX7 tyX7_ok (by decide +kernel) (by decide +kernel) (by decide +kernel) hS (fun j hj => by rcases (show j = 0 ∨ j = 1 ∨ j = 2 ∨ j = 3 ∨ j = 4 by omega) with rfl | rfl | rfl | rfl | rfl <;> rfl) (Nat.le_of_ble_eq_true rfl) (Nat.le_of_ble_eq_true rfl) dX10_star_26 (fun H4 hOH4 hzH4 hqH4 hS => ?_)
  obtain ⟨a5, ea5⟩ : ∃ z : Nat, z = H0.size := ⟨_, rfl⟩
  rw [← ea5] at hOH4 ⊢
  refine lv_dup hx hb dX10_star_29 rfl ?_
  refine lv_iload_n hx hb dX10_star_30 rfl (lv_at hl 0 rfl) ?_
  refine lv_iload_n hx hb dX10_star_31 rfl (lv_at hl 2 rfl) ?_
  refine hk_callI 2 (As := [.int (nI (cn 1)), .int p0]) (rest := [.ref a5, .ref (li 2)]) X K hAE hS hl.1 (c_X7_init E l H4 hOH4 (hZA _ (hZn _ (by omega)))) (fun q h => by rw [h]; exact hZn _ (by omega)) gX10_star_X7_init rfl (by decide +kernel) (by decide +kernel) (by decide +kernel) rfl hd_X7_init rfl ⟨⟨(Nat.le_of_ble_eq_true rfl), (Nat.le_of_ble_eq_true rfl)⟩, (Nat.le_of_ble_eq_true rfl), (Nat.le_of_ble_eq_true rfl)⟩ rfl (Nat.le_of_ble_eq_true rfl) dX10_star_32 (fun v9 H6 locsH6 hp hS hzH6 hkH6 => ?_)
  obtain ⟨hv, hOH6, hzzH6⟩ := hp
  subst hv
  have hbq : ∀ q : Nat, q < H0.size → H6[q]? = H0[q]? := fun q hq => (hkH6 q (by omega) (by omega)).trans (hqH4 q hq)
  have hWb := hW.kept (H1 := H6) (fun q hq _ => hbq q hq)
  refine hk_callV 1 (As := [.ref a5]) (rest := []) X K hAE hS hl.1 (HW.l2 hWb).1 rfl (c_hadd E l H6 hWb 2 (by decide) (show (cn 1) ≤ 80 by omega) (v := a5) ⟨7, _, _, rfl, by decide +kernel, hOH6⟩ (fun g => by have q9 : li 2 < H0.size := va_at.lt (HW.l2 hW).1; have q8 : a5 = li 2 := g; omega) (Nat.le_trans hbase (by omega))) (HW.addA hWb (j0 := 2) (by decide) (fun q h => hZn q (by omega))) gX10_star_Jx4a65c_add_9ea2d rfl ⟨rfl, hd_Jx4a65c_add_9ea2d⟩ rfl ⟨⟨(Nat.le_of_ble_eq_true rfl), (Nat.le_of_ble_eq_true rfl)⟩, (Nat.le_of_ble_eq_true rfl), (Nat.le_of_ble_eq_true rfl)⟩ rfl (Nat.le_of_ble_eq_true rfl) dX10_star_35 (fun v9 H7 locsH7 hp hS hzH7 hkH7 => ?_)
  obtain ⟨hv, had⟩ := hp
  subst hv
  obtain ⟨G2, hW⟩ := HW.add (S' := st_star p0 (cn, sc, μ)) hW 2 (by decide) (v := a5) (by omega) (by omega) hZn hbq hOH6 had hkH7 rfl (fun j9 h1 h2 => by rcases lt7 h1 with g | g | g | g | g | g | g <;> subst g <;> first | rfl | exact absurd rfl h2) rfl (fun G9 ga => by
    refine ⟨fun j9 i9 h1 h2 => ?_, ?_, ?_⟩
    · have hG := hfs_G hI9 ga h1 h2
      rcases lt7 h1 with g | g | g | g | g | g | g <;> subst g
      · exact ⟨(hfs_c0 (G := G9) (S' := st_star p0 (cn, sc, μ)) (S := (cn, sc, μ)) (i := i9) rfl).1, Eq.trans (hfs_c0 (G := G9) (S' := st_star p0 (cn, sc, μ)) (S := (cn, sc, μ)) (i := i9) rfl).2 hG⟩
      · exact ⟨(hfs_c1 (G := G9) (S' := st_star p0 (cn, sc, μ)) (S := (cn, sc, μ)) (i := i9) rfl rfl).1, Eq.trans (hfs_c1 (G := G9) (S' := st_star p0 (cn, sc, μ)) (S := (cn, sc, μ)) (i := i9) rfl rfl).2 hG⟩
      · have g2 : i9 ≠ (cn 1) := by have h3 : i9 < (cn 1) := h2; omega
        refine ⟨rfl, Eq.trans ?_ hG⟩
        show [Value.int (nI i9), Value.int (upd (μ 2) (cn 1) p0 i9), Value.int (upd (μ 3) (cn 1) (nI (cn 1)) i9), Value.int (μ 4 i9), Value.int (μ 5 i9)] = [Value.int (nI i9), Value.int (μ 2 i9), Value.int (μ 3 i9), Value.int (μ 4 i9), Value.int (μ 5 i9)]
        simp only [upd_ne g2]
      · exact ⟨(hfs_c3 (G := G9) (S' := st_star p0 (cn, sc, μ)) (S := (cn, sc, μ)) (i := i9) rfl rfl rfl).1, Eq.trans (hfs_c3 (G := G9) (S' := st_star p0 (cn, sc, μ)) (S := (cn, sc, μ)) (i := i9) rfl rfl rfl).2 hG⟩
      · exact ⟨(hfs_c4 (G := G9) (S' := st_star p0 (cn, sc, μ)) (S := (cn, sc, μ)) (i := i9) rfl rfl rfl rfl rfl rfl rfl rfl rfl).1, Eq.trans (hfs_c4 (G := G9) (S' := st_star p0 (cn, sc, μ)) (S := (cn, sc, μ)) (i := i9) rfl rfl rfl rfl rfl rfl rfl rfl rfl).2 hG⟩
      · exact ⟨(hfs_c5 (G := G9) (S' := st_star p0 (cn, sc, μ)) (S := (cn, sc, μ)) (i := i9) rfl rfl rfl rfl rfl rfl).1, Eq.trans (hfs_c5 (G := G9) (S' := st_star p0 (cn, sc, μ)) (S := (cn, sc, μ)) (i := i9) rfl rfl rfl rfl rfl rfl).2 hG⟩
      · exact ⟨(hfs_c6 (G := G9) (S' := st_star p0 (cn, sc, μ)) (S := (cn, sc, μ)) (i := i9) rfl rfl).1, Eq.trans (hfs_c6 (G := G9) (S' := st_star p0 (cn, sc, μ)) (S := (cn, sc, μ)) (i := i9) rfl rfl).2 hG⟩
    · rfl
    · show [Value.int (nI (cn 1)), Value.int (upd (μ 2) (cn 1) p0 (cn 1)), Value.int (upd (μ 3) (cn 1) (nI (cn 1)) (cn 1)), Value.int (μ 4 (cn 1)), Value.int (μ 5 (cn 1))] = [Value.int (nI (cn 1)), Value.int p0, Value.int (nI (cn 1)), Value.int 0, Value.int 0]
      have z9 := hI
      rw [show μ 4 (cn 1) = 0 from (hI.2.1 _ (Nat.le_refl _)).1, show μ 5 (cn 1) = 0 from (hI.2.1 _ (Nat.le_refl _)).2]
      simp only [upd_at]
    )
  refine lv_pop hx hb dX10_star_38 rfl ?_
  refine lv_iload_n hx hb dX10_star_39 rfl (lv_at hl 0 rfl) ?_
  exact hk_iretx X hr hlk hQ hS (Nat.le_of_ble_eq_true rfl) (Nat.le_of_ble_eq_true rfl) dX10_star_40 (⟨by unfold cd_star; (try dsimp only); rw [if_pos c_5, if_neg (show ¬ nI (cn 1) = 12 from full_ne (N := 12) (by decide) hc1 c_19)], rfl, _, _, hW⟩)

theorem hd_X4_init : yX4_init.cls ≠ "java/lang/invoke/MethodHandle" ∧ yX4_init.cls ≠ "java/lang/invoke/VarHandle" ∧ (parseMethodDescriptor yX4_init.desc).map (fun d => d.parameters.length) = some 3 := ⟨by decide, by decide, by decide +kernel⟩
abbrev rmX10_plate : Room := { frames := 10, cells := 12, slots := 600, locals := 330 }
theorem iX10_plate_X10 : ∀ w ∈ wsX100, w ∈ wsX10_plate := by decide +kernel
theorem iX10_plate_X4 : ∀ w ∈ wsX40, w ∈ wsX10_plate := by decide +kernel
set_option maxHeartbeats 4000000 in
set_option maxRecDepth 100000 in
theorem c_X10_plate (E : hk_E) (l : Launch) (hl9 : l.stackTraces = false) (H0 : Heap) {Z : Nat → Prop} {ho ts : Nat} {li : Nat → Nat} {rr : Nat → Nat → Nat} {G : hG} {R : hR} {cn : Nat → Nat} {sc : Nat → Int32} {μ : Nat → Nat → Int32} (hW : HW E Z (ho, li, rr, ts) G R (cn, sc, μ) H0) (hI : InvF (cn, sc, μ)) (hZn : ∀ q, H0.size ≤ q → Z q) {p0 p1 p2 : Int32}  : hk_X E l yX10_plate wsX10_plate rmX10_plate (Z) [.ref ho, .int p0, .int p1, .int p2] H0 (hpost E Z (ho, li, rr, ts) (cd_plate p0 p1 p2 (cn, sc, μ)) (an_plate p0 p1 p2 (cn, sc, μ)) (st_plate p0 p1 p2 (cn, sc, μ))) (hpx E Z (ho, li, rr, ts) (cd_plate p0 p1 p2 (cn, sc, μ)) (cn, sc, μ) [XA, XS]) := by
  refine hk_X.ofW (cc := cX10_plate) (maxL := 5) (ret := (some .int)) (by decide +kernel) rfl (Nat.le_of_ble_eq_true rfl) ?_
  intro p e s m args below meth c ls Q hQ X hr hlk hx9 K hs9 hS hl
  obtain ⟨hx, hb, hml, hown, hts⟩ := id X
  have hAE : ∀ q, (Z) q → hk_A E q := hW.2.2.2.2.2.2.2.2.2.2.2.2
  have hl : lv_has ls 5 [(0, .ref ho), (1, .int p0), (2, .int p1), (3, .int p2)] := hl
  have hbase : E.2.2.1 ≤ H0.size := by rw [← hs9]; exact K.2.2.2.2.2.2.2
  have hI9 := hI.1
  have hZA : ∀ q, Z q → hk_A E q := hW.2.2.2.2.2.2.2.2.2.2.2.2
  have hc1 : cn 1 ≤ 12 := hI9.1.1
  have hc8 : cn 8 ≤ 8 := hI9.1.2.1
  have hc12 : cn 12 ≤ 80 := hI9.1.2.2.1
  have hc22 : cn 22 ≤ 8 := hI9.1.2.2.2.1
  have hc29 : cn 29 ≤ 30 := hI9.1.2.2.2.2
  refine lv_iload_n hx hb dX10_plate_0 rfl (lv_at hl 1 rfl) ?_
  refine lv_iconst (v := 0) hx hb dX10_plate_1 (by decide) ?_
  refine lv_ldc hx hb hown (hts (.constant RX10 103 (9999999)) (by decide +kernel)) dX10_plate_2 ?_
  refine hk_callSx 3 (As := [.int p0, .int 0, .int 9999999]) (rest := []) X K hAE hS hl.1 (c_X10_needRange E l hl9 H0 (a9 := p0) (lo := 0) (hi := 9999999)) (fun q h => hZn q (Nat.le_trans (Nat.le_refl _) h)) gX10_plate_X10_needRange rfl hd_X10_needRange rfl ⟨⟨(Nat.le_of_ble_eq_true rfl), (Nat.le_of_ble_eq_true rfl)⟩, (Nat.le_of_ble_eq_true rfl), (Nat.le_of_ble_eq_true rfl)⟩ rfl (Nat.le_of_ble_eq_true rfl) dX10_plate_4 (fun x9 ce9 q9 H1 locsH1 hp hS hzH1 hkH1 hce hcv hcl => hk_out hx9 hlk hQ hS hce hcv hcl (Nat.le_of_ble_eq_true rfl) (Nat.le_of_ble_eq_true rfl) (hpx_1 hW (fun q h1 h2 => hkH1 q h1 h2) (Or.inl ⟨by unfold cd_plate; (try dsimp only); rw [if_neg hp.2], hp.1⟩))) (fun v9 H1 locsH1 hp hS hzH1 hkH1 => ?_)
  obtain ⟨hv, hh⟩ := hp
  obtain ⟨hv, c_4⟩ := hv
  subst hv; subst hh
  refine lv_iload_n hx hb dX10_plate_7 rfl (lv_at hl 2 rfl) ?_
  refine hk_callSx 1 (As := [.int p1]) (rest := []) X K hAE hS hl.1 (c_X10_needPlateZero E l hl9 H0 (a9 := p1)) (fun q h => hZn q (Nat.le_trans (Nat.le_refl _) h)) gX10_plate_X10_needPlateZero rfl hd_X10_needPlateZero rfl ⟨⟨(Nat.le_of_ble_eq_true rfl), (Nat.le_of_ble_eq_true rfl)⟩, (Nat.le_of_ble_eq_true rfl), (Nat.le_of_ble_eq_true rfl)⟩ rfl (Nat.le_of_ble_eq_true rfl) dX10_plate_8 (fun x9 ce9 q9 H2 locsH2 hp hS hzH2 hkH2 hce hcv hcl => hk_out hx9 hlk hQ hS hce hcv hcl (Nat.le_of_ble_eq_true rfl) (Nat.le_of_ble_eq_true rfl) (hpx_1 hW (fun q h1 h2 => hkH2 q h1 h2) (Or.inl ⟨by unfold cd_plate; (try dsimp only); rw [if_pos c_4, if_neg hp.2], hp.1⟩))) (fun v9 H2 locsH2 hp hS hzH2 hkH2 => ?_)
  obtain ⟨hv, hh⟩ := hp
  obtain ⟨hv, c_8⟩ := hv
  subst hv; subst hh
  refine lv_iload_n hx hb dX10_plate_11 rfl (lv_at hl 3 rfl) ?_
  refine lv_iconst (v := 1) hx hb dX10_plate_12 (by decide) ?_
  refine lv_bipush (v := 20) hx hb dX10_plate_13 (by decide) ?_
  refine hk_callSx 3 (As := [.int p2, .int 1, .int 20]) (rest := []) X K hAE hS hl.1 (c_X10_needRange E l hl9 H0 (a9 := p2) (lo := 1) (hi := 20)) (fun q h => hZn q (Nat.le_trans (Nat.le_refl _) h)) gX10_plate_X10_needRange rfl hd_X10_needRange rfl ⟨⟨(Nat.le_of_ble_eq_true rfl), (Nat.le_of_ble_eq_true rfl)⟩, (Nat.le_of_ble_eq_true rfl), (Nat.le_of_ble_eq_true rfl)⟩ rfl (Nat.le_of_ble_eq_true rfl) dX10_plate_15 (fun x9 ce9 q9 H3 locsH3 hp hS hzH3 hkH3 hce hcv hcl => hk_out hx9 hlk hQ hS hce hcv hcl (Nat.le_of_ble_eq_true rfl) (Nat.le_of_ble_eq_true rfl) (hpx_1 hW (fun q h1 h2 => hkH3 q h1 h2) (Or.inl ⟨by unfold cd_plate; (try dsimp only); rw [if_pos c_4, if_pos c_8, if_neg hp.2], hp.1⟩))) (fun v9 H3 locsH3 hp hS hzH3 hkH3 => ?_)
  obtain ⟨hv, hh⟩ := hp
  obtain ⟨hv, c_15⟩ := hv
  subst hv; subst hh
  refine lv_aload_n hx hb dX10_plate_18 rfl (lv_at hl 0 rfl) ?_
  refine hk_get (ref := "LightcurveHouse") (v := .ref (li 3)) X K (HW.o hW) rfl iX10_plate_X10 3 (by decide) (by decide +kernel) (fun _ h => h) rfl dX10_plate_19 ?_
  refine hk_callV 0 (As := []) (rest := []) X K hAE hS hl.1 (HW.l3 hW).1 rfl (c_Jx4a65c_size_8abf5 E l H0 (HW.l3 hW)) (fun _ h => h.elim) gX10_plate_Jx4a65c_size_8abf5 rfl ⟨rfl, hd_Jx4a65c_size_8abf5⟩ rfl ⟨⟨(Nat.le_of_ble_eq_true rfl), (Nat.le_of_ble_eq_true rfl)⟩, (Nat.le_of_ble_eq_true rfl), (Nat.le_of_ble_eq_true rfl)⟩ rfl (Nat.le_of_ble_eq_true rfl) dX10_plate_22 (fun v9 H4 locsH4 hp hS hzH4 hkH4 => ?_)
  obtain ⟨hv, hh⟩ := hp
  subst hv; subst hh
  refine lv_istore (lv' := [(4, .int (nI (cn 8))), (0, .ref ho), (1, .int p0), (2, .int p1), (3, .int p2)]) hx hb dX10_plate_25 hl (by decide) rfl (fun ls hl => ?_)
  refine lv_iload hx hb dX10_plate_27 (lv_at hl 0 rfl) ?_
  refine lv_bipush (v := 8) hx hb dX10_plate_29 (by decide) ?_
  refine hk_callSx 2 (As := [.int (nI (cn 8)), .int 8]) (rest := []) X K hAE hS hl.1 (c_X10_needRoom E l hl9 H0 (a9 := nI (cn 8)) (hi := 8)) (fun q h => hZn q (Nat.le_trans (Nat.le_refl _) h)) gX10_plate_X10_needRoom rfl hd_X10_needRoom rfl ⟨⟨(Nat.le_of_ble_eq_true rfl), (Nat.le_of_ble_eq_true rfl)⟩, (Nat.le_of_ble_eq_true rfl), (Nat.le_of_ble_eq_true rfl)⟩ rfl (Nat.le_of_ble_eq_true rfl) dX10_plate_31 (fun x9 ce9 q9 H5 locsH5 hp hS hzH5 hkH5 hce hcv hcl => hk_out hx9 hlk hQ hS hce hcv hcl (Nat.le_of_ble_eq_true rfl) (Nat.le_of_ble_eq_true rfl) (hpx_1 hW (fun q h1 h2 => hkH5 q h1 h2) (Or.inr (Or.inl ⟨by unfold cd_plate; (try dsimp only); rw [if_pos c_4, if_pos c_8, if_pos c_15, if_pos (show nI (cn 8) = 8 from full_eq (N := 8) (by decide) hc8 hp.2)], hp.1⟩)))) (fun v9 H5 locsH5 hp hS hzH5 hkH5 => ?_)
  obtain ⟨hv, hh⟩ := hp
  obtain ⟨hv, c_31⟩ := hv
  subst hv; subst hh
  refine lv_aload_n hx hb dX10_plate_34 rfl (lv_at hl 1 rfl) ?_
  refine hk_get (ref := "LightcurveHouse") (v := .ref (li 3)) X K (HW.o hW) rfl iX10_plate_X10 3 (by decide) (by decide +kernel) (fun _ h => h) rfl dX10_plate_35 ?_
  refine hk_new (ci := 4) (fs := [.int 0, .int 0, .int 0]) X K rfl iX10_plate_X4 tyX4 tyX4_ok (by decide +kernel) (by decide +kernel) (by decide +kernel) hS (fun j hj => by rcases (show j = 0 ∨ j = 1 ∨ j = 2 by omega) with rfl | rfl | rfl <;> rfl) (Nat.le_of_ble_eq_true rfl) (Nat.le_of_ble_eq_true rfl) dX10_plate_38 (fun H6 hOH6 hzH6 hqH6 hS => ?_)
  obtain ⟨a7, ea7⟩ : ∃ z : Nat, z = H0.size := ⟨_, rfl⟩
  rw [← ea7] at hOH6 ⊢
  refine lv_dup hx hb dX10_plate_41 rfl ?_
  refine lv_iload_n hx hb dX10_plate_42 rfl (lv_at hl 2 rfl) ?_
  refine lv_iload_n hx hb dX10_plate_43 rfl (lv_at hl 3 rfl) ?_
  refine lv_iload_n hx hb dX10_plate_44 rfl (lv_at hl 4 rfl) ?_
  refine hk_callI 3 (As := [.int p0, .int p1, .int p2]) (rest := [.ref a7, .ref (li 3)]) X K hAE hS hl.1 (c_X4_init E l H6 hOH6 (hZA _ (hZn _ (by omega)))) (fun q h => by rw [h]; exact hZn _ (by omega)) gX10_plate_X4_init rfl (by decide +kernel) (by decide +kernel) (by decide +kernel) rfl hd_X4_init rfl ⟨⟨(Nat.le_of_ble_eq_true rfl), (Nat.le_of_ble_eq_true rfl)⟩, (Nat.le_of_ble_eq_true rfl), (Nat.le_of_ble_eq_true rfl)⟩ rfl (Nat.le_of_ble_eq_true rfl) dX10_plate_45 (fun v9 H8 locsH8 hp hS hzH8 hkH8 => ?_)
  obtain ⟨hv, hOH8, hzzH8⟩ := hp
  subst hv
  have hbq : ∀ q : Nat, q < H0.size → H8[q]? = H0[q]? := fun q hq => (hkH8 q (by omega) (by omega)).trans (hqH6 q hq)
  have hWb := hW.kept (H1 := H8) (fun q hq _ => hbq q hq)
  refine hk_callV 1 (As := [.ref a7]) (rest := []) X K hAE hS hl.1 (HW.l3 hWb).1 rfl (c_hadd E l H8 hWb 3 (by decide) (show (cn 8) ≤ 80 by omega) (v := a7) ⟨4, _, _, rfl, by decide +kernel, hOH8⟩ (fun g => by have q9 : li 3 < H0.size := va_at.lt (HW.l3 hW).1; have q8 : a7 = li 3 := g; omega) (Nat.le_trans hbase (by omega))) (HW.addA hWb (j0 := 3) (by decide) (fun q h => hZn q (by omega))) gX10_plate_Jx4a65c_add_9ea2d rfl ⟨rfl, hd_Jx4a65c_add_9ea2d⟩ rfl ⟨⟨(Nat.le_of_ble_eq_true rfl), (Nat.le_of_ble_eq_true rfl)⟩, (Nat.le_of_ble_eq_true rfl), (Nat.le_of_ble_eq_true rfl)⟩ rfl (Nat.le_of_ble_eq_true rfl) dX10_plate_48 (fun v9 H9 locsH9 hp hS hzH9 hkH9 => ?_)
  obtain ⟨hv, had⟩ := hp
  subst hv
  obtain ⟨G2, hW⟩ := HW.add (S' := st_plate p0 p1 p2 (cn, sc, μ)) hW 3 (by decide) (v := a7) (by omega) (by omega) hZn hbq hOH8 had hkH9 rfl (fun j9 h1 h2 => by rcases lt7 h1 with g | g | g | g | g | g | g <;> subst g <;> first | rfl | exact absurd rfl h2) rfl (fun G9 ga => by
    refine ⟨fun j9 i9 h1 h2 => ?_, ?_, ?_⟩
    · have hG := hfs_G hI9 ga h1 h2
      rcases lt7 h1 with g | g | g | g | g | g | g <;> subst g
      · exact ⟨(hfs_c0 (G := G9) (S' := st_plate p0 p1 p2 (cn, sc, μ)) (S := (cn, sc, μ)) (i := i9) rfl).1, Eq.trans (hfs_c0 (G := G9) (S' := st_plate p0 p1 p2 (cn, sc, μ)) (S := (cn, sc, μ)) (i := i9) rfl).2 hG⟩
      · exact ⟨(hfs_c1 (G := G9) (S' := st_plate p0 p1 p2 (cn, sc, μ)) (S := (cn, sc, μ)) (i := i9) rfl rfl).1, Eq.trans (hfs_c1 (G := G9) (S' := st_plate p0 p1 p2 (cn, sc, μ)) (S := (cn, sc, μ)) (i := i9) rfl rfl).2 hG⟩
      · exact ⟨(hfs_c2 (G := G9) (S' := st_plate p0 p1 p2 (cn, sc, μ)) (S := (cn, sc, μ)) (i := i9) rfl rfl rfl rfl).1, Eq.trans (hfs_c2 (G := G9) (S' := st_plate p0 p1 p2 (cn, sc, μ)) (S := (cn, sc, μ)) (i := i9) rfl rfl rfl rfl).2 hG⟩
      · have g2 : i9 ≠ (cn 8) := by have h3 : i9 < (cn 8) := h2; omega
        refine ⟨rfl, Eq.trans ?_ hG⟩
        show [Value.int (upd (μ 9) (cn 8) p0 i9), Value.int (upd (μ 11) (cn 8) p2 i9), Value.int (upd (μ 10) (cn 8) p1 i9)] = [Value.int (μ 9 i9), Value.int (μ 11 i9), Value.int (μ 10 i9)]
        simp only [upd_ne g2]
      · exact ⟨(hfs_c4 (G := G9) (S' := st_plate p0 p1 p2 (cn, sc, μ)) (S := (cn, sc, μ)) (i := i9) rfl rfl rfl rfl rfl rfl rfl rfl rfl).1, Eq.trans (hfs_c4 (G := G9) (S' := st_plate p0 p1 p2 (cn, sc, μ)) (S := (cn, sc, μ)) (i := i9) rfl rfl rfl rfl rfl rfl rfl rfl rfl).2 hG⟩
      · exact ⟨(hfs_c5 (G := G9) (S' := st_plate p0 p1 p2 (cn, sc, μ)) (S := (cn, sc, μ)) (i := i9) rfl rfl rfl rfl rfl rfl).1, Eq.trans (hfs_c5 (G := G9) (S' := st_plate p0 p1 p2 (cn, sc, μ)) (S := (cn, sc, μ)) (i := i9) rfl rfl rfl rfl rfl rfl).2 hG⟩
      · exact ⟨(hfs_c6 (G := G9) (S' := st_plate p0 p1 p2 (cn, sc, μ)) (S := (cn, sc, μ)) (i := i9) rfl rfl).1, Eq.trans (hfs_c6 (G := G9) (S' := st_plate p0 p1 p2 (cn, sc, μ)) (S := (cn, sc, μ)) (i := i9) rfl rfl).2 hG⟩
    · rfl
    · show [Value.int (upd (μ 9) (cn 8) p0 (cn 8)), Value.int (upd (μ 11) (cn 8) p2 (cn 8)), Value.int (upd (μ 10) (cn 8) p1 (cn 8))] = [Value.int p0, Value.int p2, Value.int p1]
      have z9 := hI
      simp only [upd_at]
    )
  refine lv_pop hx hb dX10_plate_51 rfl ?_
  refine lv_iload hx hb dX10_plate_52 (lv_at hl 0 rfl) ?_
  exact hk_iretx X hr hlk hQ hS (Nat.le_of_ble_eq_true rfl) (Nat.le_of_ble_eq_true rfl) dX10_plate_54 (⟨by unfold cd_plate; (try dsimp only); rw [if_pos c_4, if_pos c_8, if_pos c_15, if_neg (show ¬ nI (cn 8) = 8 from full_ne (N := 8) (by decide) hc8 c_31)], rfl, _, _, hW⟩)

theorem hd_X3_init : yX3_init.cls ≠ "java/lang/invoke/MethodHandle" ∧ yX3_init.cls ≠ "java/lang/invoke/VarHandle" ∧ (parseMethodDescriptor yX3_init.desc).map (fun d => d.parameters.length) = some 2 := ⟨by decide, by decide, by decide +kernel⟩
abbrev rmX10_minimum : Room := { frames := 10, cells := 12, slots := 600, locals := 330 }
theorem iX10_minimum_X10 : ∀ w ∈ wsX100, w ∈ wsX10_minimum := by decide +kernel
theorem iX10_minimum_X3 : ∀ w ∈ wsX30, w ∈ wsX10_minimum := by decide +kernel
set_option maxHeartbeats 4000000 in
set_option maxRecDepth 100000 in
theorem c_X10_minimum (E : hk_E) (l : Launch) (hl9 : l.stackTraces = false) (H0 : Heap) {Z : Nat → Prop} {ho ts : Nat} {li : Nat → Nat} {rr : Nat → Nat → Nat} {G : hG} {R : hR} {cn : Nat → Nat} {sc : Nat → Int32} {μ : Nat → Nat → Int32} (hW : HW E Z (ho, li, rr, ts) G R (cn, sc, μ) H0) (hI : InvF (cn, sc, μ)) (hZn : ∀ q, H0.size ≤ q → Z q) {p0 p1 : Int32}  : hk_X E l yX10_minimum wsX10_minimum rmX10_minimum (Z) [.ref ho, .int p0, .int p1] H0 (hpost E Z (ho, li, rr, ts) (cd_minimum p0 p1 (cn, sc, μ)) (an_minimum p0 p1 (cn, sc, μ)) (st_minimum p0 p1 (cn, sc, μ))) (hpx E Z (ho, li, rr, ts) (cd_minimum p0 p1 (cn, sc, μ)) (cn, sc, μ) [XI, XA, XS]) := by
  refine hk_X.ofW (cc := cX10_minimum) (maxL := 5) (ret := (some .int)) (by decide +kernel) rfl (Nat.le_of_ble_eq_true rfl) ?_
  intro p e s m args below meth c ls Q hQ X hr hlk hx9 K hs9 hS hl
  obtain ⟨hx, hb, hml, hown, hts⟩ := id X
  have hAE : ∀ q, (Z) q → hk_A E q := hW.2.2.2.2.2.2.2.2.2.2.2.2
  have hl : lv_has ls 5 [(0, .ref ho), (1, .int p0), (2, .int p1)] := hl
  have hbase : E.2.2.1 ≤ H0.size := by rw [← hs9]; exact K.2.2.2.2.2.2.2
  have hI9 := hI.1
  have hZA : ∀ q, Z q → hk_A E q := hW.2.2.2.2.2.2.2.2.2.2.2.2
  have hc1 : cn 1 ≤ 12 := hI9.1.1
  have hc8 : cn 8 ≤ 8 := hI9.1.2.1
  have hc12 : cn 12 ≤ 80 := hI9.1.2.2.1
  have hc22 : cn 22 ≤ 8 := hI9.1.2.2.2.1
  have hc29 : cn 29 ≤ 30 := hI9.1.2.2.2.2
  refine lv_aload_n hx hb dX10_minimum_0 rfl (lv_at hl 0 rfl) ?_
  refine lv_iload_n hx hb dX10_minimum_1 rfl (lv_at hl 1 rfl) ?_
  refine hk_callVx 1 (As := [.int p0]) (rest := []) X K hAE hS hl.1 (HW.o hW) rfl (c_X10_starAt E l hl9 H0 hW hc1 (i9 := p0)) (fun q h => hZn q (Nat.le_trans (Nat.le_refl _) h)) gX10_minimum_X10_starAt rfl ⟨rfl, hd_X10_starAt⟩ rfl ⟨⟨(Nat.le_of_ble_eq_true rfl), (Nat.le_of_ble_eq_true rfl)⟩, (Nat.le_of_ble_eq_true rfl), (Nat.le_of_ble_eq_true rfl)⟩ rfl (Nat.le_of_ble_eq_true rfl) dX10_minimum_2 (fun x9 ce9 q9 H1 locsH1 hp hS hzH1 hkH1 hce hcv hcl => hk_out hx9 hlk hQ hS hce hcv hcl (Nat.le_of_ble_eq_true rfl) (Nat.le_of_ble_eq_true rfl) (hpx_1 hW (fun q h1 h2 => hkH1 q h1 h2) (Or.inl ⟨by unfold cd_minimum; (try dsimp only); rw [if_neg hp.2], hp.1⟩))) (fun v9 H1 locsH1 hp hS hzH1 hkH1 => ?_)
  obtain ⟨hv, hh⟩ := hp
  obtain ⟨hv, c_2⟩ := hv
  subst hv; subst hh
  refine lv_astore_n (lv' := [(3, .ref (gad G 2 (ix p0))), (0, .ref ho), (1, .int p0), (2, .int p1)]) hx hb dX10_minimum_5 rfl hl (by decide) rfl (fun ls hl => ?_)
  refine lv_iload_n hx hb dX10_minimum_6 rfl (lv_at hl 3 rfl) ?_
  refine lv_iconst (v := 0) hx hb dX10_minimum_7 (by decide) ?_
  refine lv_ldc hx hb hown (hts (.constant RX10 103 (9999999)) (by decide +kernel)) dX10_minimum_8 ?_
  refine hk_callSx 3 (As := [.int p1, .int 0, .int 9999999]) (rest := []) X K hAE hS hl.1 (c_X10_needRange E l hl9 H0 (a9 := p1) (lo := 0) (hi := 9999999)) (fun q h => hZn q (Nat.le_trans (Nat.le_refl _) h)) gX10_minimum_X10_needRange rfl hd_X10_needRange rfl ⟨⟨(Nat.le_of_ble_eq_true rfl), (Nat.le_of_ble_eq_true rfl)⟩, (Nat.le_of_ble_eq_true rfl), (Nat.le_of_ble_eq_true rfl)⟩ rfl (Nat.le_of_ble_eq_true rfl) dX10_minimum_10 (fun x9 ce9 q9 H2 locsH2 hp hS hzH2 hkH2 hce hcv hcl => hk_out hx9 hlk hQ hS hce hcv hcl (Nat.le_of_ble_eq_true rfl) (Nat.le_of_ble_eq_true rfl) (hpx_1 hW (fun q h1 h2 => hkH2 q h1 h2) (Or.inr (Or.inl ⟨by unfold cd_minimum; (try dsimp only); rw [if_pos c_2, if_neg hp.2], hp.1⟩)))) (fun v9 H2 locsH2 hp hS hzH2 hkH2 => ?_)
  obtain ⟨hv, hh⟩ := hp
  obtain ⟨hv, c_10⟩ := hv
  subst hv; subst hh
  refine lv_aload_n hx hb dX10_minimum_13 rfl (lv_at hl 1 rfl) ?_
  refine hk_get (ref := "LightcurveHouse") (v := .ref (li 6)) X K (HW.o hW) rfl iX10_minimum_X10 6 (by decide) (by decide +kernel) (fun _ h => h) rfl dX10_minimum_14 ?_
  refine hk_callV 0 (As := []) (rest := []) X K hAE hS hl.1 (HW.l6 hW).1 rfl (c_Jx4a65c_size_8abf5 E l H0 (HW.l6 hW)) (fun _ h => h.elim) gX10_minimum_Jx4a65c_size_8abf5 rfl ⟨rfl, hd_Jx4a65c_size_8abf5⟩ rfl ⟨⟨(Nat.le_of_ble_eq_true rfl), (Nat.le_of_ble_eq_true rfl)⟩, (Nat.le_of_ble_eq_true rfl), (Nat.le_of_ble_eq_true rfl)⟩ rfl (Nat.le_of_ble_eq_true rfl) dX10_minimum_17 (fun v9 H3 locsH3 hp hS hzH3 hkH3 => ?_)
  obtain ⟨hv, hh⟩ := hp
  subst hv; subst hh
  refine lv_istore (lv' := [(4, .int (nI (cn 29))), (3, .ref (gad G 2 (ix p0))), (0, .ref ho), (1, .int p0), (2, .int p1)]) hx hb dX10_minimum_20 hl (by decide) rfl (fun ls hl => ?_)
  refine lv_iload hx hb dX10_minimum_22 (lv_at hl 0 rfl) ?_
  refine lv_bipush (v := 30) hx hb dX10_minimum_24 (by decide) ?_
  refine hk_callSx 2 (As := [.int (nI (cn 29)), .int 30]) (rest := []) X K hAE hS hl.1 (c_X10_needRoom E l hl9 H0 (a9 := nI (cn 29)) (hi := 30)) (fun q h => hZn q (Nat.le_trans (Nat.le_refl _) h)) gX10_minimum_X10_needRoom rfl hd_X10_needRoom rfl ⟨⟨(Nat.le_of_ble_eq_true rfl), (Nat.le_of_ble_eq_true rfl)⟩, (Nat.le_of_ble_eq_true rfl), (Nat.le_of_ble_eq_true rfl)⟩ rfl (Nat.le_of_ble_eq_true rfl) dX10_minimum_26 (fun x9 ce9 q9 H4 locsH4 hp hS hzH4 hkH4 hce hcv hcl => hk_out hx9 hlk hQ hS hce hcv hcl (Nat.le_of_ble_eq_true rfl) (Nat.le_of_ble_eq_true rfl) (hpx_1 hW (fun q h1 h2 => hkH4 q h1 h2) (Or.inr (Or.inr ⟨by unfold cd_minimum; (try dsimp only); rw [if_pos c_2, if_pos c_10, if_pos (show nI (cn 29) = 30 from full_eq (N := 30) (by decide) hc29 hp.2)], hp.1⟩)))) (fun v9 H4 locsH4 hp hS hzH4 hkH4 => ?_)
  obtain ⟨hv, hh⟩ := hp
  obtain ⟨hv, c_26⟩ := hv
  subst hv; subst hh
  refine lv_aload_n hx hb dX10_minimum_29 rfl (lv_at hl 2 rfl) ?_
  refine hk_get (ref := "LightcurveHouse") (v := .ref (li 6)) X K (HW.o hW) rfl iX10_minimum_X10 6 (by decide) (by decide +kernel) (fun _ h => h) rfl dX10_minimum_30 ?_
  refine hk_new (ci := 3) (fs := [.null, .int 0]) X K rfl iX10_minimum_X3 tyX3 tyX3_ok (by decide +kernel) (by decide +kernel) (by decide +kernel) hS (fun j hj => by rcases (show j = 0 ∨ j = 1 by omega) with rfl | rfl <;> rfl) (Nat.le_of_ble_eq_true rfl) (Nat.le_of_ble_eq_true rfl) dX10_minimum_33 (fun H5 hOH5 hzH5 hqH5 hS => ?_)
  obtain ⟨a6, ea6⟩ : ∃ z : Nat, z = H0.size := ⟨_, rfl⟩
  rw [← ea6] at hOH5 ⊢
  refine lv_dup hx hb dX10_minimum_36 rfl ?_
  refine lv_aload_n hx hb dX10_minimum_37 rfl (lv_at hl 1 rfl) ?_
  refine lv_iload_n hx hb dX10_minimum_38 rfl (lv_at hl 4 rfl) ?_
  refine hk_callI 2 (As := [.ref (gad G 2 (ix p0)), .int p1]) (rest := [.ref a6, .ref (li 6)]) X K hAE hS hl.1 (c_X3_init E l H5 hOH5 (hZA _ (hZn _ (by omega)))) (fun q h => by rw [h]; exact hZn _ (by omega)) gX10_minimum_X3_init rfl (by decide +kernel) (by decide +kernel) (by decide +kernel) rfl hd_X3_init rfl ⟨⟨(Nat.le_of_ble_eq_true rfl), (Nat.le_of_ble_eq_true rfl)⟩, (Nat.le_of_ble_eq_true rfl), (Nat.le_of_ble_eq_true rfl)⟩ rfl (Nat.le_of_ble_eq_true rfl) dX10_minimum_39 (fun v9 H7 locsH7 hp hS hzH7 hkH7 => ?_)
  obtain ⟨hv, hOH7, hzzH7⟩ := hp
  subst hv
  have hbq : ∀ q : Nat, q < H0.size → H7[q]? = H0[q]? := fun q hq => (hkH7 q (by omega) (by omega)).trans (hqH5 q hq)
  have hWb := hW.kept (H1 := H7) (fun q hq _ => hbq q hq)
  refine hk_callV 1 (As := [.ref a6]) (rest := []) X K hAE hS hl.1 (HW.l6 hWb).1 rfl (c_hadd E l H7 hWb 6 (by decide) (show (cn 29) ≤ 80 by omega) (v := a6) ⟨3, _, _, rfl, by decide +kernel, hOH7⟩ (fun g => by have q9 : li 6 < H0.size := va_at.lt (HW.l6 hW).1; have q8 : a6 = li 6 := g; omega) (Nat.le_trans hbase (by omega))) (HW.addA hWb (j0 := 6) (by decide) (fun q h => hZn q (by omega))) gX10_minimum_Jx4a65c_add_9ea2d rfl ⟨rfl, hd_Jx4a65c_add_9ea2d⟩ rfl ⟨⟨(Nat.le_of_ble_eq_true rfl), (Nat.le_of_ble_eq_true rfl)⟩, (Nat.le_of_ble_eq_true rfl), (Nat.le_of_ble_eq_true rfl)⟩ rfl (Nat.le_of_ble_eq_true rfl) dX10_minimum_42 (fun v9 H8 locsH8 hp hS hzH8 hkH8 => ?_)
  obtain ⟨hv, had⟩ := hp
  subst hv
  obtain ⟨G2, hW⟩ := HW.add (S' := st_minimum p0 p1 (cn, sc, μ)) hW 6 (by decide) (v := a6) (by omega) (by omega) hZn hbq hOH7 had hkH8 rfl (fun j9 h1 h2 => by rcases lt7 h1 with g | g | g | g | g | g | g <;> subst g <;> first | rfl | exact absurd rfl h2) rfl (fun G9 ga => by
    refine ⟨fun j9 i9 h1 h2 => ?_, ?_, ?_⟩
    · have hG := hfs_G hI9 ga h1 h2
      rcases lt7 h1 with g | g | g | g | g | g | g <;> subst g
      · exact ⟨(hfs_c0 (G := G9) (S' := st_minimum p0 p1 (cn, sc, μ)) (S := (cn, sc, μ)) (i := i9) rfl).1, Eq.trans (hfs_c0 (G := G9) (S' := st_minimum p0 p1 (cn, sc, μ)) (S := (cn, sc, μ)) (i := i9) rfl).2 hG⟩
      · exact ⟨(hfs_c1 (G := G9) (S' := st_minimum p0 p1 (cn, sc, μ)) (S := (cn, sc, μ)) (i := i9) rfl rfl).1, Eq.trans (hfs_c1 (G := G9) (S' := st_minimum p0 p1 (cn, sc, μ)) (S := (cn, sc, μ)) (i := i9) rfl rfl).2 hG⟩
      · exact ⟨(hfs_c2 (G := G9) (S' := st_minimum p0 p1 (cn, sc, μ)) (S := (cn, sc, μ)) (i := i9) rfl rfl rfl rfl).1, Eq.trans (hfs_c2 (G := G9) (S' := st_minimum p0 p1 (cn, sc, μ)) (S := (cn, sc, μ)) (i := i9) rfl rfl rfl rfl).2 hG⟩
      · exact ⟨(hfs_c3 (G := G9) (S' := st_minimum p0 p1 (cn, sc, μ)) (S := (cn, sc, μ)) (i := i9) rfl rfl rfl).1, Eq.trans (hfs_c3 (G := G9) (S' := st_minimum p0 p1 (cn, sc, μ)) (S := (cn, sc, μ)) (i := i9) rfl rfl rfl).2 hG⟩
      · exact ⟨(hfs_c4 (G := G9) (S' := st_minimum p0 p1 (cn, sc, μ)) (S := (cn, sc, μ)) (i := i9) rfl rfl rfl rfl rfl rfl rfl rfl rfl).1, Eq.trans (hfs_c4 (G := G9) (S' := st_minimum p0 p1 (cn, sc, μ)) (S := (cn, sc, μ)) (i := i9) rfl rfl rfl rfl rfl rfl rfl rfl rfl).2 hG⟩
      · exact ⟨(hfs_c5 (G := G9) (S' := st_minimum p0 p1 (cn, sc, μ)) (S := (cn, sc, μ)) (i := i9) rfl rfl rfl rfl rfl rfl).1, Eq.trans (hfs_c5 (G := G9) (S' := st_minimum p0 p1 (cn, sc, μ)) (S := (cn, sc, μ)) (i := i9) rfl rfl rfl rfl rfl rfl).2 hG⟩
      · have g2 : i9 ≠ (cn 29) := by have h3 : i9 < (cn 29) := h2; omega
        refine ⟨rfl, Eq.trans ?_ hG⟩
        show [Value.ref (gad G9 2 (ix (upd (μ 30) (cn 29) p0 i9))), Value.int (upd (μ 31) (cn 29) p1 i9)] = [Value.ref (gad G9 2 (ix (μ 30 i9))), Value.int (μ 31 i9)]
        simp only [upd_ne g2]
    · rfl
    · show [Value.ref (gad G9 2 (ix (upd (μ 30) (cn 29) p0 (cn 29)))), Value.int (upd (μ 31) (cn 29) p1 (cn 29))] = [Value.ref (gad G 2 (ix p0)), Value.int p1]
      have z9 := hI
      simp only [upd_at]
      rw [ga 2 _ (by decide) (isS_xl c_2 (show cn 1 < 2 ^ 31 by omega))]
    )
  refine lv_pop hx hb dX10_minimum_45 rfl ?_
  refine lv_iload hx hb dX10_minimum_46 (lv_at hl 0 rfl) ?_
  exact hk_iretx X hr hlk hQ hS (Nat.le_of_ble_eq_true rfl) (Nat.le_of_ble_eq_true rfl) dX10_minimum_48 (⟨by unfold cd_minimum; (try dsimp only); rw [if_pos c_2, if_pos c_10, if_neg (show ¬ nI (cn 29) = 30 from full_ne (N := 30) (by decide) hc29 c_26)], rfl, _, _, hW⟩)

theorem hd_X1_init : yX1_init.cls ≠ "java/lang/invoke/MethodHandle" ∧ yX1_init.cls ≠ "java/lang/invoke/VarHandle" ∧ (parseMethodDescriptor yX1_init.desc).map (fun d => d.parameters.length) = some 3 := ⟨by decide, by decide, by decide +kernel⟩
abbrev rmX10_density : Room := { frames := 10, cells := 12, slots := 600, locals := 330 }
theorem iX10_density_X1 : ∀ w ∈ wsX10, w ∈ wsX10_density := by decide +kernel
theorem iX10_density_X10 : ∀ w ∈ wsX100, w ∈ wsX10_density := by decide +kernel
set_option maxHeartbeats 4000000 in
set_option maxRecDepth 100000 in
theorem c_X10_density (E : hk_E) (l : Launch) (hl9 : l.stackTraces = false) (H0 : Heap) {Z : Nat → Prop} {ho ts : Nat} {li : Nat → Nat} {rr : Nat → Nat → Nat} {G : hG} {R : hR} {cn : Nat → Nat} {sc : Nat → Int32} {μ : Nat → Nat → Int32} (hW : HW E Z (ho, li, rr, ts) G R (cn, sc, μ) H0) (hI : InvF (cn, sc, μ)) (hZn : ∀ q, H0.size ≤ q → Z q) {p0 p1 p2 : Int32}  : hk_X E l yX10_density wsX10_density rmX10_density (Z) [.ref ho, .int p0, .int p1, .int p2] H0 (hpost E Z (ho, li, rr, ts) (cd_density p0 p1 p2 (cn, sc, μ)) (an_density p0 p1 p2 (cn, sc, μ)) (st_density p0 p1 p2 (cn, sc, μ))) (hpx E Z (ho, li, rr, ts) (cd_density p0 p1 p2 (cn, sc, μ)) (cn, sc, μ) [XI, XA, XS]) := by
  refine hk_X.ofW (cc := cX10_density) (maxL := 7) (ret := (some .int)) (by decide +kernel) rfl (Nat.le_of_ble_eq_true rfl) ?_
  intro p e s m args below meth c ls Q hQ X hr hlk hx9 K hs9 hS hl
  obtain ⟨hx, hb, hml, hown, hts⟩ := id X
  have hAE : ∀ q, (Z) q → hk_A E q := hW.2.2.2.2.2.2.2.2.2.2.2.2
  have hl : lv_has ls 7 [(0, .ref ho), (1, .int p0), (2, .int p1), (3, .int p2)] := hl
  have hbase : E.2.2.1 ≤ H0.size := by rw [← hs9]; exact K.2.2.2.2.2.2.2
  have hI9 := hI.1
  have hZA : ∀ q, Z q → hk_A E q := hW.2.2.2.2.2.2.2.2.2.2.2.2
  have hc1 : cn 1 ≤ 12 := hI9.1.1
  have hc8 : cn 8 ≤ 8 := hI9.1.2.1
  have hc12 : cn 12 ≤ 80 := hI9.1.2.2.1
  have hc22 : cn 22 ≤ 8 := hI9.1.2.2.2.1
  have hc29 : cn 29 ≤ 30 := hI9.1.2.2.2.2
  refine lv_aload_n hx hb dX10_density_0 rfl (lv_at hl 0 rfl) ?_
  refine lv_iload_n hx hb dX10_density_1 rfl (lv_at hl 1 rfl) ?_
  refine hk_callVx 1 (As := [.int p0]) (rest := []) X K hAE hS hl.1 (HW.o hW) rfl (c_X10_starAt E l hl9 H0 hW hc1 (i9 := p0)) (fun q h => hZn q (Nat.le_trans (Nat.le_refl _) h)) gX10_density_X10_starAt rfl ⟨rfl, hd_X10_starAt⟩ rfl ⟨⟨(Nat.le_of_ble_eq_true rfl), (Nat.le_of_ble_eq_true rfl)⟩, (Nat.le_of_ble_eq_true rfl), (Nat.le_of_ble_eq_true rfl)⟩ rfl (Nat.le_of_ble_eq_true rfl) dX10_density_2 (fun x9 ce9 q9 H1 locsH1 hp hS hzH1 hkH1 hce hcv hcl => hk_out hx9 hlk hQ hS hce hcv hcl (Nat.le_of_ble_eq_true rfl) (Nat.le_of_ble_eq_true rfl) (hpx_1 hW (fun q h1 h2 => hkH1 q h1 h2) (Or.inl ⟨by unfold cd_density; (try dsimp only); rw [if_neg hp.2], hp.1⟩))) (fun v9 H1 locsH1 hp hS hzH1 hkH1 => ?_)
  obtain ⟨hv, hh⟩ := hp
  obtain ⟨hv, c_2⟩ := hv
  subst hv; subst hh
  refine lv_astore (lv' := [(4, .ref (gad G 2 (ix p0))), (0, .ref ho), (1, .int p0), (2, .int p1), (3, .int p2)]) hx hb dX10_density_5 hl (by decide) rfl (fun ls hl => ?_)
  refine lv_aload_n hx hb dX10_density_7 rfl (lv_at hl 1 rfl) ?_
  refine lv_iload_n hx hb dX10_density_8 rfl (lv_at hl 3 rfl) ?_
  refine hk_callVx 1 (As := [.int p1]) (rest := []) X K hAE hS hl.1 (HW.o hW) rfl (c_X10_plateAt E l hl9 H0 hW hc8 (i9 := p1)) (fun q h => hZn q (Nat.le_trans (Nat.le_refl _) h)) gX10_density_X10_plateAt rfl ⟨rfl, hd_X10_plateAt⟩ rfl ⟨⟨(Nat.le_of_ble_eq_true rfl), (Nat.le_of_ble_eq_true rfl)⟩, (Nat.le_of_ble_eq_true rfl), (Nat.le_of_ble_eq_true rfl)⟩ rfl (Nat.le_of_ble_eq_true rfl) dX10_density_9 (fun x9 ce9 q9 H2 locsH2 hp hS hzH2 hkH2 hce hcv hcl => hk_out hx9 hlk hQ hS hce hcv hcl (Nat.le_of_ble_eq_true rfl) (Nat.le_of_ble_eq_true rfl) (hpx_1 hW (fun q h1 h2 => hkH2 q h1 h2) (Or.inl ⟨by unfold cd_density; (try dsimp only); rw [if_pos c_2, if_neg hp.2], hp.1⟩))) (fun v9 H2 locsH2 hp hS hzH2 hkH2 => ?_)
  obtain ⟨hv, hh⟩ := hp
  obtain ⟨hv, c_9⟩ := hv
  subst hv; subst hh
  refine lv_astore (lv' := [(5, .ref (gad G 3 (ix p1))), (4, .ref (gad G 2 (ix p0))), (0, .ref ho), (1, .int p0), (2, .int p1), (3, .int p2)]) hx hb dX10_density_12 hl (by decide) rfl (fun ls hl => ?_)
  refine lv_iload_n hx hb dX10_density_14 rfl (lv_at hl 5 rfl) ?_
  refine lv_iconst (v := 0) hx hb dX10_density_15 (by decide) ?_
  refine lv_sipush (v := 255) hx hb dX10_density_16 (by decide) ?_
  refine hk_callSx 3 (As := [.int p2, .int 0, .int 255]) (rest := []) X K hAE hS hl.1 (c_X10_needRange E l hl9 H0 (a9 := p2) (lo := 0) (hi := 255)) (fun q h => hZn q (Nat.le_trans (Nat.le_refl _) h)) gX10_density_X10_needRange rfl hd_X10_needRange rfl ⟨⟨(Nat.le_of_ble_eq_true rfl), (Nat.le_of_ble_eq_true rfl)⟩, (Nat.le_of_ble_eq_true rfl), (Nat.le_of_ble_eq_true rfl)⟩ rfl (Nat.le_of_ble_eq_true rfl) dX10_density_19 (fun x9 ce9 q9 H3 locsH3 hp hS hzH3 hkH3 hce hcv hcl => hk_out hx9 hlk hQ hS hce hcv hcl (Nat.le_of_ble_eq_true rfl) (Nat.le_of_ble_eq_true rfl) (hpx_1 hW (fun q h1 h2 => hkH3 q h1 h2) (Or.inr (Or.inl ⟨by unfold cd_density; (try dsimp only); rw [if_pos c_2, if_pos c_9, if_neg hp.2], hp.1⟩)))) (fun v9 H3 locsH3 hp hS hzH3 hkH3 => ?_)
  obtain ⟨hv, hh⟩ := hp
  obtain ⟨hv, c_19⟩ := hv
  subst hv; subst hh
  refine lv_aload_n hx hb dX10_density_22 rfl (lv_at hl 2 rfl) ?_
  refine hk_get (ref := "LightcurveHouse") (v := .ref (li 4)) X K (HW.o hW) rfl iX10_density_X10 4 (by decide) (by decide +kernel) (fun _ h => h) rfl dX10_density_23 ?_
  refine hk_callV 0 (As := []) (rest := []) X K hAE hS hl.1 (HW.l4 hW).1 rfl (c_Jx4a65c_size_8abf5 E l H0 (HW.l4 hW)) (fun _ h => h.elim) gX10_density_Jx4a65c_size_8abf5 rfl ⟨rfl, hd_Jx4a65c_size_8abf5⟩ rfl ⟨⟨(Nat.le_of_ble_eq_true rfl), (Nat.le_of_ble_eq_true rfl)⟩, (Nat.le_of_ble_eq_true rfl), (Nat.le_of_ble_eq_true rfl)⟩ rfl (Nat.le_of_ble_eq_true rfl) dX10_density_26 (fun v9 H4 locsH4 hp hS hzH4 hkH4 => ?_)
  obtain ⟨hv, hh⟩ := hp
  subst hv; subst hh
  refine lv_istore (lv' := [(6, .int (nI (cn 12))), (5, .ref (gad G 3 (ix p1))), (4, .ref (gad G 2 (ix p0))), (0, .ref ho), (1, .int p0), (2, .int p1), (3, .int p2)]) hx hb dX10_density_29 hl (by decide) rfl (fun ls hl => ?_)
  refine lv_iload hx hb dX10_density_31 (lv_at hl 0 rfl) ?_
  refine lv_bipush (v := 80) hx hb dX10_density_33 (by decide) ?_
  refine hk_callSx 2 (As := [.int (nI (cn 12)), .int 80]) (rest := []) X K hAE hS hl.1 (c_X10_needRoom E l hl9 H0 (a9 := nI (cn 12)) (hi := 80)) (fun q h => hZn q (Nat.le_trans (Nat.le_refl _) h)) gX10_density_X10_needRoom rfl hd_X10_needRoom rfl ⟨⟨(Nat.le_of_ble_eq_true rfl), (Nat.le_of_ble_eq_true rfl)⟩, (Nat.le_of_ble_eq_true rfl), (Nat.le_of_ble_eq_true rfl)⟩ rfl (Nat.le_of_ble_eq_true rfl) dX10_density_35 (fun x9 ce9 q9 H5 locsH5 hp hS hzH5 hkH5 hce hcv hcl => hk_out hx9 hlk hQ hS hce hcv hcl (Nat.le_of_ble_eq_true rfl) (Nat.le_of_ble_eq_true rfl) (hpx_1 hW (fun q h1 h2 => hkH5 q h1 h2) (Or.inr (Or.inr ⟨by unfold cd_density; (try dsimp only); rw [if_pos c_2, if_pos c_9, if_pos c_19, if_pos (show nI (cn 12) = 80 from full_eq (N := 80) (by decide) hc12 hp.2)], hp.1⟩)))) (fun v9 H5 locsH5 hp hS hzH5 hkH5 => ?_)
  obtain ⟨hv, hh⟩ := hp
  obtain ⟨hv, c_35⟩ := hv
  subst hv; subst hh
  refine lv_aload_n hx hb dX10_density_38 rfl (lv_at hl 3 rfl) ?_
  refine hk_get (ref := "LightcurveHouse") (v := .ref (li 4)) X K (HW.o hW) rfl iX10_density_X10 4 (by decide) (by decide +kernel) (fun _ h => h) rfl dX10_density_39 ?_
  refine hk_new (ci := 2) (fs := [.null, .int 0, .null, .int 0]) X K rfl iX10_density_X1 tyX1 tyX1_ok (by decide +kernel) (by decide +kernel) (by decide +kernel) hS (fun j hj => by rcases (show j = 0 ∨ j = 1 ∨ j = 2 ∨ j = 3 by omega) with rfl | rfl | rfl | rfl <;> rfl) (Nat.le_of_ble_eq_true rfl) (Nat.le_of_ble_eq_true rfl) dX10_density_42 (fun H6 hOH6 hzH6 hqH6 hS => ?_)
  obtain ⟨a7, ea7⟩ : ∃ z : Nat, z = H0.size := ⟨_, rfl⟩
  rw [← ea7] at hOH6 ⊢
  refine lv_dup hx hb dX10_density_45 rfl ?_
  refine lv_aload hx hb dX10_density_46 (lv_at hl 2 rfl) ?_
  refine lv_aload hx hb dX10_density_48 (lv_at hl 1 rfl) ?_
  refine lv_iload_n hx hb dX10_density_50 rfl (lv_at hl 6 rfl) ?_
  refine hk_callI 3 (As := [.ref (gad G 2 (ix p0)), .ref (gad G 3 (ix p1)), .int p2]) (rest := [.ref a7, .ref (li 4)]) X K hAE hS hl.1 (c_X1_init E l H6 hOH6 (hZA _ (hZn _ (by omega)))) (fun q h => by rw [h]; exact hZn _ (by omega)) gX10_density_X1_init rfl (by decide +kernel) (by decide +kernel) (by decide +kernel) rfl hd_X1_init rfl ⟨⟨(Nat.le_of_ble_eq_true rfl), (Nat.le_of_ble_eq_true rfl)⟩, (Nat.le_of_ble_eq_true rfl), (Nat.le_of_ble_eq_true rfl)⟩ rfl (Nat.le_of_ble_eq_true rfl) dX10_density_51 (fun v9 H8 locsH8 hp hS hzH8 hkH8 => ?_)
  obtain ⟨hv, hOH8, hzzH8⟩ := hp
  subst hv
  have hbq : ∀ q : Nat, q < H0.size → H8[q]? = H0[q]? := fun q hq => (hkH8 q (by omega) (by omega)).trans (hqH6 q hq)
  have hWb := hW.kept (H1 := H8) (fun q hq _ => hbq q hq)
  refine hk_callV 1 (As := [.ref a7]) (rest := []) X K hAE hS hl.1 (HW.l4 hWb).1 rfl (c_hadd E l H8 hWb 4 (by decide) (show (cn 12) ≤ 80 by omega) (v := a7) ⟨2, _, _, rfl, by decide +kernel, hOH8⟩ (fun g => by have q9 : li 4 < H0.size := va_at.lt (HW.l4 hW).1; have q8 : a7 = li 4 := g; omega) (Nat.le_trans hbase (by omega))) (HW.addA hWb (j0 := 4) (by decide) (fun q h => hZn q (by omega))) gX10_density_Jx4a65c_add_9ea2d rfl ⟨rfl, hd_Jx4a65c_add_9ea2d⟩ rfl ⟨⟨(Nat.le_of_ble_eq_true rfl), (Nat.le_of_ble_eq_true rfl)⟩, (Nat.le_of_ble_eq_true rfl), (Nat.le_of_ble_eq_true rfl)⟩ rfl (Nat.le_of_ble_eq_true rfl) dX10_density_54 (fun v9 H9 locsH9 hp hS hzH9 hkH9 => ?_)
  obtain ⟨hv, had⟩ := hp
  subst hv
  obtain ⟨G2, hW⟩ := HW.add (S' := st_density p0 p1 p2 (cn, sc, μ)) hW 4 (by decide) (v := a7) (by omega) (by omega) hZn hbq hOH8 had hkH9 rfl (fun j9 h1 h2 => by rcases lt7 h1 with g | g | g | g | g | g | g <;> subst g <;> first | rfl | exact absurd rfl h2) rfl (fun G9 ga => by
    refine ⟨fun j9 i9 h1 h2 => ?_, ?_, ?_⟩
    · have hG := hfs_G hI9 ga h1 h2
      rcases lt7 h1 with g | g | g | g | g | g | g <;> subst g
      · exact ⟨(hfs_c0 (G := G9) (S' := st_density p0 p1 p2 (cn, sc, μ)) (S := (cn, sc, μ)) (i := i9) rfl).1, Eq.trans (hfs_c0 (G := G9) (S' := st_density p0 p1 p2 (cn, sc, μ)) (S := (cn, sc, μ)) (i := i9) rfl).2 hG⟩
      · exact ⟨(hfs_c1 (G := G9) (S' := st_density p0 p1 p2 (cn, sc, μ)) (S := (cn, sc, μ)) (i := i9) rfl rfl).1, Eq.trans (hfs_c1 (G := G9) (S' := st_density p0 p1 p2 (cn, sc, μ)) (S := (cn, sc, μ)) (i := i9) rfl rfl).2 hG⟩
      · exact ⟨(hfs_c2 (G := G9) (S' := st_density p0 p1 p2 (cn, sc, μ)) (S := (cn, sc, μ)) (i := i9) rfl rfl rfl rfl).1, Eq.trans (hfs_c2 (G := G9) (S' := st_density p0 p1 p2 (cn, sc, μ)) (S := (cn, sc, μ)) (i := i9) rfl rfl rfl rfl).2 hG⟩
      · exact ⟨(hfs_c3 (G := G9) (S' := st_density p0 p1 p2 (cn, sc, μ)) (S := (cn, sc, μ)) (i := i9) rfl rfl rfl).1, Eq.trans (hfs_c3 (G := G9) (S' := st_density p0 p1 p2 (cn, sc, μ)) (S := (cn, sc, μ)) (i := i9) rfl rfl rfl).2 hG⟩
      · have g2 : i9 ≠ (cn 12) := by have h3 : i9 < (cn 12) := h2; omega
        refine ⟨?_, Eq.trans ?_ hG⟩
        · show (if upd (μ 13) (cn 12) 1 i9 = 0 then 8 else 2) = (if μ 13 i9 = 0 then 8 else 2)
          rw [upd_ne g2]
        · show (if upd (μ 13) (cn 12) 1 i9 = 0 then [Value.ref (gad G9 2 (ix (upd (μ 14) (cn 12) p0 i9))), Value.int (upd (μ 21) (cn 12) 0 i9), Value.ref (gad G9 1 (ix (upd (μ 15) (cn 12) p1 i9))), Value.int (upd (μ 16) (cn 12) p2 i9), Value.ref (gad G9 0 (ix (μ 17 i9))), Value.int (μ 18 i9), Value.int (μ 19 i9), Value.ref (gad G9 0 (ix (μ 20 i9)))] else [Value.ref (gad G9 2 (ix (upd (μ 14) (cn 12) p0 i9))), Value.int (upd (μ 21) (cn 12) 0 i9), Value.ref (gad G9 3 (ix (upd (μ 15) (cn 12) p1 i9))), Value.int (upd (μ 16) (cn 12) p2 i9)]) = (if μ 13 i9 = 0 then [Value.ref (gad G9 2 (ix (μ 14 i9))), Value.int (μ 21 i9), Value.ref (gad G9 1 (ix (μ 15 i9))), Value.int (μ 16 i9), Value.ref (gad G9 0 (ix (μ 17 i9))), Value.int (μ 18 i9), Value.int (μ 19 i9), Value.ref (gad G9 0 (ix (μ 20 i9)))] else [Value.ref (gad G9 2 (ix (μ 14 i9))), Value.int (μ 21 i9), Value.ref (gad G9 3 (ix (μ 15 i9))), Value.int (μ 16 i9)])
          simp only [upd_ne g2]
      · exact ⟨(hfs_c5 (G := G9) (S' := st_density p0 p1 p2 (cn, sc, μ)) (S := (cn, sc, μ)) (i := i9) rfl rfl rfl rfl rfl rfl).1, Eq.trans (hfs_c5 (G := G9) (S' := st_density p0 p1 p2 (cn, sc, μ)) (S := (cn, sc, μ)) (i := i9) rfl rfl rfl rfl rfl rfl).2 hG⟩
      · exact ⟨(hfs_c6 (G := G9) (S' := st_density p0 p1 p2 (cn, sc, μ)) (S := (cn, sc, μ)) (i := i9) rfl rfl).1, Eq.trans (hfs_c6 (G := G9) (S' := st_density p0 p1 p2 (cn, sc, μ)) (S := (cn, sc, μ)) (i := i9) rfl rfl).2 hG⟩
    · show (if upd (μ 13) (cn 12) 1 (cn 12) = 0 then 8 else 2) = _
      rw [upd_at]; exact if_neg (by decide)
    · show (if upd (μ 13) (cn 12) 1 (cn 12) = 0 then [Value.ref (gad G9 2 (ix (upd (μ 14) (cn 12) p0 (cn 12)))), Value.int (upd (μ 21) (cn 12) 0 (cn 12)), Value.ref (gad G9 1 (ix (upd (μ 15) (cn 12) p1 (cn 12)))), Value.int (upd (μ 16) (cn 12) p2 (cn 12)), Value.ref (gad G9 0 (ix (μ 17 (cn 12)))), Value.int (μ 18 (cn 12)), Value.int (μ 19 (cn 12)), Value.ref (gad G9 0 (ix (μ 20 (cn 12))))] else [Value.ref (gad G9 2 (ix (upd (μ 14) (cn 12) p0 (cn 12)))), Value.int (upd (μ 21) (cn 12) 0 (cn 12)), Value.ref (gad G9 3 (ix (upd (μ 15) (cn 12) p1 (cn 12)))), Value.int (upd (μ 16) (cn 12) p2 (cn 12))]) = [Value.ref (gad G 2 (ix p0)), Value.int 0, Value.ref (gad G 3 (ix p1)), Value.int p2]
      rw [upd_at (f := μ 13), if_neg (by decide)]
      simp only [upd_at]
      rw [ga 2 _ (by decide) (isS_xl c_2 (show cn 1 < 2 ^ 31 by omega))]
      rw [ga 3 _ (by decide) (isS_xl c_9 (show cn 8 < 2 ^ 31 by omega))]
    )
  refine lv_pop hx hb dX10_density_57 rfl ?_
  refine lv_iload hx hb dX10_density_58 (lv_at hl 0 rfl) ?_
  exact hk_iretx X hr hlk hQ hS (Nat.le_of_ble_eq_true rfl) (Nat.le_of_ble_eq_true rfl) dX10_density_60 (⟨by unfold cd_density; (try dsimp only); rw [if_pos c_2, if_pos c_9, if_pos c_19, if_neg (show ¬ nI (cn 12) = 80 from full_ne (N := 80) (by decide) hc12 c_35)], rfl, _, _, hW⟩)

theorem sum_le0 {a b : Int32} (ha : inr a 0 9) (hb : inr b 0 9) : a + b ≤ 0 ↔ a + b = 0 := by
  obtain ⟨x, hx, rfl⟩ := inr_ix (N := 9) (by decide) ha
  obtain ⟨y, hy, rfl⟩ := inr_ix (N := 9) (by decide) hb
  rw [nI_add]
  constructor
  · intro h
    rw [show (0 : Int32) = nI 0 from rfl] at h ⊢
    have := (nI_leI (by omega) (by omega)).mp h
    rw [show x + y = 0 by omega]
  · intro h
    rw [h]
    exact Int32.le_refl _
theorem hd_X6_init : yX6_init.cls ≠ "java/lang/invoke/MethodHandle" ∧ yX6_init.cls ≠ "java/lang/invoke/VarHandle" ∧ (parseMethodDescriptor yX6_init.desc).map (fun d => d.parameters.length) = some 5 := ⟨by decide, by decide, by decide +kernel⟩
theorem hkw_X10_rule_1_126 : ∀ w ∈ (vx_atS RX10 126 "java/lang/IllegalArgumentException" ["java/lang/RuntimeException", "java/lang/Exception"]).filter goodWord, w ∈ wsX10_rule := by decide +kernel
abbrev rmX10_rule : Room := { frames := 10, cells := 12, slots := 600, locals := 330 }
theorem iX10_rule_X10 : ∀ w ∈ wsX100, w ∈ wsX10_rule := by decide +kernel
theorem iX10_rule_X6 : ∀ w ∈ wsX60, w ∈ wsX10_rule := by decide +kernel
set_option maxHeartbeats 4000000 in
set_option maxRecDepth 100000 in
theorem c_X10_rule (E : hk_E) (l : Launch) (hl9 : l.stackTraces = false) (H0 : Heap) {Z : Nat → Prop} {ho ts : Nat} {li : Nat → Nat} {rr : Nat → Nat → Nat} {G : hG} {R : hR} {cn : Nat → Nat} {sc : Nat → Int32} {μ : Nat → Nat → Int32} (hW : HW E Z (ho, li, rr, ts) G R (cn, sc, μ) H0) (hI : InvF (cn, sc, μ)) (hZn : ∀ q, H0.size ≤ q → Z q) {p0 p1 p2 p3 p4 : Int32}  : hk_X E l yX10_rule wsX10_rule rmX10_rule (Z) [.ref ho, .int p0, .int p1, .int p2, .int p3, .int p4] H0 (hpost E Z (ho, li, rr, ts) (cd_rule p0 p1 p2 p3 p4 (cn, sc, μ)) (an_rule p0 p1 p2 p3 p4 (cn, sc, μ)) (st_rule p0 p1 p2 p3 p4 (cn, sc, μ))) (hpx E Z (ho, li, rr, ts) (cd_rule p0 p1 p2 p3 p4 (cn, sc, μ)) (cn, sc, μ) [XA, XS]) := by
  refine hk_X.ofW (cc := cX10_rule) (maxL := 7) (ret := (some .int)) (by decide +kernel) rfl (Nat.le_of_ble_eq_true rfl) ?_
  intro p e s m args below meth c ls Q hQ X hr hlk hx9 K hs9 hS hl
  obtain ⟨hx, hb, hml, hown, hts⟩ := id X
  have hAE : ∀ q, (Z) q → hk_A E q := hW.2.2.2.2.2.2.2.2.2.2.2.2
  have hl : lv_has ls 7 [(0, .ref ho), (1, .int p0), (2, .int p1), (3, .int p2), (4, .int p3), (5, .int p4)] := hl
  have hbase : E.2.2.1 ≤ H0.size := by rw [← hs9]; exact K.2.2.2.2.2.2.2
  have hI9 := hI.1
  have hZA : ∀ q, Z q → hk_A E q := hW.2.2.2.2.2.2.2.2.2.2.2.2
  have hc1 : cn 1 ≤ 12 := hI9.1.1
  have hc8 : cn 8 ≤ 8 := hI9.1.2.1
  have hc12 : cn 12 ≤ 80 := hI9.1.2.2.1
  have hc22 : cn 22 ≤ 8 := hI9.1.2.2.2.1
  have hc29 : cn 29 ≤ 30 := hI9.1.2.2.2.2
  refine lv_iload_n hx hb dX10_rule_0 rfl (lv_at hl 1 rfl) ?_
  refine lv_iconst (v := 0) hx hb dX10_rule_1 (by decide) ?_
  refine lv_iconst (v := 4) hx hb dX10_rule_2 (by decide) ?_
  refine hk_callSx 3 (As := [.int p0, .int 0, .int 4]) (rest := []) X K hAE hS hl.1 (c_X10_needRange E l hl9 H0 (a9 := p0) (lo := 0) (hi := 4)) (fun q h => hZn q (Nat.le_trans (Nat.le_refl _) h)) gX10_rule_X10_needRange rfl hd_X10_needRange rfl ⟨⟨(Nat.le_of_ble_eq_true rfl), (Nat.le_of_ble_eq_true rfl)⟩, (Nat.le_of_ble_eq_true rfl), (Nat.le_of_ble_eq_true rfl)⟩ rfl (Nat.le_of_ble_eq_true rfl) dX10_rule_3 (fun x9 ce9 q9 H1 locsH1 hp hS hzH1 hkH1 hce hcv hcl => hk_out hx9 hlk hQ hS hce hcv hcl (Nat.le_of_ble_eq_true rfl) (Nat.le_of_ble_eq_true rfl) (hpx_1 hW (fun q h1 h2 => hkH1 q h1 h2) (Or.inl ⟨by unfold cd_rule; (try dsimp only); rw [if_neg hp.2], hp.1⟩))) (fun v9 H1 locsH1 hp hS hzH1 hkH1 => ?_)
  obtain ⟨hv, hh⟩ := hp
  obtain ⟨hv, c_3⟩ := hv
  subst hv; subst hh
  refine lv_iload_n hx hb dX10_rule_6 rfl (lv_at hl 2 rfl) ?_
  refine lv_iconst (v := 0) hx hb dX10_rule_7 (by decide) ?_
  refine lv_iconst (v := 2) hx hb dX10_rule_8 (by decide) ?_
  refine hk_callSx 3 (As := [.int p1, .int 0, .int 2]) (rest := []) X K hAE hS hl.1 (c_X10_needRange E l hl9 H0 (a9 := p1) (lo := 0) (hi := 2)) (fun q h => hZn q (Nat.le_trans (Nat.le_refl _) h)) gX10_rule_X10_needRange rfl hd_X10_needRange rfl ⟨⟨(Nat.le_of_ble_eq_true rfl), (Nat.le_of_ble_eq_true rfl)⟩, (Nat.le_of_ble_eq_true rfl), (Nat.le_of_ble_eq_true rfl)⟩ rfl (Nat.le_of_ble_eq_true rfl) dX10_rule_9 (fun x9 ce9 q9 H2 locsH2 hp hS hzH2 hkH2 hce hcv hcl => hk_out hx9 hlk hQ hS hce hcv hcl (Nat.le_of_ble_eq_true rfl) (Nat.le_of_ble_eq_true rfl) (hpx_1 hW (fun q h1 h2 => hkH2 q h1 h2) (Or.inl ⟨by unfold cd_rule; (try dsimp only); rw [if_pos c_3, if_neg hp.2], hp.1⟩))) (fun v9 H2 locsH2 hp hS hzH2 hkH2 => ?_)
  obtain ⟨hv, hh⟩ := hp
  obtain ⟨hv, c_9⟩ := hv
  subst hv; subst hh
  refine lv_iload_n hx hb dX10_rule_12 rfl (lv_at hl 3 rfl) ?_
  refine lv_iconst (v := 0) hx hb dX10_rule_13 (by decide) ?_
  refine lv_ldc hx hb hown (hts (.constant RX10 246 (1000000)) (by decide +kernel)) dX10_rule_14 ?_
  refine hk_callSx 3 (As := [.int p2, .int 0, .int 1000000]) (rest := []) X K hAE hS hl.1 (c_X10_needRange E l hl9 H0 (a9 := p2) (lo := 0) (hi := 1000000)) (fun q h => hZn q (Nat.le_trans (Nat.le_refl _) h)) gX10_rule_X10_needRange rfl hd_X10_needRange rfl ⟨⟨(Nat.le_of_ble_eq_true rfl), (Nat.le_of_ble_eq_true rfl)⟩, (Nat.le_of_ble_eq_true rfl), (Nat.le_of_ble_eq_true rfl)⟩ rfl (Nat.le_of_ble_eq_true rfl) dX10_rule_16 (fun x9 ce9 q9 H3 locsH3 hp hS hzH3 hkH3 hce hcv hcl => hk_out hx9 hlk hQ hS hce hcv hcl (Nat.le_of_ble_eq_true rfl) (Nat.le_of_ble_eq_true rfl) (hpx_1 hW (fun q h1 h2 => hkH3 q h1 h2) (Or.inl ⟨by unfold cd_rule; (try dsimp only); rw [if_pos c_3, if_pos c_9, if_neg hp.2], hp.1⟩))) (fun v9 H3 locsH3 hp hS hzH3 hkH3 => ?_)
  obtain ⟨hv, hh⟩ := hp
  obtain ⟨hv, c_16⟩ := hv
  subst hv; subst hh
  refine lv_iload hx hb dX10_rule_19 (lv_at hl 4 rfl) ?_
  refine lv_iload_n hx hb dX10_rule_21 rfl (lv_at hl 3 rfl) ?_
  refine lv_ldc hx hb hown (hts (.constant RX10 246 (1000000)) (by decide +kernel)) dX10_rule_22 ?_
  refine hk_callSx 3 (As := [.int p3, .int p2, .int 1000000]) (rest := []) X K hAE hS hl.1 (c_X10_needRange E l hl9 H0 (a9 := p3) (lo := p2) (hi := 1000000)) (fun q h => hZn q (Nat.le_trans (Nat.le_refl _) h)) gX10_rule_X10_needRange rfl hd_X10_needRange rfl ⟨⟨(Nat.le_of_ble_eq_true rfl), (Nat.le_of_ble_eq_true rfl)⟩, (Nat.le_of_ble_eq_true rfl), (Nat.le_of_ble_eq_true rfl)⟩ rfl (Nat.le_of_ble_eq_true rfl) dX10_rule_24 (fun x9 ce9 q9 H4 locsH4 hp hS hzH4 hkH4 hce hcv hcl => hk_out hx9 hlk hQ hS hce hcv hcl (Nat.le_of_ble_eq_true rfl) (Nat.le_of_ble_eq_true rfl) (hpx_1 hW (fun q h1 h2 => hkH4 q h1 h2) (Or.inl ⟨by unfold cd_rule; (try dsimp only); rw [if_pos c_3, if_pos c_9, if_pos c_16, if_neg hp.2], hp.1⟩))) (fun v9 H4 locsH4 hp hS hzH4 hkH4 => ?_)
  obtain ⟨hv, hh⟩ := hp
  obtain ⟨hv, c_24⟩ := hv
  subst hv; subst hh
  refine lv_iload hx hb dX10_rule_27 (lv_at hl 5 rfl) ?_
  refine lv_bipush (v := (-9)) hx hb dX10_rule_29 (by decide) ?_
  refine lv_bipush (v := 9) hx hb dX10_rule_31 (by decide) ?_
  refine hk_callSx 3 (As := [.int p4, .int (-9), .int 9]) (rest := []) X K hAE hS hl.1 (c_X10_needRange E l hl9 H0 (a9 := p4) (lo := (-9)) (hi := 9)) (fun q h => hZn q (Nat.le_trans (Nat.le_refl _) h)) gX10_rule_X10_needRange rfl hd_X10_needRange rfl ⟨⟨(Nat.le_of_ble_eq_true rfl), (Nat.le_of_ble_eq_true rfl)⟩, (Nat.le_of_ble_eq_true rfl), (Nat.le_of_ble_eq_true rfl)⟩ rfl (Nat.le_of_ble_eq_true rfl) dX10_rule_33 (fun x9 ce9 q9 H5 locsH5 hp hS hzH5 hkH5 hce hcv hcl => hk_out hx9 hlk hQ hS hce hcv hcl (Nat.le_of_ble_eq_true rfl) (Nat.le_of_ble_eq_true rfl) (hpx_1 hW (fun q h1 h2 => hkH5 q h1 h2) (Or.inl ⟨by unfold cd_rule; (try dsimp only); rw [if_pos c_3, if_pos c_9, if_pos c_16, if_pos c_24, if_neg hp.2], hp.1⟩))) (fun v9 H5 locsH5 hp hS hzH5 hkH5 => ?_)
  obtain ⟨hv, hh⟩ := hp
  obtain ⟨hv, c_33⟩ := hv
  subst hv; subst hh
  refine lv_iload hx hb dX10_rule_36 (lv_at hl 5 rfl) ?_
  refine lv_if_ne (tgt := 51) hx hb dX10_rule_38 (by decide) (fun c_38 => ?_) (fun c_38 => ?_)
  · 
    refine lv_aload_n hx hb dX10_rule_51 rfl (lv_at hl 0 rfl) ?_
    refine hk_get (ref := "LightcurveHouse") (v := .ref (li 5)) X K (HW.o hW) rfl iX10_rule_X10 5 (by decide) (by decide +kernel) (fun _ h => h) rfl dX10_rule_52 ?_
    refine hk_callV 0 (As := []) (rest := []) X K hAE hS hl.1 (HW.l5 hW).1 rfl (c_Jx4a65c_size_8abf5 E l H0 (HW.l5 hW)) (fun _ h => h.elim) gX10_rule_Jx4a65c_size_8abf5 rfl ⟨rfl, hd_Jx4a65c_size_8abf5⟩ rfl ⟨⟨(Nat.le_of_ble_eq_true rfl), (Nat.le_of_ble_eq_true rfl)⟩, (Nat.le_of_ble_eq_true rfl), (Nat.le_of_ble_eq_true rfl)⟩ rfl (Nat.le_of_ble_eq_true rfl) dX10_rule_55 (fun v9 H6 locsH6 hp hS hzH6 hkH6 => ?_)
    obtain ⟨hv, hh⟩ := hp
    subst hv; subst hh
    refine lv_istore (lv' := [(6, .int (nI (cn 22))), (0, .ref ho), (1, .int p0), (2, .int p1), (3, .int p2), (4, .int p3), (5, .int p4)]) hx hb dX10_rule_58 hl (by decide) rfl (fun ls hl => ?_)
    refine lv_iload hx hb dX10_rule_60 (lv_at hl 0 rfl) ?_
    refine lv_bipush (v := 8) hx hb dX10_rule_62 (by decide) ?_
    refine hk_callSx 2 (As := [.int (nI (cn 22)), .int 8]) (rest := []) X K hAE hS hl.1 (c_X10_needRoom E l hl9 H0 (a9 := nI (cn 22)) (hi := 8)) (fun q h => hZn q (Nat.le_trans (Nat.le_refl _) h)) gX10_rule_X10_needRoom rfl hd_X10_needRoom rfl ⟨⟨(Nat.le_of_ble_eq_true rfl), (Nat.le_of_ble_eq_true rfl)⟩, (Nat.le_of_ble_eq_true rfl), (Nat.le_of_ble_eq_true rfl)⟩ rfl (Nat.le_of_ble_eq_true rfl) dX10_rule_64 (fun x9 ce9 q9 H7 locsH7 hp hS hzH7 hkH7 hce hcv hcl => hk_out hx9 hlk hQ hS hce hcv hcl (Nat.le_of_ble_eq_true rfl) (Nat.le_of_ble_eq_true rfl) (hpx_1 hW (fun q h1 h2 => hkH7 q h1 h2) (Or.inr (Or.inl ⟨by unfold cd_rule; (try dsimp only); rw [if_pos c_3, if_pos c_9, if_pos c_16, if_pos c_24, if_pos c_33, if_neg c_38, if_pos (show nI (cn 22) = 8 from full_eq (N := 8) (by decide) hc22 hp.2)], hp.1⟩)))) (fun v9 H7 locsH7 hp hS hzH7 hkH7 => ?_)
    obtain ⟨hv, hh⟩ := hp
    obtain ⟨hv, c_64⟩ := hv
    subst hv; subst hh
    refine lv_aload_n hx hb dX10_rule_67 rfl (lv_at hl 1 rfl) ?_
    refine hk_get (ref := "LightcurveHouse") (v := .ref (li 5)) X K (HW.o hW) rfl iX10_rule_X10 5 (by decide) (by decide +kernel) (fun _ h => h) rfl dX10_rule_68 ?_
    refine hk_new (ci := 6) (fs := [.int 0, .int 0, .int 0, .int 0, .int 0, .int 0]) X K rfl iX10_rule_X6 tyX6 tyX6_ok (by decide +kernel) (by decide +kernel) (by decide +kernel) hS (fun j hj => by rcases (show j = 0 ∨ j = 1 ∨ j = 2 ∨ j = 3 ∨ j = 4 ∨ j = 5 by omega) with rfl | rfl | rfl | rfl | rfl | rfl <;> rfl) (Nat.le_of_ble_eq_true rfl) (Nat.le_of_ble_eq_true rfl) dX10_rule_71 (fun H8 hOH8 hzH8 hqH8 hS => ?_)
    obtain ⟨a9, ea9⟩ : ∃ z : Nat, z = H0.size := ⟨_, rfl⟩
    rw [← ea9] at hOH8 ⊢
    refine lv_dup hx hb dX10_rule_74 rfl ?_
    refine lv_iload_n hx hb dX10_rule_75 rfl (lv_at hl 2 rfl) ?_
    refine lv_iload_n hx hb dX10_rule_76 rfl (lv_at hl 3 rfl) ?_
    refine lv_iload_n hx hb dX10_rule_77 rfl (lv_at hl 4 rfl) ?_
    refine lv_iload hx hb dX10_rule_78 (lv_at hl 5 rfl) ?_
    refine lv_iload hx hb dX10_rule_80 (lv_at hl 6 rfl) ?_
    refine hk_callI 5 (As := [.int p0, .int p1, .int p2, .int p3, .int p4]) (rest := [.ref a9, .ref (li 5)]) X K hAE hS hl.1 (c_X6_init E l H8 hOH8 (hZA _ (hZn _ (by omega)))) (fun q h => by rw [h]; exact hZn _ (by omega)) gX10_rule_X6_init rfl (by decide +kernel) (by decide +kernel) (by decide +kernel) rfl hd_X6_init rfl ⟨⟨(Nat.le_of_ble_eq_true rfl), (Nat.le_of_ble_eq_true rfl)⟩, (Nat.le_of_ble_eq_true rfl), (Nat.le_of_ble_eq_true rfl)⟩ rfl (Nat.le_of_ble_eq_true rfl) dX10_rule_82 (fun v9 H10 locsH10 hp hS hzH10 hkH10 => ?_)
    obtain ⟨hv, hOH10, hzzH10⟩ := hp
    subst hv
    have hbq : ∀ q : Nat, q < H0.size → H10[q]? = H0[q]? := fun q hq => (hkH10 q (by omega) (by omega)).trans (hqH8 q hq)
    have hWb := hW.kept (H1 := H10) (fun q hq _ => hbq q hq)
    refine hk_callV 1 (As := [.ref a9]) (rest := []) X K hAE hS hl.1 (HW.l5 hWb).1 rfl (c_hadd E l H10 hWb 5 (by decide) (show (cn 22) ≤ 80 by omega) (v := a9) ⟨6, _, _, rfl, by decide +kernel, hOH10⟩ (fun g => by have q9 : li 5 < H0.size := va_at.lt (HW.l5 hW).1; have q8 : a9 = li 5 := g; omega) (Nat.le_trans hbase (by omega))) (HW.addA hWb (j0 := 5) (by decide) (fun q h => hZn q (by omega))) gX10_rule_Jx4a65c_add_9ea2d rfl ⟨rfl, hd_Jx4a65c_add_9ea2d⟩ rfl ⟨⟨(Nat.le_of_ble_eq_true rfl), (Nat.le_of_ble_eq_true rfl)⟩, (Nat.le_of_ble_eq_true rfl), (Nat.le_of_ble_eq_true rfl)⟩ rfl (Nat.le_of_ble_eq_true rfl) dX10_rule_85 (fun v9 H11 locsH11 hp hS hzH11 hkH11 => ?_)
    obtain ⟨hv, had⟩ := hp
    subst hv
    obtain ⟨G2, hW⟩ := HW.add (S' := st_rule p0 p1 p2 p3 p4 (cn, sc, μ)) hW 5 (by decide) (v := a9) (by omega) (by omega) hZn hbq hOH10 had hkH11 rfl (fun j9 h1 h2 => by rcases lt7 h1 with g | g | g | g | g | g | g <;> subst g <;> first | rfl | exact absurd rfl h2) rfl (fun G9 ga => by
      refine ⟨fun j9 i9 h1 h2 => ?_, ?_, ?_⟩
      · have hG := hfs_G hI9 ga h1 h2
        rcases lt7 h1 with g | g | g | g | g | g | g <;> subst g
        · exact ⟨(hfs_c0 (G := G9) (S' := st_rule p0 p1 p2 p3 p4 (cn, sc, μ)) (S := (cn, sc, μ)) (i := i9) rfl).1, Eq.trans (hfs_c0 (G := G9) (S' := st_rule p0 p1 p2 p3 p4 (cn, sc, μ)) (S := (cn, sc, μ)) (i := i9) rfl).2 hG⟩
        · exact ⟨(hfs_c1 (G := G9) (S' := st_rule p0 p1 p2 p3 p4 (cn, sc, μ)) (S := (cn, sc, μ)) (i := i9) rfl rfl).1, Eq.trans (hfs_c1 (G := G9) (S' := st_rule p0 p1 p2 p3 p4 (cn, sc, μ)) (S := (cn, sc, μ)) (i := i9) rfl rfl).2 hG⟩
        · exact ⟨(hfs_c2 (G := G9) (S' := st_rule p0 p1 p2 p3 p4 (cn, sc, μ)) (S := (cn, sc, μ)) (i := i9) rfl rfl rfl rfl).1, Eq.trans (hfs_c2 (G := G9) (S' := st_rule p0 p1 p2 p3 p4 (cn, sc, μ)) (S := (cn, sc, μ)) (i := i9) rfl rfl rfl rfl).2 hG⟩
        · exact ⟨(hfs_c3 (G := G9) (S' := st_rule p0 p1 p2 p3 p4 (cn, sc, μ)) (S := (cn, sc, μ)) (i := i9) rfl rfl rfl).1, Eq.trans (hfs_c3 (G := G9) (S' := st_rule p0 p1 p2 p3 p4 (cn, sc, μ)) (S := (cn, sc, μ)) (i := i9) rfl rfl rfl).2 hG⟩
        · exact ⟨(hfs_c4 (G := G9) (S' := st_rule p0 p1 p2 p3 p4 (cn, sc, μ)) (S := (cn, sc, μ)) (i := i9) rfl rfl rfl rfl rfl rfl rfl rfl rfl).1, Eq.trans (hfs_c4 (G := G9) (S' := st_rule p0 p1 p2 p3 p4 (cn, sc, μ)) (S := (cn, sc, μ)) (i := i9) rfl rfl rfl rfl rfl rfl rfl rfl rfl).2 hG⟩
        · have g2 : i9 ≠ (cn 22) := by have h3 : i9 < (cn 22) := h2; omega
          refine ⟨rfl, Eq.trans ?_ hG⟩
          show [Value.int (upd (μ 23) (cn 22) p0 i9), Value.int (upd (μ 24) (cn 22) p1 i9), Value.int (upd (μ 27) (cn 22) p4 i9), Value.int (μ 28 i9), Value.int (upd (μ 25) (cn 22) p2 i9), Value.int (upd (μ 26) (cn 22) p3 i9)] = [Value.int (μ 23 i9), Value.int (μ 24 i9), Value.int (μ 27 i9), Value.int (μ 28 i9), Value.int (μ 25 i9), Value.int (μ 26 i9)]
          simp only [upd_ne g2]
        · exact ⟨(hfs_c6 (G := G9) (S' := st_rule p0 p1 p2 p3 p4 (cn, sc, μ)) (S := (cn, sc, μ)) (i := i9) rfl rfl).1, Eq.trans (hfs_c6 (G := G9) (S' := st_rule p0 p1 p2 p3 p4 (cn, sc, μ)) (S := (cn, sc, μ)) (i := i9) rfl rfl).2 hG⟩
      · rfl
      · show [Value.int (upd (μ 23) (cn 22) p0 (cn 22)), Value.int (upd (μ 24) (cn 22) p1 (cn 22)), Value.int (upd (μ 27) (cn 22) p4 (cn 22)), Value.int (μ 28 (cn 22)), Value.int (upd (μ 25) (cn 22) p2 (cn 22)), Value.int (upd (μ 26) (cn 22) p3 (cn 22))] = [Value.int p0, Value.int p1, Value.int p4, Value.int 0, Value.int p2, Value.int p3]
        have z9 := hI
        rw [show μ 28 (cn 22) = 0 from hI.2.2 _ (Nat.le_refl _)]
        simp only [upd_at]
      )
    refine lv_pop hx hb dX10_rule_88 rfl ?_
    refine lv_iload hx hb dX10_rule_89 (lv_at hl 0 rfl) ?_
    exact hk_iretx X hr hlk hQ hS (Nat.le_of_ble_eq_true rfl) (Nat.le_of_ble_eq_true rfl) dX10_rule_91 (⟨by unfold cd_rule; (try dsimp only); rw [if_pos c_3, if_pos c_9, if_pos c_16, if_pos c_24, if_pos c_33, if_neg c_38, if_neg (show ¬ nI (cn 22) = 8 from full_ne (N := 8) (by decide) hc22 c_64)], rfl, _, _, hW⟩)
  · 
    exact hk_throw (text := "a rule gives votes") X rfl K hl9 hx9 hlk hQ hS hAE (by decide) (by decide +kernel) (by decide +kernel) (by decide +kernel) hkw_X10_rule_1_126 hkb_1 (by decide +kernel) hkg_1_126 hl.1 dX10_rule_41 dX10_rule_44 dX10_rule_45 dX10_rule_47 dX10_rule_50 (Nat.le_of_ble_eq_true rfl) (Nat.le_of_ble_eq_true rfl) (Nat.le_of_ble_eq_true rfl) (Nat.le_of_ble_eq_true rfl) (fun H9 hz9 hq9 => hpx_1 hW (fun q h1 _ => hq9 q h1) (Or.inl ⟨by unfold cd_rule; (try dsimp only); rw [if_pos c_3, if_pos c_9, if_pos c_16, if_pos c_24, if_pos c_33, if_pos c_38], rfl⟩)) (Nat.le_of_ble_eq_true rfl) (Nat.le_of_ble_eq_true rfl)

theorem hd_X8_init : yX8_init.cls ≠ "java/lang/invoke/MethodHandle" ∧ yX8_init.cls ≠ "java/lang/invoke/VarHandle" ∧ (parseMethodDescriptor yX8_init.desc).map (fun d => d.parameters.length) = some 7 := ⟨by decide, by decide, by decide +kernel⟩
theorem hkw_X10_step_1_126 : ∀ w ∈ (vx_atS RX10 126 "java/lang/IllegalArgumentException" ["java/lang/RuntimeException", "java/lang/Exception"]).filter goodWord, w ∈ wsX10_step := by decide +kernel
abbrev rmX10_step : Room := { frames := 10, cells := 12, slots := 600, locals := 330 }
theorem iX10_step_X10 : ∀ w ∈ wsX100, w ∈ wsX10_step := by decide +kernel
theorem iX10_step_X8 : ∀ w ∈ wsX80, w ∈ wsX10_step := by decide +kernel
set_option maxHeartbeats 4000000 in
set_option maxRecDepth 100000 in
theorem c_X10_step (E : hk_E) (l : Launch) (hl9 : l.stackTraces = false) (H0 : Heap) {Z : Nat → Prop} {ho ts : Nat} {li : Nat → Nat} {rr : Nat → Nat → Nat} {G : hG} {R : hR} {cn : Nat → Nat} {sc : Nat → Int32} {μ : Nat → Nat → Int32} (hW : HW E Z (ho, li, rr, ts) G R (cn, sc, μ) H0) (hI : InvF (cn, sc, μ)) (hZn : ∀ q, H0.size ≤ q → Z q) {p0 p1 p2 p3 p4 p5 p6 : Int32}  : hk_X E l yX10_step wsX10_step rmX10_step (Z) [.ref ho, .int p0, .int p1, .int p2, .int p3, .int p4, .int p5, .int p6] H0 (hpost E Z (ho, li, rr, ts) (cd_step p0 p1 p2 p3 p4 p5 p6 (cn, sc, μ)) (an_step p0 p1 p2 p3 p4 p5 p6 (cn, sc, μ)) (st_step p0 p1 p2 p3 p4 p5 p6 (cn, sc, μ))) (hpx E Z (ho, li, rr, ts) (cd_step p0 p1 p2 p3 p4 p5 p6 (cn, sc, μ)) (cn, sc, μ) [XI, XA, XS]) := by
  refine hk_X.ofW (cc := cX10_step) (maxL := 13) (ret := (some .int)) (by decide +kernel) rfl (Nat.le_of_ble_eq_true rfl) ?_
  intro p e s m args below meth c ls Q hQ X hr hlk hx9 K hs9 hS hl
  obtain ⟨hx, hb, hml, hown, hts⟩ := id X
  have hAE : ∀ q, (Z) q → hk_A E q := hW.2.2.2.2.2.2.2.2.2.2.2.2
  have hl : lv_has ls 13 [(0, .ref ho), (1, .int p0), (2, .int p1), (3, .int p2), (4, .int p3), (5, .int p4), (6, .int p5), (7, .int p6)] := hl
  have hbase : E.2.2.1 ≤ H0.size := by rw [← hs9]; exact K.2.2.2.2.2.2.2
  have hI9 := hI.1
  have hZA : ∀ q, Z q → hk_A E q := hW.2.2.2.2.2.2.2.2.2.2.2.2
  have hc1 : cn 1 ≤ 12 := hI9.1.1
  have hc8 : cn 8 ≤ 8 := hI9.1.2.1
  have hc12 : cn 12 ≤ 80 := hI9.1.2.2.1
  have hc22 : cn 22 ≤ 8 := hI9.1.2.2.2.1
  have hc29 : cn 29 ≤ 30 := hI9.1.2.2.2.2
  refine lv_aload_n hx hb dX10_step_0 rfl (lv_at hl 0 rfl) ?_
  refine lv_iload_n hx hb dX10_step_1 rfl (lv_at hl 1 rfl) ?_
  refine hk_callVx 1 (As := [.int p0]) (rest := []) X K hAE hS hl.1 (HW.o hW) rfl (c_X10_starAt E l hl9 H0 hW hc1 (i9 := p0)) (fun q h => hZn q (Nat.le_trans (Nat.le_refl _) h)) gX10_step_X10_starAt rfl ⟨rfl, hd_X10_starAt⟩ rfl ⟨⟨(Nat.le_of_ble_eq_true rfl), (Nat.le_of_ble_eq_true rfl)⟩, (Nat.le_of_ble_eq_true rfl), (Nat.le_of_ble_eq_true rfl)⟩ rfl (Nat.le_of_ble_eq_true rfl) dX10_step_2 (fun x9 ce9 q9 H1 locsH1 hp hS hzH1 hkH1 hce hcv hcl => hk_out hx9 hlk hQ hS hce hcv hcl (Nat.le_of_ble_eq_true rfl) (Nat.le_of_ble_eq_true rfl) (hpx_1 hW (fun q h1 h2 => hkH1 q h1 h2) (Or.inl ⟨by unfold cd_step; (try dsimp only); rw [if_neg hp.2], hp.1⟩))) (fun v9 H1 locsH1 hp hS hzH1 hkH1 => ?_)
  obtain ⟨hv, hh⟩ := hp
  obtain ⟨hv, c_2⟩ := hv
  subst hv; subst hh
  refine lv_astore (lv' := [(8, .ref (gad G 2 (ix p0))), (0, .ref ho), (1, .int p0), (2, .int p1), (3, .int p2), (4, .int p3), (5, .int p4), (6, .int p5), (7, .int p6)]) hx hb dX10_step_5 hl (by decide) rfl (fun ls hl => ?_)
  refine lv_aload_n hx hb dX10_step_7 rfl (lv_at hl 1 rfl) ?_
  refine lv_iload_n hx hb dX10_step_8 rfl (lv_at hl 3 rfl) ?_
  refine hk_callVx 1 (As := [.int p1]) (rest := []) X K hAE hS hl.1 (HW.o hW) rfl (c_X10_watcherAt E l hl9 H0 hW (i9 := p1)) (fun q h => hZn q (Nat.le_trans (Nat.le_refl _) h)) gX10_step_X10_watcherAt rfl ⟨rfl, hd_X10_watcherAt⟩ rfl ⟨⟨(Nat.le_of_ble_eq_true rfl), (Nat.le_of_ble_eq_true rfl)⟩, (Nat.le_of_ble_eq_true rfl), (Nat.le_of_ble_eq_true rfl)⟩ rfl (Nat.le_of_ble_eq_true rfl) dX10_step_9 (fun x9 ce9 q9 H2 locsH2 hp hS hzH2 hkH2 hce hcv hcl => hk_out hx9 hlk hQ hS hce hcv hcl (Nat.le_of_ble_eq_true rfl) (Nat.le_of_ble_eq_true rfl) (hpx_1 hW (fun q h1 h2 => hkH2 q h1 h2) (Or.inl ⟨by unfold cd_step; (try dsimp only); rw [if_pos c_2, if_neg hp.2], hp.1⟩))) (fun v9 H2 locsH2 hp hS hzH2 hkH2 => ?_)
  obtain ⟨hv, hh⟩ := hp
  obtain ⟨hv, c_9⟩ := hv
  subst hv; subst hh
  refine lv_astore (lv' := [(9, .ref (gad G 1 (ix p1))), (8, .ref (gad G 2 (ix p0))), (0, .ref ho), (1, .int p0), (2, .int p1), (3, .int p2), (4, .int p3), (5, .int p4), (6, .int p5), (7, .int p6)]) hx hb dX10_step_12 hl (by decide) rfl (fun ls hl => ?_)
  refine lv_aload_n hx hb dX10_step_14 rfl (lv_at hl 2 rfl) ?_
  refine lv_iload hx hb dX10_step_15 (lv_at hl 6 rfl) ?_
  refine hk_callVx 1 (As := [.int p3]) (rest := []) X K hAE hS hl.1 (HW.o hW) rfl (c_X10_comparisonAt E l hl9 H0 hW (i9 := p3)) (fun q h => hZn q (Nat.le_trans (Nat.le_refl _) h)) gX10_step_X10_comparisonAt rfl ⟨rfl, hd_X10_comparisonAt⟩ rfl ⟨⟨(Nat.le_of_ble_eq_true rfl), (Nat.le_of_ble_eq_true rfl)⟩, (Nat.le_of_ble_eq_true rfl), (Nat.le_of_ble_eq_true rfl)⟩ rfl (Nat.le_of_ble_eq_true rfl) dX10_step_17 (fun x9 ce9 q9 H3 locsH3 hp hS hzH3 hkH3 hce hcv hcl => hk_out hx9 hlk hQ hS hce hcv hcl (Nat.le_of_ble_eq_true rfl) (Nat.le_of_ble_eq_true rfl) (hpx_1 hW (fun q h1 h2 => hkH3 q h1 h2) (Or.inl ⟨by unfold cd_step; (try dsimp only); rw [if_pos c_2, if_pos c_9, if_neg hp.2], hp.1⟩))) (fun v9 H3 locsH3 hp hS hzH3 hkH3 => ?_)
  obtain ⟨hv, hh⟩ := hp
  obtain ⟨hv, c_17⟩ := hv
  subst hv; subst hh
  refine lv_astore (lv' := [(10, .ref (gad G 0 (ix p3))), (9, .ref (gad G 1 (ix p1))), (8, .ref (gad G 2 (ix p0))), (0, .ref ho), (1, .int p0), (2, .int p1), (3, .int p2), (4, .int p3), (5, .int p4), (6, .int p5), (7, .int p6)]) hx hb dX10_step_20 hl (by decide) rfl (fun ls hl => ?_)
  refine lv_aload_n hx hb dX10_step_22 rfl (lv_at hl 3 rfl) ?_
  refine lv_iload hx hb dX10_step_23 (lv_at hl 10 rfl) ?_
  refine hk_callVx 1 (As := [.int p6]) (rest := []) X K hAE hS hl.1 (HW.o hW) rfl (c_X10_comparisonAt E l hl9 H0 hW (i9 := p6)) (fun q h => hZn q (Nat.le_trans (Nat.le_refl _) h)) gX10_step_X10_comparisonAt rfl ⟨rfl, hd_X10_comparisonAt⟩ rfl ⟨⟨(Nat.le_of_ble_eq_true rfl), (Nat.le_of_ble_eq_true rfl)⟩, (Nat.le_of_ble_eq_true rfl), (Nat.le_of_ble_eq_true rfl)⟩ rfl (Nat.le_of_ble_eq_true rfl) dX10_step_25 (fun x9 ce9 q9 H4 locsH4 hp hS hzH4 hkH4 hce hcv hcl => hk_out hx9 hlk hQ hS hce hcv hcl (Nat.le_of_ble_eq_true rfl) (Nat.le_of_ble_eq_true rfl) (hpx_1 hW (fun q h1 h2 => hkH4 q h1 h2) (Or.inl ⟨by unfold cd_step; (try dsimp only); rw [if_pos c_2, if_pos c_9, if_pos c_17, if_neg hp.2], hp.1⟩))) (fun v9 H4 locsH4 hp hS hzH4 hkH4 => ?_)
  obtain ⟨hv, hh⟩ := hp
  obtain ⟨hv, c_25⟩ := hv
  subst hv; subst hh
  refine lv_astore (lv' := [(11, .ref (gad G 0 (ix p6))), (10, .ref (gad G 0 (ix p3))), (9, .ref (gad G 1 (ix p1))), (8, .ref (gad G 2 (ix p0))), (0, .ref ho), (1, .int p0), (2, .int p1), (3, .int p2), (4, .int p3), (5, .int p4), (6, .int p5), (7, .int p6)]) hx hb dX10_step_28 hl (by decide) rfl (fun ls hl => ?_)
  refine lv_iload_n hx hb dX10_step_30 rfl (lv_at hl 7 rfl) ?_
  refine lv_iconst (v := 0) hx hb dX10_step_31 (by decide) ?_
  refine lv_ldc hx hb hown (hts (.constant RX10 103 (9999999)) (by decide +kernel)) dX10_step_32 ?_
  refine hk_callSx 3 (As := [.int p2, .int 0, .int 9999999]) (rest := []) X K hAE hS hl.1 (c_X10_needRange E l hl9 H0 (a9 := p2) (lo := 0) (hi := 9999999)) (fun q h => hZn q (Nat.le_trans (Nat.le_refl _) h)) gX10_step_X10_needRange rfl hd_X10_needRange rfl ⟨⟨(Nat.le_of_ble_eq_true rfl), (Nat.le_of_ble_eq_true rfl)⟩, (Nat.le_of_ble_eq_true rfl), (Nat.le_of_ble_eq_true rfl)⟩ rfl (Nat.le_of_ble_eq_true rfl) dX10_step_34 (fun x9 ce9 q9 H5 locsH5 hp hS hzH5 hkH5 hce hcv hcl => hk_out hx9 hlk hQ hS hce hcv hcl (Nat.le_of_ble_eq_true rfl) (Nat.le_of_ble_eq_true rfl) (hpx_1 hW (fun q h1 h2 => hkH5 q h1 h2) (Or.inr (Or.inl ⟨by unfold cd_step; (try dsimp only); rw [if_pos c_2, if_pos c_9, if_pos c_17, if_pos c_25, if_neg hp.2], hp.1⟩)))) (fun v9 H5 locsH5 hp hS hzH5 hkH5 => ?_)
  obtain ⟨hv, hh⟩ := hp
  obtain ⟨hv, c_34⟩ := hv
  subst hv; subst hh
  refine lv_iload hx hb dX10_step_37 (lv_at hl 9 rfl) ?_
  refine lv_iconst (v := 0) hx hb dX10_step_39 (by decide) ?_
  refine lv_bipush (v := 9) hx hb dX10_step_40 (by decide) ?_
  refine hk_callSx 3 (As := [.int p4, .int 0, .int 9]) (rest := []) X K hAE hS hl.1 (c_X10_needRange E l hl9 H0 (a9 := p4) (lo := 0) (hi := 9)) (fun q h => hZn q (Nat.le_trans (Nat.le_refl _) h)) gX10_step_X10_needRange rfl hd_X10_needRange rfl ⟨⟨(Nat.le_of_ble_eq_true rfl), (Nat.le_of_ble_eq_true rfl)⟩, (Nat.le_of_ble_eq_true rfl), (Nat.le_of_ble_eq_true rfl)⟩ rfl (Nat.le_of_ble_eq_true rfl) dX10_step_42 (fun x9 ce9 q9 H6 locsH6 hp hS hzH6 hkH6 hce hcv hcl => hk_out hx9 hlk hQ hS hce hcv hcl (Nat.le_of_ble_eq_true rfl) (Nat.le_of_ble_eq_true rfl) (hpx_1 hW (fun q h1 h2 => hkH6 q h1 h2) (Or.inr (Or.inl ⟨by unfold cd_step; (try dsimp only); rw [if_pos c_2, if_pos c_9, if_pos c_17, if_pos c_25, if_pos c_34, if_neg hp.2], hp.1⟩)))) (fun v9 H6 locsH6 hp hS hzH6 hkH6 => ?_)
  obtain ⟨hv, hh⟩ := hp
  obtain ⟨hv, c_42⟩ := hv
  subst hv; subst hh
  refine lv_iload hx hb dX10_step_45 (lv_at hl 10 rfl) ?_
  refine lv_iconst (v := 0) hx hb dX10_step_47 (by decide) ?_
  refine lv_bipush (v := 9) hx hb dX10_step_48 (by decide) ?_
  refine hk_callSx 3 (As := [.int p5, .int 0, .int 9]) (rest := []) X K hAE hS hl.1 (c_X10_needRange E l hl9 H0 (a9 := p5) (lo := 0) (hi := 9)) (fun q h => hZn q (Nat.le_trans (Nat.le_refl _) h)) gX10_step_X10_needRange rfl hd_X10_needRange rfl ⟨⟨(Nat.le_of_ble_eq_true rfl), (Nat.le_of_ble_eq_true rfl)⟩, (Nat.le_of_ble_eq_true rfl), (Nat.le_of_ble_eq_true rfl)⟩ rfl (Nat.le_of_ble_eq_true rfl) dX10_step_50 (fun x9 ce9 q9 H7 locsH7 hp hS hzH7 hkH7 hce hcv hcl => hk_out hx9 hlk hQ hS hce hcv hcl (Nat.le_of_ble_eq_true rfl) (Nat.le_of_ble_eq_true rfl) (hpx_1 hW (fun q h1 h2 => hkH7 q h1 h2) (Or.inr (Or.inl ⟨by unfold cd_step; (try dsimp only); rw [if_pos c_2, if_pos c_9, if_pos c_17, if_pos c_25, if_pos c_34, if_pos c_42, if_neg hp.2], hp.1⟩)))) (fun v9 H7 locsH7 hp hS hzH7 hkH7 => ?_)
  obtain ⟨hv, hh⟩ := hp
  obtain ⟨hv, c_50⟩ := hv
  subst hv; subst hh
  refine lv_iload hx hb dX10_step_53 (lv_at hl 9 rfl) ?_
  refine lv_iload hx hb dX10_step_55 (lv_at hl 10 rfl) ?_
  refine lv_iadd hx hb dX10_step_57 ?_
  refine lv_if_eq (tgt := 68) hx hb dX10_step_58 (by decide) (fun c_58 => ?_) (fun c_58 => ?_)
  · exact hk_throw (text := "a step needs two comparisons with a way between them") X rfl K hl9 hx9 hlk hQ hS hAE (by decide) (by decide +kernel) (by decide +kernel) (by decide +kernel) hkw_X10_step_1_126 hkb_1 (by decide +kernel) hkg_1_126 hl.1 dX10_step_68 dX10_step_71 dX10_step_72 dX10_step_74 dX10_step_77 (Nat.le_of_ble_eq_true rfl) (Nat.le_of_ble_eq_true rfl) (Nat.le_of_ble_eq_true rfl) (Nat.le_of_ble_eq_true rfl) (fun H9 hz9 hq9 => hpx_1 hW (fun q h1 _ => hq9 q h1) (Or.inr (Or.inl ⟨by unfold cd_step; (try dsimp only); rw [if_pos c_2, if_pos c_9, if_pos c_17, if_pos c_25, if_pos c_34, if_pos c_42, if_pos c_50, if_pos ((sum_le0 c_42 c_50).mpr c_58)], rfl⟩))) (Nat.le_of_ble_eq_true rfl) (Nat.le_of_ble_eq_true rfl)
  · refine lv_iload hx hb dX10_step_61 (lv_at hl 8 rfl) ?_
    refine lv_iload hx hb dX10_step_63 (lv_at hl 11 rfl) ?_
    refine lv_icmp_ne (tgt := 78) hx hb dX10_step_65 (by decide) (fun c_65 => ?_) (fun c_65 => ?_)
    · 
      refine lv_aload_n hx hb dX10_step_78 rfl (lv_at hl 4 rfl) ?_
      refine hk_get (ref := "LightcurveHouse") (v := .ref (li 4)) X K (HW.o hW) rfl iX10_step_X10 4 (by decide) (by decide +kernel) (fun _ h => h) rfl dX10_step_79 ?_
      refine hk_callV 0 (As := []) (rest := []) X K hAE hS hl.1 (HW.l4 hW).1 rfl (c_Jx4a65c_size_8abf5 E l H0 (HW.l4 hW)) (fun _ h => h.elim) gX10_step_Jx4a65c_size_8abf5 rfl ⟨rfl, hd_Jx4a65c_size_8abf5⟩ rfl ⟨⟨(Nat.le_of_ble_eq_true rfl), (Nat.le_of_ble_eq_true rfl)⟩, (Nat.le_of_ble_eq_true rfl), (Nat.le_of_ble_eq_true rfl)⟩ rfl (Nat.le_of_ble_eq_true rfl) dX10_step_82 (fun v9 H8 locsH8 hp hS hzH8 hkH8 => ?_)
      obtain ⟨hv, hh⟩ := hp
      subst hv; subst hh
      refine lv_istore (lv' := [(12, .int (nI (cn 12))), (11, .ref (gad G 0 (ix p6))), (10, .ref (gad G 0 (ix p3))), (9, .ref (gad G 1 (ix p1))), (8, .ref (gad G 2 (ix p0))), (0, .ref ho), (1, .int p0), (2, .int p1), (3, .int p2), (4, .int p3), (5, .int p4), (6, .int p5), (7, .int p6)]) hx hb dX10_step_85 hl (by decide) rfl (fun ls hl => ?_)
      refine lv_iload hx hb dX10_step_87 (lv_at hl 0 rfl) ?_
      refine lv_bipush (v := 80) hx hb dX10_step_89 (by decide) ?_
      refine hk_callSx 2 (As := [.int (nI (cn 12)), .int 80]) (rest := []) X K hAE hS hl.1 (c_X10_needRoom E l hl9 H0 (a9 := nI (cn 12)) (hi := 80)) (fun q h => hZn q (Nat.le_trans (Nat.le_refl _) h)) gX10_step_X10_needRoom rfl hd_X10_needRoom rfl ⟨⟨(Nat.le_of_ble_eq_true rfl), (Nat.le_of_ble_eq_true rfl)⟩, (Nat.le_of_ble_eq_true rfl), (Nat.le_of_ble_eq_true rfl)⟩ rfl (Nat.le_of_ble_eq_true rfl) dX10_step_91 (fun x9 ce9 q9 H9 locsH9 hp hS hzH9 hkH9 hce hcv hcl => hk_out hx9 hlk hQ hS hce hcv hcl (Nat.le_of_ble_eq_true rfl) (Nat.le_of_ble_eq_true rfl) (hpx_1 hW (fun q h1 h2 => hkH9 q h1 h2) (Or.inr (Or.inr ⟨by unfold cd_step; (try dsimp only); rw [if_pos c_2, if_pos c_9, if_pos c_17, if_pos c_25, if_pos c_34, if_pos c_42, if_pos c_50, if_neg (fun g => c_58 ((sum_le0 c_42 c_50).mp g)), if_neg c_65, if_pos (show nI (cn 12) = 80 from full_eq (N := 80) (by decide) hc12 hp.2)], hp.1⟩)))) (fun v9 H9 locsH9 hp hS hzH9 hkH9 => ?_)
      obtain ⟨hv, hh⟩ := hp
      obtain ⟨hv, c_91⟩ := hv
      subst hv; subst hh
      refine lv_aload_n hx hb dX10_step_94 rfl (lv_at hl 5 rfl) ?_
      refine hk_get (ref := "LightcurveHouse") (v := .ref (li 4)) X K (HW.o hW) rfl iX10_step_X10 4 (by decide) (by decide +kernel) (fun _ h => h) rfl dX10_step_95 ?_
      refine hk_new (ci := 8) (fs := [.null, .int 0, .null, .int 0, .null, .int 0, .int 0, .null]) X K rfl iX10_step_X8 tyX8 tyX8_ok (by decide +kernel) (by decide +kernel) (by decide +kernel) hS (fun j hj => by rcases (show j = 0 ∨ j = 1 ∨ j = 2 ∨ j = 3 ∨ j = 4 ∨ j = 5 ∨ j = 6 ∨ j = 7 by omega) with rfl | rfl | rfl | rfl | rfl | rfl | rfl | rfl <;> rfl) (Nat.le_of_ble_eq_true rfl) (Nat.le_of_ble_eq_true rfl) dX10_step_98 (fun H10 hOH10 hzH10 hqH10 hS => ?_)
      obtain ⟨a11, ea11⟩ : ∃ z : Nat, z = H0.size := ⟨_, rfl⟩
      rw [← ea11] at hOH10 ⊢
      refine lv_dup hx hb dX10_step_101 rfl ?_
      refine lv_aload hx hb dX10_step_102 (lv_at hl 4 rfl) ?_
      refine lv_aload hx hb dX10_step_104 (lv_at hl 3 rfl) ?_
      refine lv_iload_n hx hb dX10_step_106 rfl (lv_at hl 8 rfl) ?_
      refine lv_aload hx hb dX10_step_107 (lv_at hl 2 rfl) ?_
      refine lv_iload hx hb dX10_step_109 (lv_at hl 10 rfl) ?_
      refine lv_iload hx hb dX10_step_111 (lv_at hl 11 rfl) ?_
      refine lv_aload hx hb dX10_step_113 (lv_at hl 1 rfl) ?_
      refine hk_callI 7 (As := [.ref (gad G 2 (ix p0)), .ref (gad G 1 (ix p1)), .int p2, .ref (gad G 0 (ix p3)), .int p4, .int p5, .ref (gad G 0 (ix p6))]) (rest := [.ref a11, .ref (li 4)]) X K hAE hS hl.1 (c_X8_init E l H10 hOH10 (hZA _ (hZn _ (by omega)))) (fun q h => by rw [h]; exact hZn _ (by omega)) gX10_step_X8_init rfl (by decide +kernel) (by decide +kernel) (by decide +kernel) rfl hd_X8_init rfl ⟨⟨(Nat.le_of_ble_eq_true rfl), (Nat.le_of_ble_eq_true rfl)⟩, (Nat.le_of_ble_eq_true rfl), (Nat.le_of_ble_eq_true rfl)⟩ rfl (Nat.le_of_ble_eq_true rfl) dX10_step_115 (fun v9 H12 locsH12 hp hS hzH12 hkH12 => ?_)
      obtain ⟨hv, hOH12, hzzH12⟩ := hp
      subst hv
      have hbq : ∀ q : Nat, q < H0.size → H12[q]? = H0[q]? := fun q hq => (hkH12 q (by omega) (by omega)).trans (hqH10 q hq)
      have hWb := hW.kept (H1 := H12) (fun q hq _ => hbq q hq)
      refine hk_callV 1 (As := [.ref a11]) (rest := []) X K hAE hS hl.1 (HW.l4 hWb).1 rfl (c_hadd E l H12 hWb 4 (by decide) (show (cn 12) ≤ 80 by omega) (v := a11) ⟨8, _, _, rfl, by decide +kernel, hOH12⟩ (fun g => by have q9 : li 4 < H0.size := va_at.lt (HW.l4 hW).1; have q8 : a11 = li 4 := g; omega) (Nat.le_trans hbase (by omega))) (HW.addA hWb (j0 := 4) (by decide) (fun q h => hZn q (by omega))) gX10_step_Jx4a65c_add_9ea2d rfl ⟨rfl, hd_Jx4a65c_add_9ea2d⟩ rfl ⟨⟨(Nat.le_of_ble_eq_true rfl), (Nat.le_of_ble_eq_true rfl)⟩, (Nat.le_of_ble_eq_true rfl), (Nat.le_of_ble_eq_true rfl)⟩ rfl (Nat.le_of_ble_eq_true rfl) dX10_step_118 (fun v9 H13 locsH13 hp hS hzH13 hkH13 => ?_)
      obtain ⟨hv, had⟩ := hp
      subst hv
      obtain ⟨G2, hW⟩ := HW.add (S' := st_step p0 p1 p2 p3 p4 p5 p6 (cn, sc, μ)) hW 4 (by decide) (v := a11) (by omega) (by omega) hZn hbq hOH12 had hkH13 rfl (fun j9 h1 h2 => by rcases lt7 h1 with g | g | g | g | g | g | g <;> subst g <;> first | rfl | exact absurd rfl h2) rfl (fun G9 ga => by
        refine ⟨fun j9 i9 h1 h2 => ?_, ?_, ?_⟩
        · have hG := hfs_G hI9 ga h1 h2
          rcases lt7 h1 with g | g | g | g | g | g | g <;> subst g
          · exact ⟨(hfs_c0 (G := G9) (S' := st_step p0 p1 p2 p3 p4 p5 p6 (cn, sc, μ)) (S := (cn, sc, μ)) (i := i9) rfl).1, Eq.trans (hfs_c0 (G := G9) (S' := st_step p0 p1 p2 p3 p4 p5 p6 (cn, sc, μ)) (S := (cn, sc, μ)) (i := i9) rfl).2 hG⟩
          · exact ⟨(hfs_c1 (G := G9) (S' := st_step p0 p1 p2 p3 p4 p5 p6 (cn, sc, μ)) (S := (cn, sc, μ)) (i := i9) rfl rfl).1, Eq.trans (hfs_c1 (G := G9) (S' := st_step p0 p1 p2 p3 p4 p5 p6 (cn, sc, μ)) (S := (cn, sc, μ)) (i := i9) rfl rfl).2 hG⟩
          · exact ⟨(hfs_c2 (G := G9) (S' := st_step p0 p1 p2 p3 p4 p5 p6 (cn, sc, μ)) (S := (cn, sc, μ)) (i := i9) rfl rfl rfl rfl).1, Eq.trans (hfs_c2 (G := G9) (S' := st_step p0 p1 p2 p3 p4 p5 p6 (cn, sc, μ)) (S := (cn, sc, μ)) (i := i9) rfl rfl rfl rfl).2 hG⟩
          · exact ⟨(hfs_c3 (G := G9) (S' := st_step p0 p1 p2 p3 p4 p5 p6 (cn, sc, μ)) (S := (cn, sc, μ)) (i := i9) rfl rfl rfl).1, Eq.trans (hfs_c3 (G := G9) (S' := st_step p0 p1 p2 p3 p4 p5 p6 (cn, sc, μ)) (S := (cn, sc, μ)) (i := i9) rfl rfl rfl).2 hG⟩
          · have g2 : i9 ≠ (cn 12) := by have h3 : i9 < (cn 12) := h2; omega
            refine ⟨?_, Eq.trans ?_ hG⟩
            · show (if upd (μ 13) (cn 12) 0 i9 = 0 then 8 else 2) = (if μ 13 i9 = 0 then 8 else 2)
              rw [upd_ne g2]
            · show (if upd (μ 13) (cn 12) 0 i9 = 0 then [Value.ref (gad G9 2 (ix (upd (μ 14) (cn 12) p0 i9))), Value.int (upd (μ 21) (cn 12) 0 i9), Value.ref (gad G9 1 (ix (upd (μ 15) (cn 12) p1 i9))), Value.int (upd (μ 16) (cn 12) p2 i9), Value.ref (gad G9 0 (ix (upd (μ 17) (cn 12) p3 i9))), Value.int (upd (μ 18) (cn 12) p4 i9), Value.int (upd (μ 19) (cn 12) p5 i9), Value.ref (gad G9 0 (ix (upd (μ 20) (cn 12) p6 i9)))] else [Value.ref (gad G9 2 (ix (upd (μ 14) (cn 12) p0 i9))), Value.int (upd (μ 21) (cn 12) 0 i9), Value.ref (gad G9 3 (ix (upd (μ 15) (cn 12) p1 i9))), Value.int (upd (μ 16) (cn 12) p2 i9)]) = (if μ 13 i9 = 0 then [Value.ref (gad G9 2 (ix (μ 14 i9))), Value.int (μ 21 i9), Value.ref (gad G9 1 (ix (μ 15 i9))), Value.int (μ 16 i9), Value.ref (gad G9 0 (ix (μ 17 i9))), Value.int (μ 18 i9), Value.int (μ 19 i9), Value.ref (gad G9 0 (ix (μ 20 i9)))] else [Value.ref (gad G9 2 (ix (μ 14 i9))), Value.int (μ 21 i9), Value.ref (gad G9 3 (ix (μ 15 i9))), Value.int (μ 16 i9)])
              simp only [upd_ne g2]
          · exact ⟨(hfs_c5 (G := G9) (S' := st_step p0 p1 p2 p3 p4 p5 p6 (cn, sc, μ)) (S := (cn, sc, μ)) (i := i9) rfl rfl rfl rfl rfl rfl).1, Eq.trans (hfs_c5 (G := G9) (S' := st_step p0 p1 p2 p3 p4 p5 p6 (cn, sc, μ)) (S := (cn, sc, μ)) (i := i9) rfl rfl rfl rfl rfl rfl).2 hG⟩
          · exact ⟨(hfs_c6 (G := G9) (S' := st_step p0 p1 p2 p3 p4 p5 p6 (cn, sc, μ)) (S := (cn, sc, μ)) (i := i9) rfl rfl).1, Eq.trans (hfs_c6 (G := G9) (S' := st_step p0 p1 p2 p3 p4 p5 p6 (cn, sc, μ)) (S := (cn, sc, μ)) (i := i9) rfl rfl).2 hG⟩
        · show (if upd (μ 13) (cn 12) 0 (cn 12) = 0 then 8 else 2) = _
          rw [upd_at]; exact if_pos rfl
        · show (if upd (μ 13) (cn 12) 0 (cn 12) = 0 then [Value.ref (gad G9 2 (ix (upd (μ 14) (cn 12) p0 (cn 12)))), Value.int (upd (μ 21) (cn 12) 0 (cn 12)), Value.ref (gad G9 1 (ix (upd (μ 15) (cn 12) p1 (cn 12)))), Value.int (upd (μ 16) (cn 12) p2 (cn 12)), Value.ref (gad G9 0 (ix (upd (μ 17) (cn 12) p3 (cn 12)))), Value.int (upd (μ 18) (cn 12) p4 (cn 12)), Value.int (upd (μ 19) (cn 12) p5 (cn 12)), Value.ref (gad G9 0 (ix (upd (μ 20) (cn 12) p6 (cn 12))))] else [Value.ref (gad G9 2 (ix (upd (μ 14) (cn 12) p0 (cn 12)))), Value.int (upd (μ 21) (cn 12) 0 (cn 12)), Value.ref (gad G9 3 (ix (upd (μ 15) (cn 12) p1 (cn 12)))), Value.int (upd (μ 16) (cn 12) p2 (cn 12))]) = [Value.ref (gad G 2 (ix p0)), Value.int 0, Value.ref (gad G 1 (ix p1)), Value.int p2, Value.ref (gad G 0 (ix p3)), Value.int p4, Value.int p5, Value.ref (gad G 0 (ix p6))]
          rw [upd_at (f := μ 13), if_pos rfl]
          simp only [upd_at]
          rw [ga 2 _ (by decide) (isS_xl c_2 (show cn 1 < 2 ^ 31 by omega))]
          rw [ga 1 _ (by decide) (inr_lt (N := 7) (by decide) c_9)]
          rw [ga 0 _ (by decide) (inr_lt (N := 9) (by decide) c_17)]
          rw [ga 0 _ (by decide) (inr_lt (N := 9) (by decide) c_25)]
        )
      refine lv_pop hx hb dX10_step_121 rfl ?_
      refine lv_iload hx hb dX10_step_122 (lv_at hl 0 rfl) ?_
      exact hk_iretx X hr hlk hQ hS (Nat.le_of_ble_eq_true rfl) (Nat.le_of_ble_eq_true rfl) dX10_step_124 (⟨by unfold cd_step; (try dsimp only); rw [if_pos c_2, if_pos c_9, if_pos c_17, if_pos c_25, if_pos c_34, if_pos c_42, if_pos c_50, if_neg (fun g => c_58 ((sum_le0 c_42 c_50).mp g)), if_neg c_65, if_neg (show ¬ nI (cn 12) = 80 from full_ne (N := 80) (by decide) hc12 c_91)], rfl, _, _, hW⟩)
    · 
      exact hk_throw (text := "a step needs two comparisons with a way between them") X rfl K hl9 hx9 hlk hQ hS hAE (by decide) (by decide +kernel) (by decide +kernel) (by decide +kernel) hkw_X10_step_1_126 hkb_1 (by decide +kernel) hkg_1_126 hl.1 dX10_step_68 dX10_step_71 dX10_step_72 dX10_step_74 dX10_step_77 (Nat.le_of_ble_eq_true rfl) (Nat.le_of_ble_eq_true rfl) (Nat.le_of_ble_eq_true rfl) (Nat.le_of_ble_eq_true rfl) (fun H9 hz9 hq9 => hpx_1 hW (fun q h1 _ => hq9 q h1) (Or.inr (Or.inl ⟨by unfold cd_step; (try dsimp only); rw [if_pos c_2, if_pos c_9, if_pos c_17, if_pos c_25, if_pos c_34, if_pos c_42, if_pos c_50, if_neg (fun g => c_58 ((sum_le0 c_42 c_50).mp g)), if_pos c_65], rfl⟩))) (Nat.le_of_ble_eq_true rfl) (Nat.le_of_ble_eq_true rfl)

