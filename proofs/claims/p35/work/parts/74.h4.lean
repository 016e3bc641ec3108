theorem lt7 {j : Nat} (h : j < 7) : j = 0 ∨ j = 1 ∨ j = 2 ∨ j = 3 ∨ j = 4 ∨ j = 5 ∨ j = 6 := by omega
theorem HW.el {E : hk_E} {Z : Nat → Prop} {C : hC} {G : hG} {R : hR} {S : mS} {H : Heap} (h : HW E Z C G R S H) {j i : Nat} (hj : j < 7) (hi : i < hn S j) : hk_el E (gad G j i) H := by
  have q := h.2.2.2.2.1 j hj i hi
  rcases lt7 hj with e | e | e | e | e | e | e <;> subst e
  · exact ⟨1, _, _, rfl, by decide +kernel, q⟩
  · exact ⟨9, _, _, rfl, by decide +kernel, q⟩
  · exact ⟨7, _, _, rfl, by decide +kernel, q⟩
  · exact ⟨4, _, _, rfl, by decide +kernel, q⟩
  · by_cases hs : S.2.2 13 i = 0
    · rw [show hci S 4 i = 8 from if_pos hs] at q
      exact ⟨8, _, _, rfl, by decide +kernel, q⟩
    · rw [show hci S 4 i = 2 from if_neg hs] at q
      exact ⟨2, _, _, rfl, by decide +kernel, q⟩
  · exact ⟨6, _, _, rfl, by decide +kernel, q⟩
  · exact ⟨3, _, _, rfl, by decide +kernel, q⟩
theorem c_hadd (E : hk_E) (l : Launch) (H0 : Heap) {Z : Nat → Prop} {C : hC} {G : hG} {R : hR} {S : mS} (h : HW E Z C G R S H0) (j0 : Nat) (hj0 : j0 < 7) (hlt : hn S j0 ≤ 80) {v : Nat} (hv9 : hk_el E v H0) (hvL : v ≠ C.2.1 j0) (hbase : E.2.2.1 ≤ H0.size) :
    hk_M E l yJx4a65c_add_9ea2d wsJx4a65c_add_9ea2d rmlist_add (fun q => q = C.2.1 j0 ∨ (q = G.1 j0 ∧ hn S j0 < G.2.1 j0) ∨ H0.size ≤ q) [.ref (C.2.1 j0), .ref v] H0 (fun z H1 => z = some (.int 1) ∧ hk_ad E (C.2.1 j0) (G.1 j0) (hn S j0) (G.2.1 j0) (G.2.2.1 j0 + 1) (gad G j0) v H0 H1) := by
  obtain ⟨t1, t2, t3, t4, t5, t6, t7, t8⟩ := h.2.2.2.2.2
  have hne : C.2.1 j0 ≠ G.1 j0 := fun g => by
    rcases t3 j0 hj0 with k | k
    · have k1 := (t2 j0 hj0).1
      rw [g, k.2.2.2.1] at k1
      exact absurd (congrArg Prod.fst k1) (by show ¬ 2 = 1; decide)
    · exact t7 (by rw [← k.2.2, ← g]; exact t8 _ (t2 j0 hj0).2)
  refine c_list_add E l H0 (h.2.1 j0 hj0) (t8 _ (t2 j0 hj0).2) hbase (fun q => ?_) hne (fun i hi => h.el hj0 hi) hv9 hvL (fun i hi g => ?_) ?_
  · rcases t3 j0 hj0 with k | k
    · exact t8 _ k.2.2.2.2
    · exact absurd q (by omega)
  · have k1 := (t2 j0 hj0).1
    rw [← g, (t6 j0 hj0 i hi).1] at k1
    exact absurd (congrArg Prod.fst k1) (by show ¬ 10 + j0 = 1; omega)
  · rcases t3 j0 hj0 with k | k
    · by_cases g : hn S j0 < G.2.1 j0
      · exact Or.inl ⟨g, by omega, k.2.1⟩
      · exact Or.inr (Or.inr ⟨by omega, k.2.1, by omega⟩)
    · exact Or.inr (Or.inl k)
/-- what of the elements' fields names other elements: these are old -/
theorem hfs_G {cn : Nat → Nat} {sc : Nat → Int32} {μ : Nat → Nat → Int32} {G G' : hG} (hI : Inv (cn, sc, μ)) (ga : ∀ j i, j < 7 → i < hn (cn, sc, μ) j → gad G' j i = gad G j i) {j i : Nat} (hj : j < 7) (hi : i < hn (cn, sc, μ) j) : hfs G' (cn, sc, μ) j i = hfs G (cn, sc, μ) j i := by
  have hc1 : cn 1 ≤ 12 := hI.1.1
  have hc8 : cn 8 ≤ 8 := hI.1.2.1
  rcases lt7 hj with e | e | e | e | e | e | e <;> subst e
  · rfl
  · rfl
  · rfl
  · rfl
  · have hi2 : i < cn 12 := hi
    by_cases hs : μ 13 i = 0
    · have L := lk8 hI hi2 hs
      have e1 : ∀ G9 : hG, hfs G9 (cn, sc, μ) 4 i = [.ref (gad G9 2 (ix (μ 14 i))), .int (μ 21 i), .ref (gad G9 1 (ix (μ 15 i))), .int (μ 16 i), .ref (gad G9 0 (ix (μ 17 i))), .int (μ 18 i), .int (μ 19 i), .ref (gad G9 0 (ix (μ 20 i)))] := fun _ => if_pos hs
      rw [e1, e1, ga 2 _ (by decide) (isS_xl L.1 (show cn 1 < 2 ^ 31 by omega)), ga 1 _ (by decide) (inr_lt (N := 7) (by decide) L.2.1), ga 0 _ (by decide) (inr_lt (N := 9) (by decide) L.2.2.2.1), ga 0 _ (by decide) (inr_lt (N := 9) (by decide) L.2.2.2.2.2.2.2)]
    · have L := lk9 hI hi2 hs
      have e1 : ∀ G9 : hG, hfs G9 (cn, sc, μ) 4 i = [.ref (gad G9 2 (ix (μ 14 i))), .int (μ 21 i), .ref (gad G9 3 (ix (μ 15 i))), .int (μ 16 i)] := fun _ => if_neg hs
      rw [e1, e1, ga 2 _ (by decide) (isS_xl L.1 (show cn 1 < 2 ^ 31 by omega)), ga 3 _ (by decide) (isS_xl L.2.2.1 (show cn 8 < 2 ^ 31 by omega))]
  · rfl
  · have hi2 : i < cn 29 := hi
    have L := (hI.2.2.2.2.2.2.2 i hi2).1
    show [Value.ref (gad G' 2 (ix (μ 30 i))), Value.int (μ 31 i)] = [Value.ref (gad G 2 (ix (μ 30 i))), Value.int (μ 31 i)]
    rw [ga 2 _ (by decide) (isS_xl L (show cn 1 < 2 ^ 31 by omega))]
theorem full_eq {n N : Nat} (hN : N < 2 ^ 31) (hn : n ≤ N) (h : ¬ nI n < nI N) : nI n = nI N := by
  have h2 : ¬ n < N := fun g => h (nI_lt g hN)
  rw [show n = N by omega]
theorem full_ne {n N : Nat} (hN : N < 2 ^ 31) (hn : n ≤ N) (h : nI n < nI N) : ¬ nI n = nI N := fun g => by
  rw [g] at h
  exact Int32.lt_irrefl h

theorem hd_X10_comparisonAt : yX10_comparisonAt.cls ≠ "java/lang/invoke/MethodHandle" ∧ yX10_comparisonAt.cls ≠ "java/lang/invoke/VarHandle" ∧ (parseMethodDescriptor yX10_comparisonAt.desc).map (fun d => d.parameters.length) = some 1 := ⟨by decide, by decide, by decide +kernel⟩
abbrev rmX10_comparison : Room := { frames := 10, cells := 8, slots := 400, locals := 175 }
theorem iX10_comparison_X0 : ∀ w ∈ wsX00, w ∈ wsX10_comparison := by decide +kernel
set_option maxHeartbeats 4000000 in
set_option maxRecDepth 100000 in
theorem c_X10_comparison (E : hk_E) (l : Launch) (hl9 : l.stackTraces = false) (H0 : Heap) {Z : Nat → Prop} {ho ts : Nat} {li : Nat → Nat} {rr : Nat → Nat → Nat} {G : hG} {R : hR} {cn : Nat → Nat} {sc : Nat → Int32} {μ : Nat → Nat → Int32} (hW : HW E Z (ho, li, rr, ts) G R (cn, sc, μ) H0) (hI : InvF (cn, sc, μ)) (hZn : ∀ q, H0.size ≤ q → Z q) {p0 p1 : Int32}  : hk_X E l yX10_comparison wsX10_comparison rmX10_comparison (Z) [.ref ho, .int p0, .int p1] H0 (hpost E Z (ho, li, rr, ts) (cd_comparison p0 p1 (cn, sc, μ)) (an_comparison p0 p1 (cn, sc, μ)) (st_comparison p0 p1 (cn, sc, μ))) (hpx E Z (ho, li, rr, ts) (cd_comparison p0 p1 (cn, sc, μ)) (cn, sc, μ) [XI, XA]) := by
  refine hk_X.ofW (cc := cX10_comparison) (maxL := 5) (ret := (some .int)) (by decide +kernel) rfl (Nat.le_of_ble_eq_true rfl) ?_
  intro p e s m args below meth c ls Q hQ X hr hlk hx9 K hs9 hS hl
  obtain ⟨hx, hb, hml, hown, hts⟩ := id X
  have hAE : ∀ q, (Z) q → hk_A E q := hW.2.2.2.2.2.2.2.2.2.2.2.2
  have hl : lv_has ls 5 [(0, .ref ho), (1, .int p0), (2, .int p1)] := hl
  have hI9 := hI.1
  have hZA : ∀ q, Z q → hk_A E q := hW.2.2.2.2.2.2.2.2.2.2.2.2
  have hc1 : cn 1 ≤ 12 := hI9.1.1
  have hc8 : cn 8 ≤ 8 := hI9.1.2.1
  have hc12 : cn 12 ≤ 80 := hI9.1.2.2.1
  have hc22 : cn 22 ≤ 8 := hI9.1.2.2.2.1
  have hc29 : cn 29 ≤ 30 := hI9.1.2.2.2.2
  refine lv_aload_n hx hb dX10_comparison_0 rfl (lv_at hl 0 rfl) ?_
  refine lv_iload_n hx hb dX10_comparison_1 rfl (lv_at hl 1 rfl) ?_
  refine hk_callVx 1 (As := [.int p0]) (rest := []) X K hAE hS hl.1 (HW.o hW) rfl (c_X10_comparisonAt E l hl9 H0 hW (i9 := p0)) (fun q h => hZn q (Nat.le_trans (Nat.le_refl _) h)) gX10_comparison_X10_comparisonAt rfl ⟨rfl, hd_X10_comparisonAt⟩ rfl ⟨⟨(Nat.le_of_ble_eq_true rfl), (Nat.le_of_ble_eq_true rfl)⟩, (Nat.le_of_ble_eq_true rfl), (Nat.le_of_ble_eq_true rfl)⟩ rfl (Nat.le_of_ble_eq_true rfl) dX10_comparison_2 (fun x9 ce9 q9 H1 locsH1 hp hS hzH1 hkH1 hce hcv hcl => hk_out hx9 hlk hQ hS hce hcv hcl (Nat.le_of_ble_eq_true rfl) (Nat.le_of_ble_eq_true rfl) (hpx_1 hW (fun q h1 h2 => hkH1 q h1 h2) (Or.inl ⟨by unfold cd_comparison; (try dsimp only); rw [if_neg hp.2], hp.1⟩))) (fun v9 H1 locsH1 hp hS hzH1 hkH1 => ?_)
  obtain ⟨hv, hh⟩ := hp
  obtain ⟨hv, c_2⟩ := hv
  subst hv; subst hh
  refine lv_astore_n (lv' := [(3, .ref (gad G 0 (ix p0))), (0, .ref ho), (1, .int p0), (2, .int p1)]) hx hb dX10_comparison_5 rfl hl (by decide) rfl (fun ls hl => ?_)
  refine lv_iload_n hx hb dX10_comparison_6 rfl (lv_at hl 3 rfl) ?_
  refine lv_sipush (v := (-200)) hx hb dX10_comparison_7 (by decide) ?_
  refine lv_sipush (v := 2000) hx hb dX10_comparison_10 (by decide) ?_
  refine hk_callSx 3 (As := [.int p1, .int (-200), .int 2000]) (rest := []) X K hAE hS hl.1 (c_X10_needRange E l hl9 H0 (a9 := p1) (lo := (-200)) (hi := 2000)) (fun q h => hZn q (Nat.le_trans (Nat.le_refl _) h)) gX10_comparison_X10_needRange rfl hd_X10_needRange rfl ⟨⟨(Nat.le_of_ble_eq_true rfl), (Nat.le_of_ble_eq_true rfl)⟩, (Nat.le_of_ble_eq_true rfl), (Nat.le_of_ble_eq_true rfl)⟩ rfl (Nat.le_of_ble_eq_true rfl) dX10_comparison_13 (fun x9 ce9 q9 H2 locsH2 hp hS hzH2 hkH2 hce hcv hcl => hk_out hx9 hlk hQ hS hce hcv hcl (Nat.le_of_ble_eq_true rfl) (Nat.le_of_ble_eq_true rfl) (hpx_1 hW (fun q h1 h2 => hkH2 q h1 h2) (Or.inr (Or.inl ⟨by unfold cd_comparison; (try dsimp only); rw [if_pos c_2, if_neg hp.2], hp.1⟩)))) (fun v9 H2 locsH2 hp hS hzH2 hkH2 => ?_)
  obtain ⟨hv, hh⟩ := hp
  obtain ⟨hv, c_13⟩ := hv
  subst hv; subst hh
  refine lv_aload_n hx hb dX10_comparison_16 rfl (lv_at hl 0 rfl) ?_
  refine hk_get (ref := "LightcurveHouse$Comparison") (v := .int (μ 0 (ix p0))) X K (HW.e0 hW (inr_lt (N := 9) (by decide) c_2)) rfl iX10_comparison_X0 0 (by decide) (by decide +kernel) (fun _ h => h) rfl dX10_comparison_17 ?_
  refine lv_istore (lv' := [(4, .int (μ 0 (ix p0))), (3, .ref (gad G 0 (ix p0))), (0, .ref ho), (1, .int p0), (2, .int p1)]) hx hb dX10_comparison_20 hl (by decide) rfl (fun ls hl => ?_)
  refine lv_aload_n hx hb dX10_comparison_22 rfl (lv_at hl 1 rfl) ?_
  refine lv_iload_n hx hb dX10_comparison_23 rfl (lv_at hl 4 rfl) ?_
  refine hk_put (ref := "LightcurveHouse$Comparison") X K (HW.e0 hW (inr_lt (N := 9) (by decide) c_2)) rfl iX10_comparison_X0 tyX0 tyX0_ok nmX0 hS ((hW.2.2.2.2.2.2.2.2.2.2.1 0 (by decide) _ (inr_lt (N := 9) (by decide) c_2)).2) 0 (by decide) (by decide +kernel) (fun _ h => h) (by decide +kernel) rfl rfl (Nat.le_of_ble_eq_true rfl) dX10_comparison_24 (fun H3 locsH3 hOH3 hzH3 hqH3 hS => ?_)
  have hW := HW.put (S' := st_comparison p0 p1 (cn, sc, μ)) hW 0 (ix p0) (by decide) (inr_lt (N := 9) (by decide) c_2) (by show hk_O E _ 1 [.int (upd (μ 0) (ix p0) p1 (ix p0))] _; rw [upd_at]; exact hOH3) hqH3 (fun j9 => by rcases j9 with _ | _ | _ | _ | _ | _ | _ <;> rfl) (fun j9 i9 h1 h2 h3 => by
    rcases lt7 h1 with g | g | g | g | g | g | g <;> subst g
    · have g2 : i9 ≠ (ix p0) := h3.resolve_left (fun g => g rfl)
      exact ⟨rfl, by show [Value.int (upd (μ 0) (ix p0) p1 i9)] = [Value.int (μ 0 i9)]; rw [upd_ne g2]⟩
    · exact ⟨rfl, rfl⟩
    · exact ⟨rfl, rfl⟩
    · exact ⟨rfl, rfl⟩
    · exact ⟨rfl, rfl⟩
    · exact ⟨rfl, rfl⟩
    · exact ⟨rfl, rfl⟩
    ) rfl
  refine lv_iload hx hb dX10_comparison_27 (lv_at hl 0 rfl) ?_
  exact hk_iretx X hr hlk hQ hS (Nat.le_of_ble_eq_true rfl) (Nat.le_of_ble_eq_true rfl) dX10_comparison_29 (⟨by unfold cd_comparison; (try dsimp only); rw [if_pos c_2, if_pos c_13], rfl, _, _, hW⟩)

