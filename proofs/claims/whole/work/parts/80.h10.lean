theorem HW.rx {E : hk_E} {Z : Nat → Prop} {C : hC} {G : hG} {R : hR} {S : mS} {H : Heap} (h : HW E Z C G R S H) (r : Nat) (hr : r < 4) : (hk_A E (C.2.2.1 r 0) ∧ hk_A E (C.2.2.1 r 1) ∧ hk_A E (C.2.2.1 r 2)) ∧ (C.2.2.1 r 0 ≠ C.2.2.1 r 1 ∧ C.2.2.1 r 0 ≠ C.2.2.1 r 2 ∧ C.2.2.1 r 1 ≠ C.2.2.1 r 2) ∧ Z (C.2.2.1 r 0) ∧ Z (C.2.2.1 r 1) ∧ Z (C.2.2.1 r 2) := by
  obtain ⟨t1, t2, t3, t4, t5, t6, t7, t8⟩ := h.2.2.2.2.2
  have a0 := t4 r hr 0 (by decide)
  have a1 := t4 r hr 1 (by decide)
  have a2 := t4 r hr 2 (by decide)
  refine ⟨⟨t8 _ a0.2, t8 _ a1.2, t8 _ a2.2⟩, ⟨fun g => ?_, fun g => ?_, fun g => ?_⟩, a0.2, a1.2, a2.2⟩
  · rw [g, a1.1] at a0; exact absurd (congrArg Prod.fst a0.1) (by show ¬ 3 + 1 = 3 + 0; decide)
  · rw [g, a2.1] at a0; exact absurd (congrArg Prod.fst a0.1) (by show ¬ 3 + 2 = 3 + 0; decide)
  · rw [g, a2.1] at a1; exact absurd (congrArg Prod.fst a1.1) (by show ¬ 3 + 2 = 3 + 1; decide)
theorem HW.row2 {E : hk_E} {Z : Nat → Prop} {C : hC} {G : hG} {R : hR} {S : mS} {H H1 : Heap} {r0 n0 : Nat} {k0 v0 : Nat → Int32} (h : HW E Z C G (va_up R.1 r0 n0, va_up R.2.1 r0 k0, va_up R.2.2.1 r0 v0, R.2.2.2) S H) (hr0 : r0 < 4) {n : Nat} {k v : Nat → Int32}
    (hrow : hk_row E (C.2.2.1 r0 0) (C.2.2.1 r0 1) (C.2.2.1 r0 2) (rlen r0) n k v H1) (hn1 : n ≤ rlen r0) (hq : ∀ q : Nat, q < H.size → ¬ (q = C.2.2.1 r0 0 ∨ q = C.2.2.1 r0 1 ∨ q = C.2.2.1 r0 2) → H1[q]? = H[q]?) : HW E Z C G (va_up R.1 r0 n, va_up R.2.1 r0 k, va_up R.2.2.1 r0 v, R.2.2.2) S H1 := by
  have q := h.row r0 hr0 hrow hn1 hq
  have e1 : va_up (va_up R.1 r0 n0) r0 n = va_up R.1 r0 n := va_up2
  have e2 : va_up (va_up R.2.1 r0 k0) r0 k = va_up R.2.1 r0 k := va_up2
  have e3 : va_up (va_up R.2.2.1 r0 v0) r0 v = va_up R.2.2.1 r0 v := va_up2
  show HW E Z C G (va_up R.1 r0 n, va_up R.2.1 r0 k, va_up R.2.2.1 r0 v, R.2.2.2) S H1
  rw [← e1, ← e2, ← e3]
  exact q
theorem sSort_len {t : Nat → Int32} {L : List Nat} : (sSort t [] L).length = L.length := (sSort_perm t L []).length_eq
theorem selp_yes {μ : Nat → Nat → Int32} {e1 e2 : Int32} {k : Nat} (h : selp μ e1 e2 k) : sp_sel μ e1 e2 (k + 1) = sp_sel μ e1 e2 k ++ [k] := if_pos h
theorem selp_no {μ : Nat → Nat → Int32} {e1 e2 : Int32} {k : Nat} (h : ¬ selp μ e1 e2 k) : sp_sel μ e1 e2 (k + 1) = sp_sel μ e1 e2 k := if_neg h
theorem hd_X5_add : yX5_add.cls ≠ "java/lang/invoke/MethodHandle" ∧ yX5_add.cls ≠ "java/lang/invoke/VarHandle" ∧ (parseMethodDescriptor yX5_add.desc).map (fun d => d.parameters.length) = some 2 := ⟨by decide, by decide, by decide +kernel⟩
theorem hd_X5_clear : yX5_clear.cls ≠ "java/lang/invoke/MethodHandle" ∧ yX5_clear.cls ≠ "java/lang/invoke/VarHandle" ∧ (parseMethodDescriptor yX5_clear.desc).map (fun d => d.parameters.length) = some 0 := ⟨by decide, by decide, by decide +kernel⟩
abbrev rmX10_gatherCurve : Room := { frames := 9, cells := 0, slots := 0, locals := 154 }
theorem iX10_gatherCurve_X1 : ∀ w ∈ wsX10, w ∈ wsX10_gatherCurve := by decide +kernel
theorem iX10_gatherCurve_X10 : ∀ w ∈ wsX100, w ∈ wsX10_gatherCurve := by decide +kernel
theorem iX10_gatherCurve_X7 : ∀ w ∈ wsX70, w ∈ wsX10_gatherCurve := by decide +kernel
theorem iX10_gatherCurve_X8 : ∀ w ∈ wsX80, w ∈ wsX10_gatherCurve := by decide +kernel
set_option maxHeartbeats 4000000 in
set_option maxRecDepth 100000 in
theorem c_X10_gatherCurve (E : hk_E) (l : Launch) (H0 : Heap) {Z : Nat → Prop} {ho ts : Nat} {li : Nat → Nat} {rr : Nat → Nat → Nat} {G : hG} {R : hR} {cn : Nat → Nat} {sc : Nat → Int32} {μ : Nat → Nat → Int32} (hW : HW E Z (ho, li, rr, ts) G R (cn, sc, μ) H0) (hI : Inv (cn, sc, μ)) {e1 e2 : Int32}  : hk_M E l yX10_gatherCurve wsX10_gatherCurve rmX10_gatherCurve (fun q => q = rr 0 0 ∨ q = rr 0 1 ∨ q = rr 0 2) [.ref ho, .int e1, .int e2] H0 (fun z H1 => z = none ∧ (∃ (n9 : Nat) (k9 v9 : Nat → Int32), HW E Z (ho, li, rr, ts) G (va_up R.1 0 n9, va_up R.2.1 0 k9, va_up R.2.2.1 0 v9, R.2.2.2) (cn, sc, μ) H1 ∧ row_up n9 k9 ∧ rowL n9 k9 v9 (sSort (sp_time μ) [] (sp_sel μ e1 e2 (cn 12))) (sp_time μ) (sp_light μ)) ∧ H1.size = H0.size) := by
  refine hk_M.ofW (cc := cX10_gatherCurve) (maxL := 6) (ret := none) (by decide +kernel) rfl (Nat.le_of_ble_eq_true rfl) ?_
  intro p e s m args below meth c ls Q hQ X hr hlk hnm K hs9 hS hl
  obtain ⟨hx, hb, hml, hown, hts⟩ := id X
  have hAE : ∀ q, (fun q => q = rr 0 0 ∨ q = rr 0 1 ∨ q = rr 0 2) q → hk_A E q := fun q h => by rcases h with h | h | h <;> rw [h]; exact (HW.rx hW 0 (by decide)).1.1; exact (HW.rx hW 0 (by decide)).1.2.1; exact (HW.rx hW 0 (by decide)).1.2.2
  have hl : lv_has ls 6 [(0, .ref ho), (1, .int e1), (2, .int e2)] := hl
  have hc1 : cn 1 ≤ 12 := hI.1.1
  have hc8 : cn 8 ≤ 8 := hI.1.2.1
  have hc12 : cn 12 ≤ 80 := hI.1.2.2.1
  have hc22 : cn 22 ≤ 8 := hI.1.2.2.2.1
  have hc29 : cn 29 ≤ 30 := hI.1.2.2.2.2
  have hI9 := hI
  refine lv_aload_n hx hb dX10_gatherCurve_0 rfl (lv_at hl 0 rfl) ?_
  refine hk_get (ref := "LightcurveHouse") (v := .ref (rr 0 0)) X K (HW.o hW) rfl iX10_gatherCurve_X10 8 (by decide) (by decide +kernel) (fun _ h => h) rfl dX10_gatherCurve_1 ?_
  refine hk_callV 0 (As := []) (rest := []) X K hAE hS hl.1 (HW.r0 hW).1.1 rfl (c_X5_clear E l H0 (HW.r0 hW).1 (HW.rx hW 0 (by decide)).1.1 (HW.rx hW 0 (by decide)).2.1.1 (HW.rx hW 0 (by decide)).2.1.2.1) (fun q h => Or.inl h) gX10_gatherCurve_X5_clear rfl ⟨rfl, hd_X5_clear⟩ rfl ⟨⟨(Nat.le_of_ble_eq_true rfl), (Nat.le_of_ble_eq_true rfl)⟩, (Nat.le_of_ble_eq_true rfl), (Nat.le_of_ble_eq_true rfl)⟩ rfl (Nat.le_of_ble_eq_true rfl) dX10_gatherCurve_4 (fun v9 H1 locsH1 hp hS hzH1 hkH1 => ?_)
  obtain ⟨hv, hrw, hszH1⟩ := hp
  subst hv
  have hW := HW.row hW 0 (by decide) hrw (Nat.zero_le _) (fun q h1 h2 => hkH1 q h1 (fun e => h2 (Or.inl e)))
  refine lv_iconst (v := 0) hx hb dX10_gatherCurve_7 (by decide) ?_
  refine lv_topi (fun z_2 ez_2 => ?_)
  have ez_2 : z_2 = nI 0 := ez_2
  subst ez_2
  refine lv_istore_n (lv' := [(3, .int (nI 0)), (0, .ref ho), (1, .int e1), (2, .int e2)]) hx hb dX10_gatherCurve_8 rfl hl (by decide) rfl (fun ls hl => ?_)
  have L9 : ∀ (n8 : Nat) (k n9 : Nat) (k9 v9 : Nat → Int32) (H : Heap) (locs : List Loc), cn 12 + 1 ≤ k + n8 → (va_S (fun q => q = rr 0 0 ∨ q = rr 0 1 ∨ q = rr 0 2) s.heap H locs ∧ k ≤ cn 12 ∧ HW E Z (ho, li, rr, ts) G (va_up R.1 0 n9, va_up R.2.1 0 k9, va_up R.2.2.1 0 v9, R.2.2.2) (cn, sc, μ) H ∧ row_up n9 k9 ∧ rowL n9 k9 v9 (sSort (sp_time μ) [] (sp_sel μ e1 e2 k)) (sp_time μ) (sp_light μ) ∧ H.size = H0.size) → ∀ (ls : Array Slot), lv_has ls 6 [(3, .int (nI k)), (0, .ref ho), (1, .int e1), (2, .int e2)] → W p l e rmX10_gatherCurve s m args below meth c H locs 0 0 Q (F0 m 9 ls []) := by
    intro n8
    induction n8 with
    | zero =>
      intro k n9 k9 v9 H locs hm hinv ls hl
      obtain ⟨hS, hinv⟩ := hinv
      obtain ⟨hi1, hW, hup, hrl, hz9⟩ := hinv
      have hr9 : hk_row E (rr 0 0) (rr 0 1) (rr 0 2) 80 n9 k9 v9 H ∧ n9 ≤ 80 := HW.r0 hW
      have hlt9 : n9 ≤ k := by rw [hrl.1, sSort_len]; exact sp_sel_le k
      exact absurd hm (by omega)
    | succ n8 ih =>
      intro k n9 k9 v9 H locs hm hinv ls hl
      obtain ⟨hS, hinv⟩ := hinv
      obtain ⟨hi1, hW, hup, hrl, hz9⟩ := hinv
      have hr9 : hk_row E (rr 0 0) (rr 0 1) (rr 0 2) 80 n9 k9 v9 H ∧ n9 ≤ 80 := HW.r0 hW
      have hlt9 : n9 ≤ k := by rw [hrl.1, sSort_len]; exact sp_sel_le k
      refine lv_iload_n hx hb dX10_gatherCurve_9 rfl (lv_at hl 0 rfl) ?_
      refine lv_aload_n hx hb dX10_gatherCurve_10 rfl (lv_at hl 1 rfl) ?_
      refine hk_get (ref := "LightcurveHouse") (v := .ref (li 4)) X K (HW.o hW) rfl iX10_gatherCurve_X10 4 (by decide) (by decide +kernel) (fun _ h => h) rfl dX10_gatherCurve_11 ?_
      refine hk_callV 0 (As := []) (rest := [.int (nI k)]) X K hAE hS hl.1 (HW.l4 hW).1 rfl (c_Jx4a65c_size_8abf5 E l H (HW.l4 hW)) (fun _ h => h.elim) gX10_gatherCurve_Jx4a65c_size_8abf5 rfl ⟨rfl, hd_Jx4a65c_size_8abf5⟩ rfl ⟨⟨(Nat.le_of_ble_eq_true rfl), (Nat.le_of_ble_eq_true rfl)⟩, (Nat.le_of_ble_eq_true rfl), (Nat.le_of_ble_eq_true rfl)⟩ rfl (Nat.le_of_ble_eq_true rfl) dX10_gatherCurve_14 (fun v9 H3 locsH3 hp hS hzH3 hkH3 => ?_)
      obtain ⟨hv, hh⟩ := hp
      subst hv; subst hh
      refine lv_icmp_ge (tgt := 86) hx hb dX10_gatherCurve_17 (by decide) (fun c_17 => ?_) (fun c_17 => ?_)
      · have hk : cn 12 ≤ k := (nI_leI (by omega) (by omega)).mp c_17
        exact hk_vret X hr hlk hQ hS (Nat.le_of_ble_eq_true rfl) (Nat.le_of_ble_eq_true rfl) dX10_gatherCurve_86 (⟨rfl, ⟨n9, k9, v9, hW, hup, by rw [show cn 12 = k by omega]; exact hrl⟩, hz9⟩)
      · have hk : k < cn 12 := Nat.lt_of_not_le (fun h => c_17 (nI_le h (by omega)))
        have hlt9 : n9 < 80 := by omega
        refine lv_aload_n hx hb dX10_gatherCurve_20 rfl (lv_at hl 1 rfl) ?_
        refine hk_get (ref := "LightcurveHouse") (v := .ref (li 4)) X K (HW.o hW) rfl iX10_gatherCurve_X10 4 (by decide) (by decide +kernel) (fun _ h => h) rfl dX10_gatherCurve_21 ?_
        refine lv_iload_n hx hb dX10_gatherCurve_24 rfl (lv_at hl 0 rfl) ?_
        refine hk_callV 1 (As := [.int (nI k)]) (rest := []) X K hAE hS hl.1 (HW.l4 hW).1 rfl (c_Jx4a65c_get_915e3 E l H (HW.l4 hW) (HW.c4 hW).1 (Nat.lt_of_le_of_lt (HW.c4 hW).2 (by decide)) hk) (fun _ h => h.elim) gX10_gatherCurve_Jx4a65c_get_915e3 rfl ⟨rfl, hd_Jx4a65c_get_915e3⟩ rfl ⟨⟨(Nat.le_of_ble_eq_true rfl), (Nat.le_of_ble_eq_true rfl)⟩, (Nat.le_of_ble_eq_true rfl), (Nat.le_of_ble_eq_true rfl)⟩ rfl (Nat.le_of_ble_eq_true rfl) dX10_gatherCurve_25 (fun v9 H4 locsH4 hp hS hzH4 hkH4 => ?_)
        obtain ⟨hv, hh⟩ := hp
        subst hv; subst hh
        by_cases hsr : μ 13 k = 0
        · refine hk_castY (nm := "LightcurveHouse$Look") X K (HW.e8 hW hk hsr) rfl (by decide +kernel) (by decide +kernel) dX10_gatherCurve_28 ?_
          refine lv_astore (lv' := [(4, .ref (gad G 4 k)), (3, .int (nI k)), (0, .ref ho), (1, .int e1), (2, .int e2)]) hx hb dX10_gatherCurve_31 hl (by decide) rfl (fun ls hl => ?_)
          refine lv_aload hx hb dX10_gatherCurve_33 (lv_at hl 0 rfl) ?_
          refine hk_get (ref := "LightcurveHouse$Look") (v := .ref (gad G 2 (ix (μ 14 k)))) X K (HW.e8 hW hk hsr) rfl iX10_gatherCurve_X8 0 (by decide) (by decide +kernel) (fun _ h => h) rfl dX10_gatherCurve_35 ?_
          refine hk_get (ref := "LightcurveHouse$Star") (v := .int (μ 3 (ix (μ 14 k)))) X K (HW.e2 hW (isS_xl (hI9.2.2.2.2.2.1 _ hk).1 (show cn 1 < 2 ^ 31 by omega))) rfl iX10_gatherCurve_X7 2 (by decide) (by decide +kernel) (fun _ h => h) rfl dX10_gatherCurve_38 ?_
          refine lv_istore (lv' := [(5, .int (μ 3 (ix (μ 14 k)))), (4, .ref (gad G 4 k)), (3, .int (nI k)), (0, .ref ho), (1, .int e1), (2, .int e2)]) hx hb dX10_gatherCurve_41 hl (by decide) rfl (fun ls hl => ?_)
          refine lv_aload hx hb dX10_gatherCurve_43 (lv_at hl 1 rfl) ?_
          refine hk_get (ref := "LightcurveHouse$Look") (v := .int (μ 21 k)) X K (HW.e8 hW hk hsr) rfl iX10_gatherCurve_X8 1 (by decide) (by decide +kernel) (fun _ h => h) rfl dX10_gatherCurve_45 ?_
          refine lv_if_ne (tgt := 80) hx hb dX10_gatherCurve_48 (by decide) (fun c_48 => ?_) (fun c_48 => ?_)
          · obtain ⟨q80, eq80⟩ : ∃ y : Int32, y = (nI k) + 1 := ⟨_, rfl⟩
            refine lv_iinc (v := q80) (lv' := [(3, .int q80), (5, .int (μ 3 (ix (μ 14 k)))), (4, .ref (gad G 4 k)), (0, .ref ho), (1, .int e1), (2, .int e2)]) hx hb dX10_gatherCurve_80 hl (k := 2) rfl (by rw [eq80]; rfl) (by decide) rfl (fun ls hl => ?_)
            rw [nI_1] at eq80
            subst eq80
            refine lv_goto (tgt := 9) hx hb dX10_gatherCurve_83 (by decide) ?_
            exact ih (k + 1) n9 k9 v9 _ _ (by omega) ⟨hS, by omega, hW, hup, by rw [selp_no (fun h => c_48 h.1)]; exact hrl, by omega⟩ _ (lv_sub hl [0, 3, 4, 5] rfl)
          · refine lv_iload hx hb dX10_gatherCurve_51 (lv_at hl 0 rfl) ?_
            refine lv_iload_n hx hb dX10_gatherCurve_53 rfl (lv_at hl 4 rfl) ?_
            refine lv_icmp_eq (tgt := 63) hx hb dX10_gatherCurve_54 (by decide) (fun c_54 => ?_) (fun c_54 => ?_)
            · refine lv_aload_n hx hb dX10_gatherCurve_63 rfl (lv_at hl 3 rfl) ?_
              refine hk_get (ref := "LightcurveHouse") (v := .ref (rr 0 0)) X K (HW.o hW) rfl iX10_gatherCurve_X10 8 (by decide) (by decide +kernel) (fun _ h => h) rfl dX10_gatherCurve_64 ?_
              refine lv_aload hx hb dX10_gatherCurve_67 (lv_at hl 1 rfl) ?_
              refine hk_callU 0 (As := []) (rest := [.ref (rr 0 0)]) X K hAE hS hl.1 (HW.e8 hW hk hsr) rfl (c_X8_trueTime E l H hW hI9 (k := k) hk hsr) (fun _ h => h.elim) (va_cwA 0 hts gX10_gatherCurve_X8_trueTime_u202X8 rfl rfl rfl (K.2.2.2.2.1.2.2.2.2.2.2.2 _ (by decide +kernel)) ⟨by decide, by decide, by decide +kernel⟩ ⟨(Nat.le_of_ble_eq_true rfl), (Nat.le_of_ble_eq_true rfl)⟩) rfl ⟨(Nat.le_of_ble_eq_true rfl), (Nat.le_of_ble_eq_true rfl)⟩ rfl (Nat.le_of_ble_eq_true rfl) dX10_gatherCurve_69 (fun v9 H5 locsH5 hp hS hzH5 hkH5 => ?_)
              obtain ⟨hv, hh⟩ := hp
              subst hv; subst hh
              refine lv_aload hx hb dX10_gatherCurve_72 (lv_at hl 1 rfl) ?_
              refine hk_callU 0 (As := []) (rest := [.int (sp_time μ k), .ref (rr 0 0)]) X K hAE hS hl.1 (HW.e8 hW hk hsr) rfl (c_X8_trueLight E l H hW hI9 (k := k) hk hsr) (fun _ h => h.elim) (va_cwA 0 hts gX10_gatherCurve_X8_trueLight_u199X8 rfl rfl rfl (K.2.2.2.2.1.2.2.2.2.2.2.2 _ (by decide +kernel)) ⟨by decide, by decide, by decide +kernel⟩ ⟨(Nat.le_of_ble_eq_true rfl), (Nat.le_of_ble_eq_true rfl)⟩) rfl ⟨(Nat.le_of_ble_eq_true rfl), (Nat.le_of_ble_eq_true rfl)⟩ rfl (Nat.le_of_ble_eq_true rfl) dX10_gatherCurve_74 (fun v9 H6 locsH6 hp hS hzH6 hkH6 => ?_)
              obtain ⟨hv, hh⟩ := hp
              subst hv; subst hh
              refine hk_callV 2 (As := [.int (sp_time μ k), .int (sp_light μ k)]) (rest := []) X K hAE hS hl.1 (HW.r0 hW).1.1 rfl (c_X5_add E l H hr9.1 hlt9 (by decide) hup (HW.rx hW 0 (by decide)).1.1 (HW.rx hW 0 (by decide)).1.2.1 (HW.rx hW 0 (by decide)).1.2.2 (HW.rx hW 0 (by decide)).2.1.1 (HW.rx hW 0 (by decide)).2.1.2.1 (HW.rx hW 0 (by decide)).2.1.2.2 (sp_time μ k) (sp_light μ k)) (fun q h => h) gX10_gatherCurve_X5_add rfl ⟨rfl, hd_X5_add⟩ rfl ⟨⟨(Nat.le_of_ble_eq_true rfl), (Nat.le_of_ble_eq_true rfl)⟩, (Nat.le_of_ble_eq_true rfl), (Nat.le_of_ble_eq_true rfl)⟩ rfl (Nat.le_of_ble_eq_true rfl) dX10_gatherCurve_77 (fun v9 H7 locsH7 hp hS hzH7 hkH7 => ?_)
              obtain ⟨hv, ⟨ap, k2, v2, hat, hrw, hkv2⟩, hszH7⟩ := hp
              subst hv
              have hW := HW.row2 hW (by decide) hrw (by show n9 + 1 ≤ 80; omega) (fun q h1 h2 => hkH7 q h1 h2)
              obtain ⟨q80, eq80⟩ : ∃ y : Int32, y = (nI k) + 1 := ⟨_, rfl⟩
              refine lv_iinc (v := q80) (lv' := [(3, .int q80), (5, .int (μ 3 (ix (μ 14 k)))), (4, .ref (gad G 4 k)), (0, .ref ho), (1, .int e1), (2, .int e2)]) hx hb dX10_gatherCurve_80 hl (k := 2) rfl (by rw [eq80]; rfl) (by decide) rfl (fun ls hl => ?_)
              rw [nI_1] at eq80
              subst eq80
              refine lv_goto (tgt := 9) hx hb dX10_gatherCurve_83 (by decide) ?_
              exact ih (k + 1) (n9 + 1) k2 v2 _ _ (by omega) ⟨hS, by omega, hW, row_up_cong (row_up_ins hup hat) (fun i hi => (hkv2 i (by omega)).1), by rw [selp_yes ⟨c_48, Or.inl c_54⟩, sSort_snoc]; exact rowL_ins hrl hat hkv2, by omega⟩ _ (lv_sub hl [0, 3, 4, 5] rfl)
            · refine lv_iload hx hb dX10_gatherCurve_57 (lv_at hl 0 rfl) ?_
              refine lv_iload_n hx hb dX10_gatherCurve_59 rfl (lv_at hl 5 rfl) ?_
              refine lv_icmp_ne (tgt := 80) hx hb dX10_gatherCurve_60 (by decide) (fun c_60 => ?_) (fun c_60 => ?_)
              · obtain ⟨q80, eq80⟩ : ∃ y : Int32, y = (nI k) + 1 := ⟨_, rfl⟩
                refine lv_iinc (v := q80) (lv' := [(3, .int q80), (5, .int (μ 3 (ix (μ 14 k)))), (4, .ref (gad G 4 k)), (0, .ref ho), (1, .int e1), (2, .int e2)]) hx hb dX10_gatherCurve_80 hl (k := 2) rfl (by rw [eq80]; rfl) (by decide) rfl (fun ls hl => ?_)
                rw [nI_1] at eq80
                subst eq80
                refine lv_goto (tgt := 9) hx hb dX10_gatherCurve_83 (by decide) ?_
                exact ih (k + 1) n9 k9 v9 _ _ (by omega) ⟨hS, by omega, hW, hup, by rw [selp_no (fun h => h.2.elim c_54 c_60)]; exact hrl, by omega⟩ _ (lv_sub hl [0, 3, 4, 5] rfl)
              · refine lv_aload_n hx hb dX10_gatherCurve_63 rfl (lv_at hl 3 rfl) ?_
                refine hk_get (ref := "LightcurveHouse") (v := .ref (rr 0 0)) X K (HW.o hW) rfl iX10_gatherCurve_X10 8 (by decide) (by decide +kernel) (fun _ h => h) rfl dX10_gatherCurve_64 ?_
                refine lv_aload hx hb dX10_gatherCurve_67 (lv_at hl 1 rfl) ?_
                refine hk_callU 0 (As := []) (rest := [.ref (rr 0 0)]) X K hAE hS hl.1 (HW.e8 hW hk hsr) rfl (c_X8_trueTime E l H hW hI9 (k := k) hk hsr) (fun _ h => h.elim) (va_cwA 0 hts gX10_gatherCurve_X8_trueTime_u202X8 rfl rfl rfl (K.2.2.2.2.1.2.2.2.2.2.2.2 _ (by decide +kernel)) ⟨by decide, by decide, by decide +kernel⟩ ⟨(Nat.le_of_ble_eq_true rfl), (Nat.le_of_ble_eq_true rfl)⟩) rfl ⟨(Nat.le_of_ble_eq_true rfl), (Nat.le_of_ble_eq_true rfl)⟩ rfl (Nat.le_of_ble_eq_true rfl) dX10_gatherCurve_69 (fun v9 H8 locsH8 hp hS hzH8 hkH8 => ?_)
                obtain ⟨hv, hh⟩ := hp
                subst hv; subst hh
                refine lv_aload hx hb dX10_gatherCurve_72 (lv_at hl 1 rfl) ?_
                refine hk_callU 0 (As := []) (rest := [.int (sp_time μ k), .ref (rr 0 0)]) X K hAE hS hl.1 (HW.e8 hW hk hsr) rfl (c_X8_trueLight E l H hW hI9 (k := k) hk hsr) (fun _ h => h.elim) (va_cwA 0 hts gX10_gatherCurve_X8_trueLight_u199X8 rfl rfl rfl (K.2.2.2.2.1.2.2.2.2.2.2.2 _ (by decide +kernel)) ⟨by decide, by decide, by decide +kernel⟩ ⟨(Nat.le_of_ble_eq_true rfl), (Nat.le_of_ble_eq_true rfl)⟩) rfl ⟨(Nat.le_of_ble_eq_true rfl), (Nat.le_of_ble_eq_true rfl)⟩ rfl (Nat.le_of_ble_eq_true rfl) dX10_gatherCurve_74 (fun v9 H9 locsH9 hp hS hzH9 hkH9 => ?_)
                obtain ⟨hv, hh⟩ := hp
                subst hv; subst hh
                refine hk_callV 2 (As := [.int (sp_time μ k), .int (sp_light μ k)]) (rest := []) X K hAE hS hl.1 (HW.r0 hW).1.1 rfl (c_X5_add E l H hr9.1 hlt9 (by decide) hup (HW.rx hW 0 (by decide)).1.1 (HW.rx hW 0 (by decide)).1.2.1 (HW.rx hW 0 (by decide)).1.2.2 (HW.rx hW 0 (by decide)).2.1.1 (HW.rx hW 0 (by decide)).2.1.2.1 (HW.rx hW 0 (by decide)).2.1.2.2 (sp_time μ k) (sp_light μ k)) (fun q h => h) gX10_gatherCurve_X5_add rfl ⟨rfl, hd_X5_add⟩ rfl ⟨⟨(Nat.le_of_ble_eq_true rfl), (Nat.le_of_ble_eq_true rfl)⟩, (Nat.le_of_ble_eq_true rfl), (Nat.le_of_ble_eq_true rfl)⟩ rfl (Nat.le_of_ble_eq_true rfl) dX10_gatherCurve_77 (fun v9 H10 locsH10 hp hS hzH10 hkH10 => ?_)
                obtain ⟨hv, ⟨ap, k2, v2, hat, hrw, hkv2⟩, hszH10⟩ := hp
                subst hv
                have hW := HW.row2 hW (by decide) hrw (by show n9 + 1 ≤ 80; omega) (fun q h1 h2 => hkH10 q h1 h2)
                obtain ⟨q80, eq80⟩ : ∃ y : Int32, y = (nI k) + 1 := ⟨_, rfl⟩
                refine lv_iinc (v := q80) (lv' := [(3, .int q80), (5, .int (μ 3 (ix (μ 14 k)))), (4, .ref (gad G 4 k)), (0, .ref ho), (1, .int e1), (2, .int e2)]) hx hb dX10_gatherCurve_80 hl (k := 2) rfl (by rw [eq80]; rfl) (by decide) rfl (fun ls hl => ?_)
                rw [nI_1] at eq80
                subst eq80
                refine lv_goto (tgt := 9) hx hb dX10_gatherCurve_83 (by decide) ?_
                exact ih (k + 1) (n9 + 1) k2 v2 _ _ (by omega) ⟨hS, by omega, hW, row_up_cong (row_up_ins hup hat) (fun i hi => (hkv2 i (by omega)).1), by rw [selp_yes ⟨c_48, Or.inr c_60⟩, sSort_snoc]; exact rowL_ins hrl hat hkv2, by omega⟩ _ (lv_sub hl [0, 3, 4, 5] rfl)
        · refine hk_castY (nm := "LightcurveHouse$Look") X K (HW.e9 hW hk hsr) rfl (by decide +kernel) (by decide +kernel) dX10_gatherCurve_28 ?_
          refine lv_astore (lv' := [(4, .ref (gad G 4 k)), (3, .int (nI k)), (0, .ref ho), (1, .int e1), (2, .int e2)]) hx hb dX10_gatherCurve_31 hl (by decide) rfl (fun ls hl => ?_)
          refine lv_aload hx hb dX10_gatherCurve_33 (lv_at hl 0 rfl) ?_
          refine hk_get (ref := "LightcurveHouse$Look") (v := .ref (gad G 2 (ix (μ 14 k)))) X K (HW.e9 hW hk hsr) rfl iX10_gatherCurve_X1 0 (by decide) (by decide +kernel) (fun _ h => h) rfl dX10_gatherCurve_35 ?_
          refine hk_get (ref := "LightcurveHouse$Star") (v := .int (μ 3 (ix (μ 14 k)))) X K (HW.e2 hW (isS_xl (hI9.2.2.2.2.2.1 _ hk).1 (show cn 1 < 2 ^ 31 by omega))) rfl iX10_gatherCurve_X7 2 (by decide) (by decide +kernel) (fun _ h => h) rfl dX10_gatherCurve_38 ?_
          refine lv_istore (lv' := [(5, .int (μ 3 (ix (μ 14 k)))), (4, .ref (gad G 4 k)), (3, .int (nI k)), (0, .ref ho), (1, .int e1), (2, .int e2)]) hx hb dX10_gatherCurve_41 hl (by decide) rfl (fun ls hl => ?_)
          refine lv_aload hx hb dX10_gatherCurve_43 (lv_at hl 1 rfl) ?_
          refine hk_get (ref := "LightcurveHouse$Look") (v := .int (μ 21 k)) X K (HW.e9 hW hk hsr) rfl iX10_gatherCurve_X1 1 (by decide) (by decide +kernel) (fun _ h => h) rfl dX10_gatherCurve_45 ?_
          refine lv_if_ne (tgt := 80) hx hb dX10_gatherCurve_48 (by decide) (fun c_48 => ?_) (fun c_48 => ?_)
          · obtain ⟨q80, eq80⟩ : ∃ y : Int32, y = (nI k) + 1 := ⟨_, rfl⟩
            refine lv_iinc (v := q80) (lv' := [(3, .int q80), (5, .int (μ 3 (ix (μ 14 k)))), (4, .ref (gad G 4 k)), (0, .ref ho), (1, .int e1), (2, .int e2)]) hx hb dX10_gatherCurve_80 hl (k := 2) rfl (by rw [eq80]; rfl) (by decide) rfl (fun ls hl => ?_)
            rw [nI_1] at eq80
            subst eq80
            refine lv_goto (tgt := 9) hx hb dX10_gatherCurve_83 (by decide) ?_
            exact ih (k + 1) n9 k9 v9 _ _ (by omega) ⟨hS, by omega, hW, hup, by rw [selp_no (fun h => c_48 h.1)]; exact hrl, by omega⟩ _ (lv_sub hl [0, 3, 4, 5] rfl)
          · refine lv_iload hx hb dX10_gatherCurve_51 (lv_at hl 0 rfl) ?_
            refine lv_iload_n hx hb dX10_gatherCurve_53 rfl (lv_at hl 4 rfl) ?_
            refine lv_icmp_eq (tgt := 63) hx hb dX10_gatherCurve_54 (by decide) (fun c_54 => ?_) (fun c_54 => ?_)
            · refine lv_aload_n hx hb dX10_gatherCurve_63 rfl (lv_at hl 3 rfl) ?_
              refine hk_get (ref := "LightcurveHouse") (v := .ref (rr 0 0)) X K (HW.o hW) rfl iX10_gatherCurve_X10 8 (by decide) (by decide +kernel) (fun _ h => h) rfl dX10_gatherCurve_64 ?_
              refine lv_aload hx hb dX10_gatherCurve_67 (lv_at hl 1 rfl) ?_
              refine hk_callU 0 (As := []) (rest := [.ref (rr 0 0)]) X K hAE hS hl.1 (HW.e9 hW hk hsr) rfl (c_X1_trueTime E l H hW hI9 (k := k) hk hsr) (fun _ h => h.elim) (va_cwA 0 hts gX10_gatherCurve_X1_trueTime_u202X1 rfl rfl rfl (K.2.2.2.2.1.2.2.2.2.2.2.2 _ (by decide +kernel)) ⟨by decide, by decide, by decide +kernel⟩ ⟨(Nat.le_of_ble_eq_true rfl), (Nat.le_of_ble_eq_true rfl)⟩) rfl ⟨(Nat.le_of_ble_eq_true rfl), (Nat.le_of_ble_eq_true rfl)⟩ rfl (Nat.le_of_ble_eq_true rfl) dX10_gatherCurve_69 (fun v9 H11 locsH11 hp hS hzH11 hkH11 => ?_)
              obtain ⟨hv, hh⟩ := hp
              subst hv; subst hh
              refine lv_aload hx hb dX10_gatherCurve_72 (lv_at hl 1 rfl) ?_
              refine hk_callU 0 (As := []) (rest := [.int (sp_time μ k), .ref (rr 0 0)]) X K hAE hS hl.1 (HW.e9 hW hk hsr) rfl (c_X1_trueLight E l H hW hI9 (k := k) hk hsr) (fun _ h => h.elim) (va_cwA 0 hts gX10_gatherCurve_X1_trueLight_u199X1 rfl rfl rfl (K.2.2.2.2.1.2.2.2.2.2.2.2 _ (by decide +kernel)) ⟨by decide, by decide, by decide +kernel⟩ ⟨(Nat.le_of_ble_eq_true rfl), (Nat.le_of_ble_eq_true rfl)⟩) rfl ⟨(Nat.le_of_ble_eq_true rfl), (Nat.le_of_ble_eq_true rfl)⟩ rfl (Nat.le_of_ble_eq_true rfl) dX10_gatherCurve_74 (fun v9 H12 locsH12 hp hS hzH12 hkH12 => ?_)
              obtain ⟨hv, hh⟩ := hp
              subst hv; subst hh
              refine hk_callV 2 (As := [.int (sp_time μ k), .int (sp_light μ k)]) (rest := []) X K hAE hS hl.1 (HW.r0 hW).1.1 rfl (c_X5_add E l H hr9.1 hlt9 (by decide) hup (HW.rx hW 0 (by decide)).1.1 (HW.rx hW 0 (by decide)).1.2.1 (HW.rx hW 0 (by decide)).1.2.2 (HW.rx hW 0 (by decide)).2.1.1 (HW.rx hW 0 (by decide)).2.1.2.1 (HW.rx hW 0 (by decide)).2.1.2.2 (sp_time μ k) (sp_light μ k)) (fun q h => h) gX10_gatherCurve_X5_add rfl ⟨rfl, hd_X5_add⟩ rfl ⟨⟨(Nat.le_of_ble_eq_true rfl), (Nat.le_of_ble_eq_true rfl)⟩, (Nat.le_of_ble_eq_true rfl), (Nat.le_of_ble_eq_true rfl)⟩ rfl (Nat.le_of_ble_eq_true rfl) dX10_gatherCurve_77 (fun v9 H13 locsH13 hp hS hzH13 hkH13 => ?_)
              obtain ⟨hv, ⟨ap, k2, v2, hat, hrw, hkv2⟩, hszH13⟩ := hp
              subst hv
              have hW := HW.row2 hW (by decide) hrw (by show n9 + 1 ≤ 80; omega) (fun q h1 h2 => hkH13 q h1 h2)
              obtain ⟨q80, eq80⟩ : ∃ y : Int32, y = (nI k) + 1 := ⟨_, rfl⟩
              refine lv_iinc (v := q80) (lv' := [(3, .int q80), (5, .int (μ 3 (ix (μ 14 k)))), (4, .ref (gad G 4 k)), (0, .ref ho), (1, .int e1), (2, .int e2)]) hx hb dX10_gatherCurve_80 hl (k := 2) rfl (by rw [eq80]; rfl) (by decide) rfl (fun ls hl => ?_)
              rw [nI_1] at eq80
              subst eq80
              refine lv_goto (tgt := 9) hx hb dX10_gatherCurve_83 (by decide) ?_
              exact ih (k + 1) (n9 + 1) k2 v2 _ _ (by omega) ⟨hS, by omega, hW, row_up_cong (row_up_ins hup hat) (fun i hi => (hkv2 i (by omega)).1), by rw [selp_yes ⟨c_48, Or.inl c_54⟩, sSort_snoc]; exact rowL_ins hrl hat hkv2, by omega⟩ _ (lv_sub hl [0, 3, 4, 5] rfl)
            · refine lv_iload hx hb dX10_gatherCurve_57 (lv_at hl 0 rfl) ?_
              refine lv_iload_n hx hb dX10_gatherCurve_59 rfl (lv_at hl 5 rfl) ?_
              refine lv_icmp_ne (tgt := 80) hx hb dX10_gatherCurve_60 (by decide) (fun c_60 => ?_) (fun c_60 => ?_)
              · obtain ⟨q80, eq80⟩ : ∃ y : Int32, y = (nI k) + 1 := ⟨_, rfl⟩
                refine lv_iinc (v := q80) (lv' := [(3, .int q80), (5, .int (μ 3 (ix (μ 14 k)))), (4, .ref (gad G 4 k)), (0, .ref ho), (1, .int e1), (2, .int e2)]) hx hb dX10_gatherCurve_80 hl (k := 2) rfl (by rw [eq80]; rfl) (by decide) rfl (fun ls hl => ?_)
                rw [nI_1] at eq80
                subst eq80
                refine lv_goto (tgt := 9) hx hb dX10_gatherCurve_83 (by decide) ?_
                exact ih (k + 1) n9 k9 v9 _ _ (by omega) ⟨hS, by omega, hW, hup, by rw [selp_no (fun h => h.2.elim c_54 c_60)]; exact hrl, by omega⟩ _ (lv_sub hl [0, 3, 4, 5] rfl)
              · refine lv_aload_n hx hb dX10_gatherCurve_63 rfl (lv_at hl 3 rfl) ?_
                refine hk_get (ref := "LightcurveHouse") (v := .ref (rr 0 0)) X K (HW.o hW) rfl iX10_gatherCurve_X10 8 (by decide) (by decide +kernel) (fun _ h => h) rfl dX10_gatherCurve_64 ?_
                refine lv_aload hx hb dX10_gatherCurve_67 (lv_at hl 1 rfl) ?_
                refine hk_callU 0 (As := []) (rest := [.ref (rr 0 0)]) X K hAE hS hl.1 (HW.e9 hW hk hsr) rfl (c_X1_trueTime E l H hW hI9 (k := k) hk hsr) (fun _ h => h.elim) (va_cwA 0 hts gX10_gatherCurve_X1_trueTime_u202X1 rfl rfl rfl (K.2.2.2.2.1.2.2.2.2.2.2.2 _ (by decide +kernel)) ⟨by decide, by decide, by decide +kernel⟩ ⟨(Nat.le_of_ble_eq_true rfl), (Nat.le_of_ble_eq_true rfl)⟩) rfl ⟨(Nat.le_of_ble_eq_true rfl), (Nat.le_of_ble_eq_true rfl)⟩ rfl (Nat.le_of_ble_eq_true rfl) dX10_gatherCurve_69 (fun v9 H14 locsH14 hp hS hzH14 hkH14 => ?_)
                obtain ⟨hv, hh⟩ := hp
                subst hv; subst hh
                refine lv_aload hx hb dX10_gatherCurve_72 (lv_at hl 1 rfl) ?_
                refine hk_callU 0 (As := []) (rest := [.int (sp_time μ k), .ref (rr 0 0)]) X K hAE hS hl.1 (HW.e9 hW hk hsr) rfl (c_X1_trueLight E l H hW hI9 (k := k) hk hsr) (fun _ h => h.elim) (va_cwA 0 hts gX10_gatherCurve_X1_trueLight_u199X1 rfl rfl rfl (K.2.2.2.2.1.2.2.2.2.2.2.2 _ (by decide +kernel)) ⟨by decide, by decide, by decide +kernel⟩ ⟨(Nat.le_of_ble_eq_true rfl), (Nat.le_of_ble_eq_true rfl)⟩) rfl ⟨(Nat.le_of_ble_eq_true rfl), (Nat.le_of_ble_eq_true rfl)⟩ rfl (Nat.le_of_ble_eq_true rfl) dX10_gatherCurve_74 (fun v9 H15 locsH15 hp hS hzH15 hkH15 => ?_)
                obtain ⟨hv, hh⟩ := hp
                subst hv; subst hh
                refine hk_callV 2 (As := [.int (sp_time μ k), .int (sp_light μ k)]) (rest := []) X K hAE hS hl.1 (HW.r0 hW).1.1 rfl (c_X5_add E l H hr9.1 hlt9 (by decide) hup (HW.rx hW 0 (by decide)).1.1 (HW.rx hW 0 (by decide)).1.2.1 (HW.rx hW 0 (by decide)).1.2.2 (HW.rx hW 0 (by decide)).2.1.1 (HW.rx hW 0 (by decide)).2.1.2.1 (HW.rx hW 0 (by decide)).2.1.2.2 (sp_time μ k) (sp_light μ k)) (fun q h => h) gX10_gatherCurve_X5_add rfl ⟨rfl, hd_X5_add⟩ rfl ⟨⟨(Nat.le_of_ble_eq_true rfl), (Nat.le_of_ble_eq_true rfl)⟩, (Nat.le_of_ble_eq_true rfl), (Nat.le_of_ble_eq_true rfl)⟩ rfl (Nat.le_of_ble_eq_true rfl) dX10_gatherCurve_77 (fun v9 H16 locsH16 hp hS hzH16 hkH16 => ?_)
                obtain ⟨hv, ⟨ap, k2, v2, hat, hrw, hkv2⟩, hszH16⟩ := hp
                subst hv
                have hW := HW.row2 hW (by decide) hrw (by show n9 + 1 ≤ 80; omega) (fun q h1 h2 => hkH16 q h1 h2)
                obtain ⟨q80, eq80⟩ : ∃ y : Int32, y = (nI k) + 1 := ⟨_, rfl⟩
                refine lv_iinc (v := q80) (lv' := [(3, .int q80), (5, .int (μ 3 (ix (μ 14 k)))), (4, .ref (gad G 4 k)), (0, .ref ho), (1, .int e1), (2, .int e2)]) hx hb dX10_gatherCurve_80 hl (k := 2) rfl (by rw [eq80]; rfl) (by decide) rfl (fun ls hl => ?_)
                rw [nI_1] at eq80
                subst eq80
                refine lv_goto (tgt := 9) hx hb dX10_gatherCurve_83 (by decide) ?_
                exact ih (k + 1) (n9 + 1) k2 v2 _ _ (by omega) ⟨hS, by omega, hW, row_up_cong (row_up_ins hup hat) (fun i hi => (hkv2 i (by omega)).1), by rw [selp_yes ⟨c_48, Or.inr c_60⟩, sSort_snoc]; exact rowL_ins hrl hat hkv2, by omega⟩ _ (lv_sub hl [0, 3, 4, 5] rfl)
  exact L9 (cn 12 + 1) 0 0 (R.2.1 0) (R.2.2.1 0) _ _ (by omega) ⟨hS, Nat.zero_le _, hW, fun i j _ h => absurd h (Nat.not_lt_zero _), ⟨rfl, fun i h => absurd h (Nat.not_lt_zero _)⟩, by omega⟩ _ (lv_sub hl [0, 1, 2, 3] rfl)

