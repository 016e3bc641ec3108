theorem clm_pos {cn : Nat → Nat} {sc : Nat → Int32} {μ : Nat → Nat → Int32} (hI : Inv (cn, sc, μ)) {k : Nat} (hk : k < cn 1) (h : ¬ μ 4 k = 0) : 0 < μ 4 k := by
  rcases (hI.2.2.1 k hk).2.2 with g | g
  · exact absurd g h
  · have h1 : (30 : Int32) ≤ μ 4 k := g.1
    rw [i_le] at h1
    have e : (30 : Int32).toInt = 30 := rfl
    rw [i_lt, i_0]; omega
theorem nI_nem {k : Nat} (h : k < 2 ^ 31) : ¬ some (Value.int (nI k)) = some (Value.int (-1)) := by
  intro g
  have g2 : nI k = -1 := by injection g with g; injection g
  have h0 := nI_pos' h
  rw [g2] at h0
  exact absurd h0 (by decide)
abbrev rmX10_claimOf : Room := { frames := 9, cells := 0, slots := 0, locals := 154 }
theorem iX10_claimOf_X10 : ∀ w ∈ wsX100, w ∈ wsX10_claimOf := by decide +kernel
theorem iX10_claimOf_X7 : ∀ w ∈ wsX70, w ∈ wsX10_claimOf := by decide +kernel
set_option maxHeartbeats 4000000 in
set_option maxRecDepth 100000 in
theorem c_X10_claimOf (E : hk_E) (l : Launch) (H0 : Heap) {Z : Nat → Prop} {ho ts : Nat} {li : Nat → Nat} {rr : Nat → Nat → Nat} {G : hG} {R : hR} {cn : Nat → Nat} {sc : Nat → Int32} {μ : Nat → Nat → Int32} (hW : HW E Z (ho, li, rr, ts) G R (cn, sc, μ) H0) (hI : Inv (cn, sc, μ)) {e9 : Int32}  : hk_M E l yX10_claimOf wsX10_claimOf rmX10_claimOf (fun _ => False) [.ref ho, .int e9] H0 (fun z H1 => z = some (.int (sp_clm (μ 3) (μ 4) e9 (cn 1) 0)) ∧ H0 = H1) := by
  refine hk_M.ofW (cc := cX10_claimOf) (maxL := 4) (ret := (some .int)) (by decide +kernel) rfl (Nat.le_of_ble_eq_true rfl) ?_
  intro p e s m args below meth c ls Q hQ X hr hlk hnm K hs9 hS hl
  obtain ⟨hx, hb, hml, hown, hts⟩ := id X
  have hAE : ∀ q, (fun _ => False) q → hk_A E q := fun _ h => h.elim
  have hl : lv_has ls 4 [(0, .ref ho), (1, .int e9)] := hl
  have hc1 : cn 1 ≤ 12 := hI.1.1
  have hc8 : cn 8 ≤ 8 := hI.1.2.1
  have hc12 : cn 12 ≤ 80 := hI.1.2.2.1
  have hc22 : cn 22 ≤ 8 := hI.1.2.2.2.1
  have hc29 : cn 29 ≤ 30 := hI.1.2.2.2.2
  refine lv_iconst (v := 0) hx hb dX10_claimOf_0 (by decide) ?_
  refine lv_topi (fun z_1 ez_1 => ?_)
  have ez_1 : z_1 = nI 0 := ez_1
  subst ez_1
  refine lv_istore_n (lv' := [(2, .int (nI 0)), (0, .ref ho), (1, .int e9)]) hx hb dX10_claimOf_1 rfl hl (by decide) rfl (fun ls hl => ?_)
  have L2 : ∀ (n9 : Nat) (k : Nat) (locs : List Loc), cn 1 + 1 ≤ k + n9 → (va_S (fun _ => False) s.heap H0 locs ∧ k ≤ cn 1 ∧ ∀ j, j < k → ¬ (μ 3 j = e9 ∧ 0 < μ 4 j)) → ∀ (ls : Array Slot), lv_has ls 4 [(2, .int (nI k)), (0, .ref ho), (1, .int e9)] → W p l e rmX10_claimOf s m args below meth c H0 locs 0 0 Q (F0 m 2 ls []) := by
    intro n9
    induction n9 with
    | zero =>
      intro k locs hm hinv ls hl
      obtain ⟨hS, hinv⟩ := hinv
      have hi1 := hinv.1
      exact absurd hm (by omega)
    | succ n9 ih =>
      intro k locs hm hinv ls hl
      obtain ⟨hS, hinv⟩ := hinv
      have hi1 := hinv.1
      refine lv_iload_n hx hb dX10_claimOf_2 rfl (lv_at hl 0 rfl) ?_
      refine lv_aload_n hx hb dX10_claimOf_3 rfl (lv_at hl 1 rfl) ?_
      refine hk_get (ref := "LightcurveHouse") (v := .ref (li 2)) X K (HW.o hW) rfl iX10_claimOf_X10 2 (by decide) (by decide +kernel) (fun _ h => h) rfl dX10_claimOf_4 ?_
      refine hk_callV 0 (As := []) (rest := [.int (nI k)]) X K hAE hS hl.1 (HW.l2 hW).1 rfl (c_Jx4a65c_size_8abf5 E l H0 (HW.l2 hW)) (fun _ h => h.elim) gX10_claimOf_Jx4a65c_size_8abf5 rfl ⟨rfl, hd_Jx4a65c_size_8abf5⟩ rfl ⟨⟨(Nat.le_of_ble_eq_true rfl), (Nat.le_of_ble_eq_true rfl)⟩, (Nat.le_of_ble_eq_true rfl), (Nat.le_of_ble_eq_true rfl)⟩ rfl (Nat.le_of_ble_eq_true rfl) dX10_claimOf_7 (fun v9 H2 locsH2 hp hS hzH2 hkH2 => ?_)
      obtain ⟨hv, hh⟩ := hp
      subst hv; subst hh
      refine lv_icmp_ge (tgt := 51) hx hb dX10_claimOf_10 (by decide) (fun c_10 => ?_) (fun c_10 => ?_)
      · have hk : cn 1 ≤ k := (nI_leI (by omega) (by omega)).mp c_10
        refine lv_iconst (v := 0) hx hb dX10_claimOf_51 (by decide) ?_
        exact hk_iret X hr hlk hQ hS (Nat.le_of_ble_eq_true rfl) (Nat.le_of_ble_eq_true rfl) dX10_claimOf_52 (⟨by rw [clm_none (fun j hj => hinv.2 j (by omega))], rfl⟩)
      · have hk : k < cn 1 := Nat.lt_of_not_le (fun h => c_10 (nI_le h (by omega)))
        refine lv_aload_n hx hb dX10_claimOf_13 rfl (lv_at hl 1 rfl) ?_
        refine hk_get (ref := "LightcurveHouse") (v := .ref (li 2)) X K (HW.o hW) rfl iX10_claimOf_X10 2 (by decide) (by decide +kernel) (fun _ h => h) rfl dX10_claimOf_14 ?_
        refine lv_iload_n hx hb dX10_claimOf_17 rfl (lv_at hl 0 rfl) ?_
        refine hk_callV 1 (As := [.int (nI k)]) (rest := []) X K hAE hS hl.1 (HW.l2 hW).1 rfl (c_Jx4a65c_get_915e3 E l H0 (HW.l2 hW) (HW.c2 hW).1 (Nat.lt_of_le_of_lt (HW.c2 hW).2 (by decide)) hk) (fun _ h => h.elim) gX10_claimOf_Jx4a65c_get_915e3 rfl ⟨rfl, hd_Jx4a65c_get_915e3⟩ rfl ⟨⟨(Nat.le_of_ble_eq_true rfl), (Nat.le_of_ble_eq_true rfl)⟩, (Nat.le_of_ble_eq_true rfl), (Nat.le_of_ble_eq_true rfl)⟩ rfl (Nat.le_of_ble_eq_true rfl) dX10_claimOf_18 (fun v9 H3 locsH3 hp hS hzH3 hkH3 => ?_)
        obtain ⟨hv, hh⟩ := hp
        subst hv; subst hh
        refine hk_cast X K (HW.e2 hW hk) rfl (by decide +kernel) dX10_claimOf_21 ?_
        refine lv_astore_n (lv' := [(3, .ref (gad G 2 k)), (2, .int (nI k)), (0, .ref ho), (1, .int e9)]) hx hb dX10_claimOf_24 rfl hl (by decide) rfl (fun ls hl => ?_)
        refine lv_aload_n hx hb dX10_claimOf_25 rfl (lv_at hl 0 rfl) ?_
        refine hk_get (ref := "LightcurveHouse$Star") (v := .int (μ 3 k)) X K (HW.e2 hW hk) rfl iX10_claimOf_X7 2 (by decide) (by decide +kernel) (fun _ h => h) rfl dX10_claimOf_26 ?_
        refine lv_iload_n hx hb dX10_claimOf_29 rfl (lv_at hl 3 rfl) ?_
        refine lv_icmp_ne (tgt := 45) hx hb dX10_claimOf_30 (by decide) (fun c_30 => ?_) (fun c_30 => ?_)
        · obtain ⟨q45, eq45⟩ : ∃ y : Int32, y = (nI k) + 1 := ⟨_, rfl⟩
          refine lv_iinc (v := q45) (lv' := [(2, .int q45), (3, .ref (gad G 2 k)), (0, .ref ho), (1, .int e9)]) hx hb dX10_claimOf_45 hl (k := 1) rfl (by rw [eq45]; rfl) (by decide) rfl (fun ls hl => ?_)
          rw [nI_1] at eq45
          subst eq45
          refine lv_goto (tgt := 2) hx hb dX10_claimOf_48 (by decide) ?_
          exact ih (k + 1) _ (by omega) ⟨hS, by omega, fun j hj => by
            by_cases g : j = k
            · rw [g]; exact fun h => c_30 h.1
            · exact hinv.2 j (by omega)⟩ _ (lv_sub hl [0, 2, 3] rfl)
        · refine lv_aload_n hx hb dX10_claimOf_33 rfl (lv_at hl 0 rfl) ?_
          refine hk_get (ref := "LightcurveHouse$Star") (v := .int (μ 4 k)) X K (HW.e2 hW hk) rfl iX10_claimOf_X7 3 (by decide) (by decide +kernel) (fun _ h => h) rfl dX10_claimOf_34 ?_
          refine lv_if_eq (tgt := 45) hx hb dX10_claimOf_37 (by decide) (fun c_37 => ?_) (fun c_37 => ?_)
          · obtain ⟨q45, eq45⟩ : ∃ y : Int32, y = (nI k) + 1 := ⟨_, rfl⟩
            refine lv_iinc (v := q45) (lv' := [(2, .int q45), (3, .ref (gad G 2 k)), (0, .ref ho), (1, .int e9)]) hx hb dX10_claimOf_45 hl (k := 1) rfl (by rw [eq45]; rfl) (by decide) rfl (fun ls hl => ?_)
            rw [nI_1] at eq45
            subst eq45
            refine lv_goto (tgt := 2) hx hb dX10_claimOf_48 (by decide) ?_
            exact ih (k + 1) _ (by omega) ⟨hS, by omega, fun j hj => by
              by_cases g : j = k
              · rw [g]; exact fun h => absurd h.2 (by rw [c_37]; decide)
              · exact hinv.2 j (by omega)⟩ _ (lv_sub hl [0, 2, 3] rfl)
          · refine lv_aload_n hx hb dX10_claimOf_40 rfl (lv_at hl 0 rfl) ?_
            refine hk_get (ref := "LightcurveHouse$Star") (v := .int (μ 4 k)) X K (HW.e2 hW hk) rfl iX10_claimOf_X7 3 (by decide) (by decide +kernel) (fun _ h => h) rfl dX10_claimOf_41 ?_
            exact hk_iret X hr hlk hQ hS (Nat.le_of_ble_eq_true rfl) (Nat.le_of_ble_eq_true rfl) dX10_claimOf_44 (⟨by rw [clm_found hk hinv.2 ⟨c_30, clm_pos hI hk c_37⟩], rfl⟩)
  exact L2 (cn 1 + 1) 0 _ (by omega) ⟨hS, Nat.zero_le _, fun j hj => absurd hj (Nat.not_lt_zero _)⟩ _ (lv_sub hl [0, 1, 2] rfl)

abbrev rmX10_lowestOther : Room := { frames := 9, cells := 0, slots := 0, locals := 154 }
theorem iX10_lowestOther_X10 : ∀ w ∈ wsX100, w ∈ wsX10_lowestOther := by decide +kernel
theorem iX10_lowestOther_X7 : ∀ w ∈ wsX70, w ∈ wsX10_lowestOther := by decide +kernel
set_option maxHeartbeats 4000000 in
set_option maxRecDepth 100000 in
theorem c_X10_lowestOther (E : hk_E) (l : Launch) (H0 : Heap) {Z : Nat → Prop} {ho ts : Nat} {li : Nat → Nat} {rr : Nat → Nat → Nat} {G : hG} {R : hR} {cn : Nat → Nat} {sc : Nat → Int32} {μ : Nat → Nat → Int32} (hW : HW E Z (ho, li, rr, ts) G R (cn, sc, μ) H0) (hI : Inv (cn, sc, μ)) {j : Nat} (hj : j < cn 1)  : hk_M E l yX10_lowestOther wsX10_lowestOther rmX10_lowestOther (fun _ => False) [.ref ho, .ref (gad G 2 j)] H0 (fun z H1 => z = some (.int (sp_low (upd (μ 3) j 12) (μ 3 j) (cn 1) (-1))) ∧ H0 = H1) := by
  refine hk_M.ofW (cc := cX10_lowestOther) (maxL := 3) (ret := (some .int)) (by decide +kernel) rfl (Nat.le_of_ble_eq_true rfl) ?_
  intro p e s m args below meth c ls Q hQ X hr hlk hnm K hs9 hS hl
  obtain ⟨hx, hb, hml, hown, hts⟩ := id X
  have hAE : ∀ q, (fun _ => False) q → hk_A E q := fun _ h => h.elim
  have hl : lv_has ls 3 [(0, .ref ho), (1, .ref (gad G 2 j))] := hl
  have hc1 : cn 1 ≤ 12 := hI.1.1
  have hc8 : cn 8 ≤ 8 := hI.1.2.1
  have hc12 : cn 12 ≤ 80 := hI.1.2.2.1
  have hc22 : cn 22 ≤ 8 := hI.1.2.2.2.1
  have hc29 : cn 29 ≤ 30 := hI.1.2.2.2.2
  have h12 := (entI_of hI).ne12 hj
  refine lv_iconst (v := 0) hx hb dX10_lowestOther_0 (by decide) ?_
  refine lv_topi (fun z_1 ez_1 => ?_)
  have ez_1 : z_1 = nI 0 := ez_1
  subst ez_1
  refine lv_istore_n (lv' := [(2, .int (nI 0)), (0, .ref ho), (1, .ref (gad G 2 j))]) hx hb dX10_lowestOther_1 rfl hl (by decide) rfl (fun ls hl => ?_)
  have L2 : ∀ (n9 : Nat) (k : Nat) (locs : List Loc), cn 1 + 1 ≤ k + n9 → (va_S (fun _ => False) s.heap H0 locs ∧ k ≤ cn 1 ∧ ∀ i, i < k → ¬ (i ≠ j ∧ μ 3 i = μ 3 j)) → ∀ (ls : Array Slot), lv_has ls 3 [(2, .int (nI k)), (0, .ref ho), (1, .ref (gad G 2 j))] → W p l e rmX10_lowestOther s m args below meth c H0 locs 0 0 Q (F0 m 2 ls []) := by
    intro n9
    induction n9 with
    | zero =>
      intro k locs hm hinv ls hl
      obtain ⟨hS, hinv⟩ := hinv
      have hi1 := hinv.1
      exact absurd hm (by omega)
    | succ n9 ih =>
      intro k locs hm hinv ls hl
      obtain ⟨hS, hinv⟩ := hinv
      have hi1 := hinv.1
      refine lv_iload_n hx hb dX10_lowestOther_2 rfl (lv_at hl 0 rfl) ?_
      refine lv_aload_n hx hb dX10_lowestOther_3 rfl (lv_at hl 1 rfl) ?_
      refine hk_get (ref := "LightcurveHouse") (v := .ref (li 2)) X K (HW.o hW) rfl iX10_lowestOther_X10 2 (by decide) (by decide +kernel) (fun _ h => h) rfl dX10_lowestOther_4 ?_
      refine hk_callV 0 (As := []) (rest := [.int (nI k)]) X K hAE hS hl.1 (HW.l2 hW).1 rfl (c_Jx4a65c_size_8abf5 E l H0 (HW.l2 hW)) (fun _ h => h.elim) gX10_lowestOther_Jx4a65c_size_8abf5 rfl ⟨rfl, hd_Jx4a65c_size_8abf5⟩ rfl ⟨⟨(Nat.le_of_ble_eq_true rfl), (Nat.le_of_ble_eq_true rfl)⟩, (Nat.le_of_ble_eq_true rfl), (Nat.le_of_ble_eq_true rfl)⟩ rfl (Nat.le_of_ble_eq_true rfl) dX10_lowestOther_7 (fun v9 H2 locsH2 hp hS hzH2 hkH2 => ?_)
      obtain ⟨hv, hh⟩ := hp
      subst hv; subst hh
      refine lv_icmp_ge (tgt := 50) hx hb dX10_lowestOther_10 (by decide) (fun c_10 => ?_) (fun c_10 => ?_)
      · have hk : cn 1 ≤ k := (nI_leI (by omega) (by omega)).mp c_10
        refine lv_iconst (v := (-1)) hx hb dX10_lowestOther_50 (by decide) ?_
        exact hk_iret X hr hlk hQ hS (Nat.le_of_ble_eq_true rfl) (Nat.le_of_ble_eq_true rfl) dX10_lowestOther_51 (⟨by rw [low_none h12 (fun i hi => hinv.2 i (by omega))], rfl⟩)
      · have hk : k < cn 1 := Nat.lt_of_not_le (fun h => c_10 (nI_le h (by omega)))
        refine lv_iload_n hx hb dX10_lowestOther_13 rfl (lv_at hl 0 rfl) ?_
        refine lv_aload_n hx hb dX10_lowestOther_14 rfl (lv_at hl 2 rfl) ?_
        refine hk_get (ref := "LightcurveHouse$Star") (v := .int (nI j)) X K (HW.e2 hW hj) rfl iX10_lowestOther_X7 0 (by decide) (by decide +kernel) (fun _ h => h) rfl dX10_lowestOther_15 ?_
        refine lv_icmp_eq (tgt := 44) hx hb dX10_lowestOther_18 (by decide) (fun c_18 => ?_) (fun c_18 => ?_)
        · obtain ⟨q44, eq44⟩ : ∃ y : Int32, y = (nI k) + 1 := ⟨_, rfl⟩
          refine lv_iinc (v := q44) (lv' := [(2, .int q44), (0, .ref ho), (1, .ref (gad G 2 j))]) hx hb dX10_lowestOther_44 hl (k := 0) rfl (by rw [eq44]; rfl) (by decide) rfl (fun ls hl => ?_)
          rw [nI_1] at eq44
          subst eq44
          refine lv_goto (tgt := 2) hx hb dX10_lowestOther_47 (by decide) ?_
          exact ih (k + 1) _ (by omega) ⟨hS, by omega, fun i hi => by
            by_cases g : i = k
            · rw [g]; exact fun h => h.1 ((nI_eq (by omega) (by omega)).mp c_18)
            · exact hinv.2 i (by omega)⟩ _ (lv_sub hl [0, 1, 2] rfl)
        · refine lv_aload_n hx hb dX10_lowestOther_21 rfl (lv_at hl 1 rfl) ?_
          refine hk_get (ref := "LightcurveHouse") (v := .ref (li 2)) X K (HW.o hW) rfl iX10_lowestOther_X10 2 (by decide) (by decide +kernel) (fun _ h => h) rfl dX10_lowestOther_22 ?_
          refine lv_iload_n hx hb dX10_lowestOther_25 rfl (lv_at hl 0 rfl) ?_
          refine hk_callV 1 (As := [.int (nI k)]) (rest := []) X K hAE hS hl.1 (HW.l2 hW).1 rfl (c_Jx4a65c_get_915e3 E l H0 (HW.l2 hW) (HW.c2 hW).1 (Nat.lt_of_le_of_lt (HW.c2 hW).2 (by decide)) hk) (fun _ h => h.elim) gX10_lowestOther_Jx4a65c_get_915e3 rfl ⟨rfl, hd_Jx4a65c_get_915e3⟩ rfl ⟨⟨(Nat.le_of_ble_eq_true rfl), (Nat.le_of_ble_eq_true rfl)⟩, (Nat.le_of_ble_eq_true rfl), (Nat.le_of_ble_eq_true rfl)⟩ rfl (Nat.le_of_ble_eq_true rfl) dX10_lowestOther_26 (fun v9 H3 locsH3 hp hS hzH3 hkH3 => ?_)
          obtain ⟨hv, hh⟩ := hp
          subst hv; subst hh
          refine hk_cast X K (HW.e2 hW hk) rfl (by decide +kernel) dX10_lowestOther_29 ?_
          refine hk_get (ref := "LightcurveHouse$Star") (v := .int (μ 3 k)) X K (HW.e2 hW hk) rfl iX10_lowestOther_X7 2 (by decide) (by decide +kernel) (fun _ h => h) rfl dX10_lowestOther_32 ?_
          refine lv_aload_n hx hb dX10_lowestOther_35 rfl (lv_at hl 2 rfl) ?_
          refine hk_get (ref := "LightcurveHouse$Star") (v := .int (μ 3 j)) X K (HW.e2 hW hj) rfl iX10_lowestOther_X7 2 (by decide) (by decide +kernel) (fun _ h => h) rfl dX10_lowestOther_36 ?_
          refine lv_icmp_ne (tgt := 44) hx hb dX10_lowestOther_39 (by decide) (fun c_39 => ?_) (fun c_39 => ?_)
          · obtain ⟨q44, eq44⟩ : ∃ y : Int32, y = (nI k) + 1 := ⟨_, rfl⟩
            refine lv_iinc (v := q44) (lv' := [(2, .int q44), (0, .ref ho), (1, .ref (gad G 2 j))]) hx hb dX10_lowestOther_44 hl (k := 0) rfl (by rw [eq44]; rfl) (by decide) rfl (fun ls hl => ?_)
            rw [nI_1] at eq44
            subst eq44
            refine lv_goto (tgt := 2) hx hb dX10_lowestOther_47 (by decide) ?_
            exact ih (k + 1) _ (by omega) ⟨hS, by omega, fun i hi => by
              by_cases g : i = k
              · rw [g]; exact fun h => c_39 h.2
              · exact hinv.2 i (by omega)⟩ _ (lv_sub hl [0, 1, 2] rfl)
          · refine lv_iload_n hx hb dX10_lowestOther_42 rfl (lv_at hl 0 rfl) ?_
            exact hk_iret X hr hlk hQ hS (Nat.le_of_ble_eq_true rfl) (Nat.le_of_ble_eq_true rfl) dX10_lowestOther_43 (⟨by rw [low_found h12 hk hinv.2 ⟨fun g => c_18 (by rw [g]), c_39⟩], rfl⟩)
  exact L2 (cn 1 + 1) 0 _ (by omega) ⟨hS, Nat.zero_le _, fun i hi => absurd hi (Nat.not_lt_zero _)⟩ _ (lv_sub hl [0, 1, 2] rfl)

theorem low_iff {f : Nat → Int32} {j n : Nat} (h12 : f j ≠ 12) (hj : j < n) (hn : n < 2 ^ 30) : sp_low (upd f j 12) (f j) n (-1) = -1 ↔ nI (sp_cnt f (f j) n) = 1 := by
  rw [cnt_one h12 hj (by omega)]
  constructor
  · intro h k hk q
    obtain ⟨i, i1, i2, i3, i4⟩ := sp_low_some (f := upd f j 12) (e := f j) n ⟨k, hk, by rw [upd_ne q.1]; exact q.2⟩
    rw [i4] at h
    have h0 := nI_pos' (n := i) (by omega)
    rw [h] at h0
    exact absurd h0 (by decide)
  · exact fun h => low_none h12 h
theorem upd_id {f : Nat → Int32} {k : Nat} : upd f k (f k) = f := by
  funext i
  unfold upd
  by_cases c : i = k
  · rw [if_pos c, c]
  · rw [if_neg c]
abbrev rmX10_renumber : Room := { frames := 9, cells := 0, slots := 0, locals := 154 }
theorem iX10_renumber_X10 : ∀ w ∈ wsX100, w ∈ wsX10_renumber := by decide +kernel
theorem iX10_renumber_X7 : ∀ w ∈ wsX70, w ∈ wsX10_renumber := by decide +kernel
set_option maxHeartbeats 4000000 in
set_option maxRecDepth 100000 in
theorem c_X10_renumber (E : hk_E) (l : Launch) (H0 : Heap) {Z : Nat → Prop} {ho ts : Nat} {li : Nat → Nat} {rr : Nat → Nat → Nat} {G : hG} {R : hR} {cn : Nat → Nat} {sc : Nat → Int32} {μ : Nat → Nat → Int32} (hW : HW E Z (ho, li, rr, ts) G R (cn, sc, μ) H0) (hN1 : cn 1 ≤ 12) {e9 v9 : Int32}  : hk_M E l yX10_renumber wsX10_renumber rmX10_renumber (Z) [.ref ho, .int e9, .int v9] H0 (fun z H1 => z = none ∧ HW E Z (ho, li, rr, ts) G R (cn, sc, va_up μ 3 (sp_ren (μ 3) e9 v9 (cn 1))) H1 ∧ H0.size ≤ H1.size) := by
  refine hk_M.ofW (cc := cX10_renumber) (maxL := 5) (ret := none) (by decide +kernel) rfl (Nat.le_of_ble_eq_true rfl) ?_
  intro p e s m args below meth c ls Q hQ X hr hlk hnm K hs9 hS hl
  obtain ⟨hx, hb, hml, hown, hts⟩ := id X
  have hAE : ∀ q, (Z) q → hk_A E q := hW.2.2.2.2.2.2.2.2.2.2.2.2
  have hl : lv_has ls 5 [(0, .ref ho), (1, .int e9), (2, .int v9)] := hl
  refine lv_iconst (v := 0) hx hb dX10_renumber_0 (by decide) ?_
  refine lv_topi (fun z_1 ez_1 => ?_)
  have ez_1 : z_1 = nI 0 := ez_1
  subst ez_1
  refine lv_istore_n (lv' := [(3, .int (nI 0)), (0, .ref ho), (1, .int e9), (2, .int v9)]) hx hb dX10_renumber_1 rfl hl (by decide) rfl (fun ls hl => ?_)
  have L2 : ∀ (n9 : Nat) (k : Nat) (f9 : Nat → Int32) (H : Heap) (locs : List Loc), cn 1 + 1 ≤ k + n9 → (va_S (Z) s.heap H locs ∧ k ≤ cn 1 ∧ f9 = sp_ren (μ 3) e9 v9 k ∧ HW E Z (ho, li, rr, ts) G R (cn, sc, va_up μ 3 f9) H ∧ H0.size ≤ H.size) → ∀ (ls : Array Slot), lv_has ls 5 [(3, .int (nI k)), (0, .ref ho), (1, .int e9), (2, .int v9)] → W p l e rmX10_renumber s m args below meth c H locs 0 0 Q (F0 m 2 ls []) := by
    intro n9
    induction n9 with
    | zero =>
      intro k f9 H locs hm hinv ls hl
      obtain ⟨hS, hinv⟩ := hinv
      obtain ⟨hi1, hf9, hW, hz9⟩ := hinv
      exact absurd hm (by omega)
    | succ n9 ih =>
      intro k f9 H locs hm hinv ls hl
      obtain ⟨hS, hinv⟩ := hinv
      obtain ⟨hi1, hf9, hW, hz9⟩ := hinv
      refine lv_iload_n hx hb dX10_renumber_2 rfl (lv_at hl 0 rfl) ?_
      refine lv_aload_n hx hb dX10_renumber_3 rfl (lv_at hl 1 rfl) ?_
      refine hk_get (ref := "LightcurveHouse") (v := .ref (li 2)) X K (HW.o hW) rfl iX10_renumber_X10 2 (by decide) (by decide +kernel) (fun _ h => h) rfl dX10_renumber_4 ?_
      refine hk_callV 0 (As := []) (rest := [.int (nI k)]) X K hAE hS hl.1 (HW.l2 hW).1 rfl (c_Jx4a65c_size_8abf5 E l H (HW.l2 hW)) (fun _ h => h.elim) gX10_renumber_Jx4a65c_size_8abf5 rfl ⟨rfl, hd_Jx4a65c_size_8abf5⟩ rfl ⟨⟨(Nat.le_of_ble_eq_true rfl), (Nat.le_of_ble_eq_true rfl)⟩, (Nat.le_of_ble_eq_true rfl), (Nat.le_of_ble_eq_true rfl)⟩ rfl (Nat.le_of_ble_eq_true rfl) dX10_renumber_7 (fun v9 H2 locsH2 hp hS hzH2 hkH2 => ?_)
      obtain ⟨hv, hh⟩ := hp
      subst hv; subst hh
      refine lv_icmp_ge (tgt := 47) hx hb dX10_renumber_10 (by decide) (fun c_10 => ?_) (fun c_10 => ?_)
      · have hk : cn 1 ≤ k := (nI_leI (by omega) (by omega)).mp c_10
        exact hk_vret X hr hlk hQ hS (Nat.le_of_ble_eq_true rfl) (Nat.le_of_ble_eq_true rfl) dX10_renumber_47 (⟨rfl, by rw [show cn 1 = k by omega, ← hf9]; exact hW, hz9⟩)
      · have hk : k < cn 1 := Nat.lt_of_not_le (fun h => c_10 (nI_le h (by omega)))
        refine lv_aload_n hx hb dX10_renumber_13 rfl (lv_at hl 1 rfl) ?_
        refine hk_get (ref := "LightcurveHouse") (v := .ref (li 2)) X K (HW.o hW) rfl iX10_renumber_X10 2 (by decide) (by decide +kernel) (fun _ h => h) rfl dX10_renumber_14 ?_
        refine lv_iload_n hx hb dX10_renumber_17 rfl (lv_at hl 0 rfl) ?_
        refine hk_callV 1 (As := [.int (nI k)]) (rest := []) X K hAE hS hl.1 (HW.l2 hW).1 rfl (c_Jx4a65c_get_915e3 E l H (HW.l2 hW) (HW.c2 hW).1 (Nat.lt_of_le_of_lt (HW.c2 hW).2 (by decide)) hk) (fun _ h => h.elim) gX10_renumber_Jx4a65c_get_915e3 rfl ⟨rfl, hd_Jx4a65c_get_915e3⟩ rfl ⟨⟨(Nat.le_of_ble_eq_true rfl), (Nat.le_of_ble_eq_true rfl)⟩, (Nat.le_of_ble_eq_true rfl), (Nat.le_of_ble_eq_true rfl)⟩ rfl (Nat.le_of_ble_eq_true rfl) dX10_renumber_18 (fun v9 H3 locsH3 hp hS hzH3 hkH3 => ?_)
        obtain ⟨hv, hh⟩ := hp
        subst hv; subst hh
        refine hk_cast X K (HW.e2 hW hk) rfl (by decide +kernel) dX10_renumber_21 ?_
        refine lv_astore (lv' := [(4, .ref (gad G 2 k)), (3, .int (nI k)), (0, .ref ho), (1, .int e9), (2, .int v9)]) hx hb dX10_renumber_24 hl (by decide) rfl (fun ls hl => ?_)
        refine lv_aload hx hb dX10_renumber_26 (lv_at hl 0 rfl) ?_
        refine hk_get (ref := "LightcurveHouse$Star") (v := .int (f9 k)) X K (HW.e2 hW hk) rfl iX10_renumber_X7 2 (by decide) (by decide +kernel) (fun _ h => h) rfl dX10_renumber_28 ?_
        refine lv_iload_n hx hb dX10_renumber_31 rfl (lv_at hl 3 rfl) ?_
        refine lv_icmp_ne (tgt := 41) hx hb dX10_renumber_32 (by decide) (fun c_32 => ?_) (fun c_32 => ?_)
        · obtain ⟨q41, eq41⟩ : ∃ y : Int32, y = (nI k) + 1 := ⟨_, rfl⟩
          refine lv_iinc (v := q41) (lv' := [(3, .int q41), (4, .ref (gad G 2 k)), (0, .ref ho), (1, .int e9), (2, .int v9)]) hx hb dX10_renumber_41 hl (k := 1) rfl (by rw [eq41]; rfl) (by decide) rfl (fun ls hl => ?_)
          rw [nI_1] at eq41
          subst eq41
          refine lv_goto (tgt := 2) hx hb dX10_renumber_44 (by decide) ?_
          exact ih (k + 1) f9 _ _ (by omega) ⟨hS, by omega, by rw [← sp_ren_up, if_neg (by rw [hf9] at c_32; rw [← sp_ren_at (f := μ 3) (e := e9) (v := v9)]; exact c_32), ← hf9]; rw [show μ 3 k = f9 k from by rw [hf9, sp_ren_at], upd_id], hW, hz9⟩ _ (lv_sub hl [0, 2, 3, 4] rfl)
        · refine lv_aload hx hb dX10_renumber_35 (lv_at hl 0 rfl) ?_
          refine lv_iload_n hx hb dX10_renumber_37 rfl (lv_at hl 4 rfl) ?_
          refine hk_put (ref := "LightcurveHouse$Star") X K (HW.e2 hW hk) rfl iX10_renumber_X7 tyX7 tyX7_ok nmX7 hS ((hW.2.2.2.2.2.2.2.2.2.2.1 2 (by decide) _ hk).2) 2 (by decide) (by decide +kernel) (fun _ h => h) (by decide +kernel) rfl rfl (Nat.le_of_ble_eq_true rfl) dX10_renumber_38 (fun H4 locsH4 hOH4 hzH4 hqH4 hS => ?_)
          have hW := HW.put (S' := (cn, sc, va_up μ 3 (upd f9 k v9))) hW 2 k (by decide) hk (by show hk_O E _ 7 [.int (nI k), .int (μ 2 k), .int (upd f9 k v9 k), .int (μ 4 k), .int (μ 5 k)] _; rw [upd_at]; exact hOH4) hqH4 (fun j9 => by rcases j9 with _ | _ | _ | _ | _ | _ | _ <;> rfl) (fun j9 i9 h1 h2 h3 => by
            rcases lt7 h1 with g | g | g | g | g | g | g <;> subst g
            · exact hfs_c0 rfl
            · exact hfs_c1 rfl rfl
            · have g2 : i9 ≠ k := h3.resolve_left (fun g => g rfl)
              exact ⟨rfl, by show [Value.int (nI i9), Value.int (μ 2 i9), Value.int (upd f9 k v9 i9), Value.int (μ 4 i9), Value.int (μ 5 i9)] = [Value.int (nI i9), Value.int (μ 2 i9), Value.int (f9 i9), Value.int (μ 4 i9), Value.int (μ 5 i9)]; rw [upd_ne g2]⟩
            · exact hfs_c3 rfl rfl rfl
            · exact hfs_c4 rfl rfl rfl rfl rfl rfl rfl rfl rfl
            · exact hfs_c5 rfl rfl rfl rfl rfl rfl
            · exact hfs_c6 rfl rfl
            ) rfl
          obtain ⟨q41, eq41⟩ : ∃ y : Int32, y = (nI k) + 1 := ⟨_, rfl⟩
          refine lv_iinc (v := q41) (lv' := [(3, .int q41), (4, .ref (gad G 2 k)), (0, .ref ho), (1, .int e9), (2, .int v9)]) hx hb dX10_renumber_41 hl (k := 1) rfl (by rw [eq41]; rfl) (by decide) rfl (fun ls hl => ?_)
          rw [nI_1] at eq41
          subst eq41
          refine lv_goto (tgt := 2) hx hb dX10_renumber_44 (by decide) ?_
          exact ih (k + 1) (upd f9 k v9) _ _ (by omega) ⟨hS, by omega, by rw [← sp_ren_up, if_pos (by rw [hf9] at c_32; rw [← sp_ren_at (f := μ 3) (e := e9) (v := v9)]; exact c_32), hf9], hW, by omega⟩ _ (lv_sub hl [0, 2, 3, 4] rfl)
  exact L2 (cn 1 + 1) 0 (μ 3) H0 _ (by omega) ⟨hS, Nat.zero_le _, by rw [sp_ren_0], by rw [va_up_id]; exact hW, Nat.le_refl _⟩ _ (lv_sub hl [0, 1, 2, 3] rfl)

