abbrev rmX10_brightestOfCurve : Room := { frames := 1, cells := 0, slots := 0, locals := 21 }
theorem iX10_brightestOfCurve_X10 : ∀ w ∈ wsX100, w ∈ wsX10_brightestOfCurve := by decide +kernel
set_option maxHeartbeats 4000000 in
set_option maxRecDepth 100000 in
theorem c_X10_brightestOfCurve (E : hk_E) (l : Launch) (H0 : Heap) {Z : Nat → Prop} {ho ts : Nat} {li : Nat → Nat} {rr : Nat → Nat → Nat} {G : hG} {R : hR} {cn : Nat → Nat} {sc : Nat → Int32} {μ : Nat → Nat → Int32} (hW : HW E Z (ho, li, rr, ts) G R (cn, sc, μ) H0) (hm9 : 0 < R.1 0)  : hk_M E l yX10_brightestOfCurve wsX10_brightestOfCurve rmX10_brightestOfCurve (fun _ => False) [.ref ho] H0 (fun z H1 => z = some (.int (nI (hbr (R.2.2.1 0) (R.1 0 - 1)))) ∧ H0 = H1) := by
  refine hk_M.ofW (cc := cX10_brightestOfCurve) (maxL := 3) (ret := (some .int)) (by decide +kernel) rfl (Nat.le_of_ble_eq_true rfl) ?_
  intro p e s m args below meth c ls Q hQ X hr hlk hnm K hs9 hS hl
  obtain ⟨hx, hb, hml, hown, hts⟩ := id X
  have hAE : ∀ q, (fun _ => False) q → hk_A E q := fun _ h => h.elim
  have hl : lv_has ls 3 [(0, .ref ho)] := hl
  have hR0 : R.1 0 ≤ 80 := (HW.r0 hW).2
  refine lv_iconst (v := 0) hx hb dX10_brightestOfCurve_0 (by decide) ?_
  refine lv_topi (fun z_1 ez_1 => ?_)
  have ez_1 : z_1 = nI 0 := ez_1
  subst ez_1
  refine lv_istore_n (lv' := [(1, .int (nI 0)), (0, .ref ho)]) hx hb dX10_brightestOfCurve_1 rfl hl (by decide) rfl (fun ls hl => ?_)
  refine lv_iconst (v := 1) hx hb dX10_brightestOfCurve_2 (by decide) ?_
  refine lv_topi (fun z_2 ez_2 => ?_)
  have ez_2 : z_2 = nI 1 := ez_2
  subst ez_2
  refine lv_istore_n (lv' := [(2, .int (nI 1)), (1, .int (nI 0)), (0, .ref ho)]) hx hb dX10_brightestOfCurve_3 rfl hl (by decide) rfl (fun ls hl => ?_)
  have L4 : ∀ (n8 : Nat) (k : Nat) (locs : List Loc), R.1 0 + 1 ≤ k + n8 → (va_S (fun _ => False) s.heap H0 locs ∧ 1 ≤ k ∧ k ≤ R.1 0) → ∀ (ls : Array Slot), lv_has ls 3 [(2, .int (nI k)), (1, .int (nI (hbr (R.2.2.1 0) (k - 1)))), (0, .ref ho)] → W p l e rmX10_brightestOfCurve s m args below meth c H0 locs 0 0 Q (F0 m 4 ls []) := by
    intro n8
    induction n8 with
    | zero =>
      intro k locs hm hinv ls hl
      obtain ⟨hS, hinv⟩ := hinv
      obtain ⟨hi0, hi1⟩ := hinv
      have hb9 := (hbr_spec (v := (R.2.2.1 0)) (k - 1)).1
      exact absurd hm (by omega)
    | succ n8 ih =>
      intro k locs hm hinv ls hl
      obtain ⟨hS, hinv⟩ := hinv
      obtain ⟨hi0, hi1⟩ := hinv
      have hb9 := (hbr_spec (v := (R.2.2.1 0)) (k - 1)).1
      refine lv_iload_n hx hb dX10_brightestOfCurve_4 rfl (lv_at hl 0 rfl) ?_
      refine lv_aload_n hx hb dX10_brightestOfCurve_5 rfl (lv_at hl 2 rfl) ?_
      refine hk_get (ref := "LightcurveHouse") (v := .ref (rr 0 0)) X K (HW.o hW) rfl iX10_brightestOfCurve_X10 8 (by decide) (by decide +kernel) (fun _ h => h) rfl dX10_brightestOfCurve_6 ?_
      refine hk_callV 0 (As := []) (rest := [.int (nI k)]) X K hAE hS hl.1 (HW.r0 hW).1.1 rfl (c_X5_size E l H0 (HW.r0 hW).1) (fun _ h => h.elim) gX10_brightestOfCurve_X5_size rfl ⟨rfl, hd_X5_size⟩ rfl ⟨⟨(Nat.le_of_ble_eq_true rfl), (Nat.le_of_ble_eq_true rfl)⟩, (Nat.le_of_ble_eq_true rfl), (Nat.le_of_ble_eq_true rfl)⟩ rfl (Nat.le_of_ble_eq_true rfl) dX10_brightestOfCurve_9 (fun v9 H3 locsH3 hp hS hzH3 hkH3 => ?_)
      obtain ⟨hv, hh⟩ := hp
      subst hv; subst hh
      refine lv_icmp_ge (tgt := 42) hx hb dX10_brightestOfCurve_12 (by decide) (fun c_12 => ?_) (fun c_12 => ?_)
      · have hk : R.1 0 ≤ k := (nI_leI (by omega) (by omega)).mp c_12
        refine lv_iload_n hx hb dX10_brightestOfCurve_42 rfl (lv_at hl 1 rfl) ?_
        exact hk_iret X hr hlk hQ hS (Nat.le_of_ble_eq_true rfl) (Nat.le_of_ble_eq_true rfl) dX10_brightestOfCurve_43 (⟨by rw [show k = R.1 0 by omega], rfl⟩)
      · have hk : k < R.1 0 := Nat.lt_of_not_le (fun h => c_12 (nI_le h (by omega)))
        refine lv_aload_n hx hb dX10_brightestOfCurve_15 rfl (lv_at hl 2 rfl) ?_
        refine hk_get (ref := "LightcurveHouse") (v := .ref (rr 0 0)) X K (HW.o hW) rfl iX10_brightestOfCurve_X10 8 (by decide) (by decide +kernel) (fun _ h => h) rfl dX10_brightestOfCurve_16 ?_
        refine lv_iload_n hx hb dX10_brightestOfCurve_19 rfl (lv_at hl 0 rfl) ?_
        refine hk_callV 1 (As := [.int (nI k)]) (rest := []) X K hAE hS hl.1 (HW.r0 hW).1.1 rfl (c_X5_value E l H0 (HW.r0 hW).1 (HW.r0 hW).2 (by decide) (nI k)) (fun _ h => h.elim) gX10_brightestOfCurve_X5_value rfl ⟨rfl, hd_X5_value⟩ rfl ⟨⟨(Nat.le_of_ble_eq_true rfl), (Nat.le_of_ble_eq_true rfl)⟩, (Nat.le_of_ble_eq_true rfl), (Nat.le_of_ble_eq_true rfl)⟩ rfl (Nat.le_of_ble_eq_true rfl) dX10_brightestOfCurve_20 (fun v9 H4 locsH4 hp hS hzH4 hkH4 => ?_)
        obtain ⟨hv, hh⟩ := hp
        rw [row_get_in (show k < R.1 0 by omega) (by omega)] at hv
        subst hv; subst hh
        refine lv_aload_n hx hb dX10_brightestOfCurve_23 rfl (lv_at hl 2 rfl) ?_
        refine hk_get (ref := "LightcurveHouse") (v := .ref (rr 0 0)) X K (HW.o hW) rfl iX10_brightestOfCurve_X10 8 (by decide) (by decide +kernel) (fun _ h => h) rfl dX10_brightestOfCurve_24 ?_
        refine lv_iload_n hx hb dX10_brightestOfCurve_27 rfl (lv_at hl 1 rfl) ?_
        refine hk_callV 1 (As := [.int (nI (hbr (R.2.2.1 0) (k - 1)))]) (rest := [.int (R.2.2.1 0 k)]) X K hAE hS hl.1 (HW.r0 hW).1.1 rfl (c_X5_value E l H0 (HW.r0 hW).1 (HW.r0 hW).2 (by decide) (nI (hbr (R.2.2.1 0) (k - 1)))) (fun _ h => h.elim) gX10_brightestOfCurve_X5_value rfl ⟨rfl, hd_X5_value⟩ rfl ⟨⟨(Nat.le_of_ble_eq_true rfl), (Nat.le_of_ble_eq_true rfl)⟩, (Nat.le_of_ble_eq_true rfl), (Nat.le_of_ble_eq_true rfl)⟩ rfl (Nat.le_of_ble_eq_true rfl) dX10_brightestOfCurve_28 (fun v9 H5 locsH5 hp hS hzH5 hkH5 => ?_)
        obtain ⟨hv, hh⟩ := hp
        rw [row_get_in (show (hbr (R.2.2.1 0) (k - 1)) < R.1 0 by omega) (by omega)] at hv
        subst hv; subst hh
        refine lv_icmp_ge (tgt := 36) hx hb dX10_brightestOfCurve_31 (by decide) (fun c_31 => ?_) (fun c_31 => ?_)
        · obtain ⟨q36, eq36⟩ : ∃ y : Int32, y = (nI k) + 1 := ⟨_, rfl⟩
          refine lv_iinc (v := q36) (lv' := [(2, .int q36), (1, .int (nI (hbr (R.2.2.1 0) (k - 1)))), (0, .ref ho)]) hx hb dX10_brightestOfCurve_36 hl (k := 0) rfl (by rw [eq36]; rfl) (by decide) rfl (fun ls hl => ?_)
          rw [nI_1] at eq36
          subst eq36
          refine lv_goto (tgt := 4) hx hb dX10_brightestOfCurve_39 (by decide) ?_
          have e9 : hbr (R.2.2.1 0) (k + 1 - 1) = (hbr (R.2.2.1 0) (k - 1)) := by rw [Nat.add_sub_cancel, hbr_pred, if_neg (show ¬ (R.2.2.1 0 k < R.2.2.1 0 (hbr (R.2.2.1 0) (k - 1))) from Int32.not_lt.mpr c_31)]
          rw [← e9] at hl
          exact ih (k + 1) _ (by omega) ⟨hS, by omega, by omega⟩ _ (lv_sub hl [0, 1, 2] rfl)
        · refine lv_iload_n hx hb dX10_brightestOfCurve_34 rfl (lv_at hl 0 rfl) ?_
          rw [show nI k = nI (hbr (R.2.2.1 0) (k + 1 - 1)) from by rw [Nat.add_sub_cancel, hbr_pred, if_pos (show R.2.2.1 0 k < R.2.2.1 0 (hbr (R.2.2.1 0) (k - 1)) from Int32.not_le.mp c_31)]]
          refine lv_istore_n (lv' := [(1, .int (nI (hbr (R.2.2.1 0) (k + 1 - 1)))), (2, .int (nI k)), (0, .ref ho)]) hx hb dX10_brightestOfCurve_35 rfl hl (by decide) rfl (fun ls hl => ?_)
          obtain ⟨q36, eq36⟩ : ∃ y : Int32, y = (nI k) + 1 := ⟨_, rfl⟩
          refine lv_iinc (v := q36) (lv' := [(2, .int q36), (1, .int (nI (hbr (R.2.2.1 0) (k + 1 - 1)))), (0, .ref ho)]) hx hb dX10_brightestOfCurve_36 hl (k := 1) rfl (by rw [eq36]; rfl) (by decide) rfl (fun ls hl => ?_)
          rw [nI_1] at eq36
          subst eq36
          refine lv_goto (tgt := 4) hx hb dX10_brightestOfCurve_39 (by decide) ?_
          exact ih (k + 1) _ (by omega) ⟨hS, by omega, by omega⟩ _ (lv_sub hl [0, 1, 2] rfl)
  exact L4 (R.1 0 + 1) 1 _ (by omega) ⟨hS, Nat.le_refl _, hm9⟩ _ (lv_sub hl [0, 1, 2] rfl)

theorem hfa_pred {v : Nat → Int32} (n : Nat) : hfa v n = (if v (hfa v (n - 1)) < v n then n else hfa v (n - 1)) := by
  cases n with
  | zero => show 0 = if v 0 < v 0 then 0 else 0; rw [if_neg Int32.lt_irrefl]
  | succ n => rfl
abbrev rmX10_faintestOfCurve : Room := { frames := 1, cells := 0, slots := 0, locals := 21 }
theorem iX10_faintestOfCurve_X10 : ∀ w ∈ wsX100, w ∈ wsX10_faintestOfCurve := by decide +kernel
set_option maxHeartbeats 4000000 in
set_option maxRecDepth 100000 in
theorem c_X10_faintestOfCurve (E : hk_E) (l : Launch) (H0 : Heap) {Z : Nat → Prop} {ho ts : Nat} {li : Nat → Nat} {rr : Nat → Nat → Nat} {G : hG} {R : hR} {cn : Nat → Nat} {sc : Nat → Int32} {μ : Nat → Nat → Int32} (hW : HW E Z (ho, li, rr, ts) G R (cn, sc, μ) H0) (hm9 : 0 < R.1 0)  : hk_M E l yX10_faintestOfCurve wsX10_faintestOfCurve rmX10_faintestOfCurve (fun _ => False) [.ref ho] H0 (fun z H1 => z = some (.int (nI (hfa (R.2.2.1 0) (R.1 0 - 1)))) ∧ H0 = H1) := by
  refine hk_M.ofW (cc := cX10_faintestOfCurve) (maxL := 3) (ret := (some .int)) (by decide +kernel) rfl (Nat.le_of_ble_eq_true rfl) ?_
  intro p e s m args below meth c ls Q hQ X hr hlk hnm K hs9 hS hl
  obtain ⟨hx, hb, hml, hown, hts⟩ := id X
  have hAE : ∀ q, (fun _ => False) q → hk_A E q := fun _ h => h.elim
  have hl : lv_has ls 3 [(0, .ref ho)] := hl
  have hR0 : R.1 0 ≤ 80 := (HW.r0 hW).2
  refine lv_iconst (v := 0) hx hb dX10_faintestOfCurve_0 (by decide) ?_
  refine lv_topi (fun z_1 ez_1 => ?_)
  have ez_1 : z_1 = nI 0 := ez_1
  subst ez_1
  refine lv_istore_n (lv' := [(1, .int (nI 0)), (0, .ref ho)]) hx hb dX10_faintestOfCurve_1 rfl hl (by decide) rfl (fun ls hl => ?_)
  refine lv_iconst (v := 1) hx hb dX10_faintestOfCurve_2 (by decide) ?_
  refine lv_topi (fun z_2 ez_2 => ?_)
  have ez_2 : z_2 = nI 1 := ez_2
  subst ez_2
  refine lv_istore_n (lv' := [(2, .int (nI 1)), (1, .int (nI 0)), (0, .ref ho)]) hx hb dX10_faintestOfCurve_3 rfl hl (by decide) rfl (fun ls hl => ?_)
  have L4 : ∀ (n8 : Nat) (k : Nat) (locs : List Loc), R.1 0 + 1 ≤ k + n8 → (va_S (fun _ => False) s.heap H0 locs ∧ 1 ≤ k ∧ k ≤ R.1 0) → ∀ (ls : Array Slot), lv_has ls 3 [(2, .int (nI k)), (1, .int (nI (hfa (R.2.2.1 0) (k - 1)))), (0, .ref ho)] → W p l e rmX10_faintestOfCurve s m args below meth c H0 locs 0 0 Q (F0 m 4 ls []) := by
    intro n8
    induction n8 with
    | zero =>
      intro k locs hm hinv ls hl
      obtain ⟨hS, hinv⟩ := hinv
      obtain ⟨hi0, hi1⟩ := hinv
      have hb9 := (hfa_spec (v := (R.2.2.1 0)) (k - 1)).1
      exact absurd hm (by omega)
    | succ n8 ih =>
      intro k locs hm hinv ls hl
      obtain ⟨hS, hinv⟩ := hinv
      obtain ⟨hi0, hi1⟩ := hinv
      have hb9 := (hfa_spec (v := (R.2.2.1 0)) (k - 1)).1
      refine lv_iload_n hx hb dX10_faintestOfCurve_4 rfl (lv_at hl 0 rfl) ?_
      refine lv_aload_n hx hb dX10_faintestOfCurve_5 rfl (lv_at hl 2 rfl) ?_
      refine hk_get (ref := "LightcurveHouse") (v := .ref (rr 0 0)) X K (HW.o hW) rfl iX10_faintestOfCurve_X10 8 (by decide) (by decide +kernel) (fun _ h => h) rfl dX10_faintestOfCurve_6 ?_
      refine hk_callV 0 (As := []) (rest := [.int (nI k)]) X K hAE hS hl.1 (HW.r0 hW).1.1 rfl (c_X5_size E l H0 (HW.r0 hW).1) (fun _ h => h.elim) gX10_faintestOfCurve_X5_size rfl ⟨rfl, hd_X5_size⟩ rfl ⟨⟨(Nat.le_of_ble_eq_true rfl), (Nat.le_of_ble_eq_true rfl)⟩, (Nat.le_of_ble_eq_true rfl), (Nat.le_of_ble_eq_true rfl)⟩ rfl (Nat.le_of_ble_eq_true rfl) dX10_faintestOfCurve_9 (fun v9 H3 locsH3 hp hS hzH3 hkH3 => ?_)
      obtain ⟨hv, hh⟩ := hp
      subst hv; subst hh
      refine lv_icmp_ge (tgt := 42) hx hb dX10_faintestOfCurve_12 (by decide) (fun c_12 => ?_) (fun c_12 => ?_)
      · have hk : R.1 0 ≤ k := (nI_leI (by omega) (by omega)).mp c_12
        refine lv_iload_n hx hb dX10_faintestOfCurve_42 rfl (lv_at hl 1 rfl) ?_
        exact hk_iret X hr hlk hQ hS (Nat.le_of_ble_eq_true rfl) (Nat.le_of_ble_eq_true rfl) dX10_faintestOfCurve_43 (⟨by rw [show k = R.1 0 by omega], rfl⟩)
      · have hk : k < R.1 0 := Nat.lt_of_not_le (fun h => c_12 (nI_le h (by omega)))
        refine lv_aload_n hx hb dX10_faintestOfCurve_15 rfl (lv_at hl 2 rfl) ?_
        refine hk_get (ref := "LightcurveHouse") (v := .ref (rr 0 0)) X K (HW.o hW) rfl iX10_faintestOfCurve_X10 8 (by decide) (by decide +kernel) (fun _ h => h) rfl dX10_faintestOfCurve_16 ?_
        refine lv_iload_n hx hb dX10_faintestOfCurve_19 rfl (lv_at hl 0 rfl) ?_
        refine hk_callV 1 (As := [.int (nI k)]) (rest := []) X K hAE hS hl.1 (HW.r0 hW).1.1 rfl (c_X5_value E l H0 (HW.r0 hW).1 (HW.r0 hW).2 (by decide) (nI k)) (fun _ h => h.elim) gX10_faintestOfCurve_X5_value rfl ⟨rfl, hd_X5_value⟩ rfl ⟨⟨(Nat.le_of_ble_eq_true rfl), (Nat.le_of_ble_eq_true rfl)⟩, (Nat.le_of_ble_eq_true rfl), (Nat.le_of_ble_eq_true rfl)⟩ rfl (Nat.le_of_ble_eq_true rfl) dX10_faintestOfCurve_20 (fun v9 H4 locsH4 hp hS hzH4 hkH4 => ?_)
        obtain ⟨hv, hh⟩ := hp
        rw [row_get_in (show k < R.1 0 by omega) (by omega)] at hv
        subst hv; subst hh
        refine lv_aload_n hx hb dX10_faintestOfCurve_23 rfl (lv_at hl 2 rfl) ?_
        refine hk_get (ref := "LightcurveHouse") (v := .ref (rr 0 0)) X K (HW.o hW) rfl iX10_faintestOfCurve_X10 8 (by decide) (by decide +kernel) (fun _ h => h) rfl dX10_faintestOfCurve_24 ?_
        refine lv_iload_n hx hb dX10_faintestOfCurve_27 rfl (lv_at hl 1 rfl) ?_
        refine hk_callV 1 (As := [.int (nI (hfa (R.2.2.1 0) (k - 1)))]) (rest := [.int (R.2.2.1 0 k)]) X K hAE hS hl.1 (HW.r0 hW).1.1 rfl (c_X5_value E l H0 (HW.r0 hW).1 (HW.r0 hW).2 (by decide) (nI (hfa (R.2.2.1 0) (k - 1)))) (fun _ h => h.elim) gX10_faintestOfCurve_X5_value rfl ⟨rfl, hd_X5_value⟩ rfl ⟨⟨(Nat.le_of_ble_eq_true rfl), (Nat.le_of_ble_eq_true rfl)⟩, (Nat.le_of_ble_eq_true rfl), (Nat.le_of_ble_eq_true rfl)⟩ rfl (Nat.le_of_ble_eq_true rfl) dX10_faintestOfCurve_28 (fun v9 H5 locsH5 hp hS hzH5 hkH5 => ?_)
        obtain ⟨hv, hh⟩ := hp
        rw [row_get_in (show (hfa (R.2.2.1 0) (k - 1)) < R.1 0 by omega) (by omega)] at hv
        subst hv; subst hh
        refine lv_icmp_le (tgt := 36) hx hb dX10_faintestOfCurve_31 (by decide) (fun c_31 => ?_) (fun c_31 => ?_)
        · obtain ⟨q36, eq36⟩ : ∃ y : Int32, y = (nI k) + 1 := ⟨_, rfl⟩
          refine lv_iinc (v := q36) (lv' := [(2, .int q36), (1, .int (nI (hfa (R.2.2.1 0) (k - 1)))), (0, .ref ho)]) hx hb dX10_faintestOfCurve_36 hl (k := 0) rfl (by rw [eq36]; rfl) (by decide) rfl (fun ls hl => ?_)
          rw [nI_1] at eq36
          subst eq36
          refine lv_goto (tgt := 4) hx hb dX10_faintestOfCurve_39 (by decide) ?_
          have e9 : hfa (R.2.2.1 0) (k + 1 - 1) = (hfa (R.2.2.1 0) (k - 1)) := by rw [Nat.add_sub_cancel, hfa_pred, if_neg (show ¬ (R.2.2.1 0 (hfa (R.2.2.1 0) (k - 1)) < R.2.2.1 0 k) from Int32.not_lt.mpr c_31)]
          rw [← e9] at hl
          exact ih (k + 1) _ (by omega) ⟨hS, by omega, by omega⟩ _ (lv_sub hl [0, 1, 2] rfl)
        · refine lv_iload_n hx hb dX10_faintestOfCurve_34 rfl (lv_at hl 0 rfl) ?_
          rw [show nI k = nI (hfa (R.2.2.1 0) (k + 1 - 1)) from by rw [Nat.add_sub_cancel, hfa_pred, if_pos (show R.2.2.1 0 (hfa (R.2.2.1 0) (k - 1)) < R.2.2.1 0 k from Int32.not_le.mp c_31)]]
          refine lv_istore_n (lv' := [(1, .int (nI (hfa (R.2.2.1 0) (k + 1 - 1)))), (2, .int (nI k)), (0, .ref ho)]) hx hb dX10_faintestOfCurve_35 rfl hl (by decide) rfl (fun ls hl => ?_)
          obtain ⟨q36, eq36⟩ : ∃ y : Int32, y = (nI k) + 1 := ⟨_, rfl⟩
          refine lv_iinc (v := q36) (lv' := [(2, .int q36), (1, .int (nI (hfa (R.2.2.1 0) (k + 1 - 1)))), (0, .ref ho)]) hx hb dX10_faintestOfCurve_36 hl (k := 1) rfl (by rw [eq36]; rfl) (by decide) rfl (fun ls hl => ?_)
          rw [nI_1] at eq36
          subst eq36
          refine lv_goto (tgt := 4) hx hb dX10_faintestOfCurve_39 (by decide) ?_
          exact ih (k + 1) _ (by omega) ⟨hS, by omega, by omega⟩ _ (lv_sub hl [0, 1, 2] rfl)
  exact L4 (R.1 0 + 1) 1 _ (by omega) ⟨hS, Nat.le_refl _, hm9⟩ _ (lv_sub hl [0, 1, 2] rfl)

theorem hcur_ft {R : hR} {μ : Nat → Nat → Int32} {L : List Nat} (hc : hcur R μ L) (hm : 0 < L.length) (hs : ∀ x ∈ L, sml (sp_light μ x)) {cl w : Int32} (hcl : inr cl 30 1000000) : hft (R.2.1 0) (R.2.2.1 0) (R.1 0) cl w = sp_ft μ L cl w := by
  rw [hc.len]
  have h := hc.1
  rw [hc.len] at h
  exact hft_eq hc.2.2 hm hs h hcl
theorem hd_X10_brightestOfCurve : yX10_brightestOfCurve.cls ≠ "java/lang/invoke/MethodHandle" ∧ yX10_brightestOfCurve.cls ≠ "java/lang/invoke/VarHandle" ∧ (parseMethodDescriptor yX10_brightestOfCurve.desc).map (fun d => d.parameters.length) = some 0 := ⟨by decide, by decide, by decide +kernel⟩
theorem hd_X10_faintestOfCurve : yX10_faintestOfCurve.cls ≠ "java/lang/invoke/MethodHandle" ∧ yX10_faintestOfCurve.cls ≠ "java/lang/invoke/VarHandle" ∧ (parseMethodDescriptor yX10_faintestOfCurve.desc).map (fun d => d.parameters.length) = some 0 := ⟨by decide, by decide, by decide +kernel⟩
abbrev rmX10_featureOfCurve : Room := { frames := 2, cells := 0, slots := 0, locals := 43 }
theorem iX10_featureOfCurve_X10 : ∀ w ∈ wsX100, w ∈ wsX10_featureOfCurve := by decide +kernel
set_option maxHeartbeats 4000000 in
set_option maxRecDepth 100000 in
theorem c_X10_featureOfCurve (E : hk_E) (l : Launch) (H0 : Heap) {Z : Nat → Prop} {ho ts : Nat} {li : Nat → Nat} {rr : Nat → Nat → Nat} {G : hG} {R : hR} {cn : Nat → Nat} {sc : Nat → Int32} {μ : Nat → Nat → Int32} (hW : HW E Z (ho, li, rr, ts) G R (cn, sc, μ) H0) {L : List Nat} (hc : hcur R μ L) (hLp : 0 < L.length) (hs : ∀ x ∈ L, sml (sp_light μ x)) {cl : Int32} (hcl : inr cl 30 1000000) {w9 : Int32}  : hk_M E l yX10_featureOfCurve wsX10_featureOfCurve rmX10_featureOfCurve (fun _ => False) [.ref ho, .int w9, .int cl] H0 (fun z H1 => z = some (.int (sp_ft μ L cl w9)) ∧ H0 = H1) := by
  refine hk_M.ofW (cc := cX10_featureOfCurve) (maxL := 6) (ret := (some .int)) (by decide +kernel) rfl (Nat.le_of_ble_eq_true rfl) ?_
  intro p e s m args below meth c ls Q hQ X hr hlk hnm K hs9 hS hl
  obtain ⟨hx, hb, hml, hown, hts⟩ := id X
  have hAE : ∀ q, (fun _ => False) q → hk_A E q := fun _ h => h.elim
  have hl : lv_has ls 6 [(0, .ref ho), (1, .int w9), (2, .int cl)] := hl
  have hR0 : R.1 0 ≤ 80 := (HW.r0 hW).2
  have hm9 : 0 < R.1 0 := by rw [hc.len]; exact hLp
  have hb9 := (hbr_spec (v := R.2.2.1 0) (R.1 0 - 1)).1
  have hf9 := (hfa_spec (v := R.2.2.1 0) (R.1 0 - 1)).1
  have hcl0 : 0 < cl := hper_pos hcl
  refine lv_iload_n hx hb dX10_featureOfCurve_0 rfl (lv_at hl 1 rfl) ?_
  refine lv_iconst (v := 1) hx hb dX10_featureOfCurve_1 (by decide) ?_
  refine lv_icmp_ne (tgt := 7) hx hb dX10_featureOfCurve_2 (by decide) (fun c_2 => ?_) (fun c_2 => ?_)
  · refine lv_aload_n hx hb dX10_featureOfCurve_7 rfl (lv_at hl 0 rfl) ?_
    refine hk_callV 0 (As := []) (rest := []) X K hAE hS hl.1 (HW.o hW) rfl (c_X10_brightestOfCurve E l H0 hW hm9) (fun _ h => h.elim) gX10_featureOfCurve_X10_brightestOfCurve rfl ⟨rfl, hd_X10_brightestOfCurve⟩ rfl ⟨⟨(Nat.le_of_ble_eq_true rfl), (Nat.le_of_ble_eq_true rfl)⟩, (Nat.le_of_ble_eq_true rfl), (Nat.le_of_ble_eq_true rfl)⟩ rfl (Nat.le_of_ble_eq_true rfl) dX10_featureOfCurve_8 (fun v9 H1 locsH1 hp hS hzH1 hkH1 => ?_)
    obtain ⟨hv, hh⟩ := hp
    subst hv; subst hh
    refine lv_istore_n (lv' := [(3, .int (nI (hbr (R.2.2.1 0) (R.1 0 - 1)))), (0, .ref ho), (1, .int w9), (2, .int cl)]) hx hb dX10_featureOfCurve_11 rfl hl (by decide) rfl (fun ls hl => ?_)
    refine lv_aload_n hx hb dX10_featureOfCurve_12 rfl (lv_at hl 1 rfl) ?_
    refine hk_callV 0 (As := []) (rest := []) X K hAE hS hl.1 (HW.o hW) rfl (c_X10_faintestOfCurve E l H0 hW hm9) (fun _ h => h.elim) gX10_featureOfCurve_X10_faintestOfCurve rfl ⟨rfl, hd_X10_faintestOfCurve⟩ rfl ⟨⟨(Nat.le_of_ble_eq_true rfl), (Nat.le_of_ble_eq_true rfl)⟩, (Nat.le_of_ble_eq_true rfl), (Nat.le_of_ble_eq_true rfl)⟩ rfl (Nat.le_of_ble_eq_true rfl) dX10_featureOfCurve_13 (fun v9 H2 locsH2 hp hS hzH2 hkH2 => ?_)
    obtain ⟨hv, hh⟩ := hp
    subst hv; subst hh
    refine lv_istore (lv' := [(4, .int (nI (hfa (R.2.2.1 0) (R.1 0 - 1)))), (3, .int (nI (hbr (R.2.2.1 0) (R.1 0 - 1)))), (0, .ref ho), (1, .int w9), (2, .int cl)]) hx hb dX10_featureOfCurve_16 hl (by decide) rfl (fun ls hl => ?_)
    refine lv_iload_n hx hb dX10_featureOfCurve_18 rfl (lv_at hl 3 rfl) ?_
    refine lv_if_ne (tgt := 41) hx hb dX10_featureOfCurve_19 (by decide) (fun c_19 => ?_) (fun c_19 => ?_)
    · refine lv_aload_n hx hb dX10_featureOfCurve_41 rfl (lv_at hl 2 rfl) ?_
      refine hk_get (ref := "LightcurveHouse") (v := .ref (rr 0 0)) X K (HW.o hW) rfl iX10_featureOfCurve_X10 8 (by decide) (by decide +kernel) (fun _ h => h) rfl dX10_featureOfCurve_42 ?_
      refine lv_iload_n hx hb dX10_featureOfCurve_45 rfl (lv_at hl 1 rfl) ?_
      refine hk_callV 1 (As := [.int (nI (hbr (R.2.2.1 0) (R.1 0 - 1)))]) (rest := []) X K hAE hS hl.1 (HW.r0 hW).1.1 rfl (c_X5_key E l H0 (HW.r0 hW).1 (HW.r0 hW).2 (by decide) (nI (hbr (R.2.2.1 0) (R.1 0 - 1)))) (fun _ h => h.elim) gX10_featureOfCurve_X5_key rfl ⟨rfl, hd_X5_key⟩ rfl ⟨⟨(Nat.le_of_ble_eq_true rfl), (Nat.le_of_ble_eq_true rfl)⟩, (Nat.le_of_ble_eq_true rfl), (Nat.le_of_ble_eq_true rfl)⟩ rfl (Nat.le_of_ble_eq_true rfl) dX10_featureOfCurve_46 (fun v9 H3 locsH3 hp hS hzH3 hkH3 => ?_)
      obtain ⟨hv, hh⟩ := hp
      rw [row_get_in (show (hbr (R.2.2.1 0) (R.1 0 - 1)) < R.1 0 by omega) (by omega)] at hv
      subst hv; subst hh
      refine lv_aload_n hx hb dX10_featureOfCurve_49 rfl (lv_at hl 2 rfl) ?_
      refine hk_get (ref := "LightcurveHouse") (v := .ref (rr 0 0)) X K (HW.o hW) rfl iX10_featureOfCurve_X10 8 (by decide) (by decide +kernel) (fun _ h => h) rfl dX10_featureOfCurve_50 ?_
      refine lv_iload hx hb dX10_featureOfCurve_53 (lv_at hl 0 rfl) ?_
      refine hk_callV 1 (As := [.int (nI (hfa (R.2.2.1 0) (R.1 0 - 1)))]) (rest := [.int (R.2.1 0 (hbr (R.2.2.1 0) (R.1 0 - 1)))]) X K hAE hS hl.1 (HW.r0 hW).1.1 rfl (c_X5_key E l H0 (HW.r0 hW).1 (HW.r0 hW).2 (by decide) (nI (hfa (R.2.2.1 0) (R.1 0 - 1)))) (fun _ h => h.elim) gX10_featureOfCurve_X5_key rfl ⟨rfl, hd_X5_key⟩ rfl ⟨⟨(Nat.le_of_ble_eq_true rfl), (Nat.le_of_ble_eq_true rfl)⟩, (Nat.le_of_ble_eq_true rfl), (Nat.le_of_ble_eq_true rfl)⟩ rfl (Nat.le_of_ble_eq_true rfl) dX10_featureOfCurve_55 (fun v9 H4 locsH4 hp hS hzH4 hkH4 => ?_)
      obtain ⟨hv, hh⟩ := hp
      rw [row_get_in (show (hfa (R.2.2.1 0) (R.1 0 - 1)) < R.1 0 by omega) (by omega)] at hv
      subst hv; subst hh
      refine lv_isub hx hb dX10_featureOfCurve_58 ?_
      refine lv_iload_n hx hb dX10_featureOfCurve_59 rfl (lv_at hl 4 rfl) ?_
      refine hk_callS 2 (As := [.int ((R.2.1 0 (hbr (R.2.2.1 0) (R.1 0 - 1))) - (R.2.1 0 (hfa (R.2.2.1 0) (R.1 0 - 1)))), .int cl]) (rest := []) X K hAE hS hl.1 (c_X10_remainder E l H0 (n := (R.2.1 0 (hbr (R.2.2.1 0) (R.1 0 - 1))) - (R.2.1 0 (hfa (R.2.2.1 0) (R.1 0 - 1)))) (d := cl) hcl0) (fun _ h => h.elim) gX10_featureOfCurve_X10_remainder rfl hd_X10_remainder rfl ⟨⟨(Nat.le_of_ble_eq_true rfl), (Nat.le_of_ble_eq_true rfl)⟩, (Nat.le_of_ble_eq_true rfl), (Nat.le_of_ble_eq_true rfl)⟩ rfl (Nat.le_of_ble_eq_true rfl) dX10_featureOfCurve_60 (fun v9 H5 locsH5 hp hS hzH5 hkH5 => ?_)
      obtain ⟨hv, hh⟩ := hp
      subst hv; subst hh
      refine lv_istore (lv' := [(5, .int (rmd ((R.2.1 0 (hbr (R.2.2.1 0) (R.1 0 - 1))) - (R.2.1 0 (hfa (R.2.2.1 0) (R.1 0 - 1)))) cl)), (4, .int (nI (hfa (R.2.2.1 0) (R.1 0 - 1)))), (3, .int (nI (hbr (R.2.2.1 0) (R.1 0 - 1)))), (0, .ref ho), (1, .int w9), (2, .int cl)]) hx hb dX10_featureOfCurve_63 hl (by decide) rfl (fun ls hl => ?_)
      refine lv_iload hx hb dX10_featureOfCurve_65 (lv_at hl 0 rfl) ?_
      refine lv_bipush (v := 100) hx hb dX10_featureOfCurve_67 (by decide) ?_
      refine lv_imul hx hb dX10_featureOfCurve_69 ?_
      refine lv_iload_n hx hb dX10_featureOfCurve_70 rfl (lv_at hl 5 rfl) ?_
      refine hk_callS 2 (As := [.int ((rmd ((R.2.1 0 (hbr (R.2.2.1 0) (R.1 0 - 1))) - (R.2.1 0 (hfa (R.2.2.1 0) (R.1 0 - 1)))) cl) * 100), .int cl]) (rest := []) X K hAE hS hl.1 (c_X10_quotient E l H0 (n := (rmd ((R.2.1 0 (hbr (R.2.2.1 0) (R.1 0 - 1))) - (R.2.1 0 (hfa (R.2.2.1 0) (R.1 0 - 1)))) cl) * 100) (d := cl) hcl0) (fun _ h => h.elim) gX10_featureOfCurve_X10_quotient rfl hd_X10_quotient rfl ⟨⟨(Nat.le_of_ble_eq_true rfl), (Nat.le_of_ble_eq_true rfl)⟩, (Nat.le_of_ble_eq_true rfl), (Nat.le_of_ble_eq_true rfl)⟩ rfl (Nat.le_of_ble_eq_true rfl) dX10_featureOfCurve_71 (fun v9 H6 locsH6 hp hS hzH6 hkH6 => ?_)
      obtain ⟨hv, hh⟩ := hp
      subst hv; subst hh
      exact hk_iret X hr hlk hQ hS (Nat.le_of_ble_eq_true rfl) (Nat.le_of_ble_eq_true rfl) dX10_featureOfCurve_74 (⟨by rw [← hcur_ft hc hLp hs hcl]; unfold hft; rw [if_neg c_2, if_neg c_19], rfl⟩)
    · refine lv_aload_n hx hb dX10_featureOfCurve_22 rfl (lv_at hl 2 rfl) ?_
      refine hk_get (ref := "LightcurveHouse") (v := .ref (rr 0 0)) X K (HW.o hW) rfl iX10_featureOfCurve_X10 8 (by decide) (by decide +kernel) (fun _ h => h) rfl dX10_featureOfCurve_23 ?_
      refine lv_iload hx hb dX10_featureOfCurve_26 (lv_at hl 0 rfl) ?_
      refine hk_callV 1 (As := [.int (nI (hfa (R.2.2.1 0) (R.1 0 - 1)))]) (rest := []) X K hAE hS hl.1 (HW.r0 hW).1.1 rfl (c_X5_value E l H0 (HW.r0 hW).1 (HW.r0 hW).2 (by decide) (nI (hfa (R.2.2.1 0) (R.1 0 - 1)))) (fun _ h => h.elim) gX10_featureOfCurve_X5_value rfl ⟨rfl, hd_X5_value⟩ rfl ⟨⟨(Nat.le_of_ble_eq_true rfl), (Nat.le_of_ble_eq_true rfl)⟩, (Nat.le_of_ble_eq_true rfl), (Nat.le_of_ble_eq_true rfl)⟩ rfl (Nat.le_of_ble_eq_true rfl) dX10_featureOfCurve_28 (fun v9 H7 locsH7 hp hS hzH7 hkH7 => ?_)
      obtain ⟨hv, hh⟩ := hp
      rw [row_get_in (show (hfa (R.2.2.1 0) (R.1 0 - 1)) < R.1 0 by omega) (by omega)] at hv
      subst hv; subst hh
      refine lv_aload_n hx hb dX10_featureOfCurve_31 rfl (lv_at hl 2 rfl) ?_
      refine hk_get (ref := "LightcurveHouse") (v := .ref (rr 0 0)) X K (HW.o hW) rfl iX10_featureOfCurve_X10 8 (by decide) (by decide +kernel) (fun _ h => h) rfl dX10_featureOfCurve_32 ?_
      refine lv_iload_n hx hb dX10_featureOfCurve_35 rfl (lv_at hl 1 rfl) ?_
      refine hk_callV 1 (As := [.int (nI (hbr (R.2.2.1 0) (R.1 0 - 1)))]) (rest := [.int (R.2.2.1 0 (hfa (R.2.2.1 0) (R.1 0 - 1)))]) X K hAE hS hl.1 (HW.r0 hW).1.1 rfl (c_X5_value E l H0 (HW.r0 hW).1 (HW.r0 hW).2 (by decide) (nI (hbr (R.2.2.1 0) (R.1 0 - 1)))) (fun _ h => h.elim) gX10_featureOfCurve_X5_value rfl ⟨rfl, hd_X5_value⟩ rfl ⟨⟨(Nat.le_of_ble_eq_true rfl), (Nat.le_of_ble_eq_true rfl)⟩, (Nat.le_of_ble_eq_true rfl), (Nat.le_of_ble_eq_true rfl)⟩ rfl (Nat.le_of_ble_eq_true rfl) dX10_featureOfCurve_36 (fun v9 H8 locsH8 hp hS hzH8 hkH8 => ?_)
      obtain ⟨hv, hh⟩ := hp
      rw [row_get_in (show (hbr (R.2.2.1 0) (R.1 0 - 1)) < R.1 0 by omega) (by omega)] at hv
      subst hv; subst hh
      refine lv_isub hx hb dX10_featureOfCurve_39 ?_
      exact hk_iret X hr hlk hQ hS (Nat.le_of_ble_eq_true rfl) (Nat.le_of_ble_eq_true rfl) dX10_featureOfCurve_40 (⟨by rw [← hcur_ft hc hLp hs hcl]; unfold hft; rw [if_neg c_2, if_pos c_19], rfl⟩)
  · refine lv_iload_n hx hb dX10_featureOfCurve_5 rfl (lv_at hl 2 rfl) ?_
    exact hk_iret X hr hlk hQ hS (Nat.le_of_ble_eq_true rfl) (Nat.le_of_ble_eq_true rfl) dX10_featureOfCurve_6 (⟨by rw [← hcur_ft hc hLp hs hcl]; unfold hft; rw [if_pos c_2], rfl⟩)

theorem hd_X10_featureOfCurve : yX10_featureOfCurve.cls ≠ "java/lang/invoke/MethodHandle" ∧ yX10_featureOfCurve.cls ≠ "java/lang/invoke/VarHandle" ∧ (parseMethodDescriptor yX10_featureOfCurve.desc).map (fun d => d.parameters.length) = some 2 := ⟨by decide, by decide, by decide +kernel⟩
theorem hd_X6_holds : yX6_holds.cls ≠ "java/lang/invoke/MethodHandle" ∧ yX6_holds.cls ≠ "java/lang/invoke/VarHandle" ∧ (parseMethodDescriptor yX6_holds.desc).map (fun d => d.parameters.length) = some 1 := ⟨by decide, by decide, by decide +kernel⟩
abbrev rmX10_votesForClass : Room := { frames := 9, cells := 0, slots := 0, locals := 154 }
theorem iX10_votesForClass_X10 : ∀ w ∈ wsX100, w ∈ wsX10_votesForClass := by decide +kernel
theorem iX10_votesForClass_X6 : ∀ w ∈ wsX60, w ∈ wsX10_votesForClass := by decide +kernel
set_option maxHeartbeats 4000000 in
set_option maxRecDepth 100000 in
theorem c_X10_votesForClass (E : hk_E) (l : Launch) (H0 : Heap) {Z : Nat → Prop} {ho ts : Nat} {li : Nat → Nat} {rr : Nat → Nat → Nat} {G : hG} {R : hR} {cn : Nat → Nat} {sc : Nat → Int32} {μ : Nat → Nat → Int32} (hW : HW E Z (ho, li, rr, ts) G R (cn, sc, μ) H0) (hI : Inv (cn, sc, μ)) {L : List Nat} (hc : hcur R μ L) (hLp : 0 < L.length) (hs : ∀ x ∈ L, sml (sp_light μ x)) {cl : Int32} (hcl : inr cl 30 1000000) {kd : Int32}  : hk_M E l yX10_votesForClass wsX10_votesForClass rmX10_votesForClass (fun _ => False) [.ref ho, .int kd, .int cl] H0 (fun z H1 => z = some (.int (sp_vt μ (fun w => sp_ft μ L cl w) kd (cn 22))) ∧ H0 = H1) := by
  refine hk_M.ofW (cc := cX10_votesForClass) (maxL := 6) (ret := (some .int)) (by decide +kernel) rfl (Nat.le_of_ble_eq_true rfl) ?_
  intro p e s m args below meth c ls Q hQ X hr hlk hnm K hs9 hS hl
  obtain ⟨hx, hb, hml, hown, hts⟩ := id X
  have hAE : ∀ q, (fun _ => False) q → hk_A E q := fun _ h => h.elim
  have hl : lv_has ls 6 [(0, .ref ho), (1, .int kd), (2, .int cl)] := hl
  have hc1 : cn 1 ≤ 12 := hI.1.1
  have hc8 : cn 8 ≤ 8 := hI.1.2.1
  have hc12 : cn 12 ≤ 80 := hI.1.2.2.1
  have hc22 : cn 22 ≤ 8 := hI.1.2.2.2.1
  have hc29 : cn 29 ≤ 30 := hI.1.2.2.2.2
  refine lv_iconst (v := 0) hx hb dX10_votesForClass_0 (by decide) ?_
  refine lv_istore_n (lv' := [(3, .int 0), (0, .ref ho), (1, .int kd), (2, .int cl)]) hx hb dX10_votesForClass_1 rfl hl (by decide) rfl (fun ls hl => ?_)
  refine lv_iconst (v := 0) hx hb dX10_votesForClass_2 (by decide) ?_
  refine lv_topi (fun z_1 ez_1 => ?_)
  have ez_1 : z_1 = nI 0 := ez_1
  subst ez_1
  refine lv_istore (lv' := [(4, .int (nI 0)), (3, .int 0), (0, .ref ho), (1, .int kd), (2, .int cl)]) hx hb dX10_votesForClass_3 hl (by decide) rfl (fun ls hl => ?_)
  have L5 : ∀ (n8 : Nat) (k : Nat) (s8 : Int32) (locs : List Loc), cn 22 + 1 ≤ k + n8 → (va_S (fun _ => False) s.heap H0 locs ∧ k ≤ cn 22 ∧ s8 = sp_vt μ (fun w => sp_ft μ L cl w) kd k) → ∀ (ls : Array Slot), lv_has ls 6 [(4, .int (nI k)), (3, .int s8), (0, .ref ho), (1, .int kd), (2, .int cl)] → W p l e rmX10_votesForClass s m args below meth c H0 locs 0 0 Q (F0 m 5 ls []) := by
    intro n8
    induction n8 with
    | zero =>
      intro k s8 locs hm hinv ls hl
      obtain ⟨hS, hinv⟩ := hinv
      obtain ⟨hi1, hs8⟩ := hinv
      exact absurd hm (by omega)
    | succ n8 ih =>
      intro k s8 locs hm hinv ls hl
      obtain ⟨hS, hinv⟩ := hinv
      obtain ⟨hi1, hs8⟩ := hinv
      refine lv_iload hx hb dX10_votesForClass_5 (lv_at hl 0 rfl) ?_
      refine lv_aload_n hx hb dX10_votesForClass_7 rfl (lv_at hl 2 rfl) ?_
      refine hk_get (ref := "LightcurveHouse") (v := .ref (li 5)) X K (HW.o hW) rfl iX10_votesForClass_X10 5 (by decide) (by decide +kernel) (fun _ h => h) rfl dX10_votesForClass_8 ?_
      refine hk_callV 0 (As := []) (rest := [.int (nI k)]) X K hAE hS hl.1 (HW.l5 hW).1 rfl (c_Jx4a65c_size_8abf5 E l H0 (HW.l5 hW)) (fun _ h => h.elim) gX10_votesForClass_Jx4a65c_size_8abf5 rfl ⟨rfl, hd_Jx4a65c_size_8abf5⟩ rfl ⟨⟨(Nat.le_of_ble_eq_true rfl), (Nat.le_of_ble_eq_true rfl)⟩, (Nat.le_of_ble_eq_true rfl), (Nat.le_of_ble_eq_true rfl)⟩ rfl (Nat.le_of_ble_eq_true rfl) dX10_votesForClass_11 (fun v9 H2 locsH2 hp hS hzH2 hkH2 => ?_)
      obtain ⟨hv, hh⟩ := hp
      subst hv; subst hh
      refine lv_icmp_ge (tgt := 80) hx hb dX10_votesForClass_14 (by decide) (fun c_14 => ?_) (fun c_14 => ?_)
      · have hk : cn 22 ≤ k := (nI_leI (by omega) (by omega)).mp c_14
        refine lv_iload_n hx hb dX10_votesForClass_80 rfl (lv_at hl 1 rfl) ?_
        exact hk_iret X hr hlk hQ hS (Nat.le_of_ble_eq_true rfl) (Nat.le_of_ble_eq_true rfl) dX10_votesForClass_81 (⟨by rw [hs8, show k = cn 22 by omega], rfl⟩)
      · have hk : k < cn 22 := Nat.lt_of_not_le (fun h => c_14 (nI_le h (by omega)))
        refine lv_aload_n hx hb dX10_votesForClass_17 rfl (lv_at hl 2 rfl) ?_
        refine hk_get (ref := "LightcurveHouse") (v := .ref (li 5)) X K (HW.o hW) rfl iX10_votesForClass_X10 5 (by decide) (by decide +kernel) (fun _ h => h) rfl dX10_votesForClass_18 ?_
        refine lv_iload hx hb dX10_votesForClass_21 (lv_at hl 0 rfl) ?_
        refine hk_callV 1 (As := [.int (nI k)]) (rest := []) X K hAE hS hl.1 (HW.l5 hW).1 rfl (c_Jx4a65c_get_915e3 E l H0 (HW.l5 hW) (HW.c5 hW).1 (Nat.lt_of_le_of_lt (HW.c5 hW).2 (by decide)) hk) (fun _ h => h.elim) gX10_votesForClass_Jx4a65c_get_915e3 rfl ⟨rfl, hd_Jx4a65c_get_915e3⟩ rfl ⟨⟨(Nat.le_of_ble_eq_true rfl), (Nat.le_of_ble_eq_true rfl)⟩, (Nat.le_of_ble_eq_true rfl), (Nat.le_of_ble_eq_true rfl)⟩ rfl (Nat.le_of_ble_eq_true rfl) dX10_votesForClass_23 (fun v9 H3 locsH3 hp hS hzH3 hkH3 => ?_)
        obtain ⟨hv, hh⟩ := hp
        subst hv; subst hh
        refine hk_cast X K (HW.e5 hW hk) rfl (by decide +kernel) dX10_votesForClass_26 ?_
        refine lv_astore (lv' := [(5, .ref (gad G 5 k)), (4, .int (nI k)), (3, .int s8), (0, .ref ho), (1, .int kd), (2, .int cl)]) hx hb dX10_votesForClass_29 hl (by decide) rfl (fun ls hl => ?_)
        refine lv_aload hx hb dX10_votesForClass_31 (lv_at hl 0 rfl) ?_
        refine hk_get (ref := "LightcurveHouse$Rule") (v := .int (μ 23 k)) X K (HW.e5 hW hk) rfl iX10_votesForClass_X6 0 (by decide) (by decide +kernel) (fun _ h => h) rfl dX10_votesForClass_33 ?_
        refine lv_iload_n hx hb dX10_votesForClass_36 rfl (lv_at hl 4 rfl) ?_
        refine lv_icmp_ne (tgt := 74) hx hb dX10_votesForClass_37 (by decide) (fun c_37 => ?_) (fun c_37 => ?_)
        · obtain ⟨q74, eq74⟩ : ∃ y : Int32, y = (nI k) + 1 := ⟨_, rfl⟩
          refine lv_iinc (v := q74) (lv' := [(4, .int q74), (5, .ref (gad G 5 k)), (3, .int s8), (0, .ref ho), (1, .int kd), (2, .int cl)]) hx hb dX10_votesForClass_74 hl (k := 1) rfl (by rw [eq74]; rfl) (by decide) rfl (fun ls hl => ?_)
          rw [nI_1] at eq74
          subst eq74
          refine lv_goto (tgt := 5) hx hb dX10_votesForClass_77 (by decide) ?_
          exact ih (k + 1) s8 _ (by omega) ⟨hS, by omega, by rw [sp_vt, if_neg (fun h => c_37 h.1), Int32.add_zero]; exact hs8⟩ _ (lv_sub hl [0, 2, 3, 4, 5] rfl)
        · refine lv_aload hx hb dX10_votesForClass_40 (lv_at hl 0 rfl) ?_
          refine hk_get (ref := "LightcurveHouse$Rule") (v := .int (μ 28 k)) X K (HW.e5 hW hk) rfl iX10_votesForClass_X6 3 (by decide) (by decide +kernel) (fun _ h => h) rfl dX10_votesForClass_42 ?_
          refine lv_if_ne (tgt := 74) hx hb dX10_votesForClass_45 (by decide) (fun c_45 => ?_) (fun c_45 => ?_)
          · obtain ⟨q74, eq74⟩ : ∃ y : Int32, y = (nI k) + 1 := ⟨_, rfl⟩
            refine lv_iinc (v := q74) (lv' := [(4, .int q74), (5, .ref (gad G 5 k)), (3, .int s8), (0, .ref ho), (1, .int kd), (2, .int cl)]) hx hb dX10_votesForClass_74 hl (k := 1) rfl (by rw [eq74]; rfl) (by decide) rfl (fun ls hl => ?_)
            rw [nI_1] at eq74
            subst eq74
            refine lv_goto (tgt := 5) hx hb dX10_votesForClass_77 (by decide) ?_
            exact ih (k + 1) s8 _ (by omega) ⟨hS, by omega, by rw [sp_vt, if_neg (fun h => c_45 h.2.1), Int32.add_zero]; exact hs8⟩ _ (lv_sub hl [0, 2, 3, 4, 5] rfl)
          · refine lv_aload hx hb dX10_votesForClass_48 (lv_at hl 0 rfl) ?_
            refine lv_aload_n hx hb dX10_votesForClass_50 rfl (lv_at hl 3 rfl) ?_
            refine lv_aload hx hb dX10_votesForClass_51 (lv_at hl 0 rfl) ?_
            refine hk_get (ref := "LightcurveHouse$Rule") (v := .int (μ 24 k)) X K (HW.e5 hW hk) rfl iX10_votesForClass_X6 1 (by decide) (by decide +kernel) (fun _ h => h) rfl dX10_votesForClass_53 ?_
            refine lv_iload_n hx hb dX10_votesForClass_56 rfl (lv_at hl 5 rfl) ?_
            refine hk_callV 2 (As := [.int (μ 24 k), .int cl]) (rest := [.ref (gad G 5 k)]) X K hAE hS hl.1 (HW.o hW) rfl (c_X10_featureOfCurve E l H0 hW hc hLp hs hcl (w9 := μ 24 k)) (fun _ h => h.elim) gX10_votesForClass_X10_featureOfCurve rfl ⟨rfl, hd_X10_featureOfCurve⟩ rfl ⟨⟨(Nat.le_of_ble_eq_true rfl), (Nat.le_of_ble_eq_true rfl)⟩, (Nat.le_of_ble_eq_true rfl), (Nat.le_of_ble_eq_true rfl)⟩ rfl (Nat.le_of_ble_eq_true rfl) dX10_votesForClass_57 (fun v9 H4 locsH4 hp hS hzH4 hkH4 => ?_)
            obtain ⟨hv, hh⟩ := hp
            subst hv; subst hh
            refine hk_callV 1 (As := [.int (sp_ft μ L cl (μ 24 k))]) (rest := []) X K hAE hS hl.1 (HW.e5 hW hk) rfl (c_X6_holds E l H0 hW hk (v9 := sp_ft μ L cl (μ 24 k))) (fun _ h => h.elim) gX10_votesForClass_X6_holds rfl ⟨rfl, hd_X6_holds⟩ rfl ⟨⟨(Nat.le_of_ble_eq_true rfl), (Nat.le_of_ble_eq_true rfl)⟩, (Nat.le_of_ble_eq_true rfl), (Nat.le_of_ble_eq_true rfl)⟩ rfl (Nat.le_of_ble_eq_true rfl) dX10_votesForClass_60 (fun v9 H5 locsH5 hp hS hzH5 hkH5 => ?_)
            obtain ⟨hv, hh⟩ := hp
            subst hh
            rcases hv with ⟨hv, c_60⟩ | ⟨hv, c_60⟩
            · subst hv
              refine lv_if_eq (tgt := 74) hx hb dX10_votesForClass_63 (by decide) (fun c_63 => ?_) (fun c_63 => ?_)
              · exact absurd c_63 (by decide)
              · refine lv_iload_n hx hb dX10_votesForClass_66 rfl (lv_at hl 2 rfl) ?_
                refine lv_aload hx hb dX10_votesForClass_67 (lv_at hl 0 rfl) ?_
                refine hk_get (ref := "LightcurveHouse$Rule") (v := .int (μ 27 k)) X K (HW.e5 hW hk) rfl iX10_votesForClass_X6 2 (by decide) (by decide +kernel) (fun _ h => h) rfl dX10_votesForClass_69 ?_
                refine lv_iadd hx hb dX10_votesForClass_72 ?_
                refine lv_topi (fun s9 es9 => ?_)
                refine lv_istore_n (lv' := [(3, .int s9), (5, .ref (gad G 5 k)), (4, .int (nI k)), (0, .ref ho), (1, .int kd), (2, .int cl)]) hx hb dX10_votesForClass_73 rfl hl (by decide) rfl (fun ls hl => ?_)
                obtain ⟨q74, eq74⟩ : ∃ y : Int32, y = (nI k) + 1 := ⟨_, rfl⟩
                refine lv_iinc (v := q74) (lv' := [(4, .int q74), (3, .int s9), (5, .ref (gad G 5 k)), (0, .ref ho), (1, .int kd), (2, .int cl)]) hx hb dX10_votesForClass_74 hl (k := 2) rfl (by rw [eq74]; rfl) (by decide) rfl (fun ls hl => ?_)
                rw [nI_1] at eq74
                subst eq74
                refine lv_goto (tgt := 5) hx hb dX10_votesForClass_77 (by decide) ?_
                exact ih (k + 1) s9 _ (by omega) ⟨hS, by omega, by rw [es9, hs8, sp_vt, if_pos ⟨c_37, c_45, c_60⟩]⟩ _ (lv_sub hl [0, 1, 3, 4, 5] rfl)
            · subst hv
              refine lv_if_eq (tgt := 74) hx hb dX10_votesForClass_63 (by decide) (fun c_63 => ?_) (fun c_63 => ?_)
              · obtain ⟨q74, eq74⟩ : ∃ y : Int32, y = (nI k) + 1 := ⟨_, rfl⟩
                refine lv_iinc (v := q74) (lv' := [(4, .int q74), (5, .ref (gad G 5 k)), (3, .int s8), (0, .ref ho), (1, .int kd), (2, .int cl)]) hx hb dX10_votesForClass_74 hl (k := 1) rfl (by rw [eq74]; rfl) (by decide) rfl (fun ls hl => ?_)
                rw [nI_1] at eq74
                subst eq74
                refine lv_goto (tgt := 5) hx hb dX10_votesForClass_77 (by decide) ?_
                exact ih (k + 1) s8 _ (by omega) ⟨hS, by omega, by rw [sp_vt, if_neg (fun h => c_60 h.2.2), Int32.add_zero]; exact hs8⟩ _ (lv_sub hl [0, 2, 3, 4, 5] rfl)
              · exact absurd (by decide) c_63
  exact L5 (cn 22 + 1) 0 0 _ (by omega) ⟨hS, Nat.zero_le _, rfl⟩ _ (lv_sub hl [0, 1, 2, 3, 4] rfl)

