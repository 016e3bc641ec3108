abbrev rmX10_bestTrial : Room := { frames := 3, cells := 0, slots := 0, locals := 93 }
theorem iX10_bestTrial_X10 : ∀ w ∈ wsX100, w ∈ wsX10_bestTrial := by decide +kernel
set_option maxHeartbeats 4000000 in
set_option maxRecDepth 100000 in
theorem c_X10_bestTrial (E : hk_E) (l : Launch) (H0 : Heap) {Z : Nat → Prop} {ho ts : Nat} {li : Nat → Nat} {rr : Nat → Nat → Nat} {G : hG} {R : hR} {cn : Nat → Nat} {sc : Nat → Int32} {μ : Nat → Nat → Int32} (hW : HW E Z (ho, li, rr, ts) G R (cn, sc, μ) H0) {L : List Nat} (hc : hcur R μ L) {fr st : Int32} {N : Nat} (hN : 1 ≤ N) (hN2 : N ≤ 200) (hP : ∀ i, i < N → 0 < trI fr st i)  : hk_M E l yX10_bestTrial wsX10_bestTrial rmX10_bestTrial (fun q => (q = rr 1 0 ∨ q = rr 1 1 ∨ q = rr 1 2) ∨ q = ts) [.ref ho, .int fr, .int st, .int (nI N)] H0 (fun z H1 => z = some (.int (nI (hbr (fun i => sp_str μ L (trI fr st i)) (N - 1)))) ∧ (∃ R2 : hR, HW E Z (ho, li, rr, ts) G R2 (cn, sc, μ) H1 ∧ hcur R2 μ L ∧ ∀ i, i < N → R2.2.2.2 i = sp_str μ L (trI fr st i)) ∧ H1.size = H0.size) := by
  refine hk_M.ofW (cc := cX10_bestTrial) (maxL := 6) (ret := (some .int)) (by decide +kernel) rfl (Nat.le_of_ble_eq_true rfl) ?_
  intro p e s m args below meth c ls Q hQ X hr hlk hnm K hs9 hS hl
  obtain ⟨hx, hb, hml, hown, hts⟩ := id X
  have hAE : ∀ q, (fun q => (q = rr 1 0 ∨ q = rr 1 1 ∨ q = rr 1 2) ∨ q = ts) q → hk_A E q := fun q h => h.elim (fun h => by rcases h with h | h | h <;> rw [h]; exact (HW.rx hW 1 (by decide)).1.1; exact (HW.rx hW 1 (by decide)).1.2.1; exact (HW.rx hW 1 (by decide)).1.2.2) (fun h => by rw [h]; exact hW.2.2.2.2.2.2.2.2.2.2.2.2 _ (hW.2.2.2.2.2.2.2.2.2.1.2))
  have hl : lv_has ls 6 [(0, .ref ho), (1, .int fr), (2, .int st), (3, .int (nI N))] := hl
  refine lv_iconst (v := 0) hx hb dX10_bestTrial_0 (by decide) ?_
  refine lv_topi (fun z_1 ez_1 => ?_)
  have ez_1 : z_1 = nI 0 := ez_1
  subst ez_1
  refine lv_istore (lv' := [(4, .int (nI 0)), (0, .ref ho), (1, .int fr), (2, .int st), (3, .int (nI N))]) hx hb dX10_bestTrial_1 hl (by decide) rfl (fun ls hl => ?_)
  refine lv_iconst (v := 0) hx hb dX10_bestTrial_3 (by decide) ?_
  refine lv_topi (fun z_2 ez_2 => ?_)
  have ez_2 : z_2 = nI 0 := ez_2
  subst ez_2
  refine lv_istore (lv' := [(5, .int (nI 0)), (4, .int (nI 0)), (0, .ref ho), (1, .int fr), (2, .int st), (3, .int (nI N))]) hx hb dX10_bestTrial_4 hl (by decide) rfl (fun ls hl => ?_)
  have L6 : ∀ (n8 : Nat) (k : Nat) (R : hR) (H : Heap) (locs : List Loc), N + 1 ≤ k + n8 → (va_S (fun q => (q = rr 1 0 ∨ q = rr 1 1 ∨ q = rr 1 2) ∨ q = ts) s.heap H locs ∧ k ≤ N ∧ HW E Z (ho, li, rr, ts) G R (cn, sc, μ) H ∧ hcur R μ L ∧ (∀ i, i < k → R.2.2.2 i = sp_str μ L (trI fr st i)) ∧ H.size = H0.size) → ∀ (ls : Array Slot), lv_has ls 6 [(5, .int (nI k)), (4, .int (nI (hbr (fun i => sp_str μ L (trI fr st i)) (k - 1)))), (0, .ref ho), (1, .int fr), (2, .int st), (3, .int (nI N))] → W p l e rmX10_bestTrial s m args below meth c H locs 0 0 Q (F0 m 6 ls []) := by
    intro n8
    induction n8 with
    | zero =>
      intro k R H locs hm hinv ls hl
      obtain ⟨hS, hinv⟩ := hinv
      obtain ⟨hi1, hW, hc, htr, hz9⟩ := hinv
      have hb9 := (hbr_spec (v := (fun i => sp_str μ L (trI fr st i))) (k - 1)).1
      exact absurd hm (by omega)
    | succ n8 ih =>
      intro k R H locs hm hinv ls hl
      obtain ⟨hS, hinv⟩ := hinv
      obtain ⟨hi1, hW, hc, htr, hz9⟩ := hinv
      have hb9 := (hbr_spec (v := (fun i => sp_str μ L (trI fr st i))) (k - 1)).1
      refine lv_iload hx hb dX10_bestTrial_6 (lv_at hl 0 rfl) ?_
      refine lv_iload_n hx hb dX10_bestTrial_8 rfl (lv_at hl 5 rfl) ?_
      refine lv_icmp_ge (tgt := 66) hx hb dX10_bestTrial_9 (by decide) (fun c_9 => ?_) (fun c_9 => ?_)
      · have hk : N ≤ k := (nI_leI (by omega) (by omega)).mp c_9
        refine lv_iload hx hb dX10_bestTrial_66 (lv_at hl 1 rfl) ?_
        exact hk_iret X hr hlk hQ hS (Nat.le_of_ble_eq_true rfl) (Nat.le_of_ble_eq_true rfl) dX10_bestTrial_68 (⟨by rw [show k = N by omega], ⟨R, hW, hc, fun i hi => htr i (by omega)⟩, by omega⟩)
      · have hk : k < N := Nat.lt_of_not_le (fun h => c_9 (nI_le h (by omega)))
        refine lv_iload hx hb dX10_bestTrial_12 (lv_at hl 0 rfl) ?_
        refine lv_aload_n hx hb dX10_bestTrial_14 rfl (lv_at hl 2 rfl) ?_
        refine hk_get (ref := "LightcurveHouse") (v := .ref ts) X K (HW.o hW) rfl iX10_bestTrial_X10 12 (by decide) (by decide +kernel) (fun _ h => h) rfl dX10_bestTrial_15 ?_
        refine hk_ilen X K (HW.t hW) dX10_bestTrial_18 ?_
        refine lv_icmp_ge (tgt := 66) hx hb dX10_bestTrial_19 (by decide) (fun c_19 => ?_) (fun c_19 => ?_)
        · exact absurd c_19 (nI_ge (show k < 200 by omega) (by omega))
        · refine lv_aload_n hx hb dX10_bestTrial_22 rfl (lv_at hl 2 rfl) ?_
          refine hk_get (ref := "LightcurveHouse") (v := .ref ts) X K (HW.o hW) rfl iX10_bestTrial_X10 12 (by decide) (by decide +kernel) (fun _ h => h) rfl dX10_bestTrial_23 ?_
          refine lv_iload hx hb dX10_bestTrial_26 (lv_at hl 0 rfl) ?_
          refine lv_aload_n hx hb dX10_bestTrial_28 rfl (lv_at hl 2 rfl) ?_
          refine lv_iload_n hx hb dX10_bestTrial_29 rfl (lv_at hl 3 rfl) ?_
          refine lv_iload hx hb dX10_bestTrial_30 (lv_at hl 0 rfl) ?_
          refine lv_iload_n hx hb dX10_bestTrial_32 rfl (lv_at hl 4 rfl) ?_
          refine lv_imul hx hb dX10_bestTrial_33 ?_
          refine lv_iadd hx hb dX10_bestTrial_34 ?_
          refine hk_callV 1 (As := [.int (fr + ((nI k) * st))]) (rest := [.int (nI k), .ref ts]) X K hAE hS hl.1 (HW.o hW) rfl (c_X10_stringLength E l H hW hc (P := fr + ((nI k) * st)) (hP k hk)) (fun q h => Or.inl h) gX10_bestTrial_X10_stringLength rfl ⟨rfl, hd_X10_stringLength⟩ rfl ⟨⟨(Nat.le_of_ble_eq_true rfl), (Nat.le_of_ble_eq_true rfl)⟩, (Nat.le_of_ble_eq_true rfl), (Nat.le_of_ble_eq_true rfl)⟩ rfl (Nat.le_of_ble_eq_true rfl) dX10_bestTrial_35 (fun v9 H3 locsH3 hp hS hzH3 hkH3 => ?_)
          obtain ⟨hv, ⟨n9, k9, v9, hW⟩, hszH3⟩ := hp
          subst hv
          obtain ⟨R, hW, hc, htr⟩ : ∃ R2 : hR, HW E Z (ho, li, rr, ts) G R2 (cn, sc, μ) H3 ∧ hcur R2 μ L ∧ ∀ i, i < k → R2.2.2.2 i = sp_str μ L (trI fr st i) := ⟨_, hW, hc.other (by decide), htr⟩
          refine hk_ist X K (HW.t hW) hS (Or.inr rfl) (vp_in_nI (by omega) (by omega)) dX10_bestTrial_38 (fun H4 locsH4 hIH4 hzH4 hqH4 hS => ?_)
          rw [nI_clamp (show k < 2 ^ 31 by omega)] at hIH4
          have hW := HW.trial hW hIH4 hqH4
          obtain ⟨R, hW, hc, htr⟩ : ∃ R2 : hR, HW E Z (ho, li, rr, ts) G R2 (cn, sc, μ) H4 ∧ hcur R2 μ L ∧ ∀ i, i < k + 1 → R2.2.2.2 i = sp_str μ L (trI fr st i) := ⟨_, hW, hc.trial, fun i hi => by
            show upd _ k _ i = _
            by_cases g : i = k
            · rw [g, upd_at]; rfl
            · rw [upd_ne g]; exact htr i (by omega)⟩
          refine lv_aload_n hx hb dX10_bestTrial_39 rfl (lv_at hl 2 rfl) ?_
          refine hk_get (ref := "LightcurveHouse") (v := .ref ts) X K (HW.o hW) rfl iX10_bestTrial_X10 12 (by decide) (by decide +kernel) (fun _ h => h) rfl dX10_bestTrial_40 ?_
          refine lv_iload hx hb dX10_bestTrial_43 (lv_at hl 0 rfl) ?_
          refine hk_ild X K (HW.t hW) (vp_in_nI (by omega) (by omega)) dX10_bestTrial_45 ?_
          rw [show R.2.2.2 (nI k).toNatClampNeg = sp_str μ L (trI fr st k) from by rw [nI_clamp (by omega), htr k (by omega)]]
          refine lv_aload_n hx hb dX10_bestTrial_46 rfl (lv_at hl 2 rfl) ?_
          refine hk_get (ref := "LightcurveHouse") (v := .ref ts) X K (HW.o hW) rfl iX10_bestTrial_X10 12 (by decide) (by decide +kernel) (fun _ h => h) rfl dX10_bestTrial_47 ?_
          refine lv_iload hx hb dX10_bestTrial_50 (lv_at hl 1 rfl) ?_
          refine hk_ild X K (HW.t hW) (vp_in_nI (by omega) (by omega)) dX10_bestTrial_52 ?_
          rw [show R.2.2.2 (nI (hbr (fun i => sp_str μ L (trI fr st i)) (k - 1))).toNatClampNeg = sp_str μ L (trI fr st (hbr (fun i => sp_str μ L (trI fr st i)) (k - 1))) from by rw [nI_clamp (by omega), htr _ (by omega)]]
          refine lv_icmp_ge (tgt := 60) hx hb dX10_bestTrial_53 (by decide) (fun c_53 => ?_) (fun c_53 => ?_)
          · obtain ⟨q60, eq60⟩ : ∃ y : Int32, y = (nI k) + 1 := ⟨_, rfl⟩
            refine lv_iinc (v := q60) (lv' := [(5, .int q60), (4, .int (nI (hbr (fun i => sp_str μ L (trI fr st i)) (k - 1)))), (0, .ref ho), (1, .int fr), (2, .int st), (3, .int (nI N))]) hx hb dX10_bestTrial_60 hl (k := 0) rfl (by rw [eq60]; rfl) (by decide) rfl (fun ls hl => ?_)
            rw [nI_1] at eq60
            subst eq60
            refine lv_goto (tgt := 6) hx hb dX10_bestTrial_63 (by decide) ?_
            have e9 : hbr (fun i => sp_str μ L (trI fr st i)) (k + 1 - 1) = hbr (fun i => sp_str μ L (trI fr st i)) (k - 1) := by rw [Nat.add_sub_cancel, hbr_pred, if_neg (show ¬ (fun i => sp_str μ L (trI fr st i)) k < (fun i => sp_str μ L (trI fr st i)) (hbr (fun i => sp_str μ L (trI fr st i)) (k - 1)) from Int32.not_lt.mpr c_53)]
            rw [← e9] at hl
            exact ih (k + 1) R _ _ (by omega) ⟨hS, by omega, hW, hc, htr, by omega⟩ _ (lv_sub hl [0, 1, 2, 3, 4, 5] rfl)
          · refine lv_iload hx hb dX10_bestTrial_56 (lv_at hl 0 rfl) ?_
            rw [show nI k = nI (hbr (fun i => sp_str μ L (trI fr st i)) (k + 1 - 1)) from by rw [Nat.add_sub_cancel, hbr_pred, if_pos (show (fun i => sp_str μ L (trI fr st i)) k < (fun i => sp_str μ L (trI fr st i)) (hbr (fun i => sp_str μ L (trI fr st i)) (k - 1)) from Int32.not_le.mp c_53)]]
            refine lv_istore (lv' := [(4, .int (nI (hbr (fun i => sp_str μ L (trI fr st i)) (k + 1 - 1)))), (5, .int (nI k)), (0, .ref ho), (1, .int fr), (2, .int st), (3, .int (nI N))]) hx hb dX10_bestTrial_58 hl (by decide) rfl (fun ls hl => ?_)
            obtain ⟨q60, eq60⟩ : ∃ y : Int32, y = (nI k) + 1 := ⟨_, rfl⟩
            refine lv_iinc (v := q60) (lv' := [(5, .int q60), (4, .int (nI (hbr (fun i => sp_str μ L (trI fr st i)) (k + 1 - 1)))), (0, .ref ho), (1, .int fr), (2, .int st), (3, .int (nI N))]) hx hb dX10_bestTrial_60 hl (k := 1) rfl (by rw [eq60]; rfl) (by decide) rfl (fun ls hl => ?_)
            rw [nI_1] at eq60
            subst eq60
            refine lv_goto (tgt := 6) hx hb dX10_bestTrial_63 (by decide) ?_
            exact ih (k + 1) R _ _ (by omega) ⟨hS, by omega, hW, hc, htr, by omega⟩ _ (lv_sub hl [0, 1, 2, 3, 4, 5] rfl)
  exact L6 (N + 1) 0 R _ _ (by omega) ⟨hS, Nat.zero_le _, hW, hc, fun i hi => absurd hi (Nat.not_lt_zero _), by omega⟩ _ (lv_sub hl [0, 1, 2, 3, 4, 5] rfl)

theorem best_fst {fr st : Int32} {s : Int32 → Int32} {N : Nat} (h : 1 ≤ N) : (bestA fr st s N).1 = trI fr st (hbr (fun i => s (trI fr st i)) (N - 1)) := by
  obtain ⟨n, rfl⟩ : ∃ n, N = n + 1 := ⟨N - 1, by omega⟩
  rw [bestA_hbr]
  rfl
theorem tr_200 {fr to st : Int32} (h : trOK fr to st) (h2 : (to - fr) / st + 1 ≤ 200) : trN fr to st ≤ 200 := by
  obtain ⟨t1, t2, t3, -⟩ := tr_yes h
  rw [t1, show (200 : Int32) = nI 200 from rfl] at h2
  exact (nI_leI (by omega) (by omega)).mp h2
theorem hd_X10_bestTrial : yX10_bestTrial.cls ≠ "java/lang/invoke/MethodHandle" ∧ yX10_bestTrial.cls ≠ "java/lang/invoke/VarHandle" ∧ (parseMethodDescriptor yX10_bestTrial.desc).map (fun d => d.parameters.length) = some 3 := ⟨by decide, by decide, by decide +kernel⟩
theorem hd_X10_countTrials : yX10_countTrials.cls ≠ "java/lang/invoke/MethodHandle" ∧ yX10_countTrials.cls ≠ "java/lang/invoke/VarHandle" ∧ (parseMethodDescriptor yX10_countTrials.desc).map (fun d => d.parameters.length) = some 3 := ⟨by decide, by decide, by decide +kernel⟩
theorem hd_X10_gatherCurveForTrials : yX10_gatherCurveForTrials.cls ≠ "java/lang/invoke/MethodHandle" ∧ yX10_gatherCurveForTrials.cls ≠ "java/lang/invoke/VarHandle" ∧ (parseMethodDescriptor yX10_gatherCurveForTrials.desc).map (fun d => d.parameters.length) = some 1 := ⟨by decide, by decide, by decide +kernel⟩
abbrev rmX10_period : Room := { frames := 11, cells := 12, slots := 400, locals := 200 }
theorem iX10_period_X7 : ∀ w ∈ wsX70, w ∈ wsX10_period := by decide +kernel
set_option maxHeartbeats 4000000 in
set_option maxRecDepth 100000 in
theorem c_X10_period (E : hk_E) (l : Launch) (hl9 : l.stackTraces = false) (H0 : Heap) {Z : Nat → Prop} {ho ts : Nat} {li : Nat → Nat} {rr : Nat → Nat → Nat} {G : hG} {R : hR} {cn : Nat → Nat} {sc : Nat → Int32} {μ : Nat → Nat → Int32} (hW : HW E Z (ho, li, rr, ts) G R (cn, sc, μ) H0) (hI : InvF (cn, sc, μ)) (hZn : ∀ q, H0.size ≤ q → Z q) {p0 p1 p2 p3 : Int32}  : hk_X E l yX10_period wsX10_period rmX10_period (Z) [.ref ho, .int p0, .int p1, .int p2, .int p3] H0 (hpost E Z (ho, li, rr, ts) (cd_period p0 p1 p2 p3 (cn, sc, μ)) (an_period p0 p1 p2 p3 (cn, sc, μ)) (st_period p0 p1 p2 p3 (cn, sc, μ))) (hpx E Z (ho, li, rr, ts) (cd_period p0 p1 p2 p3 (cn, sc, μ)) (cn, sc, μ) [XI, XA, XS]) := by
  refine hk_X.ofW (cc := cX10_period) (maxL := 7) (ret := (some .int)) (by decide +kernel) rfl (Nat.le_of_ble_eq_true rfl) ?_
  intro p e s m args below meth c ls Q hQ X hr hlk hx9 K hs9 hS hl
  obtain ⟨hx, hb, hml, hown, hts⟩ := id X
  have hAE : ∀ q, (Z) q → hk_A E q := hW.2.2.2.2.2.2.2.2.2.2.2.2
  have hl : lv_has ls 7 [(0, .ref ho), (1, .int p0), (2, .int p1), (3, .int p2), (4, .int p3)] := hl
  have hI9 := hI.1
  have hZA : ∀ q, Z q → hk_A E q := hW.2.2.2.2.2.2.2.2.2.2.2.2
  have hc1 : cn 1 ≤ 12 := hI9.1.1
  have hc8 : cn 8 ≤ 8 := hI9.1.2.1
  have hc12 : cn 12 ≤ 80 := hI9.1.2.2.1
  have hc22 : cn 22 ≤ 8 := hI9.1.2.2.2.1
  have hc29 : cn 29 ≤ 30 := hI9.1.2.2.2.2
  refine lv_aload_n hx hb dX10_period_0 rfl (lv_at hl 0 rfl) ?_
  refine lv_iload_n hx hb dX10_period_1 rfl (lv_at hl 1 rfl) ?_
  refine hk_callVx 1 (As := [.int p0]) (rest := []) X K hAE hS hl.1 (HW.o hW) rfl (c_X10_starAt E l hl9 H0 hW hc1 (i9 := p0)) (fun q h => hZn q h) gX10_period_X10_starAt rfl ⟨rfl, hd_X10_starAt⟩ rfl ⟨⟨(Nat.le_of_ble_eq_true rfl), (Nat.le_of_ble_eq_true rfl)⟩, (Nat.le_of_ble_eq_true rfl), (Nat.le_of_ble_eq_true rfl)⟩ rfl (Nat.le_of_ble_eq_true rfl) dX10_period_2 (fun x9 ce9 q9 H1 locsH1 hp hS hzH1 hkH1 hce hcv hcl => hk_out hx9 hlk hQ hS hce hcv hcl (Nat.le_of_ble_eq_true rfl) (Nat.le_of_ble_eq_true rfl) (hpx_1 hW (fun q h1 h2 => hkH1 q h1 h2) (Or.inl ⟨by unfold cd_period sp_tr; (try dsimp only); rw [if_neg hp.2], hp.1⟩))) (fun v9 H1 locsH1 hp hS hzH1 hkH1 => ?_)
  obtain ⟨hv, hh⟩ := hp
  obtain ⟨hv, c_2⟩ := hv
  subst hv; subst hh
  refine lv_astore (lv' := [(5, .ref (gad G 2 (ix p0))), (0, .ref ho), (1, .int p0), (2, .int p1), (3, .int p2), (4, .int p3)]) hx hb dX10_period_5 hl (by decide) rfl (fun ls hl => ?_)
  refine lv_iload_n hx hb dX10_period_7 rfl (lv_at hl 3 rfl) ?_
  refine lv_iload_n hx hb dX10_period_8 rfl (lv_at hl 4 rfl) ?_
  refine lv_iload hx hb dX10_period_9 (lv_at hl 5 rfl) ?_
  refine hk_callSx 3 (As := [.int p1, .int p2, .int p3]) (rest := []) X K hAE hS hl.1 (c_X10_countTrials E l hl9 H0 (fr := p1) (to := p2) (st := p3)) (fun q h => hZn q h) gX10_period_X10_countTrials rfl hd_X10_countTrials rfl ⟨⟨(Nat.le_of_ble_eq_true rfl), (Nat.le_of_ble_eq_true rfl)⟩, (Nat.le_of_ble_eq_true rfl), (Nat.le_of_ble_eq_true rfl)⟩ rfl (Nat.le_of_ble_eq_true rfl) dX10_period_11 (fun x9 ce9 q9 H2 locsH2 hp hS hzH2 hkH2 hce hcv hcl => hk_out hx9 hlk hQ hS hce hcv hcl (Nat.le_of_ble_eq_true rfl) (Nat.le_of_ble_eq_true rfl) (hpx_1 hW (fun q h1 h2 => hkH2 q h1 h2) (Or.inr (Or.inl ⟨by unfold cd_period; exact sp_tr_no c_2 (Or.inr hp.2), hp.1⟩)))) (fun v9 H2 locsH2 hp hS hzH2 hkH2 => ?_)
  obtain ⟨hv, hh⟩ := hp
  obtain ⟨hv, c_11, c_11b⟩ := hv
  have hty := tr_yes c_11
  have h200 := tr_200 c_11 c_11b
  subst hv; subst hh
  refine lv_istore (lv' := [(6, .int (nI (trN p1 p2 p3))), (5, .ref (gad G 2 (ix p0))), (0, .ref ho), (1, .int p0), (2, .int p1), (3, .int p2), (4, .int p3)]) hx hb dX10_period_14 hl (by decide) rfl (fun ls hl => ?_)
  refine lv_aload_n hx hb dX10_period_16 rfl (lv_at hl 2 rfl) ?_
  refine lv_aload hx hb dX10_period_17 (lv_at hl 1 rfl) ?_
  refine hk_get (ref := "LightcurveHouse$Star") (v := .int (μ 3 (ix p0))) X K (HW.e2 hW (isS_xl c_2 (show cn 1 < 2 ^ 31 by omega))) rfl iX10_period_X7 2 (by decide) (by decide +kernel) (fun _ h => h) rfl dX10_period_19 ?_
  refine hk_callVx 1 (As := [.int (μ 3 (ix p0))]) (rest := []) X K hAE hS hl.1 (HW.o hW) rfl (c_X10_gatherCurveForTrials E l hl9 H0 hW hI9 (e9 := μ 3 (ix p0))) (fun q h => h.elim ((HW.rZ hW (r := 0) (by decide)) q) (fun h => hZn q h)) gX10_period_X10_gatherCurveForTrials rfl ⟨rfl, hd_X10_gatherCurveForTrials⟩ rfl ⟨⟨(Nat.le_of_ble_eq_true rfl), (Nat.le_of_ble_eq_true rfl)⟩, (Nat.le_of_ble_eq_true rfl), (Nat.le_of_ble_eq_true rfl)⟩ rfl (Nat.le_of_ble_eq_true rfl) dX10_period_22 (fun x9 ce9 q9 H3 locsH3 hp hS hzH3 hkH3 hce hcv hcl => hk_out hx9 hlk hQ hS hce hcv hcl (Nat.le_of_ble_eq_true rfl) (Nat.le_of_ble_eq_true rfl) (⟨Or.inr (Or.inr ⟨by unfold cd_period; rw [sp_tr_yes c_2 (by decide) c_11 c_11b]; exact if_neg hp.1.2, hp.1.1⟩), G, hp.2⟩)) (fun v9 H3 locsH3 hp hS hzH3 hkH3 => ?_)
  obtain ⟨⟨hv, c_22⟩, ⟨R, hW, hc⟩, hzz⟩ := hp
  subst hv
  refine lv_iload_n hx hb dX10_period_25 rfl (lv_at hl 4 rfl) ?_
  refine lv_aload_n hx hb dX10_period_26 rfl (lv_at hl 2 rfl) ?_
  refine lv_iload_n hx hb dX10_period_27 rfl (lv_at hl 4 rfl) ?_
  refine lv_iload hx hb dX10_period_28 (lv_at hl 6 rfl) ?_
  refine lv_iload hx hb dX10_period_30 (lv_at hl 0 rfl) ?_
  refine hk_callV 3 (As := [.int p1, .int p3, .int (nI (trN p1 p2 p3))]) (rest := [.int p1]) X K hAE hS hl.1 (HW.o hW) rfl (c_X10_bestTrial E l H3 hW hc (fr := p1) (st := p3) (N := trN p1 p2 p3) hty.2.1 h200 (fun i hi => trI_pos c_11 (Nat.le_of_lt hi))) (fun q h => h.elim ((HW.rZ hW (r := 1) (by decide)) q) (fun h => by rw [h]; exact hW.2.2.2.2.2.2.2.2.2.1.2)) gX10_period_X10_bestTrial rfl ⟨rfl, hd_X10_bestTrial⟩ rfl ⟨⟨(Nat.le_of_ble_eq_true rfl), (Nat.le_of_ble_eq_true rfl)⟩, (Nat.le_of_ble_eq_true rfl), (Nat.le_of_ble_eq_true rfl)⟩ rfl (Nat.le_of_ble_eq_true rfl) dX10_period_32 (fun v9 H4 locsH4 hp hS hzH4 hkH4 => ?_)
  obtain ⟨hv, ⟨R, hW, hc, htr⟩, hszH4⟩ := hp
  subst hv
  refine lv_iload hx hb dX10_period_35 (lv_at hl 6 rfl) ?_
  refine lv_imul hx hb dX10_period_37 ?_
  refine lv_iadd hx hb dX10_period_38 ?_
  exact hk_iretx X hr hlk hQ hS (Nat.le_of_ble_eq_true rfl) (Nat.le_of_ble_eq_true rfl) dX10_period_39 (⟨by unfold cd_period; rw [sp_tr_yes c_2 (by decide) c_11 c_11b]; exact if_pos c_22, congrArg some (congrArg Value.int (best_fst hty.2.1).symm), _, _, hW⟩)

abbrev rmX10_countAliases : Room := { frames := 0, cells := 0, slots := 0, locals := 0 }
theorem iX10_countAliases_X10 : ∀ w ∈ wsX100, w ∈ wsX10_countAliases := by decide +kernel
set_option maxHeartbeats 4000000 in
set_option maxRecDepth 100000 in
theorem c_X10_countAliases (E : hk_E) (l : Launch) (H0 : Heap) {Z : Nat → Prop} {ho ts : Nat} {li : Nat → Nat} {rr : Nat → Nat → Nat} {G : hG} {R : hR} {cn : Nat → Nat} {sc : Nat → Int32} {μ : Nat → Nat → Int32} (hW : HW E Z (ho, li, rr, ts) G R (cn, sc, μ) H0) {b N : Nat} (hbN : b < N) (hN2 : N ≤ 200) {pc : Int32}  : hk_M E l yX10_countAliases wsX10_countAliases rmX10_countAliases (fun _ => False) [.ref ho, .int (nI b), .int (nI N), .int pc] H0 (fun z H1 => z = some (.int (halA R.2.2.2 b ((100 + pc) * R.2.2.2 b) N)) ∧ H0 = H1) := by
  refine hk_M.ofW (cc := cX10_countAliases) (maxL := 7) (ret := (some .int)) (by decide +kernel) rfl (Nat.le_of_ble_eq_true rfl) ?_
  intro p e s m args below meth c ls Q hQ X hr hlk hnm K hs9 hS hl
  obtain ⟨hx, hb, hml, hown, hts⟩ := id X
  have hAE : ∀ q, (fun _ => False) q → hk_A E q := fun _ h => h.elim
  have hl : lv_has ls 7 [(0, .ref ho), (1, .int (nI b)), (2, .int (nI N)), (3, .int pc)] := hl
  refine lv_iload_n hx hb dX10_countAliases_0 rfl (lv_at hl 1 rfl) ?_
  refine lv_if_lt (tgt := 13) hx hb dX10_countAliases_1 (by decide) (fun c_1 => ?_) (fun c_1 => ?_)
  · exact absurd c_1 (nI_pos (by omega))
  · refine lv_iload_n hx hb dX10_countAliases_4 rfl (lv_at hl 1 rfl) ?_
    refine lv_aload_n hx hb dX10_countAliases_5 rfl (lv_at hl 0 rfl) ?_
    refine hk_get (ref := "LightcurveHouse") (v := .ref ts) X K (HW.o hW) rfl iX10_countAliases_X10 12 (by decide) (by decide +kernel) (fun _ h => h) rfl dX10_countAliases_6 ?_
    refine hk_ilen X K (HW.t hW) dX10_countAliases_9 ?_
    refine lv_icmp_lt (tgt := 15) hx hb dX10_countAliases_10 (by decide) (fun c_10 => ?_) (fun c_10 => ?_)
    · refine lv_bipush (v := 100) hx hb dX10_countAliases_15 (by decide) ?_
      refine lv_iload_n hx hb dX10_countAliases_17 rfl (lv_at hl 3 rfl) ?_
      refine lv_iadd hx hb dX10_countAliases_18 ?_
      refine lv_aload_n hx hb dX10_countAliases_19 rfl (lv_at hl 0 rfl) ?_
      refine hk_get (ref := "LightcurveHouse") (v := .ref ts) X K (HW.o hW) rfl iX10_countAliases_X10 12 (by decide) (by decide +kernel) (fun _ h => h) rfl dX10_countAliases_20 ?_
      refine lv_iload_n hx hb dX10_countAliases_23 rfl (lv_at hl 1 rfl) ?_
      refine hk_ild X K (HW.t hW) (vp_in_nI (by omega) (by omega)) dX10_countAliases_24 ?_
      rw [show R.2.2.2 (nI b).toNatClampNeg = R.2.2.2 b from by rw [nI_clamp (show b < 2 ^ 31 by omega)]]
      refine lv_imul hx hb dX10_countAliases_25 ?_
      refine lv_topi (fun ms9 ems9 => ?_)
      refine lv_istore (lv' := [(4, .int ms9), (0, .ref ho), (1, .int (nI b)), (2, .int (nI N)), (3, .int pc)]) hx hb dX10_countAliases_26 hl (by decide) rfl (fun ls hl => ?_)
      refine lv_iconst (v := 0) hx hb dX10_countAliases_28 (by decide) ?_
      refine lv_istore (lv' := [(5, .int 0), (4, .int ms9), (0, .ref ho), (1, .int (nI b)), (2, .int (nI N)), (3, .int pc)]) hx hb dX10_countAliases_29 hl (by decide) rfl (fun ls hl => ?_)
      refine lv_iconst (v := 0) hx hb dX10_countAliases_31 (by decide) ?_
      refine lv_topi (fun z_1 ez_1 => ?_)
      have ez_1 : z_1 = nI 0 := ez_1
      subst ez_1
      refine lv_istore (lv' := [(6, .int (nI 0)), (5, .int 0), (4, .int ms9), (0, .ref ho), (1, .int (nI b)), (2, .int (nI N)), (3, .int pc)]) hx hb dX10_countAliases_32 hl (by decide) rfl (fun ls hl => ?_)
      have L34 : ∀ (n8 : Nat) (k : Nat) (c9 : Int32) (locs : List Loc), N + 1 ≤ k + n8 → (va_S (fun _ => False) s.heap H0 locs ∧ k ≤ N ∧ c9 = halA R.2.2.2 b ((100 + pc) * R.2.2.2 b) k) → ∀ (ls : Array Slot), lv_has ls 7 [(6, .int (nI k)), (5, .int c9), (4, .int ms9), (0, .ref ho), (1, .int (nI b)), (2, .int (nI N)), (3, .int pc)] → W p l e rmX10_countAliases s m args below meth c H0 locs 0 0 Q (F0 m 34 ls []) := by
        intro n8
        induction n8 with
        | zero =>
          intro k c9 locs hm hinv ls hl
          obtain ⟨hS, hinv⟩ := hinv
          obtain ⟨hi1, hc9⟩ := hinv
          exact absurd hm (by omega)
        | succ n8 ih =>
          intro k c9 locs hm hinv ls hl
          obtain ⟨hS, hinv⟩ := hinv
          obtain ⟨hi1, hc9⟩ := hinv
          refine lv_iload hx hb dX10_countAliases_34 (lv_at hl 0 rfl) ?_
          refine lv_iload_n hx hb dX10_countAliases_36 rfl (lv_at hl 5 rfl) ?_
          refine lv_icmp_ge (tgt := 80) hx hb dX10_countAliases_37 (by decide) (fun c_37 => ?_) (fun c_37 => ?_)
          · have hk : N ≤ k := (nI_leI (by omega) (by omega)).mp c_37
            refine lv_iload hx hb dX10_countAliases_80 (lv_at hl 1 rfl) ?_
            exact hk_iret X hr hlk hQ hS (Nat.le_of_ble_eq_true rfl) (Nat.le_of_ble_eq_true rfl) dX10_countAliases_82 (⟨by rw [hc9, show k = N by omega], rfl⟩)
          · have hk : k < N := Nat.lt_of_not_le (fun h => c_37 (nI_le h (by omega)))
            refine lv_iload hx hb dX10_countAliases_40 (lv_at hl 0 rfl) ?_
            refine lv_aload_n hx hb dX10_countAliases_42 rfl (lv_at hl 3 rfl) ?_
            refine hk_get (ref := "LightcurveHouse") (v := .ref ts) X K (HW.o hW) rfl iX10_countAliases_X10 12 (by decide) (by decide +kernel) (fun _ h => h) rfl dX10_countAliases_43 ?_
            refine hk_ilen X K (HW.t hW) dX10_countAliases_46 ?_
            refine lv_icmp_ge (tgt := 80) hx hb dX10_countAliases_47 (by decide) (fun c_47 => ?_) (fun c_47 => ?_)
            · exact absurd c_47 (nI_ge (show k < 200 by omega) (by omega))
            · refine lv_iload hx hb dX10_countAliases_50 (lv_at hl 0 rfl) ?_
              refine lv_iload_n hx hb dX10_countAliases_52 rfl (lv_at hl 4 rfl) ?_
              refine lv_icmp_eq (tgt := 74) hx hb dX10_countAliases_53 (by decide) (fun c_53 => ?_) (fun c_53 => ?_)
              · obtain ⟨q74, eq74⟩ : ∃ y : Int32, y = (nI k) + 1 := ⟨_, rfl⟩
                refine lv_iinc (v := q74) (lv' := [(6, .int q74), (5, .int c9), (4, .int ms9), (0, .ref ho), (1, .int (nI b)), (2, .int (nI N)), (3, .int pc)]) hx hb dX10_countAliases_74 hl (k := 0) rfl (by rw [eq74]; rfl) (by decide) rfl (fun ls hl => ?_)
                rw [nI_1] at eq74
                subst eq74
                refine lv_goto (tgt := 34) hx hb dX10_countAliases_77 (by decide) ?_
                exact ih (k + 1) c9 _ (by omega) ⟨hS, by omega, by rw [halA, if_neg (fun h => h.1 ((nI_eq (by omega) (by omega)).mp c_53)), Int32.add_zero]; exact hc9⟩ _ (lv_sub hl [0, 1, 2, 3, 4, 5, 6] rfl)
              · refine lv_bipush (v := 100) hx hb dX10_countAliases_56 (by decide) ?_
                refine lv_aload_n hx hb dX10_countAliases_58 rfl (lv_at hl 3 rfl) ?_
                refine hk_get (ref := "LightcurveHouse") (v := .ref ts) X K (HW.o hW) rfl iX10_countAliases_X10 12 (by decide) (by decide +kernel) (fun _ h => h) rfl dX10_countAliases_59 ?_
                refine lv_iload hx hb dX10_countAliases_62 (lv_at hl 0 rfl) ?_
                refine hk_ild X K (HW.t hW) (vp_in_nI (by omega) (by omega)) dX10_countAliases_64 ?_
                rw [show R.2.2.2 (nI k).toNatClampNeg = R.2.2.2 k from by rw [nI_clamp (show k < 2 ^ 31 by omega)]]
                refine lv_imul hx hb dX10_countAliases_65 ?_
                refine lv_iload hx hb dX10_countAliases_66 (lv_at hl 2 rfl) ?_
                refine lv_icmp_gt (tgt := 74) hx hb dX10_countAliases_68 (by decide) (fun c_68 => ?_) (fun c_68 => ?_)
                · obtain ⟨q74, eq74⟩ : ∃ y : Int32, y = (nI k) + 1 := ⟨_, rfl⟩
                  refine lv_iinc (v := q74) (lv' := [(6, .int q74), (5, .int c9), (4, .int ms9), (0, .ref ho), (1, .int (nI b)), (2, .int (nI N)), (3, .int pc)]) hx hb dX10_countAliases_74 hl (k := 0) rfl (by rw [eq74]; rfl) (by decide) rfl (fun ls hl => ?_)
                  rw [nI_1] at eq74
                  subst eq74
                  refine lv_goto (tgt := 34) hx hb dX10_countAliases_77 (by decide) ?_
                  exact ih (k + 1) c9 _ (by omega) ⟨hS, by omega, by rw [halA, if_neg (fun h => h.2 (by rw [← ems9]; exact c_68)), Int32.add_zero]; exact hc9⟩ _ (lv_sub hl [0, 1, 2, 3, 4, 5, 6] rfl)
                · obtain ⟨q71, eq71⟩ : ∃ y : Int32, y = c9 + 1 := ⟨_, rfl⟩
                  refine lv_iinc (v := q71) (lv' := [(5, .int q71), (6, .int (nI k)), (4, .int ms9), (0, .ref ho), (1, .int (nI b)), (2, .int (nI N)), (3, .int pc)]) hx hb dX10_countAliases_71 hl (k := 1) rfl (by rw [eq71]; rfl) (by decide) rfl (fun ls hl => ?_)
                  
                  obtain ⟨q74, eq74⟩ : ∃ y : Int32, y = (nI k) + 1 := ⟨_, rfl⟩
                  refine lv_iinc (v := q74) (lv' := [(6, .int q74), (5, .int q71), (4, .int ms9), (0, .ref ho), (1, .int (nI b)), (2, .int (nI N)), (3, .int pc)]) hx hb dX10_countAliases_74 hl (k := 1) rfl (by rw [eq74]; rfl) (by decide) rfl (fun ls hl => ?_)
                  rw [nI_1] at eq74
                  subst eq74
                  refine lv_goto (tgt := 34) hx hb dX10_countAliases_77 (by decide) ?_
                  exact ih (k + 1) q71 _ (by omega) ⟨hS, by omega, by rw [eq71, hc9, halA, if_pos ⟨fun g => c_53 (by rw [g]), by rw [← ems9]; exact c_68⟩]⟩ _ (lv_sub hl [0, 1, 2, 3, 4, 5, 6] rfl)
      exact L34 (N + 1) 0 0 _ (by omega) ⟨hS, Nat.zero_le _, rfl⟩ _ (lv_sub hl [0, 1, 2, 3, 4, 5, 6] rfl)
    · exact absurd (nI_lt (show b < 200 by omega) (by omega)) c_10

theorem hd_X10_countAliases : yX10_countAliases.cls ≠ "java/lang/invoke/MethodHandle" ∧ yX10_countAliases.cls ≠ "java/lang/invoke/VarHandle" ∧ (parseMethodDescriptor yX10_countAliases.desc).map (fun d => d.parameters.length) = some 3 := ⟨by decide, by decide, by decide +kernel⟩
abbrev rmX10_aliases : Room := { frames := 11, cells := 12, slots := 400, locals := 200 }
theorem iX10_aliases_X7 : ∀ w ∈ wsX70, w ∈ wsX10_aliases := by decide +kernel
set_option maxHeartbeats 4000000 in
set_option maxRecDepth 100000 in
theorem c_X10_aliases (E : hk_E) (l : Launch) (hl9 : l.stackTraces = false) (H0 : Heap) {Z : Nat → Prop} {ho ts : Nat} {li : Nat → Nat} {rr : Nat → Nat → Nat} {G : hG} {R : hR} {cn : Nat → Nat} {sc : Nat → Int32} {μ : Nat → Nat → Int32} (hW : HW E Z (ho, li, rr, ts) G R (cn, sc, μ) H0) (hI : InvF (cn, sc, μ)) (hZn : ∀ q, H0.size ≤ q → Z q) {p0 p1 p2 p3 p4 : Int32}  : hk_X E l yX10_aliases wsX10_aliases rmX10_aliases (Z) [.ref ho, .int p0, .int p1, .int p2, .int p3, .int p4] H0 (hpost E Z (ho, li, rr, ts) (cd_aliases p0 p1 p2 p3 p4 (cn, sc, μ)) (an_aliases p0 p1 p2 p3 p4 (cn, sc, μ)) (st_aliases p0 p1 p2 p3 p4 (cn, sc, μ))) (hpx E Z (ho, li, rr, ts) (cd_aliases p0 p1 p2 p3 p4 (cn, sc, μ)) (cn, sc, μ) [XI, XA, XS]) := by
  refine hk_X.ofW (cc := cX10_aliases) (maxL := 8) (ret := (some .int)) (by decide +kernel) rfl (Nat.le_of_ble_eq_true rfl) ?_
  intro p e s m args below meth c ls Q hQ X hr hlk hx9 K hs9 hS hl
  obtain ⟨hx, hb, hml, hown, hts⟩ := id X
  have hAE : ∀ q, (Z) q → hk_A E q := hW.2.2.2.2.2.2.2.2.2.2.2.2
  have hl : lv_has ls 8 [(0, .ref ho), (1, .int p0), (2, .int p1), (3, .int p2), (4, .int p3), (5, .int p4)] := hl
  have hI9 := hI.1
  have hZA : ∀ q, Z q → hk_A E q := hW.2.2.2.2.2.2.2.2.2.2.2.2
  have hc1 : cn 1 ≤ 12 := hI9.1.1
  have hc8 : cn 8 ≤ 8 := hI9.1.2.1
  have hc12 : cn 12 ≤ 80 := hI9.1.2.2.1
  have hc22 : cn 22 ≤ 8 := hI9.1.2.2.2.1
  have hc29 : cn 29 ≤ 30 := hI9.1.2.2.2.2
  refine lv_aload_n hx hb dX10_aliases_0 rfl (lv_at hl 0 rfl) ?_
  refine lv_iload_n hx hb dX10_aliases_1 rfl (lv_at hl 1 rfl) ?_
  refine hk_callVx 1 (As := [.int p0]) (rest := []) X K hAE hS hl.1 (HW.o hW) rfl (c_X10_starAt E l hl9 H0 hW hc1 (i9 := p0)) (fun q h => hZn q h) gX10_aliases_X10_starAt rfl ⟨rfl, hd_X10_starAt⟩ rfl ⟨⟨(Nat.le_of_ble_eq_true rfl), (Nat.le_of_ble_eq_true rfl)⟩, (Nat.le_of_ble_eq_true rfl), (Nat.le_of_ble_eq_true rfl)⟩ rfl (Nat.le_of_ble_eq_true rfl) dX10_aliases_2 (fun x9 ce9 q9 H1 locsH1 hp hS hzH1 hkH1 hce hcv hcl => hk_out hx9 hlk hQ hS hce hcv hcl (Nat.le_of_ble_eq_true rfl) (Nat.le_of_ble_eq_true rfl) (hpx_1 hW (fun q h1 h2 => hkH1 q h1 h2) (Or.inl ⟨by unfold cd_aliases sp_tr; (try dsimp only); rw [if_neg hp.2], hp.1⟩))) (fun v9 H1 locsH1 hp hS hzH1 hkH1 => ?_)
  obtain ⟨hv, hh⟩ := hp
  obtain ⟨hv, c_2⟩ := hv
  subst hv; subst hh
  refine lv_astore (lv' := [(6, .ref (gad G 2 (ix p0))), (0, .ref ho), (1, .int p0), (2, .int p1), (3, .int p2), (4, .int p3), (5, .int p4)]) hx hb dX10_aliases_5 hl (by decide) rfl (fun ls hl => ?_)
  refine lv_iload_n hx hb dX10_aliases_7 rfl (lv_at hl 3 rfl) ?_
  refine lv_iload_n hx hb dX10_aliases_8 rfl (lv_at hl 4 rfl) ?_
  refine lv_iload hx hb dX10_aliases_9 (lv_at hl 5 rfl) ?_
  refine hk_callSx 3 (As := [.int p1, .int p2, .int p3]) (rest := []) X K hAE hS hl.1 (c_X10_countTrials E l hl9 H0 (fr := p1) (to := p2) (st := p3)) (fun q h => hZn q h) gX10_aliases_X10_countTrials rfl hd_X10_countTrials rfl ⟨⟨(Nat.le_of_ble_eq_true rfl), (Nat.le_of_ble_eq_true rfl)⟩, (Nat.le_of_ble_eq_true rfl), (Nat.le_of_ble_eq_true rfl)⟩ rfl (Nat.le_of_ble_eq_true rfl) dX10_aliases_11 (fun x9 ce9 q9 H2 locsH2 hp hS hzH2 hkH2 hce hcv hcl => hk_out hx9 hlk hQ hS hce hcv hcl (Nat.le_of_ble_eq_true rfl) (Nat.le_of_ble_eq_true rfl) (hpx_1 hW (fun q h1 h2 => hkH2 q h1 h2) (Or.inr (Or.inl ⟨by unfold cd_aliases; exact sp_tr_no c_2 (Or.inr hp.2), hp.1⟩)))) (fun v9 H2 locsH2 hp hS hzH2 hkH2 => ?_)
  obtain ⟨hv, hh⟩ := hp
  obtain ⟨hv, c_11, c_11b⟩ := hv
  have hty := tr_yes c_11
  have h200 := tr_200 c_11 c_11b
  subst hv; subst hh
  refine lv_istore (lv' := [(7, .int (nI (trN p1 p2 p3))), (6, .ref (gad G 2 (ix p0))), (0, .ref ho), (1, .int p0), (2, .int p1), (3, .int p2), (4, .int p3), (5, .int p4)]) hx hb dX10_aliases_14 hl (by decide) rfl (fun ls hl => ?_)
  refine lv_iload hx hb dX10_aliases_16 (lv_at hl 7 rfl) ?_
  refine lv_iconst (v := 0) hx hb dX10_aliases_18 (by decide) ?_
  refine lv_bipush (v := 50) hx hb dX10_aliases_19 (by decide) ?_
  refine hk_callSx 3 (As := [.int p4, .int 0, .int 50]) (rest := []) X K hAE hS hl.1 (c_X10_needRange E l hl9 H0 (a9 := p4) (lo := 0) (hi := 50)) (fun q h => hZn q h) gX10_aliases_X10_needRange rfl hd_X10_needRange rfl ⟨⟨(Nat.le_of_ble_eq_true rfl), (Nat.le_of_ble_eq_true rfl)⟩, (Nat.le_of_ble_eq_true rfl), (Nat.le_of_ble_eq_true rfl)⟩ rfl (Nat.le_of_ble_eq_true rfl) dX10_aliases_21 (fun x9 ce9 q9 H3 locsH3 hp hS hzH3 hkH3 hce hcv hcl => hk_out hx9 hlk hQ hS hce hcv hcl (Nat.le_of_ble_eq_true rfl) (Nat.le_of_ble_eq_true rfl) (hpx_1 hW (fun q h1 h2 => hkH3 q h1 h2) (Or.inr (Or.inl ⟨by unfold cd_aliases; exact sp_tr_no c_2 (Or.inl (if_neg hp.2)), hp.1⟩)))) (fun v9 H3 locsH3 hp hS hzH3 hkH3 => ?_)
  obtain ⟨hv, hh⟩ := hp
  obtain ⟨hv, c_21⟩ := hv
  subst hv; subst hh
  refine lv_aload_n hx hb dX10_aliases_24 rfl (lv_at hl 2 rfl) ?_
  refine lv_aload hx hb dX10_aliases_25 (lv_at hl 1 rfl) ?_
  refine hk_get (ref := "LightcurveHouse$Star") (v := .int (μ 3 (ix p0))) X K (HW.e2 hW (isS_xl c_2 (show cn 1 < 2 ^ 31 by omega))) rfl iX10_aliases_X7 2 (by decide) (by decide +kernel) (fun _ h => h) rfl dX10_aliases_27 ?_
  refine hk_callVx 1 (As := [.int (μ 3 (ix p0))]) (rest := []) X K hAE hS hl.1 (HW.o hW) rfl (c_X10_gatherCurveForTrials E l hl9 H0 hW hI9 (e9 := μ 3 (ix p0))) (fun q h => h.elim ((HW.rZ hW (r := 0) (by decide)) q) (fun h => hZn q h)) gX10_aliases_X10_gatherCurveForTrials rfl ⟨rfl, hd_X10_gatherCurveForTrials⟩ rfl ⟨⟨(Nat.le_of_ble_eq_true rfl), (Nat.le_of_ble_eq_true rfl)⟩, (Nat.le_of_ble_eq_true rfl), (Nat.le_of_ble_eq_true rfl)⟩ rfl (Nat.le_of_ble_eq_true rfl) dX10_aliases_30 (fun x9 ce9 q9 H4 locsH4 hp hS hzH4 hkH4 hce hcv hcl => hk_out hx9 hlk hQ hS hce hcv hcl (Nat.le_of_ble_eq_true rfl) (Nat.le_of_ble_eq_true rfl) (⟨Or.inr (Or.inr ⟨by unfold cd_aliases; rw [sp_tr_yes c_2 (by rw [if_pos c_21]; decide) c_11 c_11b]; exact if_neg hp.1.2, hp.1.1⟩), G, hp.2⟩)) (fun v9 H4 locsH4 hp hS hzH4 hkH4 => ?_)
  obtain ⟨⟨hv, c_22⟩, ⟨R, hW, hc⟩, hzz⟩ := hp
  subst hv
  refine lv_aload_n hx hb dX10_aliases_33 rfl (lv_at hl 2 rfl) ?_
  refine lv_aload_n hx hb dX10_aliases_34 rfl (lv_at hl 2 rfl) ?_
  refine lv_iload_n hx hb dX10_aliases_35 rfl (lv_at hl 4 rfl) ?_
  refine lv_iload hx hb dX10_aliases_36 (lv_at hl 6 rfl) ?_
  refine lv_iload hx hb dX10_aliases_38 (lv_at hl 0 rfl) ?_
  refine hk_callV 3 (As := [.int p1, .int p3, .int (nI (trN p1 p2 p3))]) (rest := [.ref ho]) X K hAE hS hl.1 (HW.o hW) rfl (c_X10_bestTrial E l H4 hW hc (fr := p1) (st := p3) (N := trN p1 p2 p3) hty.2.1 h200 (fun i hi => trI_pos c_11 (Nat.le_of_lt hi))) (fun q h => h.elim ((HW.rZ hW (r := 1) (by decide)) q) (fun h => by rw [h]; exact hW.2.2.2.2.2.2.2.2.2.1.2)) gX10_aliases_X10_bestTrial rfl ⟨rfl, hd_X10_bestTrial⟩ rfl ⟨⟨(Nat.le_of_ble_eq_true rfl), (Nat.le_of_ble_eq_true rfl)⟩, (Nat.le_of_ble_eq_true rfl), (Nat.le_of_ble_eq_true rfl)⟩ rfl (Nat.le_of_ble_eq_true rfl) dX10_aliases_40 (fun v9 H5 locsH5 hp hS hzH5 hkH5 => ?_)
  obtain ⟨hv, ⟨R, hW, hc, htr⟩, hszH5⟩ := hp
  subst hv
  refine lv_iload hx hb dX10_aliases_43 (lv_at hl 0 rfl) ?_
  refine lv_iload hx hb dX10_aliases_45 (lv_at hl 7 rfl) ?_
  refine hk_callV 3 (As := [.int (nI (hbr (fun i => sp_str μ (sp_sel μ (μ 3 (ix p0)) (-1) (cn 12)) (trI p1 p3 i)) (trN p1 p2 p3 - 1))), .int (nI (trN p1 p2 p3)), .int p4]) (rest := []) X K hAE hS hl.1 (HW.o hW) rfl (c_X10_countAliases E l H5 hW (b := (hbr (fun i => sp_str μ (sp_sel μ (μ 3 (ix p0)) (-1) (cn 12)) (trI p1 p3 i)) (trN p1 p2 p3 - 1))) (N := trN p1 p2 p3) (by have q := (hbr_spec (v := fun i => sp_str μ (sp_sel μ (μ 3 (ix p0)) (-1) (cn 12)) (trI p1 p3 i)) (trN p1 p2 p3 - 1)).1; have := hty.2.1; omega) h200 (pc := p4)) (fun _ h => h.elim) gX10_aliases_X10_countAliases rfl ⟨rfl, hd_X10_countAliases⟩ rfl ⟨⟨(Nat.le_of_ble_eq_true rfl), (Nat.le_of_ble_eq_true rfl)⟩, (Nat.le_of_ble_eq_true rfl), (Nat.le_of_ble_eq_true rfl)⟩ rfl (Nat.le_of_ble_eq_true rfl) dX10_aliases_47 (fun v9 H6 locsH6 hp hS hzH6 hkH6 => ?_)
  obtain ⟨hv, hh⟩ := hp
  subst hv; subst hh
  exact hk_iretx X hr hlk hQ hS (Nat.le_of_ble_eq_true rfl) (Nat.le_of_ble_eq_true rfl) dX10_aliases_50 (⟨by unfold cd_aliases; rw [sp_tr_yes c_2 (by rw [if_pos c_21]; decide) c_11 c_11b]; exact if_pos c_22, congrArg some (congrArg Value.int (Eq.trans (halA_eq c_11 c_21 (fun P => str_sml hI9 (fun x hx => sp_sel_lt _ x hx) (Nat.le_trans (sp_sel_le _) hc12) P) (by have q := (hbr_spec (v := fun i => sp_str μ (sp_sel μ (μ 3 (ix p0)) (-1) (cn 12)) (trI p1 p3 i)) (trN p1 p2 p3 - 1)).1; have := hty.2.1; omega) htr _ (Nat.le_refl _)) (by unfold an_aliases; rw [best_fst hty.2.1]))), _, _, hW⟩)

