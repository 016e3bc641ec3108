abbrev rmX10_gatherEclipses : Room := { frames := 9, cells := 0, slots := 0, locals := 154 }
theorem iX10_gatherEclipses_X10 : ∀ w ∈ wsX100, w ∈ wsX10_gatherEclipses := by decide +kernel
theorem iX10_gatherEclipses_X3 : ∀ w ∈ wsX30, w ∈ wsX10_gatherEclipses := by decide +kernel
theorem iX10_gatherEclipses_X7 : ∀ w ∈ wsX70, w ∈ wsX10_gatherEclipses := by decide +kernel
set_option maxHeartbeats 4000000 in
set_option maxRecDepth 100000 in
theorem c_X10_gatherEclipses (E : hk_E) (l : Launch) (H0 : Heap) {Z : Nat → Prop} {ho ts : Nat} {li : Nat → Nat} {rr : Nat → Nat → Nat} {G : hG} {R : hR} {cn : Nat → Nat} {sc : Nat → Int32} {μ : Nat → Nat → Int32} (hW : HW E Z (ho, li, rr, ts) G R (cn, sc, μ) H0) (hI : Inv (cn, sc, μ)) {e9 : Int32}  : hk_M E l yX10_gatherEclipses wsX10_gatherEclipses rmX10_gatherEclipses (fun q => q = rr 2 0 ∨ q = rr 2 1 ∨ q = rr 2 2) [.ref ho, .int e9] H0 (fun z H1 => z = none ∧ (∃ R2 : hR, HW E Z (ho, li, rr, ts) G R2 (cn, sc, μ) H1 ∧ hecl R2 (cn, sc, μ) e9) ∧ H1.size = H0.size) := by
  refine hk_M.ofW (cc := cX10_gatherEclipses) (maxL := 4) (ret := none) (by decide +kernel) rfl (Nat.le_of_ble_eq_true rfl) ?_
  intro p e s m args below meth c ls Q hQ X hr hlk hnm K hs9 hS hl
  obtain ⟨hx, hb, hml, hown, hts⟩ := id X
  have hAE : ∀ q, (fun q => q = rr 2 0 ∨ q = rr 2 1 ∨ q = rr 2 2) q → hk_A E q := fun q h => by rcases h with h | h | h <;> rw [h]; exact (HW.rx hW 2 (by decide)).1.1; exact (HW.rx hW 2 (by decide)).1.2.1; exact (HW.rx hW 2 (by decide)).1.2.2
  have hl : lv_has ls 4 [(0, .ref ho), (1, .int e9)] := hl
  have hc1 : cn 1 ≤ 12 := hI.1.1
  have hc8 : cn 8 ≤ 8 := hI.1.2.1
  have hc12 : cn 12 ≤ 80 := hI.1.2.2.1
  have hc22 : cn 22 ≤ 8 := hI.1.2.2.2.1
  have hc29 : cn 29 ≤ 30 := hI.1.2.2.2.2
  refine lv_aload_n hx hb dX10_gatherEclipses_0 rfl (lv_at hl 0 rfl) ?_
  refine hk_get (ref := "LightcurveHouse") (v := .ref (rr 2 0)) X K (HW.o hW) rfl iX10_gatherEclipses_X10 10 (by decide) (by decide +kernel) (fun _ h => h) rfl dX10_gatherEclipses_1 ?_
  refine hk_callV 0 (As := []) (rest := []) X K hAE hS hl.1 (HW.r2 hW).1.1 rfl (c_X5_clear E l H0 (HW.r2 hW).1 (HW.rx hW 2 (by decide)).1.1 (HW.rx hW 2 (by decide)).2.1.1 (HW.rx hW 2 (by decide)).2.1.2.1) (fun q h => Or.inl h) gX10_gatherEclipses_X5_clear rfl ⟨rfl, hd_X5_clear⟩ rfl ⟨⟨(Nat.le_of_ble_eq_true rfl), (Nat.le_of_ble_eq_true rfl)⟩, (Nat.le_of_ble_eq_true rfl), (Nat.le_of_ble_eq_true rfl)⟩ rfl (Nat.le_of_ble_eq_true rfl) dX10_gatherEclipses_4 (fun v9 H1 locsH1 hp hS hzH1 hkH1 => ?_)
  obtain ⟨hv, hrw, hszH1⟩ := hp
  subst hv
  have hW := HW.row hW 2 (by decide) hrw (Nat.zero_le _) (fun q h1 h2 => hkH1 q h1 (fun e => h2 (Or.inl e)))
  refine lv_iconst (v := 0) hx hb dX10_gatherEclipses_7 (by decide) ?_
  refine lv_topi (fun z_2 ez_2 => ?_)
  have ez_2 : z_2 = nI 0 := ez_2
  subst ez_2
  refine lv_istore_n (lv' := [(2, .int (nI 0)), (0, .ref ho), (1, .int e9)]) hx hb dX10_gatherEclipses_8 rfl hl (by decide) rfl (fun ls hl => ?_)
  have L9 : ∀ (n8 : Nat) (k n9 : Nat) (k9 v9 : Nat → Int32) (H : Heap) (locs : List Loc), cn 29 + 1 ≤ k + n8 → (va_S (fun q => q = rr 2 0 ∨ q = rr 2 1 ∨ q = rr 2 2) s.heap H locs ∧ k ≤ cn 29 ∧ HW E Z (ho, li, rr, ts) G (va_up R.1 2 n9, va_up R.2.1 2 k9, va_up R.2.2.1 2 v9, R.2.2.2) (cn, sc, μ) H ∧ row_up n9 k9 ∧ layR n9 k9 (layA μ e9 (fun _ => 0) k) ∧ (∀ i, i < n9 → mtr (k9 i)) ∧ n9 ≤ k ∧ H.size = H0.size) → ∀ (ls : Array Slot), lv_has ls 4 [(2, .int (nI k)), (0, .ref ho), (1, .int e9)] → W p l e rmX10_gatherEclipses s m args below meth c H locs 0 0 Q (F0 m 9 ls []) := by
    intro n8
    induction n8 with
    | zero =>
      intro k n9 k9 v9 H locs hm hinv ls hl
      obtain ⟨hS, hinv⟩ := hinv
      obtain ⟨hi1, hW, hup, hly, hmt, hlt9, hz9⟩ := hinv
      have hr9 : hk_row E (rr 2 0) (rr 2 1) (rr 2 2) 30 n9 k9 v9 H ∧ n9 ≤ 30 := HW.r2 hW
      exact absurd hm (by omega)
    | succ n8 ih =>
      intro k n9 k9 v9 H locs hm hinv ls hl
      obtain ⟨hS, hinv⟩ := hinv
      obtain ⟨hi1, hW, hup, hly, hmt, hlt9, hz9⟩ := hinv
      have hr9 : hk_row E (rr 2 0) (rr 2 1) (rr 2 2) 30 n9 k9 v9 H ∧ n9 ≤ 30 := HW.r2 hW
      refine lv_iload_n hx hb dX10_gatherEclipses_9 rfl (lv_at hl 0 rfl) ?_
      refine lv_aload_n hx hb dX10_gatherEclipses_10 rfl (lv_at hl 1 rfl) ?_
      refine hk_get (ref := "LightcurveHouse") (v := .ref (li 6)) X K (HW.o hW) rfl iX10_gatherEclipses_X10 6 (by decide) (by decide +kernel) (fun _ h => h) rfl dX10_gatherEclipses_11 ?_
      refine hk_callV 0 (As := []) (rest := [.int (nI k)]) X K hAE hS hl.1 (HW.l6 hW).1 rfl (c_Jx4a65c_size_8abf5 E l H (HW.l6 hW)) (fun _ h => h.elim) gX10_gatherEclipses_Jx4a65c_size_8abf5 rfl ⟨rfl, hd_Jx4a65c_size_8abf5⟩ rfl ⟨⟨(Nat.le_of_ble_eq_true rfl), (Nat.le_of_ble_eq_true rfl)⟩, (Nat.le_of_ble_eq_true rfl), (Nat.le_of_ble_eq_true rfl)⟩ rfl (Nat.le_of_ble_eq_true rfl) dX10_gatherEclipses_14 (fun v9 H3 locsH3 hp hS hzH3 hkH3 => ?_)
      obtain ⟨hv, hh⟩ := hp
      subst hv; subst hh
      refine lv_icmp_ge (tgt := 68) hx hb dX10_gatherEclipses_17 (by decide) (fun c_17 => ?_) (fun c_17 => ?_)
      · have hk : cn 29 ≤ k := (nI_leI (by omega) (by omega)).mp c_17
        exact hk_vret X hr hlk hQ hS (Nat.le_of_ble_eq_true rfl) (Nat.le_of_ble_eq_true rfl) dX10_gatherEclipses_68 (⟨rfl, ⟨_, hW, by show layR n9 k9 (layA μ e9 (fun _ => 0) (cn 29)) ∧ row_up n9 k9 ∧ ∀ i, i < n9 → mtr (k9 i); rw [show cn 29 = k by omega]; exact ⟨hly, hup, hmt⟩⟩, hz9⟩)
      · have hk : k < cn 29 := Nat.lt_of_not_le (fun h => c_17 (nI_le h (by omega)))
        have hlt9 : n9 < 30 := by omega
        refine lv_aload_n hx hb dX10_gatherEclipses_20 rfl (lv_at hl 1 rfl) ?_
        refine hk_get (ref := "LightcurveHouse") (v := .ref (li 6)) X K (HW.o hW) rfl iX10_gatherEclipses_X10 6 (by decide) (by decide +kernel) (fun _ h => h) rfl dX10_gatherEclipses_21 ?_
        refine lv_iload_n hx hb dX10_gatherEclipses_24 rfl (lv_at hl 0 rfl) ?_
        refine hk_callV 1 (As := [.int (nI k)]) (rest := []) X K hAE hS hl.1 (HW.l6 hW).1 rfl (c_Jx4a65c_get_915e3 E l H (HW.l6 hW) (HW.c6 hW).1 (Nat.lt_of_le_of_lt (HW.c6 hW).2 (by decide)) hk) (fun _ h => h.elim) gX10_gatherEclipses_Jx4a65c_get_915e3 rfl ⟨rfl, hd_Jx4a65c_get_915e3⟩ rfl ⟨⟨(Nat.le_of_ble_eq_true rfl), (Nat.le_of_ble_eq_true rfl)⟩, (Nat.le_of_ble_eq_true rfl), (Nat.le_of_ble_eq_true rfl)⟩ rfl (Nat.le_of_ble_eq_true rfl) dX10_gatherEclipses_25 (fun v9 H4 locsH4 hp hS hzH4 hkH4 => ?_)
        obtain ⟨hv, hh⟩ := hp
        subst hv; subst hh
        refine hk_cast X K (HW.e6 hW hk) rfl (by decide +kernel) dX10_gatherEclipses_28 ?_
        refine lv_astore_n (lv' := [(3, .ref (gad G 6 k)), (2, .int (nI k)), (0, .ref ho), (1, .int e9)]) hx hb dX10_gatherEclipses_31 rfl hl (by decide) rfl (fun ls hl => ?_)
        refine lv_aload_n hx hb dX10_gatherEclipses_32 rfl (lv_at hl 0 rfl) ?_
        refine hk_get (ref := "LightcurveHouse$Minimum") (v := .ref (gad G 2 (ix (μ 30 k)))) X K (HW.e6 hW hk) rfl iX10_gatherEclipses_X3 0 (by decide) (by decide +kernel) (fun _ h => h) rfl dX10_gatherEclipses_33 ?_
        refine hk_get (ref := "LightcurveHouse$Star") (v := .int (μ 3 (ix (μ 30 k)))) X K (HW.e2 hW (isS_xl (hI.2.2.2.2.2.2.2 k hk).1 (show cn 1 < 2 ^ 31 by omega))) rfl iX10_gatherEclipses_X7 2 (by decide) (by decide +kernel) (fun _ h => h) rfl dX10_gatherEclipses_36 ?_
        refine lv_iload_n hx hb dX10_gatherEclipses_39 rfl (lv_at hl 3 rfl) ?_
        refine lv_icmp_ne (tgt := 62) hx hb dX10_gatherEclipses_40 (by decide) (fun c_39 => ?_) (fun c_39 => ?_)
        · obtain ⟨q62, eq62⟩ : ∃ y : Int32, y = (nI k) + 1 := ⟨_, rfl⟩
          refine lv_iinc (v := q62) (lv' := [(2, .int q62), (3, .ref (gad G 6 k)), (0, .ref ho), (1, .int e9)]) hx hb dX10_gatherEclipses_62 hl (k := 1) rfl (by rw [eq62]; rfl) (by decide) rfl (fun ls hl => ?_)
          rw [nI_1] at eq62
          subst eq62
          refine lv_goto (tgt := 9) hx hb dX10_gatherEclipses_65 (by decide) ?_
          exact ih (k + 1) n9 k9 v9 _ _ (by omega) ⟨hS, by omega, hW, hup, hly.no c_39, hmt, by omega, by omega⟩ _ (lv_sub hl [0, 2, 3] rfl)
        · refine lv_aload_n hx hb dX10_gatherEclipses_43 rfl (lv_at hl 2 rfl) ?_
          refine hk_get (ref := "LightcurveHouse") (v := .ref (rr 2 0)) X K (HW.o hW) rfl iX10_gatherEclipses_X10 10 (by decide) (by decide +kernel) (fun _ h => h) rfl dX10_gatherEclipses_44 ?_
          refine lv_aload_n hx hb dX10_gatherEclipses_47 rfl (lv_at hl 0 rfl) ?_
          refine hk_get (ref := "LightcurveHouse$Minimum") (v := .ref (gad G 2 (ix (μ 30 k)))) X K (HW.e6 hW hk) rfl iX10_gatherEclipses_X3 0 (by decide) (by decide +kernel) (fun _ h => h) rfl dX10_gatherEclipses_48 ?_
          refine lv_aload_n hx hb dX10_gatherEclipses_51 rfl (lv_at hl 0 rfl) ?_
          refine hk_get (ref := "LightcurveHouse$Minimum") (v := .int (μ 31 k)) X K (HW.e6 hW hk) rfl iX10_gatherEclipses_X3 1 (by decide) (by decide +kernel) (fun _ h => h) rfl dX10_gatherEclipses_52 ?_
          refine hk_callV 1 (As := [.int (μ 31 k)]) (rest := [.ref (rr 2 0)]) X K hAE hS hl.1 (HW.e2 hW (isS_xl (hI.2.2.2.2.2.2.2 k hk).1 (show cn 1 < 2 ^ 31 by omega))) rfl (c_X7_arrival E l H hW (j := (μ 30 k)) (m9 := μ 31 k) (isS_xl (hI.2.2.2.2.2.2.2 k hk).1 (show cn 1 < 2 ^ 31 by omega)) ((hI.2.2.2.2.2.2.2 k hk).2) ((hI.2.2.1 _ (isS_xl (hI.2.2.2.2.2.2.2 k hk).1 (show cn 1 < 2 ^ 31 by omega))).1)) (fun _ h => h.elim) gX10_gatherEclipses_X7_arrival rfl ⟨rfl, hd_X7_arrival⟩ rfl ⟨⟨(Nat.le_of_ble_eq_true rfl), (Nat.le_of_ble_eq_true rfl)⟩, (Nat.le_of_ble_eq_true rfl), (Nat.le_of_ble_eq_true rfl)⟩ rfl (Nat.le_of_ble_eq_true rfl) dX10_gatherEclipses_55 (fun v9 H5 locsH5 hp hS hzH5 hkH5 => ?_)
          obtain ⟨hv, hh⟩ := hp
          subst hv; subst hh
          refine lv_iload_n hx hb dX10_gatherEclipses_58 rfl (lv_at hl 1 rfl) ?_
          refine hk_callV 2 (As := [.int (μ 31 k + sp_late μ (μ 31 k) (ix (μ 30 k))), .int (nI k)]) (rest := []) X K hAE hS hl.1 (HW.r2 hW).1.1 rfl (c_X5_add E l H hr9.1 hlt9 (by decide) hup (HW.rx hW 2 (by decide)).1.1 (HW.rx hW 2 (by decide)).1.2.1 (HW.rx hW 2 (by decide)).1.2.2 (HW.rx hW 2 (by decide)).2.1.1 (HW.rx hW 2 (by decide)).2.1.2.1 (HW.rx hW 2 (by decide)).2.1.2.2 (μ 31 k + sp_late μ (μ 31 k) (ix (μ 30 k))) (nI k)) (fun q h => h) gX10_gatherEclipses_X5_add rfl ⟨rfl, hd_X5_add⟩ rfl ⟨⟨(Nat.le_of_ble_eq_true rfl), (Nat.le_of_ble_eq_true rfl)⟩, (Nat.le_of_ble_eq_true rfl), (Nat.le_of_ble_eq_true rfl)⟩ rfl (Nat.le_of_ble_eq_true rfl) dX10_gatherEclipses_59 (fun v9 H6 locsH6 hp hS hzH6 hkH6 => ?_)
          obtain ⟨hv, ⟨ap, k2, v2, hat, hrw, hkv2⟩, hszH6⟩ := hp
          subst hv
          have hW := HW.row2 hW (by decide) hrw (by show n9 + 1 ≤ 30; omega) (fun q h1 h2 => hkH6 q h1 h2)
          obtain ⟨q62, eq62⟩ : ∃ y : Int32, y = (nI k) + 1 := ⟨_, rfl⟩
          refine lv_iinc (v := q62) (lv' := [(2, .int q62), (3, .ref (gad G 6 k)), (0, .ref ho), (1, .int e9)]) hx hb dX10_gatherEclipses_62 hl (k := 1) rfl (by rw [eq62]; rfl) (by decide) rfl (fun ls hl => ?_)
          rw [nI_1] at eq62
          subst eq62
          refine lv_goto (tgt := 9) hx hb dX10_gatherEclipses_65 (by decide) ?_
          exact ih (k + 1) (n9 + 1) k2 v2 _ _ (by omega) ⟨hS, by omega, hW, row_up_cong (row_up_ins hup hat) (fun i hi => (hkv2 i (by omega)).1), hly.yes hup c_39 hat (fun i hi => (hkv2 i hi).1), fun i hi => by rw [(hkv2 i (by omega)).1]; exact ins_mtr hmt (mt_rng hI hk) hat.1 i hi, by omega, by omega⟩ _ (lv_sub hl [0, 2, 3] rfl)
  exact L9 (cn 29 + 1) 0 0 (R.2.1 2) (R.2.2.1 2) _ _ (by omega) ⟨hS, Nat.zero_le _, hW, fun i j _ h => absurd h (Nat.not_lt_zero _), ⟨rfl, fun i h => absurd h (Nat.not_lt_zero _)⟩, fun i h => absurd h (Nat.not_lt_zero _), Nat.zero_le _, by omega⟩ _ (lv_sub hl [0, 1, 2] rfl)

abbrev rmX10_sinceFirst : Room := { frames := 1, cells := 0, slots := 0, locals := 21 }
theorem iX10_sinceFirst_X10 : ∀ w ∈ wsX100, w ∈ wsX10_sinceFirst := by decide +kernel
set_option maxHeartbeats 4000000 in
set_option maxRecDepth 100000 in
theorem c_X10_sinceFirst (E : hk_E) (l : Launch) (H0 : Heap) {Z : Nat → Prop} {ho ts : Nat} {li : Nat → Nat} {rr : Nat → Nat → Nat} {G : hG} {R : hR} {cn : Nat → Nat} {sc : Nat → Int32} {μ : Nat → Nat → Int32} (hW : HW E Z (ho, li, rr, ts) G R (cn, sc, μ) H0) {j : Nat} (hj : j < R.1 2)  : hk_M E l yX10_sinceFirst wsX10_sinceFirst rmX10_sinceFirst (fun _ => False) [.ref ho, .int (nI j)] H0 (fun z H1 => z = some (.int (R.2.1 2 j - R.2.1 2 0)) ∧ H0 = H1) := by
  refine hk_M.ofW (cc := cX10_sinceFirst) (maxL := 2) (ret := (some .int)) (by decide +kernel) rfl (Nat.le_of_ble_eq_true rfl) ?_
  intro p e s m args below meth c ls Q hQ X hr hlk hnm K hs9 hS hl
  obtain ⟨hx, hb, hml, hown, hts⟩ := id X
  have hAE : ∀ q, (fun _ => False) q → hk_A E q := fun _ h => h.elim
  have hl : lv_has ls 2 [(0, .ref ho), (1, .int (nI j))] := hl
  have hR2 : R.1 2 ≤ 30 := (HW.r2 hW).2
  refine lv_aload_n hx hb dX10_sinceFirst_0 rfl (lv_at hl 0 rfl) ?_
  refine hk_get (ref := "LightcurveHouse") (v := .ref (rr 2 0)) X K (HW.o hW) rfl iX10_sinceFirst_X10 10 (by decide) (by decide +kernel) (fun _ h => h) rfl dX10_sinceFirst_1 ?_
  refine lv_iload_n hx hb dX10_sinceFirst_4 rfl (lv_at hl 1 rfl) ?_
  refine hk_callV 1 (As := [.int (nI j)]) (rest := []) X K hAE hS hl.1 (HW.r2 hW).1.1 rfl (c_X5_key E l H0 (HW.r2 hW).1 (HW.r2 hW).2 (by decide) (nI j)) (fun _ h => h.elim) gX10_sinceFirst_X5_key rfl ⟨rfl, hd_X5_key⟩ rfl ⟨⟨(Nat.le_of_ble_eq_true rfl), (Nat.le_of_ble_eq_true rfl)⟩, (Nat.le_of_ble_eq_true rfl), (Nat.le_of_ble_eq_true rfl)⟩ rfl (Nat.le_of_ble_eq_true rfl) dX10_sinceFirst_5 (fun v9 H1 locsH1 hp hS hzH1 hkH1 => ?_)
  obtain ⟨hv, hh⟩ := hp
  rw [row_get_in (show j < R.1 2 by omega) (by omega)] at hv
  subst hv; subst hh
  refine lv_aload_n hx hb dX10_sinceFirst_8 rfl (lv_at hl 0 rfl) ?_
  refine hk_get (ref := "LightcurveHouse") (v := .ref (rr 2 0)) X K (HW.o hW) rfl iX10_sinceFirst_X10 10 (by decide) (by decide +kernel) (fun _ h => h) rfl dX10_sinceFirst_9 ?_
  refine lv_iconst (v := 0) hx hb dX10_sinceFirst_12 (by decide) ?_
  refine hk_callV 1 (As := [.int 0]) (rest := [.int (R.2.1 2 j)]) X K hAE hS hl.1 (HW.r2 hW).1.1 rfl (c_X5_key E l H0 (HW.r2 hW).1 (HW.r2 hW).2 (by decide) 0) (fun _ h => h.elim) gX10_sinceFirst_X5_key rfl ⟨rfl, hd_X5_key⟩ rfl ⟨⟨(Nat.le_of_ble_eq_true rfl), (Nat.le_of_ble_eq_true rfl)⟩, (Nat.le_of_ble_eq_true rfl), (Nat.le_of_ble_eq_true rfl)⟩ rfl (Nat.le_of_ble_eq_true rfl) dX10_sinceFirst_13 (fun v9 H2 locsH2 hp hS hzH2 hkH2 => ?_)
  obtain ⟨hv, hh⟩ := hp
  rw [show row_get (R.1 2) (R.2.1 2) 0 = R.2.1 2 0 from row_get_in (i := 0) (show 0 < R.1 2 by omega) (by omega)] at hv
  subst hv; subst hh
  refine lv_isub hx hb dX10_sinceFirst_16 ?_
  exact hk_iret X hr hlk hQ hS (Nat.le_of_ble_eq_true rfl) (Nat.le_of_ble_eq_true rfl) dX10_sinceFirst_17 (⟨rfl, rfl⟩)

theorem hd_X10_sinceFirst : yX10_sinceFirst.cls ≠ "java/lang/invoke/MethodHandle" ∧ yX10_sinceFirst.cls ≠ "java/lang/invoke/VarHandle" ∧ (parseMethodDescriptor yX10_sinceFirst.desc).map (fun d => d.parameters.length) = some 1 := ⟨by decide, by decide, by decide +kernel⟩
abbrev rmX10_cycleAt : Room := { frames := 2, cells := 0, slots := 0, locals := 43 }
set_option maxHeartbeats 4000000 in
set_option maxRecDepth 100000 in
theorem c_X10_cycleAt (E : hk_E) (l : Launch) (H0 : Heap) {Z : Nat → Prop} {ho ts : Nat} {li : Nat → Nat} {rr : Nat → Nat → Nat} {G : hG} {R : hR} {cn : Nat → Nat} {sc : Nat → Int32} {μ : Nat → Nat → Int32} (hW : HW E Z (ho, li, rr, ts) G R (cn, sc, μ) H0) {S9 : mS} {e9 : Int32} (he : hecl R S9 e9) {j : Nat} (hj : j < R.1 2) {P : Int32} (hP : inr P 30 1000000)  : hk_M E l yX10_cycleAt wsX10_cycleAt rmX10_cycleAt (fun _ => False) [.ref ho, .int (nI j), .int P] H0 (fun z H1 => z = some (.int (sp_cy (layS S9 e9).1 j P)) ∧ H0 = H1) := by
  refine hk_M.ofW (cc := cX10_cycleAt) (maxL := 3) (ret := (some .int)) (by decide +kernel) rfl (Nat.le_of_ble_eq_true rfl) ?_
  intro p e s m args below meth c ls Q hQ X hr hlk hnm K hs9 hS hl
  obtain ⟨hx, hb, hml, hown, hts⟩ := id X
  have hAE : ∀ q, (fun _ => False) q → hk_A E q := fun _ h => h.elim
  have hl : lv_has ls 3 [(0, .ref ho), (1, .int (nI j)), (2, .int P)] := hl
  have hq9 := cy_eq9 he.2.1 he.2.2 hj hP
  refine lv_iconst (v := 2) hx hb dX10_cycleAt_0 (by decide) ?_
  refine lv_aload_n hx hb dX10_cycleAt_1 rfl (lv_at hl 0 rfl) ?_
  refine lv_iload_n hx hb dX10_cycleAt_2 rfl (lv_at hl 1 rfl) ?_
  refine hk_callV 1 (As := [.int (nI j)]) (rest := [.int 2]) X K hAE hS hl.1 (HW.o hW) rfl (c_X10_sinceFirst E l H0 hW hj) (fun _ h => h.elim) gX10_cycleAt_X10_sinceFirst rfl ⟨rfl, hd_X10_sinceFirst⟩ rfl ⟨⟨(Nat.le_of_ble_eq_true rfl), (Nat.le_of_ble_eq_true rfl)⟩, (Nat.le_of_ble_eq_true rfl), (Nat.le_of_ble_eq_true rfl)⟩ rfl (Nat.le_of_ble_eq_true rfl) dX10_cycleAt_3 (fun v9 H1 locsH1 hp hS hzH1 hkH1 => ?_)
  obtain ⟨hv, hh⟩ := hp
  subst hv; subst hh
  refine lv_imul hx hb dX10_cycleAt_6 ?_
  refine lv_iload_n hx hb dX10_cycleAt_7 rfl (lv_at hl 2 rfl) ?_
  refine lv_iadd hx hb dX10_cycleAt_8 ?_
  refine lv_iconst (v := 2) hx hb dX10_cycleAt_9 (by decide) ?_
  refine lv_iload_n hx hb dX10_cycleAt_10 rfl (lv_at hl 2 rfl) ?_
  refine lv_imul hx hb dX10_cycleAt_11 ?_
  refine hk_callS 2 (As := [.int ((2 * (R.2.1 2 j - R.2.1 2 0)) + P), .int (2 * P)]) (rest := []) X K hAE hS hl.1 (c_X10_quotient E l H0 (n := (2 * (R.2.1 2 j - R.2.1 2 0)) + P) (d := 2 * P) hq9.2) (fun _ h => h.elim) gX10_cycleAt_X10_quotient rfl hd_X10_quotient rfl ⟨⟨(Nat.le_of_ble_eq_true rfl), (Nat.le_of_ble_eq_true rfl)⟩, (Nat.le_of_ble_eq_true rfl), (Nat.le_of_ble_eq_true rfl)⟩ rfl (Nat.le_of_ble_eq_true rfl) dX10_cycleAt_12 (fun v9 H2 locsH2 hp hS hzH2 hkH2 => ?_)
  obtain ⟨hv, hh⟩ := hp
  subst hv; subst hh
  exact hk_iret X hr hlk hQ hS (Nat.le_of_ble_eq_true rfl) (Nat.le_of_ble_eq_true rfl) dX10_cycleAt_15 (⟨by rw [hq9.1, (cy_cong (he.1.2 0 (by omega)) (he.1.2 j hj)).1], rfl⟩)

theorem hd_X10_cycleAt : yX10_cycleAt.cls ≠ "java/lang/invoke/MethodHandle" ∧ yX10_cycleAt.cls ≠ "java/lang/invoke/VarHandle" ∧ (parseMethodDescriptor yX10_cycleAt.desc).map (fun d => d.parameters.length) = some 2 := ⟨by decide, by decide, by decide +kernel⟩
abbrev rmX10_offsetAt : Room := { frames := 3, cells := 0, slots := 0, locals := 65 }
set_option maxHeartbeats 4000000 in
set_option maxRecDepth 100000 in
theorem c_X10_offsetAt (E : hk_E) (l : Launch) (H0 : Heap) {Z : Nat → Prop} {ho ts : Nat} {li : Nat → Nat} {rr : Nat → Nat → Nat} {G : hG} {R : hR} {cn : Nat → Nat} {sc : Nat → Int32} {μ : Nat → Nat → Int32} (hW : HW E Z (ho, li, rr, ts) G R (cn, sc, μ) H0) {S9 : mS} {e9 : Int32} (he : hecl R S9 e9) {j : Nat} (hj : j < R.1 2) {P : Int32} (hP : inr P 30 1000000)  : hk_M E l yX10_offsetAt wsX10_offsetAt rmX10_offsetAt (fun _ => False) [.ref ho, .int (nI j), .int P] H0 (fun z H1 => z = some (.int (sp_of (layS S9 e9).1 j P)) ∧ H0 = H1) := by
  refine hk_M.ofW (cc := cX10_offsetAt) (maxL := 3) (ret := (some .int)) (by decide +kernel) rfl (Nat.le_of_ble_eq_true rfl) ?_
  intro p e s m args below meth c ls Q hQ X hr hlk hnm K hs9 hS hl
  obtain ⟨hx, hb, hml, hown, hts⟩ := id X
  have hAE : ∀ q, (fun _ => False) q → hk_A E q := fun _ h => h.elim
  have hl : lv_has ls 3 [(0, .ref ho), (1, .int (nI j)), (2, .int P)] := hl
  refine lv_aload_n hx hb dX10_offsetAt_0 rfl (lv_at hl 0 rfl) ?_
  refine lv_iload_n hx hb dX10_offsetAt_1 rfl (lv_at hl 1 rfl) ?_
  refine hk_callV 1 (As := [.int (nI j)]) (rest := []) X K hAE hS hl.1 (HW.o hW) rfl (c_X10_sinceFirst E l H0 hW hj) (fun _ h => h.elim) gX10_offsetAt_X10_sinceFirst rfl ⟨rfl, hd_X10_sinceFirst⟩ rfl ⟨⟨(Nat.le_of_ble_eq_true rfl), (Nat.le_of_ble_eq_true rfl)⟩, (Nat.le_of_ble_eq_true rfl), (Nat.le_of_ble_eq_true rfl)⟩ rfl (Nat.le_of_ble_eq_true rfl) dX10_offsetAt_2 (fun v9 H1 locsH1 hp hS hzH1 hkH1 => ?_)
  obtain ⟨hv, hh⟩ := hp
  subst hv; subst hh
  refine lv_aload_n hx hb dX10_offsetAt_5 rfl (lv_at hl 0 rfl) ?_
  refine lv_iload_n hx hb dX10_offsetAt_6 rfl (lv_at hl 1 rfl) ?_
  refine lv_iload_n hx hb dX10_offsetAt_7 rfl (lv_at hl 2 rfl) ?_
  refine hk_callV 2 (As := [.int (nI j), .int P]) (rest := [.int (R.2.1 2 j - R.2.1 2 0)]) X K hAE hS hl.1 (HW.o hW) rfl (c_X10_cycleAt E l H0 hW he hj hP) (fun _ h => h.elim) gX10_offsetAt_X10_cycleAt rfl ⟨rfl, hd_X10_cycleAt⟩ rfl ⟨⟨(Nat.le_of_ble_eq_true rfl), (Nat.le_of_ble_eq_true rfl)⟩, (Nat.le_of_ble_eq_true rfl), (Nat.le_of_ble_eq_true rfl)⟩ rfl (Nat.le_of_ble_eq_true rfl) dX10_offsetAt_8 (fun v9 H2 locsH2 hp hS hzH2 hkH2 => ?_)
  obtain ⟨hv, hh⟩ := hp
  subst hv; subst hh
  refine lv_iload_n hx hb dX10_offsetAt_11 rfl (lv_at hl 2 rfl) ?_
  refine lv_imul hx hb dX10_offsetAt_12 ?_
  refine lv_isub hx hb dX10_offsetAt_13 ?_
  exact hk_iret X hr hlk hQ hS (Nat.le_of_ble_eq_true rfl) (Nat.le_of_ble_eq_true rfl) dX10_offsetAt_14 (⟨by unfold sp_of; rw [← he.1.2 0 (by omega), ← he.1.2 j hj], rfl⟩)

theorem c_X10_cycleAt2 (E : hk_E) (l : Launch) (H0 : Heap) {Z : Nat → Prop} {ho ts : Nat} {li : Nat → Nat} {rr : Nat → Nat → Nat} {G : hG} {R : hR} {cn : Nat → Nat} {sc : Nat → Int32} {μ : Nat → Nat → Int32} (hW : HW E Z (ho, li, rr, ts) G R (cn, sc, μ) H0) {S9 : mS} {e9 : Int32} (he : hecl R S9 e9) {p9 : Int32} (hp : isS (R.1 2) p9) {P : Int32} (hP : inr P 30 1000000) : hk_M E l yX10_cycleAt wsX10_cycleAt rmX10_cycleAt (fun _ => False) [.ref ho, .int p9, .int P] H0 (fun z H1 => z = some (.int (sp_cy (layS S9 e9).1 (ix p9) P)) ∧ H0 = H1) := by
  have hR2 : R.1 2 ≤ 30 := (HW.r2 hW).2
  have h := c_X10_cycleAt E l H0 hW he (j := ix p9) (isS_xl hp (by omega)) hP
  rw [nI_ix hp.1] at h
  exact h
theorem c_X10_offsetAt2 (E : hk_E) (l : Launch) (H0 : Heap) {Z : Nat → Prop} {ho ts : Nat} {li : Nat → Nat} {rr : Nat → Nat → Nat} {G : hG} {R : hR} {cn : Nat → Nat} {sc : Nat → Int32} {μ : Nat → Nat → Int32} (hW : HW E Z (ho, li, rr, ts) G R (cn, sc, μ) H0) {S9 : mS} {e9 : Int32} (he : hecl R S9 e9) {p9 : Int32} (hp : isS (R.1 2) p9) {P : Int32} (hP : inr P 30 1000000) : hk_M E l yX10_offsetAt wsX10_offsetAt rmX10_offsetAt (fun _ => False) [.ref ho, .int p9, .int P] H0 (fun z H1 => z = some (.int (sp_of (layS S9 e9).1 (ix p9) P)) ∧ H0 = H1) := by
  have hR2 : R.1 2 ≤ 30 := (HW.r2 hW).2
  have h := c_X10_offsetAt E l H0 hW he (j := ix p9) (isS_xl hp (by omega)) hP
  rw [nI_ix hp.1] at h
  exact h
theorem hd_X10_gatherEclipses : yX10_gatherEclipses.cls ≠ "java/lang/invoke/MethodHandle" ∧ yX10_gatherEclipses.cls ≠ "java/lang/invoke/VarHandle" ∧ (parseMethodDescriptor yX10_gatherEclipses.desc).map (fun d => d.parameters.length) = some 1 := ⟨by decide, by decide, by decide +kernel⟩
theorem hd_X10_needPlace : yX10_needPlace.cls ≠ "java/lang/invoke/MethodHandle" ∧ yX10_needPlace.cls ≠ "java/lang/invoke/VarHandle" ∧ (parseMethodDescriptor yX10_needPlace.desc).map (fun d => d.parameters.length) = some 2 := ⟨by decide, by decide, by decide +kernel⟩
theorem hd_X10_offsetAt : yX10_offsetAt.cls ≠ "java/lang/invoke/MethodHandle" ∧ yX10_offsetAt.cls ≠ "java/lang/invoke/VarHandle" ∧ (parseMethodDescriptor yX10_offsetAt.desc).map (fun d => d.parameters.length) = some 2 := ⟨by decide, by decide, by decide +kernel⟩
abbrev rmX10_cycle : Room := { frames := 10, cells := 8, slots := 400, locals := 177 }
theorem iX10_cycle_X10 : ∀ w ∈ wsX100, w ∈ wsX10_cycle := by decide +kernel
theorem iX10_cycle_X7 : ∀ w ∈ wsX70, w ∈ wsX10_cycle := by decide +kernel
set_option maxHeartbeats 4000000 in
set_option maxRecDepth 100000 in
theorem c_X10_cycle (E : hk_E) (l : Launch) (hl9 : l.stackTraces = false) (H0 : Heap) {Z : Nat → Prop} {ho ts : Nat} {li : Nat → Nat} {rr : Nat → Nat → Nat} {G : hG} {R : hR} {cn : Nat → Nat} {sc : Nat → Int32} {μ : Nat → Nat → Int32} (hW : HW E Z (ho, li, rr, ts) G R (cn, sc, μ) H0) (hI : InvF (cn, sc, μ)) (hZn : ∀ q, H0.size ≤ q → Z q) {p0 p1 p2 p3 : Int32}  : hk_X E l yX10_cycle wsX10_cycle rmX10_cycle (Z) [.ref ho, .int p0, .int p1, .int p2, .int p3] H0 (hpost E Z (ho, li, rr, ts) (cd_cycle p0 p1 p2 p3 (cn, sc, μ)) (an_cycle p0 p1 p2 p3 (cn, sc, μ)) (st_cycle p0 p1 p2 p3 (cn, sc, μ))) (hpx E Z (ho, li, rr, ts) (cd_cycle p0 p1 p2 p3 (cn, sc, μ)) (cn, sc, μ) [XI, XA]) := by
  refine hk_X.ofW (cc := cX10_cycle) (maxL := 5) (ret := (some .int)) (by decide +kernel) rfl (Nat.le_of_ble_eq_true rfl) ?_
  intro p e s m args below meth c ls Q hQ X hr hlk hx9 K hs9 hS hl
  obtain ⟨hx, hb, hml, hown, hts⟩ := id X
  have hAE : ∀ q, (Z) q → hk_A E q := hW.2.2.2.2.2.2.2.2.2.2.2.2
  have hl : lv_has ls 5 [(0, .ref ho), (1, .int p0), (2, .int p1), (3, .int p2), (4, .int p3)] := hl
  have hI9 := hI.1
  have hZA : ∀ q, Z q → hk_A E q := hW.2.2.2.2.2.2.2.2.2.2.2.2
  have hc1 : cn 1 ≤ 12 := hI9.1.1
  have hc8 : cn 8 ≤ 8 := hI9.1.2.1
  have hc12 : cn 12 ≤ 80 := hI9.1.2.2.1
  have hc22 : cn 22 ≤ 8 := hI9.1.2.2.2.1
  have hc29 : cn 29 ≤ 30 := hI9.1.2.2.2.2
  refine lv_aload_n hx hb dX10_cycle_0 rfl (lv_at hl 0 rfl) ?_
  refine lv_aload_n hx hb dX10_cycle_1 rfl (lv_at hl 0 rfl) ?_
  refine lv_iload_n hx hb dX10_cycle_2 rfl (lv_at hl 1 rfl) ?_
  refine hk_callVx 1 (As := [.int p0]) (rest := [.ref ho]) X K hAE hS hl.1 (HW.o hW) rfl (c_X10_starAt E l hl9 H0 hW hc1 (i9 := p0)) (fun q h => hZn q (Nat.le_trans (Nat.le_refl _) h)) gX10_cycle_X10_starAt rfl ⟨rfl, hd_X10_starAt⟩ rfl ⟨⟨(Nat.le_of_ble_eq_true rfl), (Nat.le_of_ble_eq_true rfl)⟩, (Nat.le_of_ble_eq_true rfl), (Nat.le_of_ble_eq_true rfl)⟩ rfl (Nat.le_of_ble_eq_true rfl) dX10_cycle_3 (fun x9 ce9 q9 H1 locsH1 hp hS hzH1 hkH1 hce hcv hcl => hk_out hx9 hlk hQ hS hce hcv hcl (Nat.le_of_ble_eq_true rfl) (Nat.le_of_ble_eq_true rfl) (hpx_1 hW (fun q h1 h2 => hkH1 q h1 h2) (Or.inl ⟨by unfold cd_cycle; (try dsimp only); rw [if_neg hp.2], hp.1⟩))) (fun v9 H1 locsH1 hp hS hzH1 hkH1 => ?_)
  obtain ⟨hv, hh⟩ := hp
  obtain ⟨hv, c_3⟩ := hv
  subst hv; subst hh
  refine hk_get (ref := "LightcurveHouse$Star") (v := .int (μ 3 (ix p0))) X K (HW.e2 hW (isS_xl c_3 (show cn 1 < 2 ^ 31 by omega))) rfl iX10_cycle_X7 2 (by decide) (by decide +kernel) (fun _ h => h) rfl dX10_cycle_6 ?_
  refine hk_callV 1 (As := [.int (μ 3 (ix p0))]) (rest := []) X K hAE hS hl.1 (HW.o hW) rfl (c_X10_gatherEclipses E l H0 hW hI9 (e9 := μ 3 (ix p0))) (HW.rZ hW (r := 2) (by decide)) gX10_cycle_X10_gatherEclipses rfl ⟨rfl, hd_X10_gatherEclipses⟩ rfl ⟨⟨(Nat.le_of_ble_eq_true rfl), (Nat.le_of_ble_eq_true rfl)⟩, (Nat.le_of_ble_eq_true rfl), (Nat.le_of_ble_eq_true rfl)⟩ rfl (Nat.le_of_ble_eq_true rfl) dX10_cycle_9 (fun v9 H2 locsH2 hp hS hzH2 hkH2 => ?_)
  obtain ⟨hv, ⟨R, hW, he⟩, hszH2⟩ := hp
  subst hv
  have hR2 : R.1 2 ≤ 30 := (HW.r2 hW).2
  refine lv_iload_n hx hb dX10_cycle_12 rfl (lv_at hl 3 rfl) ?_
  refine lv_aload_n hx hb dX10_cycle_13 rfl (lv_at hl 0 rfl) ?_
  refine hk_get (ref := "LightcurveHouse") (v := .ref (rr 2 0)) X K (HW.o hW) rfl iX10_cycle_X10 10 (by decide) (by decide +kernel) (fun _ h => h) rfl dX10_cycle_14 ?_
  refine hk_callV 0 (As := []) (rest := [.int p2]) X K hAE hS hl.1 (HW.r2 hW).1.1 rfl (c_X5_size E l H2 (HW.r2 hW).1) (fun _ h => h.elim) gX10_cycle_X5_size rfl ⟨rfl, hd_X5_size⟩ rfl ⟨⟨(Nat.le_of_ble_eq_true rfl), (Nat.le_of_ble_eq_true rfl)⟩, (Nat.le_of_ble_eq_true rfl), (Nat.le_of_ble_eq_true rfl)⟩ rfl (Nat.le_of_ble_eq_true rfl) dX10_cycle_17 (fun v9 H3 locsH3 hp hS hzH3 hkH3 => ?_)
  obtain ⟨hv, hh⟩ := hp
  subst hv; subst hh
  refine hk_callSx 2 (As := [.int p2, .int (nI (R.1 2))]) (rest := []) X K hAE hS hl.1 (c_X10_needPlace E l hl9 H2 (i9 := p2) (n9 := R.1 2)) (fun q h => hZn q (Nat.le_trans (Nat.le_of_eq hszH2.symm) h)) gX10_cycle_X10_needPlace rfl hd_X10_needPlace rfl ⟨⟨(Nat.le_of_ble_eq_true rfl), (Nat.le_of_ble_eq_true rfl)⟩, (Nat.le_of_ble_eq_true rfl), (Nat.le_of_ble_eq_true rfl)⟩ rfl (Nat.le_of_ble_eq_true rfl) dX10_cycle_20 (fun x9 ce9 q9 H4 locsH4 hp hS hzH4 hkH4 hce hcv hcl => hk_out hx9 hlk hQ hS hce hcv hcl (Nat.le_of_ble_eq_true rfl) (Nat.le_of_ble_eq_true rfl) (hpx_1 hW (fun q h1 h2 => hkH4 q h1 h2) (Or.inl ⟨by unfold cd_cycle; (try dsimp only); rw [if_pos c_3, if_neg (show ¬ isS (layS (cn, sc, μ) (μ 3 (ix p0))).2 p2 from by rw [← he.1.1]; exact hp.2)], hp.1⟩))) (fun v9 H4 locsH4 hp hS hzH4 hkH4 => ?_)
  obtain ⟨hv, hh⟩ := hp
  obtain ⟨hv, c_20⟩ := hv
  subst hv; subst hh
  refine lv_iload_n hx hb dX10_cycle_23 rfl (lv_at hl 2 rfl) ?_
  refine hk_callSx 1 (As := [.int p1]) (rest := []) X K hAE hS hl.1 (c_X10_needPeriod E l hl9 H2 (a9 := p1)) (fun q h => hZn q (Nat.le_trans (Nat.le_of_eq hszH2.symm) h)) gX10_cycle_X10_needPeriod rfl hd_X10_needPeriod rfl ⟨⟨(Nat.le_of_ble_eq_true rfl), (Nat.le_of_ble_eq_true rfl)⟩, (Nat.le_of_ble_eq_true rfl), (Nat.le_of_ble_eq_true rfl)⟩ rfl (Nat.le_of_ble_eq_true rfl) dX10_cycle_24 (fun x9 ce9 q9 H5 locsH5 hp hS hzH5 hkH5 hce hcv hcl => hk_out hx9 hlk hQ hS hce hcv hcl (Nat.le_of_ble_eq_true rfl) (Nat.le_of_ble_eq_true rfl) (hpx_1 hW (fun q h1 h2 => hkH5 q h1 h2) (Or.inr (Or.inl ⟨by unfold cd_cycle; (try dsimp only); rw [if_pos c_3, if_pos (show isS (layS (cn, sc, μ) (μ 3 (ix p0))).2 p2 from by rw [← he.1.1]; exact c_20), if_neg hp.2], hp.1⟩)))) (fun v9 H5 locsH5 hp hS hzH5 hkH5 => ?_)
  obtain ⟨hv, hh⟩ := hp
  obtain ⟨hv, c_24⟩ := hv
  subst hv; subst hh
  refine lv_iload hx hb dX10_cycle_27 (lv_at hl 4 rfl) ?_
  refine lv_if_eq (tgt := 41) hx hb dX10_cycle_29 (by decide) (fun c_29 => ?_) (fun c_29 => ?_)
  · refine lv_aload_n hx hb dX10_cycle_41 rfl (lv_at hl 0 rfl) ?_
    refine lv_iload_n hx hb dX10_cycle_42 rfl (lv_at hl 3 rfl) ?_
    refine lv_iload_n hx hb dX10_cycle_43 rfl (lv_at hl 2 rfl) ?_
    refine hk_callV 2 (As := [.int p2, .int p1]) (rest := []) X K hAE hS hl.1 (HW.o hW) rfl (c_X10_cycleAt2 E l H2 hW he c_20 c_24) (fun _ h => h.elim) gX10_cycle_X10_cycleAt rfl ⟨rfl, hd_X10_cycleAt⟩ rfl ⟨⟨(Nat.le_of_ble_eq_true rfl), (Nat.le_of_ble_eq_true rfl)⟩, (Nat.le_of_ble_eq_true rfl), (Nat.le_of_ble_eq_true rfl)⟩ rfl (Nat.le_of_ble_eq_true rfl) dX10_cycle_44 (fun v9 H6 locsH6 hp hS hzH6 hkH6 => ?_)
    obtain ⟨hv, hh⟩ := hp
    subst hv; subst hh
    exact hk_iretx X hr hlk hQ hS (Nat.le_of_ble_eq_true rfl) (Nat.le_of_ble_eq_true rfl) dX10_cycle_47 (⟨by unfold cd_cycle; (try dsimp only); rw [if_pos c_3, if_pos (show isS (layS (cn, sc, μ) (μ 3 (ix p0))).2 p2 from by rw [← he.1.1]; exact c_20), if_pos c_24], congrArg some (congrArg Value.int (Eq.symm (if_pos c_29))), _, _, hW⟩)
  · refine lv_aload_n hx hb dX10_cycle_32 rfl (lv_at hl 0 rfl) ?_
    refine lv_iload_n hx hb dX10_cycle_33 rfl (lv_at hl 3 rfl) ?_
    refine lv_iload_n hx hb dX10_cycle_34 rfl (lv_at hl 2 rfl) ?_
    refine hk_callV 2 (As := [.int p2, .int p1]) (rest := []) X K hAE hS hl.1 (HW.o hW) rfl (c_X10_offsetAt2 E l H2 hW he c_20 c_24) (fun _ h => h.elim) gX10_cycle_X10_offsetAt rfl ⟨rfl, hd_X10_offsetAt⟩ rfl ⟨⟨(Nat.le_of_ble_eq_true rfl), (Nat.le_of_ble_eq_true rfl)⟩, (Nat.le_of_ble_eq_true rfl), (Nat.le_of_ble_eq_true rfl)⟩ rfl (Nat.le_of_ble_eq_true rfl) dX10_cycle_35 (fun v9 H7 locsH7 hp hS hzH7 hkH7 => ?_)
    obtain ⟨hv, hh⟩ := hp
    subst hv; subst hh
    refine lv_goto (tgt := 47) hx hb dX10_cycle_38 (by decide) ?_
    exact hk_iretx X hr hlk hQ hS (Nat.le_of_ble_eq_true rfl) (Nat.le_of_ble_eq_true rfl) dX10_cycle_47 (⟨by unfold cd_cycle; (try dsimp only); rw [if_pos c_3, if_pos (show isS (layS (cn, sc, μ) (μ 3 (ix p0))).2 p2 from by rw [← he.1.1]; exact c_20), if_pos c_24], congrArg some (congrArg Value.int (Eq.symm (if_neg c_29))), _, _, hW⟩)

theorem lost_up {g : Nat → Int32} {P : Int32} {k : Nat} (hk : 1 ≤ k) : sp_lost g P k = sp_lost g P (k - 1) + (if 4 * absd (sp_of g k P - sp_of g (k - 1) P) ≤ P then 0 else 1) := by
  obtain ⟨j, rfl⟩ : ∃ j, k = j + 1 := ⟨k - 1, by omega⟩
  rw [Nat.add_sub_cancel]
  rfl
abbrev rmX10_lost : Room := { frames := 10, cells := 8, slots := 400, locals := 177 }
theorem iX10_lost_X10 : ∀ w ∈ wsX100, w ∈ wsX10_lost := by decide +kernel
theorem iX10_lost_X7 : ∀ w ∈ wsX70, w ∈ wsX10_lost := by decide +kernel
set_option maxHeartbeats 4000000 in
set_option maxRecDepth 100000 in
theorem c_X10_lost (E : hk_E) (l : Launch) (hl9 : l.stackTraces = false) (H0 : Heap) {Z : Nat → Prop} {ho ts : Nat} {li : Nat → Nat} {rr : Nat → Nat → Nat} {G : hG} {R : hR} {cn : Nat → Nat} {sc : Nat → Int32} {μ : Nat → Nat → Int32} (hW : HW E Z (ho, li, rr, ts) G R (cn, sc, μ) H0) (hI : InvF (cn, sc, μ)) (hZn : ∀ q, H0.size ≤ q → Z q) {p0 p1 : Int32}  : hk_X E l yX10_lost wsX10_lost rmX10_lost (Z) [.ref ho, .int p0, .int p1] H0 (hpost E Z (ho, li, rr, ts) (cd_lost p0 p1 (cn, sc, μ)) (an_lost p0 p1 (cn, sc, μ)) (st_lost p0 p1 (cn, sc, μ))) (hpx E Z (ho, li, rr, ts) (cd_lost p0 p1 (cn, sc, μ)) (cn, sc, μ) [XI, XA]) := by
  refine hk_X.ofW (cc := cX10_lost) (maxL := 7) (ret := (some .int)) (by decide +kernel) rfl (Nat.le_of_ble_eq_true rfl) ?_
  intro p e s m args below meth c ls Q hQ X hr hlk hx9 K hs9 hS hl
  obtain ⟨hx, hb, hml, hown, hts⟩ := id X
  have hAE : ∀ q, (Z) q → hk_A E q := hW.2.2.2.2.2.2.2.2.2.2.2.2
  have hl : lv_has ls 7 [(0, .ref ho), (1, .int p0), (2, .int p1)] := hl
  have hI9 := hI.1
  have hZA : ∀ q, Z q → hk_A E q := hW.2.2.2.2.2.2.2.2.2.2.2.2
  have hc1 : cn 1 ≤ 12 := hI9.1.1
  have hc8 : cn 8 ≤ 8 := hI9.1.2.1
  have hc12 : cn 12 ≤ 80 := hI9.1.2.2.1
  have hc22 : cn 22 ≤ 8 := hI9.1.2.2.2.1
  have hc29 : cn 29 ≤ 30 := hI9.1.2.2.2.2
  refine lv_aload_n hx hb dX10_lost_0 rfl (lv_at hl 0 rfl) ?_
  refine lv_iload_n hx hb dX10_lost_1 rfl (lv_at hl 1 rfl) ?_
  refine hk_callVx 1 (As := [.int p0]) (rest := []) X K hAE hS hl.1 (HW.o hW) rfl (c_X10_starAt E l hl9 H0 hW hc1 (i9 := p0)) (fun q h => hZn q (Nat.le_trans (Nat.le_refl _) h)) gX10_lost_X10_starAt rfl ⟨rfl, hd_X10_starAt⟩ rfl ⟨⟨(Nat.le_of_ble_eq_true rfl), (Nat.le_of_ble_eq_true rfl)⟩, (Nat.le_of_ble_eq_true rfl), (Nat.le_of_ble_eq_true rfl)⟩ rfl (Nat.le_of_ble_eq_true rfl) dX10_lost_2 (fun x9 ce9 q9 H1 locsH1 hp hS hzH1 hkH1 hce hcv hcl => hk_out hx9 hlk hQ hS hce hcv hcl (Nat.le_of_ble_eq_true rfl) (Nat.le_of_ble_eq_true rfl) (hpx_1 hW (fun q h1 h2 => hkH1 q h1 h2) (Or.inl ⟨by unfold cd_lost; (try dsimp only); rw [if_neg hp.2], hp.1⟩))) (fun v9 H1 locsH1 hp hS hzH1 hkH1 => ?_)
  obtain ⟨hv, hh⟩ := hp
  obtain ⟨hv, c_2⟩ := hv
  subst hv; subst hh
  refine lv_astore_n (lv' := [(3, .ref (gad G 2 (ix p0))), (0, .ref ho), (1, .int p0), (2, .int p1)]) hx hb dX10_lost_5 rfl hl (by decide) rfl (fun ls hl => ?_)
  refine lv_iload_n hx hb dX10_lost_6 rfl (lv_at hl 3 rfl) ?_
  refine hk_callSx 1 (As := [.int p1]) (rest := []) X K hAE hS hl.1 (c_X10_needPeriod E l hl9 H0 (a9 := p1)) (fun q h => hZn q (Nat.le_trans (Nat.le_refl _) h)) gX10_lost_X10_needPeriod rfl hd_X10_needPeriod rfl ⟨⟨(Nat.le_of_ble_eq_true rfl), (Nat.le_of_ble_eq_true rfl)⟩, (Nat.le_of_ble_eq_true rfl), (Nat.le_of_ble_eq_true rfl)⟩ rfl (Nat.le_of_ble_eq_true rfl) dX10_lost_7 (fun x9 ce9 q9 H2 locsH2 hp hS hzH2 hkH2 hce hcv hcl => hk_out hx9 hlk hQ hS hce hcv hcl (Nat.le_of_ble_eq_true rfl) (Nat.le_of_ble_eq_true rfl) (hpx_1 hW (fun q h1 h2 => hkH2 q h1 h2) (Or.inr (Or.inl ⟨by unfold cd_lost; (try dsimp only); rw [if_pos c_2, if_neg hp.2], hp.1⟩)))) (fun v9 H2 locsH2 hp hS hzH2 hkH2 => ?_)
  obtain ⟨hv, hh⟩ := hp
  obtain ⟨hv, c_7⟩ := hv
  subst hv; subst hh
  refine lv_aload_n hx hb dX10_lost_10 rfl (lv_at hl 1 rfl) ?_
  refine lv_aload_n hx hb dX10_lost_11 rfl (lv_at hl 0 rfl) ?_
  refine hk_get (ref := "LightcurveHouse$Star") (v := .int (μ 3 (ix p0))) X K (HW.e2 hW (isS_xl c_2 (show cn 1 < 2 ^ 31 by omega))) rfl iX10_lost_X7 2 (by decide) (by decide +kernel) (fun _ h => h) rfl dX10_lost_12 ?_
  refine hk_callV 1 (As := [.int (μ 3 (ix p0))]) (rest := []) X K hAE hS hl.1 (HW.o hW) rfl (c_X10_gatherEclipses E l H0 hW hI9 (e9 := μ 3 (ix p0))) (HW.rZ hW (r := 2) (by decide)) gX10_lost_X10_gatherEclipses rfl ⟨rfl, hd_X10_gatherEclipses⟩ rfl ⟨⟨(Nat.le_of_ble_eq_true rfl), (Nat.le_of_ble_eq_true rfl)⟩, (Nat.le_of_ble_eq_true rfl), (Nat.le_of_ble_eq_true rfl)⟩ rfl (Nat.le_of_ble_eq_true rfl) dX10_lost_15 (fun v9 H3 locsH3 hp hS hzH3 hkH3 => ?_)
  obtain ⟨hv, ⟨R, hW, he⟩, hszH3⟩ := hp
  subst hv
  have hR2 : R.1 2 ≤ 30 := (HW.r2 hW).2
  refine lv_iconst (v := 0) hx hb dX10_lost_18 (by decide) ?_
  refine lv_istore (lv' := [(4, .int 0), (3, .ref (gad G 2 (ix p0))), (0, .ref ho), (1, .int p0), (2, .int p1)]) hx hb dX10_lost_19 hl (by decide) rfl (fun ls hl => ?_)
  refine lv_iconst (v := 1) hx hb dX10_lost_21 (by decide) ?_
  refine lv_topi (fun z_4 ez_4 => ?_)
  have ez_4 : z_4 = nI 1 := ez_4
  subst ez_4
  refine lv_istore (lv' := [(5, .int (nI 1)), (4, .int 0), (3, .ref (gad G 2 (ix p0))), (0, .ref ho), (1, .int p0), (2, .int p1)]) hx hb dX10_lost_22 hl (by decide) rfl (fun ls hl => ?_)
  have L24 : ∀ (n7 : Nat) (k : Nat) (s8 : Int32) (locs : List Loc), R.1 2 + 2 ≤ k + n7 → (va_S (Z) s.heap H3 locs ∧ 1 ≤ k ∧ (k = 1 ∨ k ≤ R.1 2) ∧ s8 = sp_lost (layS (cn, sc, μ) (μ 3 (ix p0))).1 p1 (k - 1)) → ∀ (ls : Array Slot), lv_has ls 7 [(5, .int (nI k)), (4, .int s8), (0, .ref ho), (1, .int p0), (2, .int p1)] → W p l e rmX10_lost s m args below meth c H3 locs 2 12 Q (F0 m 24 ls []) := by
    intro n7
    induction n7 with
    | zero =>
      intro k s8 locs hm7 hinv7 ls hl
      obtain ⟨hS, hinv7⟩ := hinv7
      obtain ⟨hi0, hi1, hs8⟩ := hinv7
      exact absurd hm7 (by omega)
    | succ n7 ih7 =>
      intro k s8 locs hm7 hinv7 ls hl
      obtain ⟨hS, hinv7⟩ := hinv7
      obtain ⟨hi0, hi1, hs8⟩ := hinv7
      refine lv_iload hx hb dX10_lost_24 (lv_at hl 0 rfl) ?_
      refine lv_aload_n hx hb dX10_lost_26 rfl (lv_at hl 2 rfl) ?_
      refine hk_get (ref := "LightcurveHouse") (v := .ref (rr 2 0)) X K (HW.o hW) rfl iX10_lost_X10 10 (by decide) (by decide +kernel) (fun _ h => h) rfl dX10_lost_27 ?_
      refine hk_callV 0 (As := []) (rest := [.int (nI k)]) X K hAE hS hl.1 (HW.r2 hW).1.1 rfl (c_X5_size E l H3 (HW.r2 hW).1) (fun _ h => h.elim) gX10_lost_X5_size rfl ⟨rfl, hd_X5_size⟩ rfl ⟨⟨(Nat.le_of_ble_eq_true rfl), (Nat.le_of_ble_eq_true rfl)⟩, (Nat.le_of_ble_eq_true rfl), (Nat.le_of_ble_eq_true rfl)⟩ rfl (Nat.le_of_ble_eq_true rfl) dX10_lost_30 (fun v9 H5 locsH5 hp hS hzH5 hkH5 => ?_)
      obtain ⟨hv, hh⟩ := hp
      subst hv; subst hh
      refine lv_icmp_ge (tgt := 75) hx hb dX10_lost_33 (by decide) (fun c_33 => ?_) (fun c_33 => ?_)
      · have hk : R.1 2 ≤ k := (nI_leI (by omega) (by omega)).mp c_33
        refine lv_iload hx hb dX10_lost_75 (lv_at hl 1 rfl) ?_
        exact hk_iretx X hr hlk hQ hS (Nat.le_of_ble_eq_true rfl) (Nat.le_of_ble_eq_true rfl) dX10_lost_77 (⟨by unfold cd_lost; (try dsimp only); rw [if_pos c_2, if_pos c_7], by rw [hs8]; show some (Value.int (sp_lost (layS (cn, sc, μ) (μ 3 (ix p0))).1 p1 (k - 1))) = some (Value.int (sp_lost (layS (cn, sc, μ) (μ 3 (ix p0))).1 p1 ((layS (cn, sc, μ) (μ 3 (ix p0))).2 - 1))); rw [← he.1.1, show k - 1 = R.1 2 - 1 by omega], _, _, hW⟩)
      · have hk : k < R.1 2 := Nat.lt_of_not_le (fun h => c_33 (nI_le h (by omega)))
        have hP9 := c_7
        refine lv_aload_n hx hb dX10_lost_36 rfl (lv_at hl 2 rfl) ?_
        refine lv_iload hx hb dX10_lost_37 (lv_at hl 0 rfl) ?_
        refine lv_iload_n hx hb dX10_lost_39 rfl (lv_at hl 4 rfl) ?_
        refine hk_callV 2 (As := [.int (nI k), .int p1]) (rest := []) X K hAE hS hl.1 (HW.o hW) rfl (c_X10_offsetAt E l H3 hW he (j := k) hk hP9) (fun _ h => h.elim) gX10_lost_X10_offsetAt rfl ⟨rfl, hd_X10_offsetAt⟩ rfl ⟨⟨(Nat.le_of_ble_eq_true rfl), (Nat.le_of_ble_eq_true rfl)⟩, (Nat.le_of_ble_eq_true rfl), (Nat.le_of_ble_eq_true rfl)⟩ rfl (Nat.le_of_ble_eq_true rfl) dX10_lost_40 (fun v9 H6 locsH6 hp hS hzH6 hkH6 => ?_)
        obtain ⟨hv, hh⟩ := hp
        subst hv; subst hh
        refine lv_aload_n hx hb dX10_lost_43 rfl (lv_at hl 2 rfl) ?_
        refine lv_iload hx hb dX10_lost_44 (lv_at hl 0 rfl) ?_
        refine lv_iconst (v := 1) hx hb dX10_lost_46 (by decide) ?_
        refine lv_isub hx hb dX10_lost_47 ?_
        refine lv_topi (fun km ekm => ?_)
        rw [show nI k - 1 = nI (k - 1) from by rw [show (1 : Int32) = nI 1 from rfl, pk_sub (by omega)]] at ekm
        subst ekm
        refine lv_iload_n hx hb dX10_lost_48 rfl (lv_at hl 4 rfl) ?_
        refine hk_callV 2 (As := [.int (nI (k - 1)), .int p1]) (rest := [.int (sp_of (layS (cn, sc, μ) (μ 3 (ix p0))).1 k p1)]) X K hAE hS hl.1 (HW.o hW) rfl (c_X10_offsetAt E l H3 hW he (j := k - 1) (by omega) hP9) (fun _ h => h.elim) gX10_lost_X10_offsetAt rfl ⟨rfl, hd_X10_offsetAt⟩ rfl ⟨⟨(Nat.le_of_ble_eq_true rfl), (Nat.le_of_ble_eq_true rfl)⟩, (Nat.le_of_ble_eq_true rfl), (Nat.le_of_ble_eq_true rfl)⟩ rfl (Nat.le_of_ble_eq_true rfl) dX10_lost_49 (fun v9 H7 locsH7 hp hS hzH7 hkH7 => ?_)
        obtain ⟨hv, hh⟩ := hp
        subst hv; subst hh
        refine lv_isub hx hb dX10_lost_52 ?_
        refine va_mabs (rest := []) hx hb (by rw [hml]; exact hl.1.symm) hown (hts (.methodLink RX10 277 Lib.Math.abs.name) (by decide +kernel)) (hts (.static Lib.Math.abs.name) (by decide +kernel)) (hts (.initialized "java/lang/Math") (by decide +kernel)) (hts (.code Lib.Math.abs.name Lib.Math.abs.code 1 (some .int)) (by decide +kernel)) (Nat.le_of_ble_eq_true rfl) (Nat.le_of_ble_eq_true rfl) (Nat.le_of_ble_eq_true rfl) (Nat.le_of_ble_eq_true rfl) dX10_lost_53 ?_
        refine lv_topi (fun jp ejp => ?_)
        have hjp : jp = absd (sp_of (layS (cn, sc, μ) (μ 3 (ix p0))).1 k p1 - sp_of (layS (cn, sc, μ) (μ 3 (ix p0))).1 (k - 1) p1) := by rw [ejp, absd_z]
        refine lv_istore (lv' := [(6, .int jp), (5, .int (nI k)), (4, .int s8), (0, .ref ho), (1, .int p0), (2, .int p1)]) hx hb dX10_lost_56 hl (by decide) rfl (fun ls hl => ?_)
        refine lv_iconst (v := 4) hx hb dX10_lost_58 (by decide) ?_
        refine lv_iload hx hb dX10_lost_59 (lv_at hl 0 rfl) ?_
        refine lv_imul hx hb dX10_lost_61 ?_
        refine lv_iload_n hx hb dX10_lost_62 rfl (lv_at hl 5 rfl) ?_
        refine lv_icmp_le (tgt := 69) hx hb dX10_lost_63 (by decide) (fun c_63 => ?_) (fun c_63 => ?_)
        · obtain ⟨q69, eq69⟩ : ∃ y : Int32, y = (nI k) + 1 := ⟨_, rfl⟩
          refine lv_iinc (v := q69) (lv' := [(5, .int q69), (6, .int jp), (4, .int s8), (0, .ref ho), (1, .int p0), (2, .int p1)]) hx hb dX10_lost_69 hl (k := 1) rfl (by rw [eq69]; rfl) (by decide) rfl (fun ls hl => ?_)
          rw [nI_1] at eq69
          subst eq69
          refine lv_goto (tgt := 24) hx hb dX10_lost_72 (by decide) ?_
          exact ih7 (k + 1) s8 _ (by omega) ⟨hS, by omega, Or.inr (by omega), by rw [Nat.add_sub_cancel, lost_up (k := k) (by omega), if_pos (by rw [← hjp]; exact c_63), Int32.add_zero]; exact hs8⟩ _ (lv_sub hl [0, 2, 3, 4, 5] rfl)
        · obtain ⟨q66, eq66⟩ : ∃ y : Int32, y = s8 + 1 := ⟨_, rfl⟩
          refine lv_iinc (v := q66) (lv' := [(4, .int q66), (6, .int jp), (5, .int (nI k)), (0, .ref ho), (1, .int p0), (2, .int p1)]) hx hb dX10_lost_66 hl (k := 2) rfl (by rw [eq66]; rfl) (by decide) rfl (fun ls hl => ?_)
          
          obtain ⟨q69, eq69⟩ : ∃ y : Int32, y = (nI k) + 1 := ⟨_, rfl⟩
          refine lv_iinc (v := q69) (lv' := [(5, .int q69), (4, .int q66), (6, .int jp), (0, .ref ho), (1, .int p0), (2, .int p1)]) hx hb dX10_lost_69 hl (k := 2) rfl (by rw [eq69]; rfl) (by decide) rfl (fun ls hl => ?_)
          rw [nI_1] at eq69
          subst eq69
          refine lv_goto (tgt := 24) hx hb dX10_lost_72 (by decide) ?_
          exact ih7 (k + 1) q66 _ (by omega) ⟨hS, by omega, Or.inr (by omega), by rw [eq66, hs8, Nat.add_sub_cancel, lost_up (k := k) (by omega), if_neg (by rw [← hjp]; exact c_63)]⟩ _ (lv_sub hl [0, 1, 3, 4, 5] rfl)
  exact L24 (R.1 2 + 1) 1 0 _ (by omega) ⟨hS, Nat.le_refl _, Or.inl rfl, rfl⟩ _ (lv_sub hl [0, 1, 3, 4, 5] rfl)

