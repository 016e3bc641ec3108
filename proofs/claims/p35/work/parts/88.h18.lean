/-- the row of the ladder holds the moduli of the first k stars that are entries with features -/
def hlad (R : hR) (S : mS) (k : Nat) : Prop := rowL (R.1 3) (R.2.1 3) (R.2.2.1 3) (sSort (modS S) [] (ladL (laidS S) k)) (modS S) (fun i => nI i) ∧ row_up (R.1 3) (R.2.1 3)
theorem hlad.other {R : hR} {S : mS} {j : Nat} (h : hlad R S j) {r n : Nat} {k v : Nat → Int32} (hr : 3 ≠ r) : hlad (va_up R.1 r n, va_up R.2.1 r k, va_up R.2.2.1 r v, R.2.2.2) S j := by
  obtain ⟨h1, h2⟩ := h
  refine ⟨?_, ?_⟩
  · show rowL (va_up R.1 r n 3) (va_up R.2.1 r k 3) (va_up R.2.2.1 r v 3) _ _ _
    rw [show va_up R.1 r n 3 = R.1 3 from if_neg hr, show va_up R.2.1 r k 3 = R.2.1 3 from if_neg hr, show va_up R.2.2.1 r v 3 = R.2.2.1 3 from if_neg hr]
    exact h1
  · show row_up (va_up R.1 r n 3) (va_up R.2.1 r k 3)
    rw [show va_up R.1 r n 3 = R.1 3 from if_neg hr, show va_up R.2.1 r k 3 = R.2.1 3 from if_neg hr]
    exact h2
theorem hlad.no {R : hR} {S : mS} {j : Nat} (h : hlad R S j) (hl : laidS S j = 0) : hlad R S (j + 1) := by
  unfold hlad
  rw [ladL, if_neg (fun g => g hl)]
  exact h
theorem hlad.yes {R : hR} {S : mS} {j p : Nat} {k' v' : Nat → Int32} (h : hlad R S j) (hl : ¬ laidS S j = 0) (hp : row_at (R.1 3) (R.2.1 3) (modS S j) p) (hk : ∀ i, i ≤ R.1 3 → k' i = ins (R.2.1 3) p (modS S j) i ∧ v' i = ins (R.2.2.1 3) p (nI j) i) : hlad (va_up R.1 3 (R.1 3 + 1), va_up R.2.1 3 k', va_up R.2.2.1 3 v', R.2.2.2) S (j + 1) := by
  obtain ⟨h1, h2⟩ := h
  unfold hlad
  rw [ladL, if_pos hl, sSort_snoc]
  refine ⟨?_, ?_⟩
  · show rowL (va_up R.1 3 (R.1 3 + 1) 3) (va_up R.2.1 3 k' 3) (va_up R.2.2.1 3 v' 3) _ _ _
    rw [show va_up R.1 3 (R.1 3 + 1) 3 = R.1 3 + 1 from if_pos rfl, show va_up R.2.1 3 k' 3 = k' from if_pos rfl, show va_up R.2.2.1 3 v' 3 = v' from if_pos rfl]
    exact rowL_ins h1 hp hk
  · show row_up (va_up R.1 3 (R.1 3 + 1) 3) (va_up R.2.1 3 k' 3)
    rw [show va_up R.1 3 (R.1 3 + 1) 3 = R.1 3 + 1 from if_pos rfl, show va_up R.2.1 3 k' 3 = k' from if_pos rfl]
    exact row_up_cong (row_up_ins h2 hp) (fun i hi => (hk i (by omega)).1)
theorem hlad.len {R : hR} {S : mS} {j : Nat} (h : hlad R S j) : R.1 3 = (ladL (laidS S) j).length := by rw [h.1.1, sSort_len]
theorem hlad.start {R : hR} {S : mS} (h : R.1 3 = 0) : hlad R S 0 := ⟨⟨h, fun i hi => absurd hi (Nat.not_lt_zero _)⟩, fun i j _ hj => absurd hj (by omega)⟩
theorem laid_iff {S : mS} {j : Nat} : ¬ laidS S j = 0 ↔ (S.2.2 3 j = nI j ∧ ¬ sp_hf S (nI j) = 0) := by
  unfold laidS
  by_cases c : S.2.2 3 j = nI j ∧ ¬ sp_hf S (nI j) = 0
  · rw [if_pos c]; exact ⟨fun _ => c, fun _ => by decide⟩
  · rw [if_neg c]; exact ⟨fun g => absurd rfl g, fun g => absurd g c⟩
theorem md_lad {cn : Nat → Nat} {sc : Nat → Int32} {μ : Nat → Nat → Int32} {k : Nat} (hk : k < 2 ^ 31) (hl : ¬ laidS (cn, sc, μ) k = 0) : sp_mn μ (selS (cn, sc, μ) (nI k)) - μ 5 k - sc 32 + 75 * nI (sp_hlv (clmS (cn, sc, μ) (nI k))) = modS (cn, sc, μ) k := by
  unfold modS
  rw [if_neg hl]
  unfold mdS
  rw [show ix (nI k) = k from nI_clamp hk]
theorem hkw_X10_nearest_0_187 : ∀ w ∈ (vx_atS RX10 187 "java/lang/IndexOutOfBoundsException" ["java/lang/RuntimeException", "java/lang/Exception"]).filter goodWord, w ∈ wsX10_nearest := by decide +kernel
abbrev rmX10_nearest : Room := { frames := 10, cells := 8, slots := 400, locals := 179 }
theorem iX10_nearest_X10 : ∀ w ∈ wsX100, w ∈ wsX10_nearest := by decide +kernel
set_option maxHeartbeats 4000000 in
set_option maxRecDepth 100000 in
theorem c_X10_nearest (E : hk_E) (l : Launch) (hl9 : l.stackTraces = false) (H0 : Heap) {Z : Nat → Prop} {ho ts : Nat} {li : Nat → Nat} {rr : Nat → Nat → Nat} {G : hG} {R : hR} {cn : Nat → Nat} {sc : Nat → Int32} {μ : Nat → Nat → Int32} (hW : HW E Z (ho, li, rr, ts) G R (cn, sc, μ) H0) (hI : InvF (cn, sc, μ)) (hZn : ∀ q, H0.size ≤ q → Z q) {p0 : Int32}  : hk_X E l yX10_nearest wsX10_nearest rmX10_nearest (Z) [.ref ho, .int p0] H0 (hpost E Z (ho, li, rr, ts) (cd_nearest p0 (cn, sc, μ)) (an_nearest p0 (cn, sc, μ)) (st_nearest p0 (cn, sc, μ))) (hpx E Z (ho, li, rr, ts) (cd_nearest p0 (cn, sc, μ)) (cn, sc, μ) [XI]) := by
  refine hk_X.ofW (cc := cX10_nearest) (maxL := 5) (ret := (some .int)) (by decide +kernel) rfl (Nat.le_of_ble_eq_true rfl) ?_
  intro p e s m args below meth c ls Q hQ X hr hlk hx9 K hs9 hS hl
  obtain ⟨hx, hb, hml, hown, hts⟩ := id X
  have hAE : ∀ q, (Z) q → hk_A E q := hW.2.2.2.2.2.2.2.2.2.2.2.2
  have hl : lv_has ls 5 [(0, .ref ho), (1, .int p0)] := hl
  have hI9 := hI.1
  have hZA : ∀ q, Z q → hk_A E q := hW.2.2.2.2.2.2.2.2.2.2.2.2
  have hc1 : cn 1 ≤ 12 := hI9.1.1
  have hc8 : cn 8 ≤ 8 := hI9.1.2.1
  have hc12 : cn 12 ≤ 80 := hI9.1.2.2.1
  have hc22 : cn 22 ≤ 8 := hI9.1.2.2.2.1
  have hc29 : cn 29 ≤ 30 := hI9.1.2.2.2.2
  refine lv_iload_n hx hb dX10_nearest_0 rfl (lv_at hl 1 rfl) ?_
  refine lv_if_ge (tgt := 14) hx hb dX10_nearest_1 (by decide) (fun c_1 => ?_) (fun c_1 => ?_)
  · 
    refine lv_aload_n hx hb dX10_nearest_14 rfl (lv_at hl 0 rfl) ?_
    refine hk_get (ref := "LightcurveHouse") (v := .ref (rr 3 0)) X K (HW.o hW) rfl iX10_nearest_X10 11 (by decide) (by decide +kernel) (fun _ h => h) rfl dX10_nearest_15 ?_
    refine hk_callV 0 (As := []) (rest := []) X K hAE hS hl.1 (HW.r3 hW).1.1 rfl (c_X5_clear E l H0 (HW.r3 hW).1 (HW.rx hW 3 (by decide)).1.1 (HW.rx hW 3 (by decide)).2.1.1 (HW.rx hW 3 (by decide)).2.1.2.1) (fun q h => HW.rZ hW (r := 3) (by decide) q (Or.inl h)) gX10_nearest_X5_clear rfl ⟨rfl, hd_X5_clear⟩ rfl ⟨⟨(Nat.le_of_ble_eq_true rfl), (Nat.le_of_ble_eq_true rfl)⟩, (Nat.le_of_ble_eq_true rfl), (Nat.le_of_ble_eq_true rfl)⟩ rfl (Nat.le_of_ble_eq_true rfl) dX10_nearest_18 (fun v9 H1 locsH1 hp hS hzH1 hkH1 => ?_)
    obtain ⟨hv, hrw, hszH1⟩ := hp
    subst hv
    have hW := HW.row hW 3 (by decide) hrw (Nat.zero_le _) (fun q h1 h2 => hkH1 q h1 (fun e => h2 (Or.inl e)))
    refine lv_iconst (v := 0) hx hb dX10_nearest_21 (by decide) ?_
    refine lv_topi (fun z_2 ez_2 => ?_)
    have ez_2 : z_2 = nI 0 := ez_2
    subst ez_2
    refine lv_istore_n (lv' := [(2, .int (nI 0)), (0, .ref ho), (1, .int p0)]) hx hb dX10_nearest_22 rfl hl (by decide) rfl (fun ls hl => ?_)
    have L23 : ∀ (n8 : Nat) (k : Nat) (R : hR) (H : Heap) (locs : List Loc), cn 1 + 1 ≤ k + n8 → (va_S (Z) s.heap H locs ∧ k ≤ cn 1 ∧ HW E Z (ho, li, rr, ts) G R (cn, sc, μ) H ∧ hlad R (cn, sc, μ) k) → ∀ (ls : Array Slot), lv_has ls 5 [(2, .int (nI k)), (0, .ref ho), (1, .int p0)] → W p l e rmX10_nearest s m args below meth c H locs 0 0 Q (F0 m 23 ls []) := by
      intro n8
      induction n8 with
      | zero =>
        intro k R H locs hm hinv ls hl
        obtain ⟨hS, hinv⟩ := hinv
        obtain ⟨hi1, hW, hld⟩ := hinv
        have hle9 := hld.len
        have hle8 := ladL_le (a := laidS (cn, sc, μ)) k
        exact absurd hm (by omega)
      | succ n8 ih =>
        intro k R H locs hm hinv ls hl
        obtain ⟨hS, hinv⟩ := hinv
        obtain ⟨hi1, hW, hld⟩ := hinv
        have hle9 := hld.len
        have hle8 := ladL_le (a := laidS (cn, sc, μ)) k
        refine lv_iload_n hx hb dX10_nearest_23 rfl (lv_at hl 0 rfl) ?_
        refine lv_aload_n hx hb dX10_nearest_24 rfl (lv_at hl 1 rfl) ?_
        refine hk_get (ref := "LightcurveHouse") (v := .ref (li 2)) X K (HW.o hW) rfl iX10_nearest_X10 2 (by decide) (by decide +kernel) (fun _ h => h) rfl dX10_nearest_25 ?_
        refine hk_callV 0 (As := []) (rest := [.int (nI k)]) X K hAE hS hl.1 (HW.l2 hW).1 rfl (c_Jx4a65c_size_8abf5 E l H (HW.l2 hW)) (fun _ h => h.elim) gX10_nearest_Jx4a65c_size_8abf5 rfl ⟨rfl, hd_Jx4a65c_size_8abf5⟩ rfl ⟨⟨(Nat.le_of_ble_eq_true rfl), (Nat.le_of_ble_eq_true rfl)⟩, (Nat.le_of_ble_eq_true rfl), (Nat.le_of_ble_eq_true rfl)⟩ rfl (Nat.le_of_ble_eq_true rfl) dX10_nearest_28 (fun v9 H3 locsH3 hp hS hzH3 hkH3 => ?_)
        obtain ⟨hv, hh⟩ := hp
        subst hv; subst hh
        refine lv_icmp_ge (tgt := 96) hx hb dX10_nearest_31 (by decide) (fun c_31 => ?_) (fun c_31 => ?_)
        · have hk : cn 1 ≤ k := (nI_leI (by omega) (by omega)).mp c_31
          have hkk : k = cn 1 := by omega
          subst hkk
          refine lv_iload_n hx hb dX10_nearest_96 rfl (lv_at hl 2 rfl) ?_
          refine lv_aload_n hx hb dX10_nearest_97 rfl (lv_at hl 1 rfl) ?_
          refine hk_get (ref := "LightcurveHouse") (v := .ref (rr 3 0)) X K (HW.o hW) rfl iX10_nearest_X10 11 (by decide) (by decide +kernel) (fun _ h => h) rfl dX10_nearest_98 ?_
          refine hk_callV 0 (As := []) (rest := [.int p0]) X K hAE hS hl.1 (HW.r3 hW).1.1 rfl (c_X5_size E l H (HW.r3 hW).1) (fun _ h => h.elim) gX10_nearest_X5_size rfl ⟨rfl, hd_X5_size⟩ rfl ⟨⟨(Nat.le_of_ble_eq_true rfl), (Nat.le_of_ble_eq_true rfl)⟩, (Nat.le_of_ble_eq_true rfl), (Nat.le_of_ble_eq_true rfl)⟩ rfl (Nat.le_of_ble_eq_true rfl) dX10_nearest_101 (fun v9 H4 locsH4 hp hS hzH4 hkH4 => ?_)
          obtain ⟨hv, hh⟩ := hp
          subst hv; subst hh
          refine lv_icmp_ge (tgt := 118) hx hb dX10_nearest_104 (by decide) (fun c_104 => ?_) (fun c_104 => ?_)
          · refine lv_iconst (v := (-1)) hx hb dX10_nearest_118 (by decide) ?_
            exact hk_iretx X hr hlk hQ hS (Nat.le_of_ble_eq_true rfl) (Nat.le_of_ble_eq_true rfl) dX10_nearest_119 (⟨by unfold cd_nearest; (try dsimp only); rw [if_pos c_1], congrArg some (congrArg Value.int (Eq.symm ((nr_eq (a := laidS (cn, sc, μ)) (b := modS (cn, sc, μ)) hc1 c_1).trans (if_neg (fun g => absurd c_104 (Int32.not_le.mpr (by rw [hle9]; exact g))))))), _, _, hW⟩)
          · refine lv_aload_n hx hb dX10_nearest_107 rfl (lv_at hl 1 rfl) ?_
            refine hk_get (ref := "LightcurveHouse") (v := .ref (rr 3 0)) X K (HW.o hW) rfl iX10_nearest_X10 11 (by decide) (by decide +kernel) (fun _ h => h) rfl dX10_nearest_108 ?_
            refine lv_iload_n hx hb dX10_nearest_111 rfl (lv_at hl 2 rfl) ?_
            refine hk_callV 1 (As := [.int p0]) (rest := []) X K hAE hS hl.1 (HW.r3 hW).1.1 rfl (c_X5_value E l H (HW.r3 hW).1 (HW.r3 hW).2 (by decide) p0) (fun _ h => h.elim) gX10_nearest_X5_value rfl ⟨rfl, hd_X5_value⟩ rfl ⟨⟨(Nat.le_of_ble_eq_true rfl), (Nat.le_of_ble_eq_true rfl)⟩, (Nat.le_of_ble_eq_true rfl), (Nat.le_of_ble_eq_true rfl)⟩ rfl (Nat.le_of_ble_eq_true rfl) dX10_nearest_112 (fun v9 H5 locsH5 hp hS hzH5 hkH5 => ?_)
            obtain ⟨hv, hh⟩ := hp
            rw [← row_get_t (Int32.not_lt.mpr c_1) c_104] at hv
            subst hv; subst hh
            refine lv_goto (tgt := 119) hx hb dX10_nearest_115 (by decide) ?_
            exact hk_iretx X hr hlk hQ hS (Nat.le_of_ble_eq_true rfl) (Nat.le_of_ble_eq_true rfl) dX10_nearest_119 (⟨by unfold cd_nearest; (try dsimp only); rw [if_pos c_1], congrArg some (congrArg Value.int (Eq.trans (hld.1.2 (ix p0) (by rw [← hld.1.1]; exact isS_xl ⟨c_1, Int32.not_le.mp c_104⟩ (by omega))).2 (Eq.symm ((nr_eq (a := laidS (cn, sc, μ)) (b := modS (cn, sc, μ)) hc1 c_1).trans (if_pos (by rw [← hle9]; exact Int32.not_le.mp c_104)))))), _, _, hW⟩)
        · have hk : k < cn 1 := Nat.lt_of_not_le (fun h => c_31 (nI_le h (by omega)))
          refine lv_aload_n hx hb dX10_nearest_34 rfl (lv_at hl 1 rfl) ?_
          refine hk_get (ref := "LightcurveHouse") (v := .ref (li 2)) X K (HW.o hW) rfl iX10_nearest_X10 2 (by decide) (by decide +kernel) (fun _ h => h) rfl dX10_nearest_35 ?_
          refine lv_iload_n hx hb dX10_nearest_38 rfl (lv_at hl 0 rfl) ?_
          refine hk_callV 1 (As := [.int (nI k)]) (rest := []) X K hAE hS hl.1 (HW.l2 hW).1 rfl (c_Jx4a65c_get_915e3 E l H (HW.l2 hW) (HW.c2 hW).1 (Nat.lt_of_le_of_lt (HW.c2 hW).2 (by decide)) hk) (fun _ h => h.elim) gX10_nearest_Jx4a65c_get_915e3 rfl ⟨rfl, hd_Jx4a65c_get_915e3⟩ rfl ⟨⟨(Nat.le_of_ble_eq_true rfl), (Nat.le_of_ble_eq_true rfl)⟩, (Nat.le_of_ble_eq_true rfl), (Nat.le_of_ble_eq_true rfl)⟩ rfl (Nat.le_of_ble_eq_true rfl) dX10_nearest_39 (fun v9 H6 locsH6 hp hS hzH6 hkH6 => ?_)
          obtain ⟨hv, hh⟩ := hp
          subst hv; subst hh
          refine hk_cast X K (HW.e2 hW hk) rfl (by decide +kernel) dX10_nearest_42 ?_
          refine lv_astore_n (lv' := [(3, .ref (gad G 2 k)), (2, .int (nI k)), (0, .ref ho), (1, .int p0)]) hx hb dX10_nearest_45 rfl hl (by decide) rfl (fun ls hl => ?_)
          refine lv_aload_n hx hb dX10_nearest_46 rfl (lv_at hl 0 rfl) ?_
          refine hk_callV 0 (As := []) (rest := []) X K hAE hS hl.1 (HW.e2 hW hk) rfl (c_X7_isEntry E l H hW hk) (fun _ h => h.elim) gX10_nearest_X7_isEntry rfl ⟨rfl, hd_X7_isEntry⟩ rfl ⟨⟨(Nat.le_of_ble_eq_true rfl), (Nat.le_of_ble_eq_true rfl)⟩, (Nat.le_of_ble_eq_true rfl), (Nat.le_of_ble_eq_true rfl)⟩ rfl (Nat.le_of_ble_eq_true rfl) dX10_nearest_47 (fun v9 H7 locsH7 hp hS hzH7 hkH7 => ?_)
          obtain ⟨hv, hh⟩ := hp
          subst hh
          rcases hv with ⟨hv, c_47⟩ | ⟨hv, c_47⟩
          · subst hv
            refine lv_if_eq (tgt := 90) hx hb dX10_nearest_50 (by decide) (fun c_50 => ?_) (fun c_50 => ?_)
            · exact absurd c_50 (by decide)
            · refine lv_aload_n hx hb dX10_nearest_53 rfl (lv_at hl 2 rfl) ?_
              refine lv_iload_n hx hb dX10_nearest_54 rfl (lv_at hl 1 rfl) ?_
              refine lv_iload_n hx hb dX10_nearest_55 rfl (lv_at hl 1 rfl) ?_
              refine hk_callV 2 (As := [.int (nI k), .int (nI k)]) (rest := []) X K hAE hS hl.1 (HW.o hW) rfl (c_X10_gatherCurve E l H hW hI9 (e1 := nI k) (e2 := nI k)) (HW.rZ hW (r := 0) (by decide)) gX10_nearest_X10_gatherCurve rfl ⟨rfl, hd_X10_gatherCurve⟩ rfl ⟨⟨(Nat.le_of_ble_eq_true rfl), (Nat.le_of_ble_eq_true rfl)⟩, (Nat.le_of_ble_eq_true rfl), (Nat.le_of_ble_eq_true rfl)⟩ rfl (Nat.le_of_ble_eq_true rfl) dX10_nearest_56 (fun v9 H8 locsH8 hp hS hzH8 hkH8 => ?_)
              obtain ⟨hv, ⟨n9, k9, v9, hW, hup, hrl⟩, hszH8⟩ := hp
              subst hv
              rw [sel_one hI9 _ _ (Nat.le_refl _)] at hrl
              obtain ⟨R, hW, hc, hld⟩ : ∃ R2 : hR, HW E Z (ho, li, rr, ts) G R2 (cn, sc, μ) H8 ∧ hcur R2 μ (selS (cn, sc, μ) (nI k)) ∧ hlad R2 (cn, sc, μ) k := ⟨_, hW, ⟨hrl, hup, sp_sel_up _⟩, hld.other (by decide)⟩
              refine lv_aload_n hx hb dX10_nearest_59 rfl (lv_at hl 2 rfl) ?_
              refine lv_iload_n hx hb dX10_nearest_60 rfl (lv_at hl 1 rfl) ?_
              refine hk_callV 1 (As := [.int (nI k)]) (rest := []) X K hAE hS hl.1 (HW.o hW) rfl (c_X10_claimOf E l H8 hW hI9 (e9 := nI k)) (fun _ h => h.elim) gX10_nearest_X10_claimOf rfl ⟨rfl, hd_X10_claimOf⟩ rfl ⟨⟨(Nat.le_of_ble_eq_true rfl), (Nat.le_of_ble_eq_true rfl)⟩, (Nat.le_of_ble_eq_true rfl), (Nat.le_of_ble_eq_true rfl)⟩ rfl (Nat.le_of_ble_eq_true rfl) dX10_nearest_61 (fun v9 H9 locsH9 hp hS hzH9 hkH9 => ?_)
              obtain ⟨hv, hh⟩ := hp
              subst hv; subst hh
              refine lv_istore (lv' := [(4, .int (clmS (cn, sc, μ) (nI k))), (3, .ref (gad G 2 k)), (2, .int (nI k)), (0, .ref ho), (1, .int p0)]) hx hb dX10_nearest_64 hl (by decide) rfl (fun ls hl => ?_)
              refine lv_aload_n hx hb dX10_nearest_66 rfl (lv_at hl 3 rfl) ?_
              refine lv_iload hx hb dX10_nearest_67 (lv_at hl 0 rfl) ?_
              refine hk_callV 1 (As := [.int (clmS (cn, sc, μ) (nI k))]) (rest := []) X K hAE hS hl.1 (HW.o hW) rfl (c_X10_hasFeatures E l H8 hW hc (c9 := clmS (cn, sc, μ) (nI k))) (fun _ h => h.elim) gX10_nearest_X10_hasFeatures rfl ⟨rfl, hd_X10_hasFeatures⟩ rfl ⟨⟨(Nat.le_of_ble_eq_true rfl), (Nat.le_of_ble_eq_true rfl)⟩, (Nat.le_of_ble_eq_true rfl), (Nat.le_of_ble_eq_true rfl)⟩ rfl (Nat.le_of_ble_eq_true rfl) dX10_nearest_69 (fun v9 H10 locsH10 hp hS hzH10 hkH10 => ?_)
              obtain ⟨hv, hh⟩ := hp
              subst hh
              rcases hv with ⟨hv, c_69⟩ | ⟨hv, c_69⟩
              · subst hv
                refine lv_if_eq (tgt := 90) hx hb dX10_nearest_72 (by decide) (fun c_72 => ?_) (fun c_72 => ?_)
                · exact absurd c_72 (by decide)
                · have hla : ¬ laidS (cn, sc, μ) k = 0 := laid_iff.mpr ⟨c_47, (hf_iff hI9 (nI k)).mpr c_69⟩
                  have hle9 := hld.len
                  refine lv_aload_n hx hb dX10_nearest_75 rfl (lv_at hl 3 rfl) ?_
                  refine hk_get (ref := "LightcurveHouse") (v := .ref (rr 3 0)) X K (HW.o hW) rfl iX10_nearest_X10 11 (by decide) (by decide +kernel) (fun _ h => h) rfl dX10_nearest_76 ?_
                  refine lv_aload_n hx hb dX10_nearest_79 rfl (lv_at hl 3 rfl) ?_
                  refine lv_aload_n hx hb dX10_nearest_80 rfl (lv_at hl 1 rfl) ?_
                  refine lv_iload hx hb dX10_nearest_81 (lv_at hl 0 rfl) ?_
                  refine hk_callV 2 (As := [.ref (gad G 2 k), .int (clmS (cn, sc, μ) (nI k))]) (rest := [.ref (rr 3 0)]) X K hAE hS hl.1 (HW.o hW) rfl (c_X10_modulusOfCurve E l H8 hW hc c_69.2 hk (hper_pos ((clmS_rng hI9 (nI k)).resolve_left c_69.1))) (fun _ h => h.elim) gX10_nearest_X10_modulusOfCurve rfl ⟨rfl, hd_X10_modulusOfCurve⟩ rfl ⟨⟨(Nat.le_of_ble_eq_true rfl), (Nat.le_of_ble_eq_true rfl)⟩, (Nat.le_of_ble_eq_true rfl), (Nat.le_of_ble_eq_true rfl)⟩ rfl (Nat.le_of_ble_eq_true rfl) dX10_nearest_83 (fun v9 H11 locsH11 hp hS hzH11 hkH11 => ?_)
                  obtain ⟨hv, hh⟩ := hp
                  rw [md_lad (by omega) hla] at hv
                  subst hv; subst hh
                  refine lv_iload_n hx hb dX10_nearest_86 rfl (lv_at hl 2 rfl) ?_
                  refine hk_callV 2 (As := [.int (modS (cn, sc, μ) k), .int (nI k)]) (rest := []) X K hAE hS hl.1 (HW.r3 hW).1.1 rfl (c_X5_add E l H8 (HW.r3 hW).1 (show R.1 3 < 12 by omega) (by decide) hld.2 (HW.rx hW 3 (by decide)).1.1 (HW.rx hW 3 (by decide)).1.2.1 (HW.rx hW 3 (by decide)).1.2.2 (HW.rx hW 3 (by decide)).2.1.1 (HW.rx hW 3 (by decide)).2.1.2.1 (HW.rx hW 3 (by decide)).2.1.2.2 (modS (cn, sc, μ) k) (nI k)) (HW.rZ hW (r := 3) (by decide)) gX10_nearest_X5_add rfl ⟨rfl, hd_X5_add⟩ rfl ⟨⟨(Nat.le_of_ble_eq_true rfl), (Nat.le_of_ble_eq_true rfl)⟩, (Nat.le_of_ble_eq_true rfl), (Nat.le_of_ble_eq_true rfl)⟩ rfl (Nat.le_of_ble_eq_true rfl) dX10_nearest_87 (fun v9 H12 locsH12 hp hS hzH12 hkH12 => ?_)
                  obtain ⟨hv, ⟨ap, k2, v2, hat, hrw, hkv2⟩, hszH12⟩ := hp
                  subst hv
                  have hW := HW.row hW 3 (by decide) hrw (by show R.1 3 + 1 ≤ 12; omega) (fun q h1 h2 => hkH12 q h1 h2)
                  obtain ⟨R, hW, hld⟩ : ∃ R2 : hR, HW E Z (ho, li, rr, ts) G R2 (cn, sc, μ) H12 ∧ hlad R2 (cn, sc, μ) (k + 1) := ⟨_, hW, hld.yes hla hat hkv2⟩
                  obtain ⟨q90, eq90⟩ : ∃ y : Int32, y = (nI k) + 1 := ⟨_, rfl⟩
                  refine lv_iinc (v := q90) (lv' := [(2, .int q90), (4, .int (clmS (cn, sc, μ) (nI k))), (3, .ref (gad G 2 k)), (0, .ref ho), (1, .int p0)]) hx hb dX10_nearest_90 hl (k := 2) rfl (by rw [eq90]; rfl) (by decide) rfl (fun ls hl => ?_)
                  rw [nI_1] at eq90
                  subst eq90
                  refine lv_goto (tgt := 23) hx hb dX10_nearest_93 (by decide) ?_
                  exact ih (k + 1) R _ _ (by omega) ⟨hS, by omega, hW, hld⟩ _ (lv_sub hl [0, 3, 4] rfl)
              · subst hv
                refine lv_if_eq (tgt := 90) hx hb dX10_nearest_72 (by decide) (fun c_72 => ?_) (fun c_72 => ?_)
                · obtain ⟨q90, eq90⟩ : ∃ y : Int32, y = (nI k) + 1 := ⟨_, rfl⟩
                  refine lv_iinc (v := q90) (lv' := [(2, .int q90), (4, .int (clmS (cn, sc, μ) (nI k))), (3, .ref (gad G 2 k)), (0, .ref ho), (1, .int p0)]) hx hb dX10_nearest_90 hl (k := 2) rfl (by rw [eq90]; rfl) (by decide) rfl (fun ls hl => ?_)
                  rw [nI_1] at eq90
                  subst eq90
                  refine lv_goto (tgt := 23) hx hb dX10_nearest_93 (by decide) ?_
                  exact ih (k + 1) R _ _ (by omega) ⟨hS, by omega, hW, hld.no (Decidable.not_not.mp (fun g => (fun h => c_69 ((hf_iff hI9 (nI k)).mp h.2)) (laid_iff.mp g)))⟩ _ (lv_sub hl [0, 3, 4] rfl)
                · exact absurd (by decide) c_72
          · subst hv
            refine lv_if_eq (tgt := 90) hx hb dX10_nearest_50 (by decide) (fun c_50 => ?_) (fun c_50 => ?_)
            · obtain ⟨q90, eq90⟩ : ∃ y : Int32, y = (nI k) + 1 := ⟨_, rfl⟩
              refine lv_iinc (v := q90) (lv' := [(2, .int q90), (3, .ref (gad G 2 k)), (0, .ref ho), (1, .int p0)]) hx hb dX10_nearest_90 hl (k := 1) rfl (by rw [eq90]; rfl) (by decide) rfl (fun ls hl => ?_)
              rw [nI_1] at eq90
              subst eq90
              refine lv_goto (tgt := 23) hx hb dX10_nearest_93 (by decide) ?_
              exact ih (k + 1) R _ _ (by omega) ⟨hS, by omega, hW, hld.no (Decidable.not_not.mp (fun g => (fun h => c_47 h.1) (laid_iff.mp g)))⟩ _ (lv_sub hl [0, 2, 3] rfl)
            · exact absurd (by decide) c_50
    exact L23 (cn 1 + 1) 0 _ _ _ (by omega) ⟨hS, Nat.zero_le _, hW, hlad.start rfl⟩ _ (lv_sub hl [0, 1, 2] rfl)
  · exact hk_throw (text := "no such place") X rfl K hl9 hx9 hlk hQ hS hAE (by decide) (by decide +kernel) (by decide +kernel) (by decide +kernel) hkw_X10_nearest_0_187 hkb_0 (by decide +kernel) hkg_0_187 hl.1 dX10_nearest_4 dX10_nearest_7 dX10_nearest_8 dX10_nearest_10 dX10_nearest_13 (Nat.le_of_ble_eq_true rfl) (Nat.le_of_ble_eq_true rfl) (Nat.le_of_ble_eq_true rfl) (Nat.le_of_ble_eq_true rfl) (fun H9 hz9 hq9 => hpx_1 hW (fun q h1 _ => hq9 q h1) (Or.inl ⟨by unfold cd_nearest; (try dsimp only); rw [if_neg c_1], rfl⟩)) (Nat.le_of_ble_eq_true rfl) (Nat.le_of_ble_eq_true rfl)

