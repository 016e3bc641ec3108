/-- the best of the first n trials, and its string -/
def bestA (fr st : Int32) (s : Int32 → Int32) : Nat → Int32 × Int32
  | 0 => (fr, s fr)
  | i + 1 => (if s (trI fr st i) < (bestA fr st s i).2 then trI fr st i else (bestA fr st s i).1, if s (trI fr st i) < (bestA fr st s i).2 then s (trI fr st i) else (bestA fr st s i).2)
theorem bestA_in {fr st : Int32} {s : Int32 → Int32} (n : Nat) : ∃ j : Nat, j ≤ n - 1 ∧ (bestA fr st s n).1 = trI fr st j := by
  induction n with
  | zero => exact ⟨0, Nat.le_refl _, trI_0.symm⟩
  | succ n ih =>
    obtain ⟨j, hj, h⟩ := ih
    rw [bestA]
    by_cases g : s (trI fr st n) < (bestA fr st s n).2
    · exact ⟨n, by omega, if_pos g⟩
    · exact ⟨j, by omega, (if_neg g).trans h⟩
theorem agr_scr {cn : Nat → Nat} {sc : Nat → Int32} {μ : Nat → Nat → Int32} {n : Nat} {v : Int32} {f g : Nat → Int32} : agr (cn, sc, μ) (va_up cn 34 n, va_up sc 33 v, scr μ f g) := scr_agr (fun _ => up34) (fun k hk => (if_neg (show ¬ k = 33 by omega)).symm)
abbrev rmX11_best : Room := { frames := 3, cells := 0, slots := 0, locals := 71 }
set_option maxHeartbeats 4000000 in
set_option maxRecDepth 100000 in
theorem c_X11_best (E : hk_E) (l : Launch) (H0 : Heap) {mo : Nat} {am : Nat → Nat} {Z : Nat → Prop} {cn : Nat → Nat} {sc : Nat → Int32} {μ : Nat → Nat → Int32} (hM : MW E mo am Z cn sc μ H0) (hZ : ∀ q, Z q → hk_A E q) {μs : Nat → Nat → Int32} {L : List Nat} (hg : gRow μs L (μ 35) (μ 36)) (hn : cn 34 = L.length) (h8 : L.length ≤ 80) {fr to st : Int32} (hT : trOK fr to st) : hk_M E l yX11_best wsX11_best rmX11_best (Z) [.ref mo, .int fr, .int to, .int st] H0 (fun z H1 => z = some (.int (bestA fr st (sp_str μs L) (trN fr to st)).1) ∧ ∃ o : Nat → Int32, MW E mo am Z cn sc (va_up μ 37 o) H1) := by
  refine hk_M.ofW (cc := cX11_best) (maxL := 8) (ret := (some .int)) (by decide +kernel) rfl (Nat.le_of_ble_eq_true rfl) ?_
  intro p e s m args below meth c ls Q hQ X hr hlk hnm K hs9 hS hl
  obtain ⟨hx, hb, hml, hown, hts⟩ := id X
  have hAE : ∀ q, (Z) q → hk_A E q := hZ
  have hl : lv_has ls 8 [(0, .ref mo), (1, .int fr), (2, .int to), (3, .int st)] := hl
  refine lv_iload_n hx hb dX11_best_0 rfl (lv_at hl 1 rfl) ?_
  refine lv_istore (lv' := [(4, .int fr), (0, .ref mo), (1, .int fr), (2, .int to), (3, .int st)]) hx hb dX11_best_1 hl (by decide) rfl (fun ls hl => ?_)
  refine lv_aload_n hx hb dX11_best_3 rfl (lv_at hl 1 rfl) ?_
  refine lv_iload_n hx hb dX11_best_4 rfl (lv_at hl 2 rfl) ?_
  refine hk_callV 1 (As := [.int fr]) (rest := []) X K hAE hS hl.1 hM.1 rfl (c_X11_stringOf E l H0 hM hZ (show _ ≤ 80 by rw [hn]; exact h8) (P := fr) (by have h9 := trI_pos hT (i := 0) (Nat.zero_le _); rw [trI_0] at h9; exact h9)) (fun _ h => h) gX11_best_X11_stringOf rfl ⟨rfl, hd_X11_stringOf⟩ rfl ⟨⟨(Nat.le_of_ble_eq_true rfl), (Nat.le_of_ble_eq_true rfl)⟩, (Nat.le_of_ble_eq_true rfl), (Nat.le_of_ble_eq_true rfl)⟩ rfl (Nat.le_of_ble_eq_true rfl) dX11_best_5 (fun v9 H1 locsH1 hp hS hzH1 hkH1 => ?_)
  obtain ⟨hv, hM⟩ := hp
  have hv := hv.trans (str_eq hg hn (by rw [hn]; exact h8))
  subst hv
  obtain ⟨oH1, hM⟩ : ∃ o9, MW E mo am Z cn sc (va_up μ 37 o9) H1 := ⟨_, hM⟩
  refine lv_istore (lv' := [(5, .int (sp_str μs L fr)), (4, .int fr), (0, .ref mo), (1, .int fr), (2, .int to), (3, .int st)]) hx hb dX11_best_8 hl (by decide) rfl (fun ls hl => ?_)
  refine lv_iload_n hx hb dX11_best_10 rfl (lv_at hl 3 rfl) ?_
  refine lv_topi (fun q6 eq6 => ?_)
  refine lv_istore (lv' := [(6, .int q6), (5, .int (sp_str μs L fr)), (4, .int fr), (0, .ref mo), (1, .int fr), (2, .int to), (3, .int st)]) hx hb dX11_best_11 hl (by decide) rfl (fun ls hl => ?_)
  have eq6 : q6 = trI fr st 0 := eq6.trans trI_0.symm
  subst eq6
  have L13 : ∀ (n9 : Nat) (i : Nat) (o : Nat → Int32) (H : Heap) (locs : List Loc), trN fr to st + 1 ≤ i + n9 → (i ≤ trN fr to st ∧ MW E mo am Z cn sc (va_up μ 37 o) H ∧ va_S Z s.heap H locs) → ∀ (ls : Array Slot), lv_has ls 8 [(6, .int (trI fr st i)), (5, .int ((bestA fr st (sp_str μs L) i).2)), (4, .int ((bestA fr st (sp_str μs L) i).1)), (0, .ref mo), (1, .int fr), (2, .int to), (3, .int st)] → W p l e rmX11_best s m args below meth c H locs 0 0 Q (F0 m 13 ls []) := by
    intro n9
    induction n9 with
    | zero =>
      intro i o H locs hm hinv ls hl
      obtain ⟨hi1, hM, hS⟩ := hinv
      exact absurd hm (by omega)
    | succ n9 ih =>
      intro i o H locs hm hinv ls hl
      obtain ⟨hi1, hM, hS⟩ := hinv
      refine lv_iload hx hb dX11_best_13 (lv_at hl 0 rfl) ?_
      refine lv_iload_n hx hb dX11_best_15 rfl (lv_at hl 5 rfl) ?_
      refine lv_icmp_gt (tgt := 68) hx hb dX11_best_16 (by decide) (fun c_16 => ?_) (fun c_16 => ?_)
      · have hk : ¬ i < trN fr to st := fun h => absurd ((trI_le hT hi1).mpr h) (Int32.not_le.mpr c_16)
        refine lv_iload hx hb dX11_best_68 (lv_at hl 2 rfl) ?_
        exact hk_iret X hr hlk hQ hS (Nat.le_of_ble_eq_true rfl) (Nat.le_of_ble_eq_true rfl) dX11_best_70 (by
          have hkn : i = trN fr to st := by omega
          subst hkn
          exact ⟨rfl, o, hM⟩)
      · have hk : i < trN fr to st := (trI_le hT hi1).mp (Int32.not_lt.mp c_16)
        refine lv_aload_n hx hb dX11_best_19 rfl (lv_at hl 3 rfl) ?_
        refine lv_iload hx hb dX11_best_20 (lv_at hl 0 rfl) ?_
        refine hk_callV 1 (As := [.int (trI fr st i)]) (rest := []) X K hAE hS hl.1 hM.1 rfl (c_X11_stringOf E l H hM hZ (show _ ≤ 80 by rw [hn]; exact h8) (P := trI fr st i) (trI_pos hT hi1)) (fun _ h => h) gX11_best_X11_stringOf rfl ⟨rfl, hd_X11_stringOf⟩ rfl ⟨⟨(Nat.le_of_ble_eq_true rfl), (Nat.le_of_ble_eq_true rfl)⟩, (Nat.le_of_ble_eq_true rfl), (Nat.le_of_ble_eq_true rfl)⟩ rfl (Nat.le_of_ble_eq_true rfl) dX11_best_22 (fun v9 H2 locsH2 hp hS hzH2 hkH2 => ?_)
        obtain ⟨hv, hM⟩ := hp
        have hv := hv.trans (str_eq hg hn (by rw [hn]; exact h8))
        subst hv
        rw [va_up2] at hM
        obtain ⟨oH2, hM⟩ : ∃ o9, MW E mo am Z cn sc (va_up μ 37 o9) H2 := ⟨_, hM⟩
        refine lv_istore (lv' := [(7, .int (sp_str μs L (trI fr st i))), (6, .int (trI fr st i)), (5, .int ((bestA fr st (sp_str μs L) i).2)), (4, .int ((bestA fr st (sp_str μs L) i).1)), (0, .ref mo), (1, .int fr), (2, .int to), (3, .int st)]) hx hb dX11_best_25 hl (by decide) rfl (fun ls hl => ?_)
        refine lv_iload hx hb dX11_best_27 (lv_at hl 0 rfl) ?_
        refine lv_iload hx hb dX11_best_29 (lv_at hl 2 rfl) ?_
        refine lv_icmp_ge (tgt := 39) hx hb dX11_best_31 (by decide) (fun c_31 => ?_) (fun c_31 => ?_)
        · refine lv_iload hx hb dX11_best_39 (lv_at hl 3 rfl) ?_
          refine lv_topi (fun b4 eb4 => ?_)
          refine lv_istore (lv' := [(4, .int b4), (7, .int (sp_str μs L (trI fr st i))), (6, .int (trI fr st i)), (5, .int ((bestA fr st (sp_str μs L) i).2)), (0, .ref mo), (1, .int fr), (2, .int to), (3, .int st)]) hx hb dX11_best_41 hl (by decide) rfl (fun ls hl => ?_)
          have eb4 : b4 = (bestA fr st (sp_str μs L) (i + 1)).1 := eb4.trans (by rw [bestA]; exact (if_neg (Int32.not_lt.mpr c_31)).symm)
          subst eb4
          refine lv_iload hx hb dX11_best_43 (lv_at hl 1 rfl) ?_
          refine lv_iload hx hb dX11_best_45 (lv_at hl 3 rfl) ?_
          refine lv_icmp_ge (tgt := 55) hx hb dX11_best_47 (by decide) (fun c_47 => ?_) (fun c_47 => ?_)
          · refine lv_iload hx hb dX11_best_55 (lv_at hl 3 rfl) ?_
            refine lv_topi (fun b5 eb5 => ?_)
            refine lv_istore (lv' := [(5, .int b5), (4, .int ((bestA fr st (sp_str μs L) (i + 1)).1)), (7, .int (sp_str μs L (trI fr st i))), (6, .int (trI fr st i)), (0, .ref mo), (1, .int fr), (2, .int to), (3, .int st)]) hx hb dX11_best_57 hl (by decide) rfl (fun ls hl => ?_)
            have eb5 : b5 = (bestA fr st (sp_str μs L) (i + 1)).2 := eb5.trans (by rw [bestA]; exact (if_neg (Int32.not_lt.mpr c_47)).symm)
            subst eb5
            refine lv_iload hx hb dX11_best_59 (lv_at hl 3 rfl) ?_
            refine lv_iload_n hx hb dX11_best_61 rfl (lv_at hl 7 rfl) ?_
            refine lv_iadd hx hb dX11_best_62 ?_
            refine lv_topi (fun nx enx => ?_)
            rw [trI_1] at enx
            subst enx
            refine lv_istore (lv' := [(6, .int (trI fr st (i + 1))), (5, .int ((bestA fr st (sp_str μs L) (i + 1)).2)), (4, .int ((bestA fr st (sp_str μs L) (i + 1)).1)), (7, .int (sp_str μs L (trI fr st i))), (0, .ref mo), (1, .int fr), (2, .int to), (3, .int st)]) hx hb dX11_best_63 hl (by decide) rfl (fun ls hl => ?_)
            refine lv_goto (tgt := 13) hx hb dX11_best_65 (by decide) ?_
            exact ih (i + 1) oH2 H2 locsH2 (by omega) ⟨by omega, hM, hS⟩ _ (lv_sub hl [0, 1, 2, 4, 5, 6, 7] rfl)
          · exact absurd c_31 c_47
        · refine lv_iload hx hb dX11_best_34 (lv_at hl 1 rfl) ?_
          refine lv_goto (tgt := 41) hx hb dX11_best_36 (by decide) ?_
          refine lv_topi (fun b4 eb4 => ?_)
          refine lv_istore (lv' := [(4, .int b4), (7, .int (sp_str μs L (trI fr st i))), (6, .int (trI fr st i)), (5, .int ((bestA fr st (sp_str μs L) i).2)), (0, .ref mo), (1, .int fr), (2, .int to), (3, .int st)]) hx hb dX11_best_41 hl (by decide) rfl (fun ls hl => ?_)
          have eb4 : b4 = (bestA fr st (sp_str μs L) (i + 1)).1 := eb4.trans (by rw [bestA]; exact (if_pos (Int32.not_le.mp c_31)).symm)
          subst eb4
          refine lv_iload hx hb dX11_best_43 (lv_at hl 1 rfl) ?_
          refine lv_iload hx hb dX11_best_45 (lv_at hl 3 rfl) ?_
          refine lv_icmp_ge (tgt := 55) hx hb dX11_best_47 (by decide) (fun c_47 => ?_) (fun c_47 => ?_)
          · exact absurd c_47 c_31
          · refine lv_iload hx hb dX11_best_50 (lv_at hl 1 rfl) ?_
            refine lv_goto (tgt := 57) hx hb dX11_best_52 (by decide) ?_
            refine lv_topi (fun b5 eb5 => ?_)
            refine lv_istore (lv' := [(5, .int b5), (4, .int ((bestA fr st (sp_str μs L) (i + 1)).1)), (7, .int (sp_str μs L (trI fr st i))), (6, .int (trI fr st i)), (0, .ref mo), (1, .int fr), (2, .int to), (3, .int st)]) hx hb dX11_best_57 hl (by decide) rfl (fun ls hl => ?_)
            have eb5 : b5 = (bestA fr st (sp_str μs L) (i + 1)).2 := eb5.trans (by rw [bestA]; exact (if_pos (Int32.not_le.mp c_47)).symm)
            subst eb5
            refine lv_iload hx hb dX11_best_59 (lv_at hl 3 rfl) ?_
            refine lv_iload_n hx hb dX11_best_61 rfl (lv_at hl 7 rfl) ?_
            refine lv_iadd hx hb dX11_best_62 ?_
            refine lv_topi (fun nx enx => ?_)
            rw [trI_1] at enx
            subst enx
            refine lv_istore (lv' := [(6, .int (trI fr st (i + 1))), (5, .int ((bestA fr st (sp_str μs L) (i + 1)).2)), (4, .int ((bestA fr st (sp_str μs L) (i + 1)).1)), (7, .int (sp_str μs L (trI fr st i))), (0, .ref mo), (1, .int fr), (2, .int to), (3, .int st)]) hx hb dX11_best_63 hl (by decide) rfl (fun ls hl => ?_)
            refine lv_goto (tgt := 13) hx hb dX11_best_65 (by decide) ?_
            exact ih (i + 1) oH2 H2 locsH2 (by omega) ⟨by omega, hM, hS⟩ _ (lv_sub hl [0, 1, 2, 4, 5, 6, 7] rfl)
  exact L13 (trN fr to st + 1) 0 oH1 H1 locsH1 (by omega) ⟨Nat.zero_le _, hM, hS⟩ _ (lv_sub hl [0, 1, 2, 3, 4, 5, 6] rfl)

