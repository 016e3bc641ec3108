theorem hd_L_isAhead : yL_isAhead.cls ≠ "java/lang/invoke/MethodHandle" ∧ yL_isAhead.cls ≠ "java/lang/invoke/VarHandle" ∧ (parseMethodDescriptor yL_isAhead.desc).map (fun d => d.parameters.length) = some 4 := ⟨by decide, by decide, by decide +kernel⟩
abbrev rmL_string : Room := { frames := 1, cells := 0, slots := 0, locals := 25 }
set_option maxHeartbeats 4000000 in
set_option maxRecDepth 100000 in
theorem c_L_string (E : hk_E) (l : Launch) (H0 : Heap) {la : Nat → Nat} {V : Nat → Nat → Int32} (hL : LW E la V H0) {cn : Nat → Nat} {sc : Nat → Int32} {μ : Nat → Nat → Int32} (hV : LV (cn, sc, μ) V) (hI : InvF (cn, sc, μ)) (hX : LXY (cn, sc, μ) V) {ms : Nat} {e1 e2 : Int32} (hm : mskR (cn 1) (μ 3) ms e1 e2) {P9 : Int32} (hP : inr P9 30 1000000) : hk_M E l yL_string wsL_string rmL_string (fun _ => False) [.ref (la 5), .ref (la 10), .ref (la 11), .ref (la 12), .int (nI ms), .int P9] H0 (fun z H1 => z = some (.int (sp_str μ (sp_sel μ e1 e2 (cn 12)) P9)) ∧ H0 = H1) := by
  refine hk_M.ofW (cc := cL_string) (maxL := 11) (ret := (some .int)) (by decide +kernel) rfl (Nat.le_of_ble_eq_true rfl) ?_
  intro p e s m args below meth c ls Q hQ X hr hlk hnm K hs9 hS hl
  obtain ⟨hx, hb, hml, hown, hts⟩ := id X
  have hAE : ∀ q, (fun _ => False) q → hk_A E q := fun _ h => h.elim
  have hl : lv_has ls 11 [(0, .ref (la 5)), (1, .ref (la 10)), (2, .ref (la 11)), (3, .ref (la 12)), (4, .int (nI ms)), (5, .int P9)] := hl
  have hn1 : cn 1 ≤ 4 := hV.n1
  have hn8 : cn 8 ≤ 3 := hV.n8
  have hn12 : cn 12 ≤ 24 := hV.n12
  have hn22 : cn 22 ≤ 4 := hV.n22
  have hn29 : cn 29 ≤ 8 := hV.n29
  refine lv_iconst (v := 0) hx hb dL_string_0 (by decide) ?_
  refine lv_istore (lv' := [(6, .int 0), (0, .ref (la 5)), (1, .ref (la 10)), (2, .ref (la 11)), (3, .ref (la 12)), (4, .int (nI ms)), (5, .int P9)]) hx hb dL_string_1 hl (by decide) rfl (fun ls hl => ?_)
  refine lv_iconst (v := 0) hx hb dL_string_3 (by decide) ?_
  refine lv_istore (lv' := [(7, .int 0), (6, .int 0), (0, .ref (la 5)), (1, .ref (la 10)), (2, .ref (la 11)), (3, .ref (la 12)), (4, .int (nI ms)), (5, .int P9)]) hx hb dL_string_4 hl (by decide) rfl (fun ls hl => ?_)
  have L6 : ∀ (n9 : Nat) (k9 : Nat), cn 12 + 1 ≤ k9 + n9 → k9 ≤ cn 12 → ∀ (locs6 : List Loc), va_S (fun _ => False) s.heap H0 locs6 → ∀ (ls : Array Slot), lv_has ls 11 [(6, .int (sumL (strF V μ e1 e2 P9 (cn 12)) (sp_sel μ e1 e2 k9))), (7, .int (nI k9)), (0, .ref (la 5)), (1, .ref (la 10)), (2, .ref (la 11)), (3, .ref (la 12)), (4, .int (nI ms)), (5, .int P9)] → W p l e rmL_string s m args below meth c H0 locs6 0 0 Q (F0 m 6 ls []) := by
    intro n9
    induction n9 with
    | zero =>
      intro k9 hm9 hk locs6 hS ls hl
      exact absurd hm9 (by omega)
    | succ n9 ih =>
      intro k9 hm9 hk locs6 hS ls hl
      refine lv_iload hx hb dL_string_6 (lv_at hl 1 rfl) ?_
      refine lv_aload_n hx hb dL_string_8 rfl (lv_at hl 3 rfl) ?_
      refine lv_iconst (v := 2) hx hb dL_string_9 (by decide) ?_
      refine hk_ild X K hL.c10 (show vp_in (nI 2) 6 from vp_in_nI (by decide) (by decide)) dL_string_10 ?_
      rw [show (V 10) (2 : Int32).toNatClampNeg = nI (cn 12) from hV.g2]
      refine lv_icmp_ge (tgt := 167) hx hb dL_string_11 (by decide) (fun c_11 => ?_) (fun c_11 => ?_)
      · have hk9 : k9 = cn 12 := by
          have := (nI_leI (by omega) (by omega)).mp c_11
          omega
        refine lv_iload hx hb dL_string_167 (lv_at hl 0 rfl) ?_
        exact hk_iret X hr hlk hQ hS (Nat.le_of_ble_eq_true rfl) (Nat.le_of_ble_eq_true rfl) dL_string_169 (⟨congrArg (fun v => some (Value.int v)) (by rw [hk9]; exact lstr_eq hX hn12), rfl⟩)
      · have hk9 : k9 < cn 12 := Nat.lt_of_not_le (fun h => c_11 (nI_le h (by omega)))
        refine lv_aload_n hx hb dL_string_14 rfl (lv_at hl 2 rfl) ?_
        refine lv_iload hx hb dL_string_15 (lv_at hl 6 rfl) ?_
        refine lv_iload hx hb dL_string_17 (lv_at hl 1 rfl) ?_
        refine hk_callS 3 (As := [.ref (la 5), .int (nI ms), .int (nI k9)]) (rest := []) X K hAE hS hl.1 (c_L_isOf E l H0 hL hV hI hm (show k9 < cn 12 by omega)) (fun _ h => h.elim) gL_string_L_isOf rfl hd_L_isOf rfl ⟨⟨(Nat.le_of_ble_eq_true rfl), (Nat.le_of_ble_eq_true rfl)⟩, (Nat.le_of_ble_eq_true rfl), (Nat.le_of_ble_eq_true rfl)⟩ rfl (Nat.le_of_ble_eq_true rfl) dL_string_19 (fun v9 H1 locsH1 hp hS hzH1 hkH1 => ?_)
        obtain ⟨hv, hh⟩ := hp
        subst hh
        rcases hv with ⟨hv, c_19⟩ | ⟨hv, c_19⟩
        · subst hv
          refine lv_if_eq (tgt := 161) hx hb dL_string_22 (by decide) (fun c_22 => ?_) (fun c_22 => ?_)
          · exact absurd c_22 (by decide)
          · refine lv_iconst (v := (-1)) hx hb dL_string_25 (by decide) ?_
            refine lv_istore (lv' := [(8, .int (-1)), (6, .int (sumL (strF V μ e1 e2 P9 (cn 12)) (sp_sel μ e1 e2 k9))), (7, .int (nI k9)), (0, .ref (la 5)), (1, .ref (la 10)), (2, .ref (la 11)), (3, .ref (la 12)), (4, .int (nI ms)), (5, .int P9)]) hx hb dL_string_26 hl (by decide) rfl (fun ls hl => ?_)
            refine lv_iload hx hb dL_string_28 (lv_at hl 2 rfl) ?_
            refine lv_istore (lv' := [(9, .int (nI k9)), (8, .int (-1)), (6, .int (sumL (strF V μ e1 e2 P9 (cn 12)) (sp_sel μ e1 e2 k9))), (7, .int (nI k9)), (0, .ref (la 5)), (1, .ref (la 10)), (2, .ref (la 11)), (3, .ref (la 12)), (4, .int (nI ms)), (5, .int P9)]) hx hb dL_string_30 hl (by decide) rfl (fun ls hl => ?_)
            refine lv_iconst (v := 0) hx hb dL_string_32 (by decide) ?_
            refine lv_istore (lv' := [(10, .int 0), (9, .int (nI k9)), (8, .int (-1)), (6, .int (sumL (strF V μ e1 e2 P9 (cn 12)) (sp_sel μ e1 e2 k9))), (7, .int (nI k9)), (0, .ref (la 5)), (1, .ref (la 10)), (2, .ref (la 11)), (3, .ref (la 12)), (4, .int (nI ms)), (5, .int P9)]) hx hb dL_string_33 hl (by decide) rfl (fun ls hl => ?_)
            have L35 : ∀ (n8 : Nat) (j9 : Nat) (o9 : Option Nat) (f9 : Nat), cn 12 + 1 ≤ j9 + n8 → (j9 ≤ cn 12 ∧ o9 = nxK (befV V P9) (selp μ e1 e2) k9 j9 ∧ f9 = fsK (befV V P9) (selp μ e1 e2) k9 j9) → ∀ (locs35 : List Loc), va_S (fun _ => False) s.heap H0 locs35 → ∀ (ls : Array Slot), lv_has ls 11 [(8, .int (oI o9)), (9, .int (nI f9)), (10, .int (nI j9)), (6, .int (sumL (strF V μ e1 e2 P9 (cn 12)) (sp_sel μ e1 e2 k9))), (7, .int (nI k9)), (0, .ref (la 5)), (1, .ref (la 10)), (2, .ref (la 11)), (3, .ref (la 12)), (4, .int (nI ms)), (5, .int P9)] → W p l e rmL_string s m args below meth c H0 locs35 0 0 Q (F0 m 35 ls []) := by
              intro n8
              induction n8 with
              | zero =>
                intro j9 o9 f9 hm8 ⟨hj, ho, hf⟩ locs35 hS ls hl
                have hf9 : f9 < cn 12 := by rw [hf]; exact fsK_lt hk9 _ hj
                exact absurd hm8 (by omega)
              | succ n8 ih8 =>
                intro j9 o9 f9 hm8 ⟨hj, ho, hf⟩ locs35 hS ls hl
                have hf9 : f9 < cn 12 := by rw [hf]; exact fsK_lt hk9 _ hj
                refine lv_iload hx hb dL_string_35 (lv_at hl 2 rfl) ?_
                refine lv_aload_n hx hb dL_string_37 rfl (lv_at hl 6 rfl) ?_
                refine lv_iconst (v := 2) hx hb dL_string_38 (by decide) ?_
                refine hk_ild X K hL.c10 (show vp_in (nI 2) 6 from vp_in_nI (by decide) (by decide)) dL_string_39 ?_
                rw [show (V 10) (2 : Int32).toNatClampNeg = nI (cn 12) from hV.g2]
                refine lv_icmp_ge (tgt := 122) hx hb dL_string_40 (by decide) (fun c_40 => ?_) (fun c_40 => ?_)
                · have hj9 : j9 = cn 12 := by
                    have := (nI_leI (by omega) (by omega)).mp c_40
                    omega
                  rcases o9 with _ | t9
                  · have hl : lv_has ls 11 [(8, .int (-1)), (9, .int (nI f9)), (10, .int (nI j9)), (6, .int (sumL (strF V μ e1 e2 P9 (cn 12)) (sp_sel μ e1 e2 k9))), (7, .int (nI k9)), (0, .ref (la 5)), (1, .ref (la 10)), (2, .ref (la 11)), (3, .ref (la 12)), (4, .int (nI ms)), (5, .int P9)] := hl
                    refine lv_aload_n hx hb dL_string_122 rfl (lv_at hl 7 rfl) ?_
                    refine lv_iload hx hb dL_string_123 (lv_at hl 4 rfl) ?_
                    refine hk_ild X K hL.c11 (vp_in_nI (by omega) (by omega)) dL_string_125 ?_
                    rw [show (V 11) (nI k9).toNatClampNeg = V 11 k9 from by rw [nI_clamp (show k9 < 2 ^ 31 by omega)]]
                    refine lv_aload_n hx hb dL_string_126 rfl (lv_at hl 7 rfl) ?_
                    refine lv_iload hx hb dL_string_127 (lv_at hl 0 rfl) ?_
                    refine lv_if_ge (tgt := 137) hx hb dL_string_129 (by decide) (fun c_129 => ?_) (fun c_129 => ?_)
                    · exact absurd c_129 (by decide)
                    · refine lv_iload hx hb dL_string_132 (lv_at hl 1 rfl) ?_
                      refine lv_goto (tgt := 139) hx hb dL_string_134 (by decide) ?_
                      refine hk_ild X K hL.c11 (vp_in_nI (by omega) (by omega)) dL_string_139 ?_
                      rw [show (V 11) (nI f9).toNatClampNeg = V 11 f9 from by rw [nI_clamp (show f9 < 2 ^ 31 by omega)]]
                      refine lv_isub hx hb dL_string_140 ?_
                      refine lv_istore (lv' := [(10, .int ((V 11 k9) - (V 11 f9))), (8, .int (-1)), (9, .int (nI f9)), (6, .int (sumL (strF V μ e1 e2 P9 (cn 12)) (sp_sel μ e1 e2 k9))), (7, .int (nI k9)), (0, .ref (la 5)), (1, .ref (la 10)), (2, .ref (la 11)), (3, .ref (la 12)), (4, .int (nI ms)), (5, .int P9)]) hx hb dL_string_141 hl (by decide) rfl (fun ls hl => ?_)
                      refine lv_iload hx hb dL_string_143 (lv_at hl 3 rfl) ?_
                      refine lv_iload hx hb dL_string_145 (lv_at hl 0 rfl) ?_
                      refine lv_if_ge (tgt := 156) hx hb dL_string_147 (by decide) (fun c_147 => ?_) (fun c_147 => ?_)
                      · refine lv_iload hx hb dL_string_156 (lv_at hl 0 rfl) ?_
                        refine lv_iadd hx hb dL_string_158 ?_
                        refine lv_topi (fun q159 eq159 => ?_)
                        refine lv_istore (lv' := [(6, .int q159), (10, .int ((V 11 k9) - (V 11 f9))), (8, .int (-1)), (9, .int (nI f9)), (7, .int (nI k9)), (0, .ref (la 5)), (1, .ref (la 10)), (2, .ref (la 11)), (3, .ref (la 12)), (4, .int (nI ms)), (5, .int P9)]) hx hb dL_string_159 hl (by decide) rfl (fun ls hl => ?_)
                        rw [str_y (n := cn 12) (t := f9) c_19 (by unfold nxF; rw [← hj9, ← ho]; exact hf) (absd_y c_147)] at eq159
                        subst eq159
                        obtain ⟨q161, eq161⟩ : ∃ y : Int32, y = (nI k9) + 1 := ⟨_, rfl⟩
                        refine lv_iinc (v := q161) (lv' := [(7, .int q161), (6, .int (sumL (strF V μ e1 e2 P9 (cn 12)) (sp_sel μ e1 e2 (k9 + 1)))), (10, .int ((V 11 k9) - (V 11 f9))), (8, .int (-1)), (9, .int (nI f9)), (0, .ref (la 5)), (1, .ref (la 10)), (2, .ref (la 11)), (3, .ref (la 12)), (4, .int (nI ms)), (5, .int P9)]) hx hb dL_string_161 hl (k := 4) rfl (by rw [eq161]; rfl) (by decide) rfl (fun ls hl => ?_)
                        rw [nI_1] at eq161
                        subst eq161
                        refine lv_goto (tgt := 6) hx hb dL_string_164 (by decide) ?_
                        exact ih (k9 + 1) (by omega) (by omega) _ hS _ (lv_sub hl [1, 0, 5, 6, 7, 8, 9, 10] rfl)
                      · refine lv_iload hx hb dL_string_150 (lv_at hl 0 rfl) ?_
                        refine lv_ineg hx hb dL_string_152 ?_
                        refine lv_goto (tgt := 158) hx hb dL_string_153 (by decide) ?_
                        refine lv_iadd hx hb dL_string_158 ?_
                        refine lv_topi (fun q159 eq159 => ?_)
                        refine lv_istore (lv' := [(6, .int q159), (10, .int ((V 11 k9) - (V 11 f9))), (8, .int (-1)), (9, .int (nI f9)), (7, .int (nI k9)), (0, .ref (la 5)), (1, .ref (la 10)), (2, .ref (la 11)), (3, .ref (la 12)), (4, .int (nI ms)), (5, .int P9)]) hx hb dL_string_159 hl (by decide) rfl (fun ls hl => ?_)
                        rw [str_y (n := cn 12) (t := f9) c_19 (by unfold nxF; rw [← hj9, ← ho]; exact hf) (absd_n c_147)] at eq159
                        subst eq159
                        obtain ⟨q161, eq161⟩ : ∃ y : Int32, y = (nI k9) + 1 := ⟨_, rfl⟩
                        refine lv_iinc (v := q161) (lv' := [(7, .int q161), (6, .int (sumL (strF V μ e1 e2 P9 (cn 12)) (sp_sel μ e1 e2 (k9 + 1)))), (10, .int ((V 11 k9) - (V 11 f9))), (8, .int (-1)), (9, .int (nI f9)), (0, .ref (la 5)), (1, .ref (la 10)), (2, .ref (la 11)), (3, .ref (la 12)), (4, .int (nI ms)), (5, .int P9)]) hx hb dL_string_161 hl (k := 4) rfl (by rw [eq161]; rfl) (by decide) rfl (fun ls hl => ?_)
                        rw [nI_1] at eq161
                        subst eq161
                        refine lv_goto (tgt := 6) hx hb dL_string_164 (by decide) ?_
                        exact ih (k9 + 1) (by omega) (by omega) _ hS _ (lv_sub hl [1, 0, 5, 6, 7, 8, 9, 10] rfl)
                  · have ht9 : t9 < j9 := nxK_lt ho
                    have hl : lv_has ls 11 [(8, .int (nI t9)), (9, .int (nI f9)), (10, .int (nI j9)), (6, .int (sumL (strF V μ e1 e2 P9 (cn 12)) (sp_sel μ e1 e2 k9))), (7, .int (nI k9)), (0, .ref (la 5)), (1, .ref (la 10)), (2, .ref (la 11)), (3, .ref (la 12)), (4, .int (nI ms)), (5, .int P9)] := hl
                    refine lv_aload_n hx hb dL_string_122 rfl (lv_at hl 7 rfl) ?_
                    refine lv_iload hx hb dL_string_123 (lv_at hl 4 rfl) ?_
                    refine hk_ild X K hL.c11 (vp_in_nI (by omega) (by omega)) dL_string_125 ?_
                    rw [show (V 11) (nI k9).toNatClampNeg = V 11 k9 from by rw [nI_clamp (show k9 < 2 ^ 31 by omega)]]
                    refine lv_aload_n hx hb dL_string_126 rfl (lv_at hl 7 rfl) ?_
                    refine lv_iload hx hb dL_string_127 (lv_at hl 0 rfl) ?_
                    refine lv_if_ge (tgt := 137) hx hb dL_string_129 (by decide) (fun c_129 => ?_) (fun c_129 => ?_)
                    · refine lv_iload hx hb dL_string_137 (lv_at hl 0 rfl) ?_
                      refine hk_ild X K hL.c11 (vp_in_nI (by omega) (by omega)) dL_string_139 ?_
                      rw [show (V 11) (nI t9).toNatClampNeg = V 11 t9 from by rw [nI_clamp (show t9 < 2 ^ 31 by omega)]]
                      refine lv_isub hx hb dL_string_140 ?_
                      refine lv_istore (lv' := [(10, .int ((V 11 k9) - (V 11 t9))), (8, .int (nI t9)), (9, .int (nI f9)), (6, .int (sumL (strF V μ e1 e2 P9 (cn 12)) (sp_sel μ e1 e2 k9))), (7, .int (nI k9)), (0, .ref (la 5)), (1, .ref (la 10)), (2, .ref (la 11)), (3, .ref (la 12)), (4, .int (nI ms)), (5, .int P9)]) hx hb dL_string_141 hl (by decide) rfl (fun ls hl => ?_)
                      refine lv_iload hx hb dL_string_143 (lv_at hl 3 rfl) ?_
                      refine lv_iload hx hb dL_string_145 (lv_at hl 0 rfl) ?_
                      refine lv_if_ge (tgt := 156) hx hb dL_string_147 (by decide) (fun c_147 => ?_) (fun c_147 => ?_)
                      · refine lv_iload hx hb dL_string_156 (lv_at hl 0 rfl) ?_
                        refine lv_iadd hx hb dL_string_158 ?_
                        refine lv_topi (fun q159 eq159 => ?_)
                        refine lv_istore (lv' := [(6, .int q159), (10, .int ((V 11 k9) - (V 11 t9))), (8, .int (nI t9)), (9, .int (nI f9)), (7, .int (nI k9)), (0, .ref (la 5)), (1, .ref (la 10)), (2, .ref (la 11)), (3, .ref (la 12)), (4, .int (nI ms)), (5, .int P9)]) hx hb dL_string_159 hl (by decide) rfl (fun ls hl => ?_)
                        rw [str_y (n := cn 12) (t := t9) c_19 (by unfold nxF; rw [← hj9, ← ho]; rfl) (absd_y c_147)] at eq159
                        subst eq159
                        obtain ⟨q161, eq161⟩ : ∃ y : Int32, y = (nI k9) + 1 := ⟨_, rfl⟩
                        refine lv_iinc (v := q161) (lv' := [(7, .int q161), (6, .int (sumL (strF V μ e1 e2 P9 (cn 12)) (sp_sel μ e1 e2 (k9 + 1)))), (10, .int ((V 11 k9) - (V 11 t9))), (8, .int (nI t9)), (9, .int (nI f9)), (0, .ref (la 5)), (1, .ref (la 10)), (2, .ref (la 11)), (3, .ref (la 12)), (4, .int (nI ms)), (5, .int P9)]) hx hb dL_string_161 hl (k := 4) rfl (by rw [eq161]; rfl) (by decide) rfl (fun ls hl => ?_)
                        rw [nI_1] at eq161
                        subst eq161
                        refine lv_goto (tgt := 6) hx hb dL_string_164 (by decide) ?_
                        exact ih (k9 + 1) (by omega) (by omega) _ hS _ (lv_sub hl [1, 0, 5, 6, 7, 8, 9, 10] rfl)
                      · refine lv_iload hx hb dL_string_150 (lv_at hl 0 rfl) ?_
                        refine lv_ineg hx hb dL_string_152 ?_
                        refine lv_goto (tgt := 158) hx hb dL_string_153 (by decide) ?_
                        refine lv_iadd hx hb dL_string_158 ?_
                        refine lv_topi (fun q159 eq159 => ?_)
                        refine lv_istore (lv' := [(6, .int q159), (10, .int ((V 11 k9) - (V 11 t9))), (8, .int (nI t9)), (9, .int (nI f9)), (7, .int (nI k9)), (0, .ref (la 5)), (1, .ref (la 10)), (2, .ref (la 11)), (3, .ref (la 12)), (4, .int (nI ms)), (5, .int P9)]) hx hb dL_string_159 hl (by decide) rfl (fun ls hl => ?_)
                        rw [str_y (n := cn 12) (t := t9) c_19 (by unfold nxF; rw [← hj9, ← ho]; rfl) (absd_n c_147)] at eq159
                        subst eq159
                        obtain ⟨q161, eq161⟩ : ∃ y : Int32, y = (nI k9) + 1 := ⟨_, rfl⟩
                        refine lv_iinc (v := q161) (lv' := [(7, .int q161), (6, .int (sumL (strF V μ e1 e2 P9 (cn 12)) (sp_sel μ e1 e2 (k9 + 1)))), (10, .int ((V 11 k9) - (V 11 t9))), (8, .int (nI t9)), (9, .int (nI f9)), (0, .ref (la 5)), (1, .ref (la 10)), (2, .ref (la 11)), (3, .ref (la 12)), (4, .int (nI ms)), (5, .int P9)]) hx hb dL_string_161 hl (k := 4) rfl (by rw [eq161]; rfl) (by decide) rfl (fun ls hl => ?_)
                        rw [nI_1] at eq161
                        subst eq161
                        refine lv_goto (tgt := 6) hx hb dL_string_164 (by decide) ?_
                        exact ih (k9 + 1) (by omega) (by omega) _ hS _ (lv_sub hl [1, 0, 5, 6, 7, 8, 9, 10] rfl)
                    · exact absurd (nI_pos' (by omega)) c_129
                · have hj9 : j9 < cn 12 := Nat.lt_of_not_le (fun h => c_40 (nI_le h (by omega)))
                  refine lv_aload_n hx hb dL_string_43 rfl (lv_at hl 5 rfl) ?_
                  refine lv_iload hx hb dL_string_44 (lv_at hl 9 rfl) ?_
                  refine lv_iload hx hb dL_string_46 (lv_at hl 2 rfl) ?_
                  refine hk_callS 3 (As := [.ref (la 5), .int (nI ms), .int (nI j9)]) (rest := []) X K hAE hS hl.1 (c_L_isOf E l H0 hL hV hI hm (show j9 < cn 12 by omega)) (fun _ h => h.elim) gL_string_L_isOf rfl hd_L_isOf rfl ⟨⟨(Nat.le_of_ble_eq_true rfl), (Nat.le_of_ble_eq_true rfl)⟩, (Nat.le_of_ble_eq_true rfl), (Nat.le_of_ble_eq_true rfl)⟩ rfl (Nat.le_of_ble_eq_true rfl) dL_string_48 (fun v9 H2 locsH2 hp hS hzH2 hkH2 => ?_)
                  obtain ⟨hv, hh⟩ := hp
                  subst hh
                  rcases hv with ⟨hv, c_48⟩ | ⟨hv, c_48⟩
                  · subst hv
                    refine lv_if_eq (tgt := 116) hx hb dL_string_51 (by decide) (fun c_51 => ?_) (fun c_51 => ?_)
                    · exact absurd c_51 (by decide)
                    · refine lv_aload_n hx hb dL_string_54 rfl (lv_at hl 8 rfl) ?_
                      refine lv_iload hx hb dL_string_55 (lv_at hl 2 rfl) ?_
                      refine lv_iload hx hb dL_string_57 (lv_at hl 1 rfl) ?_
                      refine lv_iload hx hb dL_string_59 (lv_at hl 10 rfl) ?_
                      refine hk_callS 4 (As := [.ref (la 12), .int (nI j9), .int (nI f9), .int P9]) (rest := []) X K hAE hS hl.1 (c_L_isAhead E l H0 hL (i1 := j9) (i2 := f9) (by omega) (by omega) hP) (fun _ h => h.elim) gL_string_L_isAhead rfl hd_L_isAhead rfl ⟨⟨(Nat.le_of_ble_eq_true rfl), (Nat.le_of_ble_eq_true rfl)⟩, (Nat.le_of_ble_eq_true rfl), (Nat.le_of_ble_eq_true rfl)⟩ rfl (Nat.le_of_ble_eq_true rfl) dL_string_61 (fun v9 H3 locsH3 hp hS hzH3 hkH3 => ?_)
                      obtain ⟨hv, hh⟩ := hp
                      subst hh
                      rcases hv with ⟨hv, c_61⟩ | ⟨hv, c_61⟩
                      · subst hv
                        refine lv_if_eq (tgt := 72) hx hb dL_string_64 (by decide) (fun c_64 => ?_) (fun c_64 => ?_)
                        · exact absurd c_64 (by decide)
                        · refine lv_iload hx hb dL_string_67 (lv_at hl 2 rfl) ?_
                          refine lv_goto (tgt := 74) hx hb dL_string_69 (by decide) ?_
                          refine lv_istore (lv' := [(9, .int (nI j9)), (8, .int (oI o9)), (10, .int (nI j9)), (6, .int (sumL (strF V μ e1 e2 P9 (cn 12)) (sp_sel μ e1 e2 k9))), (7, .int (nI k9)), (0, .ref (la 5)), (1, .ref (la 10)), (2, .ref (la 11)), (3, .ref (la 12)), (4, .int (nI ms)), (5, .int P9)]) hx hb dL_string_74 hl (by decide) rfl (fun ls hl => ?_)
                          refine lv_aload_n hx hb dL_string_76 rfl (lv_at hl 8 rfl) ?_
                          refine lv_iload hx hb dL_string_77 (lv_at hl 4 rfl) ?_
                          refine lv_iload hx hb dL_string_79 (lv_at hl 2 rfl) ?_
                          refine lv_iload hx hb dL_string_81 (lv_at hl 10 rfl) ?_
                          refine hk_callS 4 (As := [.ref (la 12), .int (nI k9), .int (nI j9), .int P9]) (rest := []) X K hAE hS hl.1 (c_L_isAhead E l H0 hL (i1 := k9) (i2 := j9) (by omega) (by omega) hP) (fun _ h => h.elim) gL_string_L_isAhead rfl hd_L_isAhead rfl ⟨⟨(Nat.le_of_ble_eq_true rfl), (Nat.le_of_ble_eq_true rfl)⟩, (Nat.le_of_ble_eq_true rfl), (Nat.le_of_ble_eq_true rfl)⟩ rfl (Nat.le_of_ble_eq_true rfl) dL_string_83 (fun v9 H4 locsH4 hp hS hzH4 hkH4 => ?_)
                          obtain ⟨hv, hh⟩ := hp
                          subst hh
                          rcases hv with ⟨hv, c_83⟩ | ⟨hv, c_83⟩
                          · subst hv
                            refine lv_if_eq (tgt := 112) hx hb dL_string_86 (by decide) (fun c_86 => ?_) (fun c_86 => ?_)
                            · exact absurd c_86 (by decide)
                            · rcases o9 with _ | t9
                              · have hl : lv_has ls 11 [(9, .int (nI j9)), (8, .int (-1)), (10, .int (nI j9)), (6, .int (sumL (strF V μ e1 e2 P9 (cn 12)) (sp_sel μ e1 e2 k9))), (7, .int (nI k9)), (0, .ref (la 5)), (1, .ref (la 10)), (2, .ref (la 11)), (3, .ref (la 12)), (4, .int (nI ms)), (5, .int P9)] := hl
                                refine lv_iload hx hb dL_string_89 (lv_at hl 1 rfl) ?_
                                refine lv_if_lt (tgt := 107) hx hb dL_string_91 (by decide) (fun c_91 => ?_) (fun c_91 => ?_)
                                · refine lv_iload hx hb dL_string_107 (lv_at hl 2 rfl) ?_
                                  refine lv_goto (tgt := 114) hx hb dL_string_109 (by decide) ?_
                                  refine lv_istore (lv' := [(8, .int (nI j9)), (9, .int (nI j9)), (10, .int (nI j9)), (6, .int (sumL (strF V μ e1 e2 P9 (cn 12)) (sp_sel μ e1 e2 k9))), (7, .int (nI k9)), (0, .ref (la 5)), (1, .ref (la 10)), (2, .ref (la 11)), (3, .ref (la 12)), (4, .int (nI ms)), (5, .int P9)]) hx hb dL_string_114 hl (by decide) rfl (fun ls hl => ?_)
                                  obtain ⟨q116, eq116⟩ : ∃ y : Int32, y = (nI j9) + 1 := ⟨_, rfl⟩
                                  refine lv_iinc (v := q116) (lv' := [(10, .int q116), (8, .int (nI j9)), (9, .int (nI j9)), (6, .int (sumL (strF V μ e1 e2 P9 (cn 12)) (sp_sel μ e1 e2 k9))), (7, .int (nI k9)), (0, .ref (la 5)), (1, .ref (la 10)), (2, .ref (la 11)), (3, .ref (la 12)), (4, .int (nI ms)), (5, .int P9)]) hx hb dL_string_116 hl (k := 2) rfl (by rw [eq116]; rfl) (by decide) rfl (fun ls hl => ?_)
                                  rw [nI_1] at eq116
                                  subst eq116
                                  refine lv_goto (tgt := 35) hx hb dL_string_119 (by decide) ?_
                                  exact ih8 (j9 + 1) (some j9) j9 (by omega) ⟨by omega, nxK_yes ho c_48 c_83 (fun t h => by cases h), fsK_yes hf c_48 c_61⟩ _ hS _ (lv_sub hl [1, 2, 0, 3, 4, 5, 6, 7, 8, 9, 10] rfl)
                                · exact absurd (by decide) c_91
                              · have ht9 : t9 < j9 := nxK_lt ho
                                have hl : lv_has ls 11 [(9, .int (nI j9)), (8, .int (nI t9)), (10, .int (nI j9)), (6, .int (sumL (strF V μ e1 e2 P9 (cn 12)) (sp_sel μ e1 e2 k9))), (7, .int (nI k9)), (0, .ref (la 5)), (1, .ref (la 10)), (2, .ref (la 11)), (3, .ref (la 12)), (4, .int (nI ms)), (5, .int P9)] := hl
                                refine lv_iload hx hb dL_string_89 (lv_at hl 1 rfl) ?_
                                refine lv_if_lt (tgt := 107) hx hb dL_string_91 (by decide) (fun c_91 => ?_) (fun c_91 => ?_)
                                · exact absurd c_91 (nI_pos (by omega))
                                · refine lv_aload_n hx hb dL_string_94 rfl (lv_at hl 8 rfl) ?_
                                  refine lv_iload hx hb dL_string_95 (lv_at hl 2 rfl) ?_
                                  refine lv_iload hx hb dL_string_97 (lv_at hl 1 rfl) ?_
                                  refine lv_iload hx hb dL_string_99 (lv_at hl 10 rfl) ?_
                                  refine hk_callS 4 (As := [.ref (la 12), .int (nI j9), .int (nI t9), .int P9]) (rest := []) X K hAE hS hl.1 (c_L_isAhead E l H0 hL (i1 := j9) (i2 := t9) (by omega) (by omega) hP) (fun _ h => h.elim) gL_string_L_isAhead rfl hd_L_isAhead rfl ⟨⟨(Nat.le_of_ble_eq_true rfl), (Nat.le_of_ble_eq_true rfl)⟩, (Nat.le_of_ble_eq_true rfl), (Nat.le_of_ble_eq_true rfl)⟩ rfl (Nat.le_of_ble_eq_true rfl) dL_string_101 (fun v9 H5 locsH5 hp hS hzH5 hkH5 => ?_)
                                  obtain ⟨hv, hh⟩ := hp
                                  subst hh
                                  rcases hv with ⟨hv, c_101⟩ | ⟨hv, c_101⟩
                                  · subst hv
                                    refine lv_if_eq (tgt := 112) hx hb dL_string_104 (by decide) (fun c_104 => ?_) (fun c_104 => ?_)
                                    · exact absurd c_104 (by decide)
                                    · refine lv_iload hx hb dL_string_107 (lv_at hl 2 rfl) ?_
                                      refine lv_goto (tgt := 114) hx hb dL_string_109 (by decide) ?_
                                      refine lv_istore (lv' := [(8, .int (nI j9)), (9, .int (nI j9)), (10, .int (nI j9)), (6, .int (sumL (strF V μ e1 e2 P9 (cn 12)) (sp_sel μ e1 e2 k9))), (7, .int (nI k9)), (0, .ref (la 5)), (1, .ref (la 10)), (2, .ref (la 11)), (3, .ref (la 12)), (4, .int (nI ms)), (5, .int P9)]) hx hb dL_string_114 hl (by decide) rfl (fun ls hl => ?_)
                                      obtain ⟨q116, eq116⟩ : ∃ y : Int32, y = (nI j9) + 1 := ⟨_, rfl⟩
                                      refine lv_iinc (v := q116) (lv' := [(10, .int q116), (8, .int (nI j9)), (9, .int (nI j9)), (6, .int (sumL (strF V μ e1 e2 P9 (cn 12)) (sp_sel μ e1 e2 k9))), (7, .int (nI k9)), (0, .ref (la 5)), (1, .ref (la 10)), (2, .ref (la 11)), (3, .ref (la 12)), (4, .int (nI ms)), (5, .int P9)]) hx hb dL_string_116 hl (k := 2) rfl (by rw [eq116]; rfl) (by decide) rfl (fun ls hl => ?_)
                                      rw [nI_1] at eq116
                                      subst eq116
                                      refine lv_goto (tgt := 35) hx hb dL_string_119 (by decide) ?_
                                      exact ih8 (j9 + 1) (some j9) j9 (by omega) ⟨by omega, nxK_yes ho c_48 c_83 (fun t h => by cases h; exact c_101), fsK_yes hf c_48 c_61⟩ _ hS _ (lv_sub hl [1, 2, 0, 3, 4, 5, 6, 7, 8, 9, 10] rfl)
                                  · subst hv
                                    refine lv_if_eq (tgt := 112) hx hb dL_string_104 (by decide) (fun c_104 => ?_) (fun c_104 => ?_)
                                    · refine lv_iload hx hb dL_string_112 (lv_at hl 1 rfl) ?_
                                      refine lv_istore (lv' := [(8, .int (nI t9)), (9, .int (nI j9)), (10, .int (nI j9)), (6, .int (sumL (strF V μ e1 e2 P9 (cn 12)) (sp_sel μ e1 e2 k9))), (7, .int (nI k9)), (0, .ref (la 5)), (1, .ref (la 10)), (2, .ref (la 11)), (3, .ref (la 12)), (4, .int (nI ms)), (5, .int P9)]) hx hb dL_string_114 hl (by decide) rfl (fun ls hl => ?_)
                                      obtain ⟨q116, eq116⟩ : ∃ y : Int32, y = (nI j9) + 1 := ⟨_, rfl⟩
                                      refine lv_iinc (v := q116) (lv' := [(10, .int q116), (8, .int (nI t9)), (9, .int (nI j9)), (6, .int (sumL (strF V μ e1 e2 P9 (cn 12)) (sp_sel μ e1 e2 k9))), (7, .int (nI k9)), (0, .ref (la 5)), (1, .ref (la 10)), (2, .ref (la 11)), (3, .ref (la 12)), (4, .int (nI ms)), (5, .int P9)]) hx hb dL_string_116 hl (k := 2) rfl (by rw [eq116]; rfl) (by decide) rfl (fun ls hl => ?_)
                                      rw [nI_1] at eq116
                                      subst eq116
                                      refine lv_goto (tgt := 35) hx hb dL_string_119 (by decide) ?_
                                      exact ih8 (j9 + 1) (some t9) j9 (by omega) ⟨by omega, nxK_no ho (Or.inr ⟨t9, rfl, c_101⟩), fsK_yes hf c_48 c_61⟩ _ hS _ (lv_sub hl [1, 2, 0, 3, 4, 5, 6, 7, 8, 9, 10] rfl)
                                    · exact absurd (by decide) c_104
                          · subst hv
                            refine lv_if_eq (tgt := 112) hx hb dL_string_86 (by decide) (fun c_86 => ?_) (fun c_86 => ?_)
                            · refine lv_iload hx hb dL_string_112 (lv_at hl 1 rfl) ?_
                              refine lv_istore (lv' := [(8, .int (oI o9)), (9, .int (nI j9)), (10, .int (nI j9)), (6, .int (sumL (strF V μ e1 e2 P9 (cn 12)) (sp_sel μ e1 e2 k9))), (7, .int (nI k9)), (0, .ref (la 5)), (1, .ref (la 10)), (2, .ref (la 11)), (3, .ref (la 12)), (4, .int (nI ms)), (5, .int P9)]) hx hb dL_string_114 hl (by decide) rfl (fun ls hl => ?_)
                              obtain ⟨q116, eq116⟩ : ∃ y : Int32, y = (nI j9) + 1 := ⟨_, rfl⟩
                              refine lv_iinc (v := q116) (lv' := [(10, .int q116), (8, .int (oI o9)), (9, .int (nI j9)), (6, .int (sumL (strF V μ e1 e2 P9 (cn 12)) (sp_sel μ e1 e2 k9))), (7, .int (nI k9)), (0, .ref (la 5)), (1, .ref (la 10)), (2, .ref (la 11)), (3, .ref (la 12)), (4, .int (nI ms)), (5, .int P9)]) hx hb dL_string_116 hl (k := 2) rfl (by rw [eq116]; rfl) (by decide) rfl (fun ls hl => ?_)
                              rw [nI_1] at eq116
                              subst eq116
                              refine lv_goto (tgt := 35) hx hb dL_string_119 (by decide) ?_
                              exact ih8 (j9 + 1) o9 j9 (by omega) ⟨by omega, nxK_no ho (Or.inl (fun h => c_83 h.2)), fsK_yes hf c_48 c_61⟩ _ hS _ (lv_sub hl [1, 2, 0, 3, 4, 5, 6, 7, 8, 9, 10] rfl)
                            · exact absurd (by decide) c_86
                      · subst hv
                        refine lv_if_eq (tgt := 72) hx hb dL_string_64 (by decide) (fun c_64 => ?_) (fun c_64 => ?_)
                        · refine lv_iload hx hb dL_string_72 (lv_at hl 1 rfl) ?_
                          refine lv_istore (lv' := [(9, .int (nI f9)), (8, .int (oI o9)), (10, .int (nI j9)), (6, .int (sumL (strF V μ e1 e2 P9 (cn 12)) (sp_sel μ e1 e2 k9))), (7, .int (nI k9)), (0, .ref (la 5)), (1, .ref (la 10)), (2, .ref (la 11)), (3, .ref (la 12)), (4, .int (nI ms)), (5, .int P9)]) hx hb dL_string_74 hl (by decide) rfl (fun ls hl => ?_)
                          refine lv_aload_n hx hb dL_string_76 rfl (lv_at hl 8 rfl) ?_
                          refine lv_iload hx hb dL_string_77 (lv_at hl 4 rfl) ?_
                          refine lv_iload hx hb dL_string_79 (lv_at hl 2 rfl) ?_
                          refine lv_iload hx hb dL_string_81 (lv_at hl 10 rfl) ?_
                          refine hk_callS 4 (As := [.ref (la 12), .int (nI k9), .int (nI j9), .int P9]) (rest := []) X K hAE hS hl.1 (c_L_isAhead E l H0 hL (i1 := k9) (i2 := j9) (by omega) (by omega) hP) (fun _ h => h.elim) gL_string_L_isAhead rfl hd_L_isAhead rfl ⟨⟨(Nat.le_of_ble_eq_true rfl), (Nat.le_of_ble_eq_true rfl)⟩, (Nat.le_of_ble_eq_true rfl), (Nat.le_of_ble_eq_true rfl)⟩ rfl (Nat.le_of_ble_eq_true rfl) dL_string_83 (fun v9 H6 locsH6 hp hS hzH6 hkH6 => ?_)
                          obtain ⟨hv, hh⟩ := hp
                          subst hh
                          rcases hv with ⟨hv, c_83⟩ | ⟨hv, c_83⟩
                          · subst hv
                            refine lv_if_eq (tgt := 112) hx hb dL_string_86 (by decide) (fun c_86 => ?_) (fun c_86 => ?_)
                            · exact absurd c_86 (by decide)
                            · rcases o9 with _ | t9
                              · have hl : lv_has ls 11 [(9, .int (nI f9)), (8, .int (-1)), (10, .int (nI j9)), (6, .int (sumL (strF V μ e1 e2 P9 (cn 12)) (sp_sel μ e1 e2 k9))), (7, .int (nI k9)), (0, .ref (la 5)), (1, .ref (la 10)), (2, .ref (la 11)), (3, .ref (la 12)), (4, .int (nI ms)), (5, .int P9)] := hl
                                refine lv_iload hx hb dL_string_89 (lv_at hl 1 rfl) ?_
                                refine lv_if_lt (tgt := 107) hx hb dL_string_91 (by decide) (fun c_91 => ?_) (fun c_91 => ?_)
                                · refine lv_iload hx hb dL_string_107 (lv_at hl 2 rfl) ?_
                                  refine lv_goto (tgt := 114) hx hb dL_string_109 (by decide) ?_
                                  refine lv_istore (lv' := [(8, .int (nI j9)), (9, .int (nI f9)), (10, .int (nI j9)), (6, .int (sumL (strF V μ e1 e2 P9 (cn 12)) (sp_sel μ e1 e2 k9))), (7, .int (nI k9)), (0, .ref (la 5)), (1, .ref (la 10)), (2, .ref (la 11)), (3, .ref (la 12)), (4, .int (nI ms)), (5, .int P9)]) hx hb dL_string_114 hl (by decide) rfl (fun ls hl => ?_)
                                  obtain ⟨q116, eq116⟩ : ∃ y : Int32, y = (nI j9) + 1 := ⟨_, rfl⟩
                                  refine lv_iinc (v := q116) (lv' := [(10, .int q116), (8, .int (nI j9)), (9, .int (nI f9)), (6, .int (sumL (strF V μ e1 e2 P9 (cn 12)) (sp_sel μ e1 e2 k9))), (7, .int (nI k9)), (0, .ref (la 5)), (1, .ref (la 10)), (2, .ref (la 11)), (3, .ref (la 12)), (4, .int (nI ms)), (5, .int P9)]) hx hb dL_string_116 hl (k := 2) rfl (by rw [eq116]; rfl) (by decide) rfl (fun ls hl => ?_)
                                  rw [nI_1] at eq116
                                  subst eq116
                                  refine lv_goto (tgt := 35) hx hb dL_string_119 (by decide) ?_
                                  exact ih8 (j9 + 1) (some j9) f9 (by omega) ⟨by omega, nxK_yes ho c_48 c_83 (fun t h => by cases h), fsK_no hf (fun h => c_61 h.2)⟩ _ hS _ (lv_sub hl [1, 2, 0, 3, 4, 5, 6, 7, 8, 9, 10] rfl)
                                · exact absurd (by decide) c_91
                              · have ht9 : t9 < j9 := nxK_lt ho
                                have hl : lv_has ls 11 [(9, .int (nI f9)), (8, .int (nI t9)), (10, .int (nI j9)), (6, .int (sumL (strF V μ e1 e2 P9 (cn 12)) (sp_sel μ e1 e2 k9))), (7, .int (nI k9)), (0, .ref (la 5)), (1, .ref (la 10)), (2, .ref (la 11)), (3, .ref (la 12)), (4, .int (nI ms)), (5, .int P9)] := hl
                                refine lv_iload hx hb dL_string_89 (lv_at hl 1 rfl) ?_
                                refine lv_if_lt (tgt := 107) hx hb dL_string_91 (by decide) (fun c_91 => ?_) (fun c_91 => ?_)
                                · exact absurd c_91 (nI_pos (by omega))
                                · refine lv_aload_n hx hb dL_string_94 rfl (lv_at hl 8 rfl) ?_
                                  refine lv_iload hx hb dL_string_95 (lv_at hl 2 rfl) ?_
                                  refine lv_iload hx hb dL_string_97 (lv_at hl 1 rfl) ?_
                                  refine lv_iload hx hb dL_string_99 (lv_at hl 10 rfl) ?_
                                  refine hk_callS 4 (As := [.ref (la 12), .int (nI j9), .int (nI t9), .int P9]) (rest := []) X K hAE hS hl.1 (c_L_isAhead E l H0 hL (i1 := j9) (i2 := t9) (by omega) (by omega) hP) (fun _ h => h.elim) gL_string_L_isAhead rfl hd_L_isAhead rfl ⟨⟨(Nat.le_of_ble_eq_true rfl), (Nat.le_of_ble_eq_true rfl)⟩, (Nat.le_of_ble_eq_true rfl), (Nat.le_of_ble_eq_true rfl)⟩ rfl (Nat.le_of_ble_eq_true rfl) dL_string_101 (fun v9 H7 locsH7 hp hS hzH7 hkH7 => ?_)
                                  obtain ⟨hv, hh⟩ := hp
                                  subst hh
                                  rcases hv with ⟨hv, c_101⟩ | ⟨hv, c_101⟩
                                  · subst hv
                                    refine lv_if_eq (tgt := 112) hx hb dL_string_104 (by decide) (fun c_104 => ?_) (fun c_104 => ?_)
                                    · exact absurd c_104 (by decide)
                                    · refine lv_iload hx hb dL_string_107 (lv_at hl 2 rfl) ?_
                                      refine lv_goto (tgt := 114) hx hb dL_string_109 (by decide) ?_
                                      refine lv_istore (lv' := [(8, .int (nI j9)), (9, .int (nI f9)), (10, .int (nI j9)), (6, .int (sumL (strF V μ e1 e2 P9 (cn 12)) (sp_sel μ e1 e2 k9))), (7, .int (nI k9)), (0, .ref (la 5)), (1, .ref (la 10)), (2, .ref (la 11)), (3, .ref (la 12)), (4, .int (nI ms)), (5, .int P9)]) hx hb dL_string_114 hl (by decide) rfl (fun ls hl => ?_)
                                      obtain ⟨q116, eq116⟩ : ∃ y : Int32, y = (nI j9) + 1 := ⟨_, rfl⟩
                                      refine lv_iinc (v := q116) (lv' := [(10, .int q116), (8, .int (nI j9)), (9, .int (nI f9)), (6, .int (sumL (strF V μ e1 e2 P9 (cn 12)) (sp_sel μ e1 e2 k9))), (7, .int (nI k9)), (0, .ref (la 5)), (1, .ref (la 10)), (2, .ref (la 11)), (3, .ref (la 12)), (4, .int (nI ms)), (5, .int P9)]) hx hb dL_string_116 hl (k := 2) rfl (by rw [eq116]; rfl) (by decide) rfl (fun ls hl => ?_)
                                      rw [nI_1] at eq116
                                      subst eq116
                                      refine lv_goto (tgt := 35) hx hb dL_string_119 (by decide) ?_
                                      exact ih8 (j9 + 1) (some j9) f9 (by omega) ⟨by omega, nxK_yes ho c_48 c_83 (fun t h => by cases h; exact c_101), fsK_no hf (fun h => c_61 h.2)⟩ _ hS _ (lv_sub hl [1, 2, 0, 3, 4, 5, 6, 7, 8, 9, 10] rfl)
                                  · subst hv
                                    refine lv_if_eq (tgt := 112) hx hb dL_string_104 (by decide) (fun c_104 => ?_) (fun c_104 => ?_)
                                    · refine lv_iload hx hb dL_string_112 (lv_at hl 1 rfl) ?_
                                      refine lv_istore (lv' := [(8, .int (nI t9)), (9, .int (nI f9)), (10, .int (nI j9)), (6, .int (sumL (strF V μ e1 e2 P9 (cn 12)) (sp_sel μ e1 e2 k9))), (7, .int (nI k9)), (0, .ref (la 5)), (1, .ref (la 10)), (2, .ref (la 11)), (3, .ref (la 12)), (4, .int (nI ms)), (5, .int P9)]) hx hb dL_string_114 hl (by decide) rfl (fun ls hl => ?_)
                                      obtain ⟨q116, eq116⟩ : ∃ y : Int32, y = (nI j9) + 1 := ⟨_, rfl⟩
                                      refine lv_iinc (v := q116) (lv' := [(10, .int q116), (8, .int (nI t9)), (9, .int (nI f9)), (6, .int (sumL (strF V μ e1 e2 P9 (cn 12)) (sp_sel μ e1 e2 k9))), (7, .int (nI k9)), (0, .ref (la 5)), (1, .ref (la 10)), (2, .ref (la 11)), (3, .ref (la 12)), (4, .int (nI ms)), (5, .int P9)]) hx hb dL_string_116 hl (k := 2) rfl (by rw [eq116]; rfl) (by decide) rfl (fun ls hl => ?_)
                                      rw [nI_1] at eq116
                                      subst eq116
                                      refine lv_goto (tgt := 35) hx hb dL_string_119 (by decide) ?_
                                      exact ih8 (j9 + 1) (some t9) f9 (by omega) ⟨by omega, nxK_no ho (Or.inr ⟨t9, rfl, c_101⟩), fsK_no hf (fun h => c_61 h.2)⟩ _ hS _ (lv_sub hl [1, 2, 0, 3, 4, 5, 6, 7, 8, 9, 10] rfl)
                                    · exact absurd (by decide) c_104
                          · subst hv
                            refine lv_if_eq (tgt := 112) hx hb dL_string_86 (by decide) (fun c_86 => ?_) (fun c_86 => ?_)
                            · refine lv_iload hx hb dL_string_112 (lv_at hl 1 rfl) ?_
                              refine lv_istore (lv' := [(8, .int (oI o9)), (9, .int (nI f9)), (10, .int (nI j9)), (6, .int (sumL (strF V μ e1 e2 P9 (cn 12)) (sp_sel μ e1 e2 k9))), (7, .int (nI k9)), (0, .ref (la 5)), (1, .ref (la 10)), (2, .ref (la 11)), (3, .ref (la 12)), (4, .int (nI ms)), (5, .int P9)]) hx hb dL_string_114 hl (by decide) rfl (fun ls hl => ?_)
                              obtain ⟨q116, eq116⟩ : ∃ y : Int32, y = (nI j9) + 1 := ⟨_, rfl⟩
                              refine lv_iinc (v := q116) (lv' := [(10, .int q116), (8, .int (oI o9)), (9, .int (nI f9)), (6, .int (sumL (strF V μ e1 e2 P9 (cn 12)) (sp_sel μ e1 e2 k9))), (7, .int (nI k9)), (0, .ref (la 5)), (1, .ref (la 10)), (2, .ref (la 11)), (3, .ref (la 12)), (4, .int (nI ms)), (5, .int P9)]) hx hb dL_string_116 hl (k := 2) rfl (by rw [eq116]; rfl) (by decide) rfl (fun ls hl => ?_)
                              rw [nI_1] at eq116
                              subst eq116
                              refine lv_goto (tgt := 35) hx hb dL_string_119 (by decide) ?_
                              exact ih8 (j9 + 1) o9 f9 (by omega) ⟨by omega, nxK_no ho (Or.inl (fun h => c_83 h.2)), fsK_no hf (fun h => c_61 h.2)⟩ _ hS _ (lv_sub hl [1, 2, 0, 3, 4, 5, 6, 7, 8, 9, 10] rfl)
                            · exact absurd (by decide) c_86
                        · exact absurd (by decide) c_64
                  · subst hv
                    refine lv_if_eq (tgt := 116) hx hb dL_string_51 (by decide) (fun c_51 => ?_) (fun c_51 => ?_)
                    · obtain ⟨q116, eq116⟩ : ∃ y : Int32, y = (nI j9) + 1 := ⟨_, rfl⟩
                      refine lv_iinc (v := q116) (lv' := [(10, .int q116), (8, .int (oI o9)), (9, .int (nI f9)), (6, .int (sumL (strF V μ e1 e2 P9 (cn 12)) (sp_sel μ e1 e2 k9))), (7, .int (nI k9)), (0, .ref (la 5)), (1, .ref (la 10)), (2, .ref (la 11)), (3, .ref (la 12)), (4, .int (nI ms)), (5, .int P9)]) hx hb dL_string_116 hl (k := 2) rfl (by rw [eq116]; rfl) (by decide) rfl (fun ls hl => ?_)
                      rw [nI_1] at eq116
                      subst eq116
                      refine lv_goto (tgt := 35) hx hb dL_string_119 (by decide) ?_
                      exact ih8 (j9 + 1) o9 f9 (by omega) ⟨by omega, nxK_no ho (Or.inl (fun h => c_48 h.1)), fsK_no hf (fun h => c_48 h.1)⟩ _ hS _ (lv_sub hl [1, 2, 0, 3, 4, 5, 6, 7, 8, 9, 10] rfl)
                    · exact absurd (by decide) c_51
            exact L35 (cn 12 + 1) 0 none k9 (by omega) ⟨by omega, rfl, rfl⟩ _ hS _ (lv_sub hl [2, 1, 0, 3, 4, 5, 6, 7, 8, 9, 10] rfl)
        · subst hv
          refine lv_if_eq (tgt := 161) hx hb dL_string_22 (by decide) (fun c_22 => ?_) (fun c_22 => ?_)
          · obtain ⟨q161, eq161⟩ : ∃ y : Int32, y = (nI k9) + 1 := ⟨_, rfl⟩
            refine lv_iinc (v := q161) (lv' := [(7, .int q161), (6, .int (sumL (strF V μ e1 e2 P9 (cn 12)) (sp_sel μ e1 e2 k9))), (0, .ref (la 5)), (1, .ref (la 10)), (2, .ref (la 11)), (3, .ref (la 12)), (4, .int (nI ms)), (5, .int P9)]) hx hb dL_string_161 hl (k := 1) rfl (by rw [eq161]; rfl) (by decide) rfl (fun ls hl => ?_)
            rw [nI_1] at eq161
            subst eq161
            refine lv_goto (tgt := 6) hx hb dL_string_164 (by decide) ?_
            rw [str_n c_19] at hl
            exact ih (k9 + 1) (by omega) (by omega) _ hS _ (lv_sub hl [1, 0, 2, 3, 4, 5, 6, 7] rfl)
          · exact absurd (by decide) c_22
  exact L6 (cn 12 + 1) 0 (by omega) (by omega) _ hS _ (lv_sub hl [1, 0, 2, 3, 4, 5, 6, 7] rfl)

/-! ===== brightest and faintest ===== -/
def exI (n : Nat) (q : Nat → Prop) (x y : Nat → Int32) (j : Nat) : Option Nat → Prop
  | none => ∀ k, j ≤ k → k < n → ¬ q k
  | some b => j ≤ b ∧ b < n ∧ q b ∧ ∀ k, j ≤ k → k < n → q k → x b < x k ∨ (x b = x k ∧ y b ≤ y k)
theorem exI_0 {n : Nat} {q : Nat → Prop} {x y : Nat → Int32} : exI n q x y n none := fun k h1 h2 => absurd h2 (by omega)
theorem exI_no {n : Nat} {q : Nat → Prop} {x y : Nat → Int32} {j : Nat} {o : Option Nat} (h : exI n q x y (j + 1) o) (c : ¬ q j) : exI n q x y j o := by
  cases o with
  | none =>
    intro k h1 h2
    by_cases e : k = j
    · subst e; exact c
    · exact h k (by omega) h2
  | some b =>
    refine ⟨by have := h.1; omega, h.2.1, h.2.2.1, fun k h1 h2 h3 => ?_⟩
    by_cases e : k = j
    · subst e; exact absurd h3 c
    · exact h.2.2.2 k (by omega) h2 h3
theorem exI_first {n : Nat} {q : Nat → Prop} {x y : Nat → Int32} {j : Nat} (hj : j < n) (h : exI n q x y (j + 1) none) (c : q j) : exI n q x y j (some j) := by
  refine ⟨Nat.le_refl _, hj, c, fun k h1 h2 h3 => ?_⟩
  by_cases e : k = j
  · subst e; exact Or.inr ⟨rfl, Int32.le_refl _⟩
  · exact absurd h3 (h k (by omega) h2)
theorem exI_new {n : Nat} {q : Nat → Prop} {x y : Nat → Int32} {j b : Nat} (hj : j < n) (h : exI n q x y (j + 1) (some b)) (c : q j) (g : x j < x b ∨ (x j = x b ∧ y j ≤ y b)) : exI n q x y j (some j) := by
  refine ⟨Nat.le_refl _, hj, c, fun k h1 h2 h3 => ?_⟩
  by_cases e : k = j
  · subst e; exact Or.inr ⟨rfl, Int32.le_refl _⟩
  · have := h.2.2.2 k (by omega) h2 h3
    simp only [i_lt, i_le, i_eq] at *
    omega
theorem exI_old {n : Nat} {q : Nat → Prop} {x y : Nat → Int32} {j b : Nat} (h : exI n q x y (j + 1) (some b)) (g : ¬ x j < x b) (g2 : ¬ x j = x b ∨ ¬ y j ≤ y b) : exI n q x y j (some b) := by
  refine ⟨by have := h.1; omega, h.2.1, h.2.2.1, fun k h1 h2 h3 => ?_⟩
  by_cases e : k = j
  · subst e
    simp only [i_lt, i_le, i_eq] at *
    omega
  · exact h.2.2.2 k (by omega) h2 h3
theorem exI_some {n : Nat} {q : Nat → Prop} {x y : Nat → Int32} {o : Option Nat} (h : exI n q x y 0 o) (hex : ∃ k, k < n ∧ q k) : ∃ b, o = some b := by
  cases o with
  | none => obtain ⟨k, h1, h2⟩ := hex; exact absurd h2 (h k (Nat.zero_le _) h1)
  | some b => exact ⟨b, rfl⟩
theorem sel_has {μ : Nat → Nat → Int32} {e1 e2 : Int32} {n : Nat} (h0 : 0 < (sp_sel μ e1 e2 n).length) : ∃ k, k < n ∧ selp μ e1 e2 k := ⟨_, (sp_sel_mem n).mp (getD_mem (i := 0) h0)⟩
theorem neg_lt {a b : Int32} : (-1 : Int32) - a < -1 - b ↔ b < a := by
  have ha := fb_rng a
  have hb := fb_rng b
  have h1 : (-1 : Int32).toInt = -1 := rfl
  rw [i_lt, i_lt, fb_subI (by rw [h1]; omega) (by rw [h1]; omega), fb_subI (by rw [h1]; omega) (by rw [h1]; omega), h1]
  omega
theorem neg_eq {a b : Int32} : (-1 : Int32) - a = (-1 : Int32) - b ↔ a = b := by
  have ha := fb_rng a
  have hb := fb_rng b
  have h1 : (-1 : Int32).toInt = -1 := rfl
  rw [i_eq, i_eq, fb_subI (by rw [h1]; omega) (by rw [h1]; omega), fb_subI (by rw [h1]; omega) (by rw [h1]; omega), h1]
  omega
/-- the words' brightest and faintest have the same lights and times -/
theorem ft_eq9 {S : mS} {V : Nat → Nat → Int32} (hX : LXY S V) (hI : Inv S) {e1 e2 claim what later : Int32} {b f : Nat} (hb : exI (S.1 12) (selp S.2.2 e1 e2) (V 11) (V 12) 0 (some b)) (hf : exI (S.1 12) (selp S.2.2 e1 e2) (fun k => -1 - V 11 k) (V 12) 0 (some f)) (hw : inr what 0 2)
    (hl : later = V 12 b - V 12 f - (V 12 b - V 12 f) / claim * claim) : (if what = 0 then V 11 f - V 11 b else if what = 1 then claim else (if later < 0 then later + claim else later) * 100 / claim) = sp_ft S.2.2 (sp_sel S.2.2 e1 e2 (S.1 12)) claim what := by
  obtain ⟨L, eL⟩ : ∃ L, L = sp_sel S.2.2 e1 e2 (S.1 12) := ⟨_, rfl⟩
  have hmem : ∀ k, k ∈ L ↔ k < S.1 12 ∧ selp S.2.2 e1 e2 k := fun k => by rw [eL]; exact sp_sel_mem _
  obtain ⟨ib, hib, ebx⟩ := mem_getD ((hmem b).mpr ⟨hb.2.1, hb.2.2.1⟩)
  obtain ⟨jf, hjf, efx⟩ := mem_getD ((hmem f).mpr ⟨hf.2.1, hf.2.2.1⟩)
  have hs : ∀ i, i ≤ L.length - 1 → sml ((fun i => sp_light S.2.2 (L.getD i 0)) i) := fun i hi => light_sml (cn := S.1) (sc := S.2.1) (μ := S.2.2) hI ((hmem _).mp (getD_mem (by omega))).1
  obtain ⟨r1, r2⟩ := sp_br_spec (fT := fun i => sp_time S.2.2 (L.getD i 0)) hs (L.length - 1) (Nat.le_refl _)
  obtain ⟨q1, q2⟩ := sp_fa_spec (fT := fun i => sp_time S.2.2 (L.getD i 0)) hs (L.length - 1) (Nat.le_refl _)
  unfold sp_ft sp_ftA
  rw [← eL]
  obtain ⟨xb, exb⟩ : ∃ z, z = sp_br (fun i => sp_light S.2.2 (L.getD i 0)) (fun i => sp_time S.2.2 (L.getD i 0)) (L.length - 1) := ⟨_, rfl⟩
  obtain ⟨xf, exf⟩ : ∃ z, z = sp_fa (fun i => sp_light S.2.2 (L.getD i 0)) (fun i => sp_time S.2.2 (L.getD i 0)) (L.length - 1) := ⟨_, rfl⟩
  rw [← exb] at r1 r2 ⊢
  rw [← exf] at q1 q2 ⊢
  have m1 := (hmem _).mp (getD_mem (A := L) (i := xb) (by omega))
  have m2 := (hmem _).mp (getD_mem (A := L) (i := xf) (by omega))
  have v1 := hX _ m1.1
  have v2 := hX _ m2.1
  have w1 := hX b hb.2.1
  have w2 := hX f hf.2.1
  have t1 := hb.2.2.2 _ (Nat.zero_le _) m1.1 m1.2
  have t2 : (-1 : Int32) - V 11 f < -1 - V 11 (L.getD xf 0) ∨ ((-1 : Int32) - V 11 f = -1 - V 11 (L.getD xf 0) ∧ V 12 f ≤ V 12 (L.getD xf 0)) := hf.2.2.2 _ (Nat.zero_le _) m2.1 m2.2
  have t3 := r2 ib (by omega)
  have t4 := q2 jf (by omega)
  simp only [← ebx, ← efx] at t3 t4
  rw [v1.1, v1.2, w1.1, w1.2] at t1
  rw [neg_lt, neg_eq, v2.1, v2.2, w2.1, w2.2] at t2
  have a1 : V 11 b = sp_light S.2.2 (L.getD xb 0) ∧ V 12 b = sp_time S.2.2 (L.getD xb 0) := by
    rw [w1.1, w1.2]
    simp only [i_lt, i_le, i_eq] at *
    omega
  have a2 : V 11 f = sp_light S.2.2 (L.getD xf 0) ∧ V 12 f = sp_time S.2.2 (L.getD xf 0) := by
    rw [w2.1, w2.2]
    simp only [i_lt, i_le, i_eq] at *
    omega
  rw [hl, a1.1, a1.2, a2.1, a2.2]
  rfl
