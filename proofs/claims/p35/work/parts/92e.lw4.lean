theorem hd_L_claim : yL_claim.cls ≠ "java/lang/invoke/MethodHandle" ∧ yL_claim.cls ≠ "java/lang/invoke/VarHandle" ∧ (parseMethodDescriptor yL_claim.desc).map (fun d => d.parameters.length) = some 2 := ⟨by decide, by decide, by decide +kernel⟩
abbrev rmL_feature : Room := { frames := 1, cells := 0, slots := 0, locals := 23 }
set_option maxHeartbeats 4000000 in
set_option maxRecDepth 100000 in
theorem c_L_feature (E : hk_E) (l : Launch) (H0 : Heap) {la : Nat → Nat} {V : Nat → Nat → Int32} (hL : LW E la V H0) {cn : Nat → Nat} {sc : Nat → Int32} {μ : Nat → Nat → Int32} (hV : LV (cn, sc, μ) V) (hI : InvF (cn, sc, μ)) (hX : LXY (cn, sc, μ) V) {ms : Nat} {e1 : Int32} (hm : mskR (cn 1) (μ 3) ms e1 (-1)) (he1 : 0 ≤ e1) (h0 : 0 < (sp_sel μ e1 (-1) (cn 12)).length) (hc : 0 < sp_clm (μ 3) (μ 4) e1 (cn 1) 0) {wh : Int32} (hw : inr wh 0 2) : hk_M E l yL_feature wsL_feature rmL_feature (fun _ => False) [.ref (la 3), .ref (la 5), .ref (la 10), .ref (la 11), .ref (la 12), .int (nI ms), .int wh] H0 (fun z H1 => z = some (.int (sp_ft μ (sp_sel μ e1 (-1) (cn 12)) (sp_clm (μ 3) (μ 4) e1 (cn 1) 0) wh)) ∧ H0 = H1) := by
  refine hk_M.ofW (cc := cL_feature) (maxL := 11) (ret := (some .int)) (by decide +kernel) rfl (Nat.le_of_ble_eq_true rfl) ?_
  intro p e s m args below meth c ls Q hQ X hr hlk hnm K hs9 hS hl
  obtain ⟨hx, hb, hml, hown, hts⟩ := id X
  have hAE : ∀ q, (fun _ => False) q → hk_A E q := fun _ h => h.elim
  have hl : lv_has ls 11 [(0, .ref (la 3)), (1, .ref (la 5)), (2, .ref (la 10)), (3, .ref (la 11)), (4, .ref (la 12)), (5, .int (nI ms)), (6, .int wh)] := hl
  have hn1 : cn 1 ≤ 4 := hV.n1
  have hn8 : cn 8 ≤ 3 := hV.n8
  have hn12 : cn 12 ≤ 24 := hV.n12
  have hn22 : cn 22 ≤ 4 := hV.n22
  have hn29 : cn 29 ≤ 8 := hV.n29
  refine lv_aload_n hx hb dL_feature_0 rfl (lv_at hl 0 rfl) ?_
  refine lv_iload hx hb dL_feature_1 (lv_at hl 5 rfl) ?_
  refine hk_callS 2 (As := [.ref (la 3), .int (nI ms)]) (rest := []) X K hAE hS hl.1 (c_L_claim E l H0 hL hV hI hm he1) (fun _ h => h.elim) gL_feature_L_claim rfl hd_L_claim rfl ⟨⟨(Nat.le_of_ble_eq_true rfl), (Nat.le_of_ble_eq_true rfl)⟩, (Nat.le_of_ble_eq_true rfl), (Nat.le_of_ble_eq_true rfl)⟩ rfl (Nat.le_of_ble_eq_true rfl) dL_feature_3 (fun v9 H1 locsH1 hp hS hzH1 hkH1 => ?_)
  obtain ⟨hv, hh⟩ := hp
  subst hv; subst hh
  refine lv_istore (lv' := [(7, .int (sp_clm (μ 3) (μ 4) e1 (cn 1) 0)), (0, .ref (la 3)), (1, .ref (la 5)), (2, .ref (la 10)), (3, .ref (la 11)), (4, .ref (la 12)), (5, .int (nI ms)), (6, .int wh)]) hx hb dL_feature_6 hl (by decide) rfl (fun ls hl => ?_)
  refine lv_iconst (v := (-1)) hx hb dL_feature_8 (by decide) ?_
  refine lv_istore (lv' := [(8, .int (-1)), (7, .int (sp_clm (μ 3) (μ 4) e1 (cn 1) 0)), (0, .ref (la 3)), (1, .ref (la 5)), (2, .ref (la 10)), (3, .ref (la 11)), (4, .ref (la 12)), (5, .int (nI ms)), (6, .int wh)]) hx hb dL_feature_9 hl (by decide) rfl (fun ls hl => ?_)
  refine lv_iconst (v := (-1)) hx hb dL_feature_11 (by decide) ?_
  refine lv_istore (lv' := [(9, .int (-1)), (8, .int (-1)), (7, .int (sp_clm (μ 3) (μ 4) e1 (cn 1) 0)), (0, .ref (la 3)), (1, .ref (la 5)), (2, .ref (la 10)), (3, .ref (la 11)), (4, .ref (la 12)), (5, .int (nI ms)), (6, .int wh)]) hx hb dL_feature_12 hl (by decide) rfl (fun ls hl => ?_)
  refine lv_aload_n hx hb dL_feature_14 rfl (lv_at hl 5 rfl) ?_
  refine lv_iconst (v := 2) hx hb dL_feature_15 (by decide) ?_
  refine hk_ild X K hL.c10 (show vp_in (nI 2) 6 from vp_in_nI (by decide) (by decide)) dL_feature_16 ?_
  rw [show (V 10) (2 : Int32).toNatClampNeg = nI (cn 12) from hV.g2]
  refine lv_iconst (v := 1) hx hb dL_feature_17 (by decide) ?_
  refine lv_isub hx hb dL_feature_18 ?_
  refine lv_istore (lv' := [(10, .int ((nI (cn 12)) - 1)), (9, .int (-1)), (8, .int (-1)), (7, .int (sp_clm (μ 3) (μ 4) e1 (cn 1) 0)), (0, .ref (la 3)), (1, .ref (la 5)), (2, .ref (la 10)), (3, .ref (la 11)), (4, .ref (la 12)), (5, .int (nI ms)), (6, .int wh)]) hx hb dL_feature_19 hl (by decide) rfl (fun ls hl => ?_)
  have L21 : ∀ (n9 : Nat) (j9 : Nat) (b9 f9 : Option Nat), j9 + 1 ≤ n9 → (j9 ≤ cn 12 ∧ exI (cn 12) (selp μ e1 (-1)) (V 11) (V 12) j9 b9 ∧ exI (cn 12) (selp μ e1 (-1)) (fun k => -1 - V 11 k) (V 12) j9 f9) → ∀ (locs21 : List Loc), va_S (fun _ => False) s.heap H0 locs21 → ∀ (ls : Array Slot), lv_has ls 11 [(8, .int (oI b9)), (9, .int (oI f9)), (10, .int (nI j9 - 1)), (7, .int (sp_clm (μ 3) (μ 4) e1 (cn 1) 0)), (0, .ref (la 3)), (1, .ref (la 5)), (2, .ref (la 10)), (3, .ref (la 11)), (4, .ref (la 12)), (5, .int (nI ms)), (6, .int wh)] → W p l e rmL_feature s m args below meth c H0 locs21 0 0 Q (F0 m 21 ls []) := by
    intro n9
    induction n9 with
    | zero =>
      intro j9 b9 f9 hm9 ⟨hj9, hb9, hf9⟩ locs21 hS ls hl
      exact absurd hm9 (by omega)
    | succ n9 ih =>
      intro j9 b9 f9 hm9 ⟨hj9, hb9, hf9⟩ locs21 hS ls hl
      refine lv_iload hx hb dL_feature_21 (lv_at hl 2 rfl) ?_
      refine lv_if_lt (tgt := 141) hx hb dL_feature_23 (by decide) (fun c_23 => ?_) (fun c_23 => ?_)
      · have hj0 : j9 = 0 := by
          cases j9 with
          | zero => rfl
          | succ j7 => rw [nI_pred] at c_23; exact absurd c_23 (nI_pos (by omega))
        rw [hj0] at hb9 hf9 hl
        obtain ⟨tb, rfl⟩ := exI_some hb9 (sel_has h0)
        obtain ⟨tf, rfl⟩ := exI_some hf9 (sel_has h0)
        have htb : tb < cn 12 := hb9.2.1
        have htf : tf < cn 12 := hf9.2.1
        have hl : lv_has ls 11 [(8, .int (nI tb)), (9, .int (nI tf)), (10, .int (nI 0 - 1)), (7, .int (sp_clm (μ 3) (μ 4) e1 (cn 1) 0)), (0, .ref (la 3)), (1, .ref (la 5)), (2, .ref (la 10)), (3, .ref (la 11)), (4, .ref (la 12)), (5, .int (nI ms)), (6, .int wh)] := hl
        refine lv_aload hx hb dL_feature_141 (lv_at hl 8 rfl) ?_
        refine lv_iload hx hb dL_feature_143 (lv_at hl 0 rfl) ?_
        refine hk_ild X K hL.c12 (vp_in_nI (by omega) (by omega)) dL_feature_145 ?_
        rw [show (V 12) (nI tb).toNatClampNeg = V 12 tb from by rw [nI_clamp (show tb < 2 ^ 31 by omega)]]
        refine lv_aload hx hb dL_feature_146 (lv_at hl 8 rfl) ?_
        refine lv_iload hx hb dL_feature_148 (lv_at hl 1 rfl) ?_
        refine hk_ild X K hL.c12 (vp_in_nI (by omega) (by omega)) dL_feature_150 ?_
        rw [show (V 12) (nI tf).toNatClampNeg = V 12 tf from by rw [nI_clamp (show tf < 2 ^ 31 by omega)]]
        refine lv_isub hx hb dL_feature_151 ?_
        refine lv_iload hx hb dL_feature_152 (lv_at hl 3 rfl) ?_
        refine lv_irem hx hb dL_feature_154 (fun h => by rw [h] at hc; exact Int32.lt_irrefl hc) ?_
        refine lv_topi (fun lt9 elt9 => ?_)
        refine lv_istore (lv' := [(10, .int lt9), (8, .int (nI tb)), (9, .int (nI tf)), (7, .int (sp_clm (μ 3) (μ 4) e1 (cn 1) 0)), (0, .ref (la 3)), (1, .ref (la 5)), (2, .ref (la 10)), (3, .ref (la 11)), (4, .ref (la 12)), (5, .int (nI ms)), (6, .int wh)]) hx hb dL_feature_155 hl (by decide) rfl (fun ls hl => ?_)
        refine lv_iload hx hb dL_feature_157 (lv_at hl 10 rfl) ?_
        refine lv_if_ne (tgt := 174) hx hb dL_feature_159 (by decide) (fun c_159 => ?_) (fun c_159 => ?_)
        · refine lv_iload hx hb dL_feature_174 (lv_at hl 10 rfl) ?_
          refine lv_iconst (v := 1) hx hb dL_feature_176 (by decide) ?_
          refine lv_icmp_ne (tgt := 185) hx hb dL_feature_177 (by decide) (fun c_177 => ?_) (fun c_177 => ?_)
          · refine lv_iload hx hb dL_feature_185 (lv_at hl 0 rfl) ?_
            refine lv_if_ge (tgt := 198) hx hb dL_feature_187 (by decide) (fun c_187 => ?_) (fun c_187 => ?_)
            · refine lv_iload hx hb dL_feature_198 (lv_at hl 0 rfl) ?_
              refine lv_bipush (v := 100) hx hb dL_feature_200 (by decide) ?_
              refine lv_imul hx hb dL_feature_202 ?_
              refine lv_iload hx hb dL_feature_203 (lv_at hl 3 rfl) ?_
              refine lv_idiv hx hb dL_feature_205 (fun h => by rw [h] at hc; exact Int32.lt_irrefl hc) ?_
              exact hk_iret X hr hlk hQ hS (Nat.le_of_ble_eq_true rfl) (Nat.le_of_ble_eq_true rfl) dL_feature_206 (⟨congrArg (fun v => some (Value.int v)) (by rw [← ft_eq9 hX hI.1 hb9 hf9 hw elt9, if_neg c_159, if_neg c_177, if_neg (Int32.not_lt.mpr c_187)]), rfl⟩)
            · refine lv_iload hx hb dL_feature_190 (lv_at hl 0 rfl) ?_
              refine lv_iload hx hb dL_feature_192 (lv_at hl 3 rfl) ?_
              refine lv_iadd hx hb dL_feature_194 ?_
              refine lv_goto (tgt := 200) hx hb dL_feature_195 (by decide) ?_
              refine lv_bipush (v := 100) hx hb dL_feature_200 (by decide) ?_
              refine lv_imul hx hb dL_feature_202 ?_
              refine lv_iload hx hb dL_feature_203 (lv_at hl 3 rfl) ?_
              refine lv_idiv hx hb dL_feature_205 (fun h => by rw [h] at hc; exact Int32.lt_irrefl hc) ?_
              exact hk_iret X hr hlk hQ hS (Nat.le_of_ble_eq_true rfl) (Nat.le_of_ble_eq_true rfl) dL_feature_206 (⟨congrArg (fun v => some (Value.int v)) (by rw [← ft_eq9 hX hI.1 hb9 hf9 hw elt9, if_neg c_159, if_neg c_177, if_pos (Int32.not_le.mp c_187)]), rfl⟩)
          · refine lv_iload hx hb dL_feature_180 (lv_at hl 3 rfl) ?_
            refine lv_goto (tgt := 206) hx hb dL_feature_182 (by decide) ?_
            exact hk_iret X hr hlk hQ hS (Nat.le_of_ble_eq_true rfl) (Nat.le_of_ble_eq_true rfl) dL_feature_206 (⟨congrArg (fun v => some (Value.int v)) (by rw [← ft_eq9 hX hI.1 hb9 hf9 hw elt9, if_neg c_159, if_pos (show wh = 1 from c_177)]), rfl⟩)
        · refine lv_aload_n hx hb dL_feature_162 rfl (lv_at hl 7 rfl) ?_
          refine lv_iload hx hb dL_feature_163 (lv_at hl 2 rfl) ?_
          refine hk_ild X K hL.c11 (vp_in_nI (by omega) (by omega)) dL_feature_165 ?_
          rw [show (V 11) (nI tf).toNatClampNeg = V 11 tf from by rw [nI_clamp (show tf < 2 ^ 31 by omega)]]
          refine lv_aload_n hx hb dL_feature_166 rfl (lv_at hl 7 rfl) ?_
          refine lv_iload hx hb dL_feature_167 (lv_at hl 1 rfl) ?_
          refine hk_ild X K hL.c11 (vp_in_nI (by omega) (by omega)) dL_feature_169 ?_
          rw [show (V 11) (nI tb).toNatClampNeg = V 11 tb from by rw [nI_clamp (show tb < 2 ^ 31 by omega)]]
          refine lv_isub hx hb dL_feature_170 ?_
          refine lv_goto (tgt := 206) hx hb dL_feature_171 (by decide) ?_
          exact hk_iret X hr hlk hQ hS (Nat.le_of_ble_eq_true rfl) (Nat.le_of_ble_eq_true rfl) dL_feature_206 (⟨congrArg (fun v => some (Value.int v)) (by rw [← ft_eq9 hX hI.1 hb9 hf9 hw elt9, if_pos (show wh = 0 from c_159)]), rfl⟩)
      · obtain ⟨j8, ej8⟩ : ∃ j8, j9 = j8 + 1 := by
          cases j9 with
          | zero => exact absurd (show nI 0 - 1 < 0 by decide) c_23
          | succ j7 => exact ⟨j7, rfl⟩
        subst ej8
        rw [nI_pred] at hl
        have hj8 : j8 < cn 12 := by omega
        refine lv_aload_n hx hb dL_feature_26 rfl (lv_at hl 5 rfl) ?_
        refine lv_iload hx hb dL_feature_27 (lv_at hl 9 rfl) ?_
        refine lv_iload hx hb dL_feature_29 (lv_at hl 2 rfl) ?_
        refine hk_callS 3 (As := [.ref (la 5), .int (nI ms), .int (nI j8)]) (rest := []) X K hAE hS hl.1 (c_L_isOf E l H0 hL hV hI hm (show j8 < cn 12 by omega)) (fun _ h => h.elim) gL_feature_L_isOf rfl hd_L_isOf rfl ⟨⟨(Nat.le_of_ble_eq_true rfl), (Nat.le_of_ble_eq_true rfl)⟩, (Nat.le_of_ble_eq_true rfl), (Nat.le_of_ble_eq_true rfl)⟩ rfl (Nat.le_of_ble_eq_true rfl) dL_feature_31 (fun v9 H2 locsH2 hp hS hzH2 hkH2 => ?_)
        obtain ⟨hv, hh⟩ := hp
        subst hh
        rcases hv with ⟨hv, c_31⟩ | ⟨hv, c_31⟩
        · subst hv
          refine lv_if_eq (tgt := 135) hx hb dL_feature_34 (by decide) (fun c_34 => ?_) (fun c_34 => ?_)
          · exact absurd c_34 (by decide)
          · rcases b9 with _ | tb
            · have hl : lv_has ls 11 [(8, .int (-1)), (9, .int (oI f9)), (10, .int (nI j8)), (7, .int (sp_clm (μ 3) (μ 4) e1 (cn 1) 0)), (0, .ref (la 3)), (1, .ref (la 5)), (2, .ref (la 10)), (3, .ref (la 11)), (4, .ref (la 12)), (5, .int (nI ms)), (6, .int wh)] := hl
              have J86 : ∀ (b8 : Option Nat), exI (cn 12) (selp μ e1 (-1)) (V 11) (V 12) j8 b8 → ∀ (locs86 : List Loc), va_S (fun _ => False) s.heap H0 locs86 → ∀ (ls : Array Slot), lv_has ls 11 [(8, .int (oI b8)), (9, .int (oI f9)), (10, .int (nI j8)), (7, .int (sp_clm (μ 3) (μ 4) e1 (cn 1) 0)), (0, .ref (la 3)), (1, .ref (la 5)), (2, .ref (la 10)), (3, .ref (la 11)), (4, .ref (la 12)), (5, .int (nI ms)), (6, .int wh)] → W p l e rmL_feature s m args below meth c H0 locs86 0 0 Q (F0 m 86 ls []) := by
                intro b8 hb8 locs86 hS ls hl
                rcases f9 with _ | tf
                · have hl : lv_has ls 11 [(8, .int (oI b8)), (9, .int (-1)), (10, .int (nI j8)), (7, .int (sp_clm (μ 3) (μ 4) e1 (cn 1) 0)), (0, .ref (la 3)), (1, .ref (la 5)), (2, .ref (la 10)), (3, .ref (la 11)), (4, .ref (la 12)), (5, .int (nI ms)), (6, .int wh)] := hl
                  refine lv_iload hx hb dL_feature_86 (lv_at hl 1 rfl) ?_
                  refine lv_if_lt (tgt := 126) hx hb dL_feature_88 (by decide) (fun c_88 => ?_) (fun c_88 => ?_)
                  · refine lv_iload hx hb dL_feature_126 (lv_at hl 2 rfl) ?_
                    refine lv_goto (tgt := 133) hx hb dL_feature_128 (by decide) ?_
                    refine lv_istore (lv' := [(9, .int (nI j8)), (8, .int (oI b8)), (10, .int (nI j8)), (7, .int (sp_clm (μ 3) (μ 4) e1 (cn 1) 0)), (0, .ref (la 3)), (1, .ref (la 5)), (2, .ref (la 10)), (3, .ref (la 11)), (4, .ref (la 12)), (5, .int (nI ms)), (6, .int wh)]) hx hb dL_feature_133 hl (by decide) rfl (fun ls hl => ?_)
                    obtain ⟨q135, eq135⟩ : ∃ y : Int32, y = (nI j8) + (-1) := ⟨_, rfl⟩
                    refine lv_iinc (v := q135) (lv' := [(10, .int q135), (9, .int (nI j8)), (8, .int (oI b8)), (7, .int (sp_clm (μ 3) (μ 4) e1 (cn 1) 0)), (0, .ref (la 3)), (1, .ref (la 5)), (2, .ref (la 10)), (3, .ref (la 11)), (4, .ref (la 12)), (5, .int (nI ms)), (6, .int wh)]) hx hb dL_feature_135 hl (k := 2) rfl (by rw [eq135]; rfl) (by decide) rfl (fun ls hl => ?_)
                    have eq9 : q135 = nI j8 - 1 := eq135.trans (add_m1 _)
                    clear eq135
                    subst eq9
                    refine lv_goto (tgt := 21) hx hb dL_feature_138 (by decide) ?_
                    exact ih j8 b8 (some j8) (by omega) ⟨by omega, hb8, exI_first hj8 hf9 c_31⟩ _ hS _ (lv_sub hl [2, 1, 0, 3, 4, 5, 6, 7, 8, 9, 10] rfl)
                  · exact absurd (by decide) c_88
                · have ht_tf : tf < cn 12 := hf9.2.1
                  have hl : lv_has ls 11 [(8, .int (oI b8)), (9, .int (nI tf)), (10, .int (nI j8)), (7, .int (sp_clm (μ 3) (μ 4) e1 (cn 1) 0)), (0, .ref (la 3)), (1, .ref (la 5)), (2, .ref (la 10)), (3, .ref (la 11)), (4, .ref (la 12)), (5, .int (nI ms)), (6, .int wh)] := hl
                  refine lv_iload hx hb dL_feature_86 (lv_at hl 1 rfl) ?_
                  refine lv_if_lt (tgt := 126) hx hb dL_feature_88 (by decide) (fun c_88 => ?_) (fun c_88 => ?_)
                  · exact absurd c_88 (nI_pos (by omega))
                  · refine lv_aload_n hx hb dL_feature_91 rfl (lv_at hl 7 rfl) ?_
                    refine lv_iload hx hb dL_feature_92 (lv_at hl 2 rfl) ?_
                    refine hk_ild X K hL.c11 (vp_in_nI (by omega) (by omega)) dL_feature_94 ?_
                    rw [show (V 11) (nI j8).toNatClampNeg = V 11 j8 from by rw [nI_clamp (show j8 < 2 ^ 31 by omega)]]
                    refine lv_aload_n hx hb dL_feature_95 rfl (lv_at hl 7 rfl) ?_
                    refine lv_iload hx hb dL_feature_96 (lv_at hl 1 rfl) ?_
                    refine hk_ild X K hL.c11 (vp_in_nI (by omega) (by omega)) dL_feature_98 ?_
                    rw [show (V 11) (nI tf).toNatClampNeg = V 11 tf from by rw [nI_clamp (show tf < 2 ^ 31 by omega)]]
                    refine lv_icmp_gt (tgt := 126) hx hb dL_feature_99 (by decide) (fun c_99 => ?_) (fun c_99 => ?_)
                    · refine lv_iload hx hb dL_feature_126 (lv_at hl 2 rfl) ?_
                      refine lv_goto (tgt := 133) hx hb dL_feature_128 (by decide) ?_
                      refine lv_istore (lv' := [(9, .int (nI j8)), (8, .int (oI b8)), (10, .int (nI j8)), (7, .int (sp_clm (μ 3) (μ 4) e1 (cn 1) 0)), (0, .ref (la 3)), (1, .ref (la 5)), (2, .ref (la 10)), (3, .ref (la 11)), (4, .ref (la 12)), (5, .int (nI ms)), (6, .int wh)]) hx hb dL_feature_133 hl (by decide) rfl (fun ls hl => ?_)
                      obtain ⟨q135, eq135⟩ : ∃ y : Int32, y = (nI j8) + (-1) := ⟨_, rfl⟩
                      refine lv_iinc (v := q135) (lv' := [(10, .int q135), (9, .int (nI j8)), (8, .int (oI b8)), (7, .int (sp_clm (μ 3) (μ 4) e1 (cn 1) 0)), (0, .ref (la 3)), (1, .ref (la 5)), (2, .ref (la 10)), (3, .ref (la 11)), (4, .ref (la 12)), (5, .int (nI ms)), (6, .int wh)]) hx hb dL_feature_135 hl (k := 2) rfl (by rw [eq135]; rfl) (by decide) rfl (fun ls hl => ?_)
                      have eq9 : q135 = nI j8 - 1 := eq135.trans (add_m1 _)
                      clear eq135
                      subst eq9
                      refine lv_goto (tgt := 21) hx hb dL_feature_138 (by decide) ?_
                      exact ih j8 b8 (some j8) (by omega) ⟨by omega, hb8, exI_new hj8 hf9 c_31 (Or.inl (neg_lt.mpr c_99))⟩ _ hS _ (lv_sub hl [2, 1, 0, 3, 4, 5, 6, 7, 8, 9, 10] rfl)
                    · refine lv_aload_n hx hb dL_feature_102 rfl (lv_at hl 7 rfl) ?_
                      refine lv_iload hx hb dL_feature_103 (lv_at hl 2 rfl) ?_
                      refine hk_ild X K hL.c11 (vp_in_nI (by omega) (by omega)) dL_feature_105 ?_
                      rw [show (V 11) (nI j8).toNatClampNeg = V 11 j8 from by rw [nI_clamp (show j8 < 2 ^ 31 by omega)]]
                      refine lv_aload_n hx hb dL_feature_106 rfl (lv_at hl 7 rfl) ?_
                      refine lv_iload hx hb dL_feature_107 (lv_at hl 1 rfl) ?_
                      refine hk_ild X K hL.c11 (vp_in_nI (by omega) (by omega)) dL_feature_109 ?_
                      rw [show (V 11) (nI tf).toNatClampNeg = V 11 tf from by rw [nI_clamp (show tf < 2 ^ 31 by omega)]]
                      refine lv_icmp_ne (tgt := 131) hx hb dL_feature_110 (by decide) (fun c_110 => ?_) (fun c_110 => ?_)
                      · refine lv_iload hx hb dL_feature_131 (lv_at hl 1 rfl) ?_
                        refine lv_istore (lv' := [(9, .int (nI tf)), (8, .int (oI b8)), (10, .int (nI j8)), (7, .int (sp_clm (μ 3) (μ 4) e1 (cn 1) 0)), (0, .ref (la 3)), (1, .ref (la 5)), (2, .ref (la 10)), (3, .ref (la 11)), (4, .ref (la 12)), (5, .int (nI ms)), (6, .int wh)]) hx hb dL_feature_133 hl (by decide) rfl (fun ls hl => ?_)
                        obtain ⟨q135, eq135⟩ : ∃ y : Int32, y = (nI j8) + (-1) := ⟨_, rfl⟩
                        refine lv_iinc (v := q135) (lv' := [(10, .int q135), (9, .int (nI tf)), (8, .int (oI b8)), (7, .int (sp_clm (μ 3) (μ 4) e1 (cn 1) 0)), (0, .ref (la 3)), (1, .ref (la 5)), (2, .ref (la 10)), (3, .ref (la 11)), (4, .ref (la 12)), (5, .int (nI ms)), (6, .int wh)]) hx hb dL_feature_135 hl (k := 2) rfl (by rw [eq135]; rfl) (by decide) rfl (fun ls hl => ?_)
                        have eq9 : q135 = nI j8 - 1 := eq135.trans (add_m1 _)
                        clear eq135
                        subst eq9
                        refine lv_goto (tgt := 21) hx hb dL_feature_138 (by decide) ?_
                        exact ih j8 b8 (some tf) (by omega) ⟨by omega, hb8, exI_old hf9 (fun g => c_99 (neg_lt.mp g)) (Or.inl (fun g => c_110 (neg_eq.mp g)))⟩ _ hS _ (lv_sub hl [2, 1, 0, 3, 4, 5, 6, 7, 8, 9, 10] rfl)
                      · refine lv_aload hx hb dL_feature_113 (lv_at hl 8 rfl) ?_
                        refine lv_iload hx hb dL_feature_115 (lv_at hl 2 rfl) ?_
                        refine hk_ild X K hL.c12 (vp_in_nI (by omega) (by omega)) dL_feature_117 ?_
                        rw [show (V 12) (nI j8).toNatClampNeg = V 12 j8 from by rw [nI_clamp (show j8 < 2 ^ 31 by omega)]]
                        refine lv_aload hx hb dL_feature_118 (lv_at hl 8 rfl) ?_
                        refine lv_iload hx hb dL_feature_120 (lv_at hl 1 rfl) ?_
                        refine hk_ild X K hL.c12 (vp_in_nI (by omega) (by omega)) dL_feature_122 ?_
                        rw [show (V 12) (nI tf).toNatClampNeg = V 12 tf from by rw [nI_clamp (show tf < 2 ^ 31 by omega)]]
                        refine lv_icmp_gt (tgt := 131) hx hb dL_feature_123 (by decide) (fun c_123 => ?_) (fun c_123 => ?_)
                        · refine lv_iload hx hb dL_feature_131 (lv_at hl 1 rfl) ?_
                          refine lv_istore (lv' := [(9, .int (nI tf)), (8, .int (oI b8)), (10, .int (nI j8)), (7, .int (sp_clm (μ 3) (μ 4) e1 (cn 1) 0)), (0, .ref (la 3)), (1, .ref (la 5)), (2, .ref (la 10)), (3, .ref (la 11)), (4, .ref (la 12)), (5, .int (nI ms)), (6, .int wh)]) hx hb dL_feature_133 hl (by decide) rfl (fun ls hl => ?_)
                          obtain ⟨q135, eq135⟩ : ∃ y : Int32, y = (nI j8) + (-1) := ⟨_, rfl⟩
                          refine lv_iinc (v := q135) (lv' := [(10, .int q135), (9, .int (nI tf)), (8, .int (oI b8)), (7, .int (sp_clm (μ 3) (μ 4) e1 (cn 1) 0)), (0, .ref (la 3)), (1, .ref (la 5)), (2, .ref (la 10)), (3, .ref (la 11)), (4, .ref (la 12)), (5, .int (nI ms)), (6, .int wh)]) hx hb dL_feature_135 hl (k := 2) rfl (by rw [eq135]; rfl) (by decide) rfl (fun ls hl => ?_)
                          have eq9 : q135 = nI j8 - 1 := eq135.trans (add_m1 _)
                          clear eq135
                          subst eq9
                          refine lv_goto (tgt := 21) hx hb dL_feature_138 (by decide) ?_
                          exact ih j8 b8 (some tf) (by omega) ⟨by omega, hb8, exI_old hf9 (fun g => c_99 (neg_lt.mp g)) (Or.inr (Int32.not_le.mpr c_123))⟩ _ hS _ (lv_sub hl [2, 1, 0, 3, 4, 5, 6, 7, 8, 9, 10] rfl)
                        · refine lv_iload hx hb dL_feature_126 (lv_at hl 2 rfl) ?_
                          refine lv_goto (tgt := 133) hx hb dL_feature_128 (by decide) ?_
                          refine lv_istore (lv' := [(9, .int (nI j8)), (8, .int (oI b8)), (10, .int (nI j8)), (7, .int (sp_clm (μ 3) (μ 4) e1 (cn 1) 0)), (0, .ref (la 3)), (1, .ref (la 5)), (2, .ref (la 10)), (3, .ref (la 11)), (4, .ref (la 12)), (5, .int (nI ms)), (6, .int wh)]) hx hb dL_feature_133 hl (by decide) rfl (fun ls hl => ?_)
                          obtain ⟨q135, eq135⟩ : ∃ y : Int32, y = (nI j8) + (-1) := ⟨_, rfl⟩
                          refine lv_iinc (v := q135) (lv' := [(10, .int q135), (9, .int (nI j8)), (8, .int (oI b8)), (7, .int (sp_clm (μ 3) (μ 4) e1 (cn 1) 0)), (0, .ref (la 3)), (1, .ref (la 5)), (2, .ref (la 10)), (3, .ref (la 11)), (4, .ref (la 12)), (5, .int (nI ms)), (6, .int wh)]) hx hb dL_feature_135 hl (k := 2) rfl (by rw [eq135]; rfl) (by decide) rfl (fun ls hl => ?_)
                          have eq9 : q135 = nI j8 - 1 := eq135.trans (add_m1 _)
                          clear eq135
                          subst eq9
                          refine lv_goto (tgt := 21) hx hb dL_feature_138 (by decide) ?_
                          exact ih j8 b8 (some j8) (by omega) ⟨by omega, hb8, exI_new hj8 hf9 c_31 (Or.inr ⟨neg_eq.mpr c_110, Int32.not_lt.mp c_123⟩)⟩ _ hS _ (lv_sub hl [2, 1, 0, 3, 4, 5, 6, 7, 8, 9, 10] rfl)
              refine lv_iload hx hb dL_feature_37 (lv_at hl 0 rfl) ?_
              refine lv_if_lt (tgt := 77) hx hb dL_feature_39 (by decide) (fun c_39 => ?_) (fun c_39 => ?_)
              · refine lv_iload hx hb dL_feature_77 (lv_at hl 2 rfl) ?_
                refine lv_goto (tgt := 84) hx hb dL_feature_79 (by decide) ?_
                refine lv_istore (lv' := [(8, .int (nI j8)), (9, .int (oI f9)), (10, .int (nI j8)), (7, .int (sp_clm (μ 3) (μ 4) e1 (cn 1) 0)), (0, .ref (la 3)), (1, .ref (la 5)), (2, .ref (la 10)), (3, .ref (la 11)), (4, .ref (la 12)), (5, .int (nI ms)), (6, .int wh)]) hx hb dL_feature_84 hl (by decide) rfl (fun ls hl => ?_)
                exact J86 (some j8) (exI_first hj8 hb9 c_31) _ hS _ (lv_sub hl [0, 1, 2, 3, 4, 5, 6, 7, 8, 9, 10] rfl)
              · exact absurd (by decide) c_39
            · have ht_tb : tb < cn 12 := hb9.2.1
              have hl : lv_has ls 11 [(8, .int (nI tb)), (9, .int (oI f9)), (10, .int (nI j8)), (7, .int (sp_clm (μ 3) (μ 4) e1 (cn 1) 0)), (0, .ref (la 3)), (1, .ref (la 5)), (2, .ref (la 10)), (3, .ref (la 11)), (4, .ref (la 12)), (5, .int (nI ms)), (6, .int wh)] := hl
              have J86 : ∀ (b8 : Option Nat), exI (cn 12) (selp μ e1 (-1)) (V 11) (V 12) j8 b8 → ∀ (locs86 : List Loc), va_S (fun _ => False) s.heap H0 locs86 → ∀ (ls : Array Slot), lv_has ls 11 [(8, .int (oI b8)), (9, .int (oI f9)), (10, .int (nI j8)), (7, .int (sp_clm (μ 3) (μ 4) e1 (cn 1) 0)), (0, .ref (la 3)), (1, .ref (la 5)), (2, .ref (la 10)), (3, .ref (la 11)), (4, .ref (la 12)), (5, .int (nI ms)), (6, .int wh)] → W p l e rmL_feature s m args below meth c H0 locs86 0 0 Q (F0 m 86 ls []) := by
                intro b8 hb8 locs86 hS ls hl
                rcases f9 with _ | tf
                · have hl : lv_has ls 11 [(8, .int (oI b8)), (9, .int (-1)), (10, .int (nI j8)), (7, .int (sp_clm (μ 3) (μ 4) e1 (cn 1) 0)), (0, .ref (la 3)), (1, .ref (la 5)), (2, .ref (la 10)), (3, .ref (la 11)), (4, .ref (la 12)), (5, .int (nI ms)), (6, .int wh)] := hl
                  refine lv_iload hx hb dL_feature_86 (lv_at hl 1 rfl) ?_
                  refine lv_if_lt (tgt := 126) hx hb dL_feature_88 (by decide) (fun c_88 => ?_) (fun c_88 => ?_)
                  · refine lv_iload hx hb dL_feature_126 (lv_at hl 2 rfl) ?_
                    refine lv_goto (tgt := 133) hx hb dL_feature_128 (by decide) ?_
                    refine lv_istore (lv' := [(9, .int (nI j8)), (8, .int (oI b8)), (10, .int (nI j8)), (7, .int (sp_clm (μ 3) (μ 4) e1 (cn 1) 0)), (0, .ref (la 3)), (1, .ref (la 5)), (2, .ref (la 10)), (3, .ref (la 11)), (4, .ref (la 12)), (5, .int (nI ms)), (6, .int wh)]) hx hb dL_feature_133 hl (by decide) rfl (fun ls hl => ?_)
                    obtain ⟨q135, eq135⟩ : ∃ y : Int32, y = (nI j8) + (-1) := ⟨_, rfl⟩
                    refine lv_iinc (v := q135) (lv' := [(10, .int q135), (9, .int (nI j8)), (8, .int (oI b8)), (7, .int (sp_clm (μ 3) (μ 4) e1 (cn 1) 0)), (0, .ref (la 3)), (1, .ref (la 5)), (2, .ref (la 10)), (3, .ref (la 11)), (4, .ref (la 12)), (5, .int (nI ms)), (6, .int wh)]) hx hb dL_feature_135 hl (k := 2) rfl (by rw [eq135]; rfl) (by decide) rfl (fun ls hl => ?_)
                    have eq9 : q135 = nI j8 - 1 := eq135.trans (add_m1 _)
                    clear eq135
                    subst eq9
                    refine lv_goto (tgt := 21) hx hb dL_feature_138 (by decide) ?_
                    exact ih j8 b8 (some j8) (by omega) ⟨by omega, hb8, exI_first hj8 hf9 c_31⟩ _ hS _ (lv_sub hl [2, 1, 0, 3, 4, 5, 6, 7, 8, 9, 10] rfl)
                  · exact absurd (by decide) c_88
                · have ht_tf : tf < cn 12 := hf9.2.1
                  have hl : lv_has ls 11 [(8, .int (oI b8)), (9, .int (nI tf)), (10, .int (nI j8)), (7, .int (sp_clm (μ 3) (μ 4) e1 (cn 1) 0)), (0, .ref (la 3)), (1, .ref (la 5)), (2, .ref (la 10)), (3, .ref (la 11)), (4, .ref (la 12)), (5, .int (nI ms)), (6, .int wh)] := hl
                  refine lv_iload hx hb dL_feature_86 (lv_at hl 1 rfl) ?_
                  refine lv_if_lt (tgt := 126) hx hb dL_feature_88 (by decide) (fun c_88 => ?_) (fun c_88 => ?_)
                  · exact absurd c_88 (nI_pos (by omega))
                  · refine lv_aload_n hx hb dL_feature_91 rfl (lv_at hl 7 rfl) ?_
                    refine lv_iload hx hb dL_feature_92 (lv_at hl 2 rfl) ?_
                    refine hk_ild X K hL.c11 (vp_in_nI (by omega) (by omega)) dL_feature_94 ?_
                    rw [show (V 11) (nI j8).toNatClampNeg = V 11 j8 from by rw [nI_clamp (show j8 < 2 ^ 31 by omega)]]
                    refine lv_aload_n hx hb dL_feature_95 rfl (lv_at hl 7 rfl) ?_
                    refine lv_iload hx hb dL_feature_96 (lv_at hl 1 rfl) ?_
                    refine hk_ild X K hL.c11 (vp_in_nI (by omega) (by omega)) dL_feature_98 ?_
                    rw [show (V 11) (nI tf).toNatClampNeg = V 11 tf from by rw [nI_clamp (show tf < 2 ^ 31 by omega)]]
                    refine lv_icmp_gt (tgt := 126) hx hb dL_feature_99 (by decide) (fun c_99 => ?_) (fun c_99 => ?_)
                    · refine lv_iload hx hb dL_feature_126 (lv_at hl 2 rfl) ?_
                      refine lv_goto (tgt := 133) hx hb dL_feature_128 (by decide) ?_
                      refine lv_istore (lv' := [(9, .int (nI j8)), (8, .int (oI b8)), (10, .int (nI j8)), (7, .int (sp_clm (μ 3) (μ 4) e1 (cn 1) 0)), (0, .ref (la 3)), (1, .ref (la 5)), (2, .ref (la 10)), (3, .ref (la 11)), (4, .ref (la 12)), (5, .int (nI ms)), (6, .int wh)]) hx hb dL_feature_133 hl (by decide) rfl (fun ls hl => ?_)
                      obtain ⟨q135, eq135⟩ : ∃ y : Int32, y = (nI j8) + (-1) := ⟨_, rfl⟩
                      refine lv_iinc (v := q135) (lv' := [(10, .int q135), (9, .int (nI j8)), (8, .int (oI b8)), (7, .int (sp_clm (μ 3) (μ 4) e1 (cn 1) 0)), (0, .ref (la 3)), (1, .ref (la 5)), (2, .ref (la 10)), (3, .ref (la 11)), (4, .ref (la 12)), (5, .int (nI ms)), (6, .int wh)]) hx hb dL_feature_135 hl (k := 2) rfl (by rw [eq135]; rfl) (by decide) rfl (fun ls hl => ?_)
                      have eq9 : q135 = nI j8 - 1 := eq135.trans (add_m1 _)
                      clear eq135
                      subst eq9
                      refine lv_goto (tgt := 21) hx hb dL_feature_138 (by decide) ?_
                      exact ih j8 b8 (some j8) (by omega) ⟨by omega, hb8, exI_new hj8 hf9 c_31 (Or.inl (neg_lt.mpr c_99))⟩ _ hS _ (lv_sub hl [2, 1, 0, 3, 4, 5, 6, 7, 8, 9, 10] rfl)
                    · refine lv_aload_n hx hb dL_feature_102 rfl (lv_at hl 7 rfl) ?_
                      refine lv_iload hx hb dL_feature_103 (lv_at hl 2 rfl) ?_
                      refine hk_ild X K hL.c11 (vp_in_nI (by omega) (by omega)) dL_feature_105 ?_
                      rw [show (V 11) (nI j8).toNatClampNeg = V 11 j8 from by rw [nI_clamp (show j8 < 2 ^ 31 by omega)]]
                      refine lv_aload_n hx hb dL_feature_106 rfl (lv_at hl 7 rfl) ?_
                      refine lv_iload hx hb dL_feature_107 (lv_at hl 1 rfl) ?_
                      refine hk_ild X K hL.c11 (vp_in_nI (by omega) (by omega)) dL_feature_109 ?_
                      rw [show (V 11) (nI tf).toNatClampNeg = V 11 tf from by rw [nI_clamp (show tf < 2 ^ 31 by omega)]]
                      refine lv_icmp_ne (tgt := 131) hx hb dL_feature_110 (by decide) (fun c_110 => ?_) (fun c_110 => ?_)
                      · refine lv_iload hx hb dL_feature_131 (lv_at hl 1 rfl) ?_
                        refine lv_istore (lv' := [(9, .int (nI tf)), (8, .int (oI b8)), (10, .int (nI j8)), (7, .int (sp_clm (μ 3) (μ 4) e1 (cn 1) 0)), (0, .ref (la 3)), (1, .ref (la 5)), (2, .ref (la 10)), (3, .ref (la 11)), (4, .ref (la 12)), (5, .int (nI ms)), (6, .int wh)]) hx hb dL_feature_133 hl (by decide) rfl (fun ls hl => ?_)
                        obtain ⟨q135, eq135⟩ : ∃ y : Int32, y = (nI j8) + (-1) := ⟨_, rfl⟩
                        refine lv_iinc (v := q135) (lv' := [(10, .int q135), (9, .int (nI tf)), (8, .int (oI b8)), (7, .int (sp_clm (μ 3) (μ 4) e1 (cn 1) 0)), (0, .ref (la 3)), (1, .ref (la 5)), (2, .ref (la 10)), (3, .ref (la 11)), (4, .ref (la 12)), (5, .int (nI ms)), (6, .int wh)]) hx hb dL_feature_135 hl (k := 2) rfl (by rw [eq135]; rfl) (by decide) rfl (fun ls hl => ?_)
                        have eq9 : q135 = nI j8 - 1 := eq135.trans (add_m1 _)
                        clear eq135
                        subst eq9
                        refine lv_goto (tgt := 21) hx hb dL_feature_138 (by decide) ?_
                        exact ih j8 b8 (some tf) (by omega) ⟨by omega, hb8, exI_old hf9 (fun g => c_99 (neg_lt.mp g)) (Or.inl (fun g => c_110 (neg_eq.mp g)))⟩ _ hS _ (lv_sub hl [2, 1, 0, 3, 4, 5, 6, 7, 8, 9, 10] rfl)
                      · refine lv_aload hx hb dL_feature_113 (lv_at hl 8 rfl) ?_
                        refine lv_iload hx hb dL_feature_115 (lv_at hl 2 rfl) ?_
                        refine hk_ild X K hL.c12 (vp_in_nI (by omega) (by omega)) dL_feature_117 ?_
                        rw [show (V 12) (nI j8).toNatClampNeg = V 12 j8 from by rw [nI_clamp (show j8 < 2 ^ 31 by omega)]]
                        refine lv_aload hx hb dL_feature_118 (lv_at hl 8 rfl) ?_
                        refine lv_iload hx hb dL_feature_120 (lv_at hl 1 rfl) ?_
                        refine hk_ild X K hL.c12 (vp_in_nI (by omega) (by omega)) dL_feature_122 ?_
                        rw [show (V 12) (nI tf).toNatClampNeg = V 12 tf from by rw [nI_clamp (show tf < 2 ^ 31 by omega)]]
                        refine lv_icmp_gt (tgt := 131) hx hb dL_feature_123 (by decide) (fun c_123 => ?_) (fun c_123 => ?_)
                        · refine lv_iload hx hb dL_feature_131 (lv_at hl 1 rfl) ?_
                          refine lv_istore (lv' := [(9, .int (nI tf)), (8, .int (oI b8)), (10, .int (nI j8)), (7, .int (sp_clm (μ 3) (μ 4) e1 (cn 1) 0)), (0, .ref (la 3)), (1, .ref (la 5)), (2, .ref (la 10)), (3, .ref (la 11)), (4, .ref (la 12)), (5, .int (nI ms)), (6, .int wh)]) hx hb dL_feature_133 hl (by decide) rfl (fun ls hl => ?_)
                          obtain ⟨q135, eq135⟩ : ∃ y : Int32, y = (nI j8) + (-1) := ⟨_, rfl⟩
                          refine lv_iinc (v := q135) (lv' := [(10, .int q135), (9, .int (nI tf)), (8, .int (oI b8)), (7, .int (sp_clm (μ 3) (μ 4) e1 (cn 1) 0)), (0, .ref (la 3)), (1, .ref (la 5)), (2, .ref (la 10)), (3, .ref (la 11)), (4, .ref (la 12)), (5, .int (nI ms)), (6, .int wh)]) hx hb dL_feature_135 hl (k := 2) rfl (by rw [eq135]; rfl) (by decide) rfl (fun ls hl => ?_)
                          have eq9 : q135 = nI j8 - 1 := eq135.trans (add_m1 _)
                          clear eq135
                          subst eq9
                          refine lv_goto (tgt := 21) hx hb dL_feature_138 (by decide) ?_
                          exact ih j8 b8 (some tf) (by omega) ⟨by omega, hb8, exI_old hf9 (fun g => c_99 (neg_lt.mp g)) (Or.inr (Int32.not_le.mpr c_123))⟩ _ hS _ (lv_sub hl [2, 1, 0, 3, 4, 5, 6, 7, 8, 9, 10] rfl)
                        · refine lv_iload hx hb dL_feature_126 (lv_at hl 2 rfl) ?_
                          refine lv_goto (tgt := 133) hx hb dL_feature_128 (by decide) ?_
                          refine lv_istore (lv' := [(9, .int (nI j8)), (8, .int (oI b8)), (10, .int (nI j8)), (7, .int (sp_clm (μ 3) (μ 4) e1 (cn 1) 0)), (0, .ref (la 3)), (1, .ref (la 5)), (2, .ref (la 10)), (3, .ref (la 11)), (4, .ref (la 12)), (5, .int (nI ms)), (6, .int wh)]) hx hb dL_feature_133 hl (by decide) rfl (fun ls hl => ?_)
                          obtain ⟨q135, eq135⟩ : ∃ y : Int32, y = (nI j8) + (-1) := ⟨_, rfl⟩
                          refine lv_iinc (v := q135) (lv' := [(10, .int q135), (9, .int (nI j8)), (8, .int (oI b8)), (7, .int (sp_clm (μ 3) (μ 4) e1 (cn 1) 0)), (0, .ref (la 3)), (1, .ref (la 5)), (2, .ref (la 10)), (3, .ref (la 11)), (4, .ref (la 12)), (5, .int (nI ms)), (6, .int wh)]) hx hb dL_feature_135 hl (k := 2) rfl (by rw [eq135]; rfl) (by decide) rfl (fun ls hl => ?_)
                          have eq9 : q135 = nI j8 - 1 := eq135.trans (add_m1 _)
                          clear eq135
                          subst eq9
                          refine lv_goto (tgt := 21) hx hb dL_feature_138 (by decide) ?_
                          exact ih j8 b8 (some j8) (by omega) ⟨by omega, hb8, exI_new hj8 hf9 c_31 (Or.inr ⟨neg_eq.mpr c_110, Int32.not_lt.mp c_123⟩)⟩ _ hS _ (lv_sub hl [2, 1, 0, 3, 4, 5, 6, 7, 8, 9, 10] rfl)
              refine lv_iload hx hb dL_feature_37 (lv_at hl 0 rfl) ?_
              refine lv_if_lt (tgt := 77) hx hb dL_feature_39 (by decide) (fun c_39 => ?_) (fun c_39 => ?_)
              · exact absurd c_39 (nI_pos (by omega))
              · refine lv_aload_n hx hb dL_feature_42 rfl (lv_at hl 7 rfl) ?_
                refine lv_iload hx hb dL_feature_43 (lv_at hl 2 rfl) ?_
                refine hk_ild X K hL.c11 (vp_in_nI (by omega) (by omega)) dL_feature_45 ?_
                rw [show (V 11) (nI j8).toNatClampNeg = V 11 j8 from by rw [nI_clamp (show j8 < 2 ^ 31 by omega)]]
                refine lv_aload_n hx hb dL_feature_46 rfl (lv_at hl 7 rfl) ?_
                refine lv_iload hx hb dL_feature_47 (lv_at hl 0 rfl) ?_
                refine hk_ild X K hL.c11 (vp_in_nI (by omega) (by omega)) dL_feature_49 ?_
                rw [show (V 11) (nI tb).toNatClampNeg = V 11 tb from by rw [nI_clamp (show tb < 2 ^ 31 by omega)]]
                refine lv_icmp_lt (tgt := 77) hx hb dL_feature_50 (by decide) (fun c_50 => ?_) (fun c_50 => ?_)
                · refine lv_iload hx hb dL_feature_77 (lv_at hl 2 rfl) ?_
                  refine lv_goto (tgt := 84) hx hb dL_feature_79 (by decide) ?_
                  refine lv_istore (lv' := [(8, .int (nI j8)), (9, .int (oI f9)), (10, .int (nI j8)), (7, .int (sp_clm (μ 3) (μ 4) e1 (cn 1) 0)), (0, .ref (la 3)), (1, .ref (la 5)), (2, .ref (la 10)), (3, .ref (la 11)), (4, .ref (la 12)), (5, .int (nI ms)), (6, .int wh)]) hx hb dL_feature_84 hl (by decide) rfl (fun ls hl => ?_)
                  exact J86 (some j8) (exI_new hj8 hb9 c_31 (Or.inl c_50)) _ hS _ (lv_sub hl [0, 1, 2, 3, 4, 5, 6, 7, 8, 9, 10] rfl)
                · refine lv_aload_n hx hb dL_feature_53 rfl (lv_at hl 7 rfl) ?_
                  refine lv_iload hx hb dL_feature_54 (lv_at hl 2 rfl) ?_
                  refine hk_ild X K hL.c11 (vp_in_nI (by omega) (by omega)) dL_feature_56 ?_
                  rw [show (V 11) (nI j8).toNatClampNeg = V 11 j8 from by rw [nI_clamp (show j8 < 2 ^ 31 by omega)]]
                  refine lv_aload_n hx hb dL_feature_57 rfl (lv_at hl 7 rfl) ?_
                  refine lv_iload hx hb dL_feature_58 (lv_at hl 0 rfl) ?_
                  refine hk_ild X K hL.c11 (vp_in_nI (by omega) (by omega)) dL_feature_60 ?_
                  rw [show (V 11) (nI tb).toNatClampNeg = V 11 tb from by rw [nI_clamp (show tb < 2 ^ 31 by omega)]]
                  refine lv_icmp_ne (tgt := 82) hx hb dL_feature_61 (by decide) (fun c_61 => ?_) (fun c_61 => ?_)
                  · refine lv_iload hx hb dL_feature_82 (lv_at hl 0 rfl) ?_
                    refine lv_istore (lv' := [(8, .int (nI tb)), (9, .int (oI f9)), (10, .int (nI j8)), (7, .int (sp_clm (μ 3) (μ 4) e1 (cn 1) 0)), (0, .ref (la 3)), (1, .ref (la 5)), (2, .ref (la 10)), (3, .ref (la 11)), (4, .ref (la 12)), (5, .int (nI ms)), (6, .int wh)]) hx hb dL_feature_84 hl (by decide) rfl (fun ls hl => ?_)
                    exact J86 (some tb) (exI_old hb9 c_50 (Or.inl c_61)) _ hS _ (lv_sub hl [0, 1, 2, 3, 4, 5, 6, 7, 8, 9, 10] rfl)
                  · refine lv_aload hx hb dL_feature_64 (lv_at hl 8 rfl) ?_
                    refine lv_iload hx hb dL_feature_66 (lv_at hl 2 rfl) ?_
                    refine hk_ild X K hL.c12 (vp_in_nI (by omega) (by omega)) dL_feature_68 ?_
                    rw [show (V 12) (nI j8).toNatClampNeg = V 12 j8 from by rw [nI_clamp (show j8 < 2 ^ 31 by omega)]]
                    refine lv_aload hx hb dL_feature_69 (lv_at hl 8 rfl) ?_
                    refine lv_iload hx hb dL_feature_71 (lv_at hl 0 rfl) ?_
                    refine hk_ild X K hL.c12 (vp_in_nI (by omega) (by omega)) dL_feature_73 ?_
                    rw [show (V 12) (nI tb).toNatClampNeg = V 12 tb from by rw [nI_clamp (show tb < 2 ^ 31 by omega)]]
                    refine lv_icmp_gt (tgt := 82) hx hb dL_feature_74 (by decide) (fun c_74 => ?_) (fun c_74 => ?_)
                    · refine lv_iload hx hb dL_feature_82 (lv_at hl 0 rfl) ?_
                      refine lv_istore (lv' := [(8, .int (nI tb)), (9, .int (oI f9)), (10, .int (nI j8)), (7, .int (sp_clm (μ 3) (μ 4) e1 (cn 1) 0)), (0, .ref (la 3)), (1, .ref (la 5)), (2, .ref (la 10)), (3, .ref (la 11)), (4, .ref (la 12)), (5, .int (nI ms)), (6, .int wh)]) hx hb dL_feature_84 hl (by decide) rfl (fun ls hl => ?_)
                      exact J86 (some tb) (exI_old hb9 c_50 (Or.inr (Int32.not_le.mpr c_74))) _ hS _ (lv_sub hl [0, 1, 2, 3, 4, 5, 6, 7, 8, 9, 10] rfl)
                    · refine lv_iload hx hb dL_feature_77 (lv_at hl 2 rfl) ?_
                      refine lv_goto (tgt := 84) hx hb dL_feature_79 (by decide) ?_
                      refine lv_istore (lv' := [(8, .int (nI j8)), (9, .int (oI f9)), (10, .int (nI j8)), (7, .int (sp_clm (μ 3) (μ 4) e1 (cn 1) 0)), (0, .ref (la 3)), (1, .ref (la 5)), (2, .ref (la 10)), (3, .ref (la 11)), (4, .ref (la 12)), (5, .int (nI ms)), (6, .int wh)]) hx hb dL_feature_84 hl (by decide) rfl (fun ls hl => ?_)
                      exact J86 (some j8) (exI_new hj8 hb9 c_31 (Or.inr ⟨c_61, Int32.not_lt.mp c_74⟩)) _ hS _ (lv_sub hl [0, 1, 2, 3, 4, 5, 6, 7, 8, 9, 10] rfl)
        · subst hv
          refine lv_if_eq (tgt := 135) hx hb dL_feature_34 (by decide) (fun c_34 => ?_) (fun c_34 => ?_)
          · obtain ⟨q135, eq135⟩ : ∃ y : Int32, y = (nI j8) + (-1) := ⟨_, rfl⟩
            refine lv_iinc (v := q135) (lv' := [(10, .int q135), (8, .int (oI b9)), (9, .int (oI f9)), (7, .int (sp_clm (μ 3) (μ 4) e1 (cn 1) 0)), (0, .ref (la 3)), (1, .ref (la 5)), (2, .ref (la 10)), (3, .ref (la 11)), (4, .ref (la 12)), (5, .int (nI ms)), (6, .int wh)]) hx hb dL_feature_135 hl (k := 2) rfl (by rw [eq135]; rfl) (by decide) rfl (fun ls hl => ?_)
            have eq9 : q135 = nI j8 - 1 := eq135.trans (add_m1 _)
            clear eq135
            subst eq9
            refine lv_goto (tgt := 21) hx hb dL_feature_138 (by decide) ?_
            exact ih j8 b9 f9 (by omega) ⟨by omega, exI_no hb9 c_31, exI_no hf9 c_31⟩ _ hS _ (lv_sub hl [1, 2, 0, 3, 4, 5, 6, 7, 8, 9, 10] rfl)
          · exact absurd (by decide) c_34
  exact L21 (cn 12 + 1) (cn 12) none none (by omega) ⟨by omega, exI_0, exI_0⟩ _ hS _ (lv_sub hl [2, 1, 0, 3, 4, 5, 6, 7, 8, 9, 10] rfl)

theorem vt_y {μ : Nat → Nat → Int32} {F : Int32 → Int32} {kd : Int32} {i : Nat} {a : Int32} (h : μ 23 i = kd ∧ μ 28 i = 0 ∧ inr (F (μ 24 i)) (μ 25 i) (μ 26 i)) (ha : a = μ 27 i) : sp_vt μ F kd i + a = sp_vt μ F kd (i + 1) := by rw [sp_vt, if_pos h, ha]
theorem vt_n {μ : Nat → Nat → Int32} {F : Int32 → Int32} {kd : Int32} {i : Nat} (h : ¬ (μ 23 i = kd ∧ μ 28 i = 0 ∧ inr (F (μ 24 i)) (μ 25 i) (μ 26 i))) : sp_vt μ F kd i + 0 = sp_vt μ F kd (i + 1) := by rw [sp_vt, if_neg h]
theorem hd_L_feature : yL_feature.cls ≠ "java/lang/invoke/MethodHandle" ∧ yL_feature.cls ≠ "java/lang/invoke/VarHandle" ∧ (parseMethodDescriptor yL_feature.desc).map (fun d => d.parameters.length) = some 7 := ⟨by decide, by decide, by decide +kernel⟩
abbrev rmL_votes : Room := { frames := 2, cells := 0, slots := 0, locals := 53 }
set_option maxHeartbeats 4000000 in
set_option maxRecDepth 100000 in
theorem c_L_votes (E : hk_E) (l : Launch) (H0 : Heap) {la : Nat → Nat} {V : Nat → Nat → Int32} (hL : LW E la V H0) {cn : Nat → Nat} {sc : Nat → Int32} {μ : Nat → Nat → Int32} (hV : LV (cn, sc, μ) V) (hI : InvF (cn, sc, μ)) (hX : LXY (cn, sc, μ) V) {ms : Nat} {e1 : Int32} (hm : mskR (cn 1) (μ 3) ms e1 (-1)) (he1 : 0 ≤ e1) (h0 : 0 < (sp_sel μ e1 (-1) (cn 12)).length) (hc : 0 < sp_clm (μ 3) (μ 4) e1 (cn 1) 0) {kd : Int32} : hk_M E l yL_votes wsL_votes rmL_votes (fun _ => False) [.ref (la 3), .ref (la 5), .ref (la 8), .ref (la 10), .ref (la 11), .ref (la 12), .int (nI ms), .int kd] H0 (fun z H1 => z = some (.int (sp_vt μ (fun w => sp_ft μ (sp_sel μ e1 (-1) (cn 12)) (sp_clm (μ 3) (μ 4) e1 (cn 1) 0) w) kd (cn 22))) ∧ H0 = H1) := by
  refine hk_M.ofW (cc := cL_votes) (maxL := 11) (ret := (some .int)) (by decide +kernel) rfl (Nat.le_of_ble_eq_true rfl) ?_
  intro p e s m args below meth c ls Q hQ X hr hlk hnm K hs9 hS hl
  obtain ⟨hx, hb, hml, hown, hts⟩ := id X
  have hAE : ∀ q, (fun _ => False) q → hk_A E q := fun _ h => h.elim
  have hl : lv_has ls 11 [(0, .ref (la 3)), (1, .ref (la 5)), (2, .ref (la 8)), (3, .ref (la 10)), (4, .ref (la 11)), (5, .ref (la 12)), (6, .int (nI ms)), (7, .int kd)] := hl
  have hn1 : cn 1 ≤ 4 := hV.n1
  have hn8 : cn 8 ≤ 3 := hV.n8
  have hn12 : cn 12 ≤ 24 := hV.n12
  have hn22 : cn 22 ≤ 4 := hV.n22
  have hn29 : cn 29 ≤ 8 := hV.n29
  refine lv_iconst (v := 0) hx hb dL_votes_0 (by decide) ?_
  refine lv_istore (lv' := [(8, .int 0), (0, .ref (la 3)), (1, .ref (la 5)), (2, .ref (la 8)), (3, .ref (la 10)), (4, .ref (la 11)), (5, .ref (la 12)), (6, .int (nI ms)), (7, .int kd)]) hx hb dL_votes_1 hl (by decide) rfl (fun ls hl => ?_)
  refine lv_iconst (v := 0) hx hb dL_votes_3 (by decide) ?_
  refine lv_istore (lv' := [(9, .int 0), (8, .int 0), (0, .ref (la 3)), (1, .ref (la 5)), (2, .ref (la 8)), (3, .ref (la 10)), (4, .ref (la 11)), (5, .ref (la 12)), (6, .int (nI ms)), (7, .int kd)]) hx hb dL_votes_4 hl (by decide) rfl (fun ls hl => ?_)
  have L6 : ∀ (n9 : Nat) (i9 : Nat), cn 22 + 1 ≤ i9 + n9 → i9 ≤ cn 22 → ∀ (locs6 : List Loc), va_S (fun _ => False) s.heap H0 locs6 → ∀ (ls : Array Slot), lv_has ls 11 [(8, .int (sp_vt μ (fun w => sp_ft μ (sp_sel μ e1 (-1) (cn 12)) (sp_clm (μ 3) (μ 4) e1 (cn 1) 0) w) kd i9)), (9, .int (nI i9)), (0, .ref (la 3)), (1, .ref (la 5)), (2, .ref (la 8)), (3, .ref (la 10)), (4, .ref (la 11)), (5, .ref (la 12)), (6, .int (nI ms)), (7, .int kd)] → W p l e rmL_votes s m args below meth c H0 locs6 0 0 Q (F0 m 6 ls []) := by
    intro n9
    induction n9 with
    | zero =>
      intro i9 hm9 hi locs6 hS ls hl
      exact absurd hm9 (by omega)
    | succ n9 ih =>
      intro i9 hm9 hi locs6 hS ls hl
      refine lv_iload hx hb dL_votes_6 (lv_at hl 1 rfl) ?_
      refine lv_aload_n hx hb dL_votes_8 rfl (lv_at hl 5 rfl) ?_
      refine lv_iconst (v := 3) hx hb dL_votes_9 (by decide) ?_
      refine hk_ild X K hL.c10 (show vp_in (nI 3) 6 from vp_in_nI (by decide) (by decide)) dL_votes_10 ?_
      rw [show (V 10) (3 : Int32).toNatClampNeg = nI (cn 22) from hV.g3]
      refine lv_icmp_ge (tgt := 113) hx hb dL_votes_11 (by decide) (fun c_11 => ?_) (fun c_11 => ?_)
      · have hi9 : i9 = cn 22 := by
          have := (nI_leI (by omega) (by omega)).mp c_11
          omega
        refine lv_iload hx hb dL_votes_113 (lv_at hl 0 rfl) ?_
        exact hk_iret X hr hlk hQ hS (Nat.le_of_ble_eq_true rfl) (Nat.le_of_ble_eq_true rfl) dL_votes_115 (⟨by rw [hi9], rfl⟩)
      · have hi9 : i9 < cn 22 := Nat.lt_of_not_le (fun h => c_11 (nI_le h (by omega)))
        have hr : V 8 (6 * i9) = μ 23 i9 ∧ V 8 (6 * i9 + 1) = μ 24 i9 ∧ V 8 (6 * i9 + 2) = μ 25 i9 ∧ V 8 (6 * i9 + 3) = μ 26 i9 ∧ V 8 (6 * i9 + 4) = μ 27 i9 := hV.r hi9
        refine lv_aload_n hx hb dL_votes_14 rfl (lv_at hl 2 rfl) ?_
        refine lv_aload_n hx hb dL_votes_15 rfl (lv_at hl 3 rfl) ?_
        refine lv_aload_n hx hb dL_votes_16 rfl (lv_at hl 5 rfl) ?_
        refine lv_aload hx hb dL_votes_17 (lv_at hl 6 rfl) ?_
        refine lv_aload hx hb dL_votes_19 (lv_at hl 7 rfl) ?_
        refine lv_iload hx hb dL_votes_21 (lv_at hl 8 rfl) ?_
        refine lv_aload_n hx hb dL_votes_23 rfl (lv_at hl 4 rfl) ?_
        refine lv_bipush (v := 6) hx hb dL_votes_24 (by decide) ?_
        refine lv_iload hx hb dL_votes_26 (lv_at hl 1 rfl) ?_
        refine lv_imul hx hb dL_votes_28 ?_
        refine lv_topi (fun z_1 ez_1 => ?_)
        have ez_1 : z_1 = nI (6 * i9) := ez_1.trans (nI_mul 6 i9)
        subst ez_1
        refine lv_iconst (v := 1) hx hb dL_votes_29 (by decide) ?_
        refine lv_iadd hx hb dL_votes_30 ?_
        refine lv_topi (fun z_2 ez_2 => ?_)
        have ez_2 : z_2 = nI ((6 * i9) + 1) := ez_2.trans (nI_add (6 * i9) 1)
        subst ez_2
        refine hk_ild X K hL.c8 (vp_in_nI (by omega) (by omega)) dL_votes_31 ?_
        rw [show (V 8) (nI ((6 * i9) + 1)).toNatClampNeg = μ 24 i9 from (congrArg (V 8) (nI_clamp (show 6 * i9 + 1 < 2 ^ 31 by omega))).trans hr.2.1]
        refine hk_callS 7 (As := [.ref (la 3), .ref (la 5), .ref (la 10), .ref (la 11), .ref (la 12), .int (nI ms), .int (μ 24 i9)]) (rest := []) X K hAE hS hl.1 (c_L_feature E l H0 hL hV hI hX hm he1 h0 hc (wh := μ 24 i9) (hI.1.2.2.2.2.2.2.1 i9 hi9).2) (fun _ h => h.elim) gL_votes_L_feature rfl hd_L_feature rfl ⟨⟨(Nat.le_of_ble_eq_true rfl), (Nat.le_of_ble_eq_true rfl)⟩, (Nat.le_of_ble_eq_true rfl), (Nat.le_of_ble_eq_true rfl)⟩ rfl (Nat.le_of_ble_eq_true rfl) dL_votes_32 (fun v9 H3 locsH3 hp hS hzH3 hkH3 => ?_)
        obtain ⟨hv, hh⟩ := hp
        subst hv; subst hh
        refine lv_istore (lv' := [(10, .int (sp_ft μ (sp_sel μ e1 (-1) (cn 12)) (sp_clm (μ 3) (μ 4) e1 (cn 1) 0) (μ 24 i9))), (8, .int (sp_vt μ (fun w => sp_ft μ (sp_sel μ e1 (-1) (cn 12)) (sp_clm (μ 3) (μ 4) e1 (cn 1) 0) w) kd i9)), (9, .int (nI i9)), (0, .ref (la 3)), (1, .ref (la 5)), (2, .ref (la 8)), (3, .ref (la 10)), (4, .ref (la 11)), (5, .ref (la 12)), (6, .int (nI ms)), (7, .int kd)]) hx hb dL_votes_35 hl (by decide) rfl (fun ls hl => ?_)
        refine lv_iload hx hb dL_votes_37 (lv_at hl 1 rfl) ?_
        refine lv_aload_n hx hb dL_votes_39 rfl (lv_at hl 5 rfl) ?_
        refine lv_bipush (v := 6) hx hb dL_votes_40 (by decide) ?_
        refine lv_iload hx hb dL_votes_42 (lv_at hl 2 rfl) ?_
        refine lv_imul hx hb dL_votes_44 ?_
        refine lv_topi (fun z_4 ez_4 => ?_)
        have ez_4 : z_4 = nI (6 * i9) := ez_4.trans (nI_mul 6 i9)
        subst ez_4
        refine hk_ild X K hL.c8 (vp_in_nI (by omega) (by omega)) dL_votes_45 ?_
        rw [show (V 8) (nI (6 * i9)).toNatClampNeg = V 8 (6 * i9) from by rw [nI_clamp (show (6 * i9) < 2 ^ 31 by omega)]]
        refine lv_iload hx hb dL_votes_46 (lv_at hl 10 rfl) ?_
        refine lv_icmp_ne (tgt := 103) hx hb dL_votes_48 (by decide) (fun c_48 => ?_) (fun c_48 => ?_)
        · refine lv_iconst (v := 0) hx hb dL_votes_103 (by decide) ?_
          refine lv_iadd hx hb dL_votes_104 ?_
          refine lv_topi (fun q105 eq105 => ?_)
          refine lv_istore (lv' := [(8, .int q105), (10, .int (sp_ft μ (sp_sel μ e1 (-1) (cn 12)) (sp_clm (μ 3) (μ 4) e1 (cn 1) 0) (μ 24 i9))), (9, .int (nI i9)), (0, .ref (la 3)), (1, .ref (la 5)), (2, .ref (la 8)), (3, .ref (la 10)), (4, .ref (la 11)), (5, .ref (la 12)), (6, .int (nI ms)), (7, .int kd)]) hx hb dL_votes_105 hl (by decide) rfl (fun ls hl => ?_)
          rw [vt_n (fun g => c_48 (hr.1.trans g.1))] at eq105
          subst eq105
          obtain ⟨q107, eq107⟩ : ∃ y : Int32, y = (nI i9) + 1 := ⟨_, rfl⟩
          refine lv_iinc (v := q107) (lv' := [(9, .int q107), (8, .int (sp_vt μ (fun w => sp_ft μ (sp_sel μ e1 (-1) (cn 12)) (sp_clm (μ 3) (μ 4) e1 (cn 1) 0) w) kd (i9 + 1))), (10, .int (sp_ft μ (sp_sel μ e1 (-1) (cn 12)) (sp_clm (μ 3) (μ 4) e1 (cn 1) 0) (μ 24 i9))), (0, .ref (la 3)), (1, .ref (la 5)), (2, .ref (la 8)), (3, .ref (la 10)), (4, .ref (la 11)), (5, .ref (la 12)), (6, .int (nI ms)), (7, .int kd)]) hx hb dL_votes_107 hl (k := 2) rfl (by rw [eq107]; rfl) (by decide) rfl (fun ls hl => ?_)
          rw [nI_1] at eq107
          subst eq107
          refine lv_goto (tgt := 6) hx hb dL_votes_110 (by decide) ?_
          exact ih (i9 + 1) (by omega) (by omega) _ hS _ (lv_sub hl [1, 0, 3, 4, 5, 6, 7, 8, 9, 10] rfl)
        · refine lv_aload_n hx hb dL_votes_51 rfl (lv_at hl 5 rfl) ?_
          refine lv_bipush (v := 6) hx hb dL_votes_52 (by decide) ?_
          refine lv_iload hx hb dL_votes_54 (lv_at hl 2 rfl) ?_
          refine lv_imul hx hb dL_votes_56 ?_
          refine lv_topi (fun z_5 ez_5 => ?_)
          have ez_5 : z_5 = nI (6 * i9) := ez_5.trans (nI_mul 6 i9)
          subst ez_5
          refine lv_iconst (v := 5) hx hb dL_votes_57 (by decide) ?_
          refine lv_iadd hx hb dL_votes_58 ?_
          refine lv_topi (fun z_6 ez_6 => ?_)
          have ez_6 : z_6 = nI ((6 * i9) + 5) := ez_6.trans (nI_add (6 * i9) 5)
          subst ez_6
          refine hk_ild X K hL.c8 (vp_in_nI (by omega) (by omega)) dL_votes_59 ?_
          rw [show (V 8) (nI ((6 * i9) + 5)).toNatClampNeg = V 8 ((6 * i9) + 5) from by rw [nI_clamp (show ((6 * i9) + 5) < 2 ^ 31 by omega)]]
          refine lv_if_ne (tgt := 103) hx hb dL_votes_60 (by decide) (fun c_60 => ?_) (fun c_60 => ?_)
          · refine lv_iconst (v := 0) hx hb dL_votes_103 (by decide) ?_
            refine lv_iadd hx hb dL_votes_104 ?_
            refine lv_topi (fun q105 eq105 => ?_)
            refine lv_istore (lv' := [(8, .int q105), (10, .int (sp_ft μ (sp_sel μ e1 (-1) (cn 12)) (sp_clm (μ 3) (μ 4) e1 (cn 1) 0) (μ 24 i9))), (9, .int (nI i9)), (0, .ref (la 3)), (1, .ref (la 5)), (2, .ref (la 8)), (3, .ref (la 10)), (4, .ref (la 11)), (5, .ref (la 12)), (6, .int (nI ms)), (7, .int kd)]) hx hb dL_votes_105 hl (by decide) rfl (fun ls hl => ?_)
            rw [vt_n (fun g => c_60 ((hV.r5 (show i9 < 4 by omega)).trans g.2.1))] at eq105
            subst eq105
            obtain ⟨q107, eq107⟩ : ∃ y : Int32, y = (nI i9) + 1 := ⟨_, rfl⟩
            refine lv_iinc (v := q107) (lv' := [(9, .int q107), (8, .int (sp_vt μ (fun w => sp_ft μ (sp_sel μ e1 (-1) (cn 12)) (sp_clm (μ 3) (μ 4) e1 (cn 1) 0) w) kd (i9 + 1))), (10, .int (sp_ft μ (sp_sel μ e1 (-1) (cn 12)) (sp_clm (μ 3) (μ 4) e1 (cn 1) 0) (μ 24 i9))), (0, .ref (la 3)), (1, .ref (la 5)), (2, .ref (la 8)), (3, .ref (la 10)), (4, .ref (la 11)), (5, .ref (la 12)), (6, .int (nI ms)), (7, .int kd)]) hx hb dL_votes_107 hl (k := 2) rfl (by rw [eq107]; rfl) (by decide) rfl (fun ls hl => ?_)
            rw [nI_1] at eq107
            subst eq107
            refine lv_goto (tgt := 6) hx hb dL_votes_110 (by decide) ?_
            exact ih (i9 + 1) (by omega) (by omega) _ hS _ (lv_sub hl [1, 0, 3, 4, 5, 6, 7, 8, 9, 10] rfl)
          · refine lv_iload hx hb dL_votes_63 (lv_at hl 0 rfl) ?_
            refine lv_aload_n hx hb dL_votes_65 rfl (lv_at hl 5 rfl) ?_
            refine lv_bipush (v := 6) hx hb dL_votes_66 (by decide) ?_
            refine lv_iload hx hb dL_votes_68 (lv_at hl 2 rfl) ?_
            refine lv_imul hx hb dL_votes_70 ?_
            refine lv_topi (fun z_7 ez_7 => ?_)
            have ez_7 : z_7 = nI (6 * i9) := ez_7.trans (nI_mul 6 i9)
            subst ez_7
            refine lv_iconst (v := 2) hx hb dL_votes_71 (by decide) ?_
            refine lv_iadd hx hb dL_votes_72 ?_
            refine lv_topi (fun z_8 ez_8 => ?_)
            have ez_8 : z_8 = nI ((6 * i9) + 2) := ez_8.trans (nI_add (6 * i9) 2)
            subst ez_8
            refine hk_ild X K hL.c8 (vp_in_nI (by omega) (by omega)) dL_votes_73 ?_
            rw [show (V 8) (nI ((6 * i9) + 2)).toNatClampNeg = V 8 ((6 * i9) + 2) from by rw [nI_clamp (show ((6 * i9) + 2) < 2 ^ 31 by omega)]]
            refine lv_icmp_lt (tgt := 103) hx hb dL_votes_74 (by decide) (fun c_74 => ?_) (fun c_74 => ?_)
            · refine lv_iconst (v := 0) hx hb dL_votes_103 (by decide) ?_
              refine lv_iadd hx hb dL_votes_104 ?_
              refine lv_topi (fun q105 eq105 => ?_)
              refine lv_istore (lv' := [(8, .int q105), (10, .int (sp_ft μ (sp_sel μ e1 (-1) (cn 12)) (sp_clm (μ 3) (μ 4) e1 (cn 1) 0) (μ 24 i9))), (9, .int (nI i9)), (0, .ref (la 3)), (1, .ref (la 5)), (2, .ref (la 8)), (3, .ref (la 10)), (4, .ref (la 11)), (5, .ref (la 12)), (6, .int (nI ms)), (7, .int kd)]) hx hb dL_votes_105 hl (by decide) rfl (fun ls hl => ?_)
              rw [vt_n (fun g => absurd g.2.2.1 (by rw [← hr.2.2.1]; exact Int32.not_le.mpr c_74))] at eq105
              subst eq105
              obtain ⟨q107, eq107⟩ : ∃ y : Int32, y = (nI i9) + 1 := ⟨_, rfl⟩
              refine lv_iinc (v := q107) (lv' := [(9, .int q107), (8, .int (sp_vt μ (fun w => sp_ft μ (sp_sel μ e1 (-1) (cn 12)) (sp_clm (μ 3) (μ 4) e1 (cn 1) 0) w) kd (i9 + 1))), (10, .int (sp_ft μ (sp_sel μ e1 (-1) (cn 12)) (sp_clm (μ 3) (μ 4) e1 (cn 1) 0) (μ 24 i9))), (0, .ref (la 3)), (1, .ref (la 5)), (2, .ref (la 8)), (3, .ref (la 10)), (4, .ref (la 11)), (5, .ref (la 12)), (6, .int (nI ms)), (7, .int kd)]) hx hb dL_votes_107 hl (k := 2) rfl (by rw [eq107]; rfl) (by decide) rfl (fun ls hl => ?_)
              rw [nI_1] at eq107
              subst eq107
              refine lv_goto (tgt := 6) hx hb dL_votes_110 (by decide) ?_
              exact ih (i9 + 1) (by omega) (by omega) _ hS _ (lv_sub hl [1, 0, 3, 4, 5, 6, 7, 8, 9, 10] rfl)
            · refine lv_iload hx hb dL_votes_77 (lv_at hl 0 rfl) ?_
              refine lv_aload_n hx hb dL_votes_79 rfl (lv_at hl 5 rfl) ?_
              refine lv_bipush (v := 6) hx hb dL_votes_80 (by decide) ?_
              refine lv_iload hx hb dL_votes_82 (lv_at hl 2 rfl) ?_
              refine lv_imul hx hb dL_votes_84 ?_
              refine lv_topi (fun z_9 ez_9 => ?_)
              have ez_9 : z_9 = nI (6 * i9) := ez_9.trans (nI_mul 6 i9)
              subst ez_9
              refine lv_iconst (v := 3) hx hb dL_votes_85 (by decide) ?_
              refine lv_iadd hx hb dL_votes_86 ?_
              refine lv_topi (fun z_10 ez_10 => ?_)
              have ez_10 : z_10 = nI ((6 * i9) + 3) := ez_10.trans (nI_add (6 * i9) 3)
              subst ez_10
              refine hk_ild X K hL.c8 (vp_in_nI (by omega) (by omega)) dL_votes_87 ?_
              rw [show (V 8) (nI ((6 * i9) + 3)).toNatClampNeg = V 8 ((6 * i9) + 3) from by rw [nI_clamp (show ((6 * i9) + 3) < 2 ^ 31 by omega)]]
              refine lv_icmp_gt (tgt := 103) hx hb dL_votes_88 (by decide) (fun c_88 => ?_) (fun c_88 => ?_)
              · refine lv_iconst (v := 0) hx hb dL_votes_103 (by decide) ?_
                refine lv_iadd hx hb dL_votes_104 ?_
                refine lv_topi (fun q105 eq105 => ?_)
                refine lv_istore (lv' := [(8, .int q105), (10, .int (sp_ft μ (sp_sel μ e1 (-1) (cn 12)) (sp_clm (μ 3) (μ 4) e1 (cn 1) 0) (μ 24 i9))), (9, .int (nI i9)), (0, .ref (la 3)), (1, .ref (la 5)), (2, .ref (la 8)), (3, .ref (la 10)), (4, .ref (la 11)), (5, .ref (la 12)), (6, .int (nI ms)), (7, .int kd)]) hx hb dL_votes_105 hl (by decide) rfl (fun ls hl => ?_)
                rw [vt_n (fun g => absurd g.2.2.2 (by rw [← hr.2.2.2.1]; exact Int32.not_le.mpr c_88))] at eq105
                subst eq105
                obtain ⟨q107, eq107⟩ : ∃ y : Int32, y = (nI i9) + 1 := ⟨_, rfl⟩
                refine lv_iinc (v := q107) (lv' := [(9, .int q107), (8, .int (sp_vt μ (fun w => sp_ft μ (sp_sel μ e1 (-1) (cn 12)) (sp_clm (μ 3) (μ 4) e1 (cn 1) 0) w) kd (i9 + 1))), (10, .int (sp_ft μ (sp_sel μ e1 (-1) (cn 12)) (sp_clm (μ 3) (μ 4) e1 (cn 1) 0) (μ 24 i9))), (0, .ref (la 3)), (1, .ref (la 5)), (2, .ref (la 8)), (3, .ref (la 10)), (4, .ref (la 11)), (5, .ref (la 12)), (6, .int (nI ms)), (7, .int kd)]) hx hb dL_votes_107 hl (k := 2) rfl (by rw [eq107]; rfl) (by decide) rfl (fun ls hl => ?_)
                rw [nI_1] at eq107
                subst eq107
                refine lv_goto (tgt := 6) hx hb dL_votes_110 (by decide) ?_
                exact ih (i9 + 1) (by omega) (by omega) _ hS _ (lv_sub hl [1, 0, 3, 4, 5, 6, 7, 8, 9, 10] rfl)
              · refine lv_aload_n hx hb dL_votes_91 rfl (lv_at hl 5 rfl) ?_
                refine lv_bipush (v := 6) hx hb dL_votes_92 (by decide) ?_
                refine lv_iload hx hb dL_votes_94 (lv_at hl 2 rfl) ?_
                refine lv_imul hx hb dL_votes_96 ?_
                refine lv_topi (fun z_11 ez_11 => ?_)
                have ez_11 : z_11 = nI (6 * i9) := ez_11.trans (nI_mul 6 i9)
                subst ez_11
                refine lv_iconst (v := 4) hx hb dL_votes_97 (by decide) ?_
                refine lv_iadd hx hb dL_votes_98 ?_
                refine lv_topi (fun z_12 ez_12 => ?_)
                have ez_12 : z_12 = nI ((6 * i9) + 4) := ez_12.trans (nI_add (6 * i9) 4)
                subst ez_12
                refine hk_ild X K hL.c8 (vp_in_nI (by omega) (by omega)) dL_votes_99 ?_
                rw [show (V 8) (nI ((6 * i9) + 4)).toNatClampNeg = V 8 ((6 * i9) + 4) from by rw [nI_clamp (show ((6 * i9) + 4) < 2 ^ 31 by omega)]]
                refine lv_goto (tgt := 104) hx hb dL_votes_100 (by decide) ?_
                refine lv_iadd hx hb dL_votes_104 ?_
                refine lv_topi (fun q105 eq105 => ?_)
                refine lv_istore (lv' := [(8, .int q105), (10, .int (sp_ft μ (sp_sel μ e1 (-1) (cn 12)) (sp_clm (μ 3) (μ 4) e1 (cn 1) 0) (μ 24 i9))), (9, .int (nI i9)), (0, .ref (la 3)), (1, .ref (la 5)), (2, .ref (la 8)), (3, .ref (la 10)), (4, .ref (la 11)), (5, .ref (la 12)), (6, .int (nI ms)), (7, .int kd)]) hx hb dL_votes_105 hl (by decide) rfl (fun ls hl => ?_)
                rw [vt_y ⟨(hr.1.symm.trans c_48), ((hV.r5 (show i9 < 4 by omega)).symm.trans c_60), by rw [← hr.2.2.1]; exact Int32.not_lt.mp c_74, by rw [← hr.2.2.2.1]; exact Int32.not_lt.mp c_88⟩ hr.2.2.2.2] at eq105
                subst eq105
                obtain ⟨q107, eq107⟩ : ∃ y : Int32, y = (nI i9) + 1 := ⟨_, rfl⟩
                refine lv_iinc (v := q107) (lv' := [(9, .int q107), (8, .int (sp_vt μ (fun w => sp_ft μ (sp_sel μ e1 (-1) (cn 12)) (sp_clm (μ 3) (μ 4) e1 (cn 1) 0) w) kd (i9 + 1))), (10, .int (sp_ft μ (sp_sel μ e1 (-1) (cn 12)) (sp_clm (μ 3) (μ 4) e1 (cn 1) 0) (μ 24 i9))), (0, .ref (la 3)), (1, .ref (la 5)), (2, .ref (la 8)), (3, .ref (la 10)), (4, .ref (la 11)), (5, .ref (la 12)), (6, .int (nI ms)), (7, .int kd)]) hx hb dL_votes_107 hl (k := 2) rfl (by rw [eq107]; rfl) (by decide) rfl (fun ls hl => ?_)
                rw [nI_1] at eq107
                subst eq107
                refine lv_goto (tgt := 6) hx hb dL_votes_110 (by decide) ?_
                exact ih (i9 + 1) (by omega) (by omega) _ hS _ (lv_sub hl [1, 0, 3, 4, 5, 6, 7, 8, 9, 10] rfl)
  exact L6 (cn 22 + 1) 0 (by omega) (by omega) _ hS _ (lv_sub hl [1, 0, 2, 3, 4, 5, 6, 7, 8, 9] rfl)

theorem clm_nat {S : mS} {V : Nat → Nat → Int32} (hV : LV S V) (hI : InvF S) {m : Nat} {e : Int32} (hm : mskR (S.1 1) (S.2.2 3) m e (-1)) (he : 0 ≤ e) (hc : 0 < sp_clm (S.2.2 3) (S.2.2 4) e (S.1 1) 0) : inr (sp_clm (S.2.2 3) (S.2.2 4) e (S.1 1) 0) 30 1000000 := by
  rw [← clK_eq hV hI hm he] at hc ⊢
  have g : ¬ clK m (V 3) 4 = 0 := fun h => by rw [h] at hc; exact Int32.lt_irrefl hc
  obtain ⟨k, k1, k2, k3, -⟩ := clK_some 4 g
  have hk := (hm.2 k k1).mp k2
  rw [hV.a2 k1] at k3
  rw [k3] at g ⊢
  exact ((hI.1.2.2.1 k hk.1).2.2).resolve_left g
theorem l_shr : ∀ j : Nat, j < 32 → ((nI j &&& 31).toBitVec.smod 32).toNat = j := by decide +kernel
theorem shr_at {C j : Nat} (hC : C < 2 ^ 31) (hj : j < 32) : nI C >>> (nI j &&& 31) = nI (C / 2 ^ j) := pk_shrN hC _ j (l_shr j hj)
theorem shr_nx (C j : Nat) : C / 2 ^ (j + 1) = C / 2 ^ j / 2 := by rw [Nat.pow_succ, Nat.div_div_eq_div_mul]
theorem low_ent {n : Nat} {f : Nat → Int32} (hf : entOK n f) (hn : n ≤ 4) {m j : Nat} (hj : j < n) (hm : mskR n f m (f j) (-1)) : m ≠ 0 ∧ f j = nI (lowb m) ∧ lowb m ≤ j := by
  obtain ⟨e, he, h1, h2⟩ := hf j hj
  have hbj : m.testBit j = true := (hm.2 j (by omega)).mpr ⟨hj, Or.inl rfl⟩
  have hm0 : m ≠ 0 := fun h => by rw [h] at hbj; simp at hbj
  have hb := lowb_bit m hm.1 hm0
  have hl := lowb_le m
  have hbe : m.testBit e = true := (hm.2 e (by omega)).mpr ⟨by omega, Or.inl (h2.trans h1.symm)⟩
  have l1 := hb.2 e (by omega) hbe
  have hx := (hm.2 (lowb m) (by omega)).mp hb.1
  obtain ⟨e', he', g1, g2⟩ := hf (lowb m) hx.1
  have hne : ¬ f (lowb m) = -1 := fun g => by
    rw [g1] at g
    exact absurd (congrArg Int32.toInt g) (by rw [nI_toInt (by omega)]; show ¬ (e' : Int) = -1; omega)
  have hq : f (lowb m) = f j := hx.2.resolve_right hne
  have ee : e' = e := (nI_eq (by omega) (by omega)).mp (g1.symm.trans (hq.trans h1))
  refine ⟨hm0, ?_, by omega⟩
  rw [h1, show e = lowb m by omega]
theorem hd_L_lowest : yL_lowest.cls ≠ "java/lang/invoke/MethodHandle" ∧ yL_lowest.cls ≠ "java/lang/invoke/VarHandle" ∧ (parseMethodDescriptor yL_lowest.desc).map (fun d => d.parameters.length) = some 1 := ⟨by decide, by decide, by decide +kernel⟩
theorem hd_L_mean : yL_mean.cls ≠ "java/lang/invoke/MethodHandle" ∧ yL_mean.cls ≠ "java/lang/invoke/VarHandle" ∧ (parseMethodDescriptor yL_mean.desc).map (fun d => d.parameters.length) = some 4 := ⟨by decide, by decide, by decide +kernel⟩
abbrev rmL_modulus : Room := { frames := 3, cells := 0, slots := 0, locals := 71 }
set_option maxHeartbeats 4000000 in
set_option maxRecDepth 100000 in
theorem c_L_modulus (E : hk_E) (l : Launch) (H0 : Heap) {la : Nat → Nat} {V : Nat → Nat → Int32} (hL : LW E la V H0) {cn : Nat → Nat} {sc : Nat → Int32} {μ : Nat → Nat → Int32} (hV : LV (cn, sc, μ) V) (hI : InvF (cn, sc, μ)) (hX : LXY (cn, sc, μ) V) {ms : Nat} {e1 : Int32} (hm : mskR (cn 1) (μ 3) ms e1 (-1)) (he1 : 0 ≤ e1) (h0 : 0 < (sp_sel μ e1 (-1) (cn 12)).length) (hc : 0 < sp_clm (μ 3) (μ 4) e1 (cn 1) 0) (hm0 : ms ≠ 0) (hlo : e1 = nI (lowb ms)) : hk_M E l yL_modulus wsL_modulus rmL_modulus (fun _ => False) [.ref (la 3), .ref (la 5), .ref (la 10), .ref (la 11), .int (nI ms)] H0 (fun z H1 => z = some (.int (mdS (cn, sc, μ) e1)) ∧ H0 = H1) := by
  refine hk_M.ofW (cc := cL_modulus) (maxL := 6) (ret := (some .int)) (by decide +kernel) rfl (Nat.le_of_ble_eq_true rfl) ?_
  intro p e s m args below meth c ls Q hQ X hr hlk hnm K hs9 hS hl
  obtain ⟨hx, hb, hml, hown, hts⟩ := id X
  have hAE : ∀ q, (fun _ => False) q → hk_A E q := fun _ h => h.elim
  have hl : lv_has ls 6 [(0, .ref (la 3)), (1, .ref (la 5)), (2, .ref (la 10)), (3, .ref (la 11)), (4, .int (nI ms))] := hl
  have hn1 : cn 1 ≤ 4 := hV.n1
  have hn8 : cn 8 ≤ 3 := hV.n8
  have hn12 : cn 12 ≤ 24 := hV.n12
  have hn22 : cn 22 ≤ 4 := hV.n22
  have hn29 : cn 29 ≤ 8 := hV.n29
  have hlb := lowb_le ms
  obtain ⟨C9, eC9, hC1, hC2, hC3⟩ : ∃ C : Nat, sp_clm (μ 3) (μ 4) e1 (cn 1) 0 = nI C ∧ 30 ≤ C ∧ C ≤ 1000000 ∧ C < 2 ^ 31 := by
    obtain ⟨C, q1, q2, q3, q4⟩ := inr_nat (clm_nat hV hI hm he1 hc) (by decide)
    exact ⟨C, q1, by have : (30 : Int) ≤ (C : Int) := q2; omega, by have : (C : Int) ≤ 1000000 := q3; omega, q4⟩
  have hC9 : C9 < 2 ^ 31 := hC3
  refine lv_iconst (v := 0) hx hb dL_modulus_0 (by decide) ?_
  refine lv_istore (lv' := [(5, .int 0), (0, .ref (la 3)), (1, .ref (la 5)), (2, .ref (la 10)), (3, .ref (la 11)), (4, .int (nI ms))]) hx hb dL_modulus_1 hl (by decide) rfl (fun ls hl => ?_)
  have L3 : ∀ (n9 : Nat) (j9 f8 : Nat), 32 ≤ j9 + n9 → (j9 + f8 = 31 ∧ C9 / 2 ^ j9 < 2 ^ f8 ∧ hlvN 31 C9 = j9 + hlvN f8 (C9 / 2 ^ j9)) → ∀ (locs3 : List Loc), va_S (fun _ => False) s.heap H0 locs3 → ∀ (ls : Array Slot), lv_has ls 6 [(5, .int (nI j9)), (0, .ref (la 3)), (1, .ref (la 5)), (2, .ref (la 10)), (3, .ref (la 11)), (4, .int (nI ms))] → W p l e rmL_modulus s m args below meth c H0 locs3 0 0 Q (F0 m 3 ls []) := by
    intro n9
    induction n9 with
    | zero =>
      intro j9 f8 hm9 ⟨hjf, hlt, hh9⟩ locs3 hS ls hl
      have hq9 : C9 / 2 ^ j9 ≤ C9 := Nat.div_le_self _ _
      exact absurd hm9 (by omega)
    | succ n9 ih =>
      intro j9 f8 hm9 ⟨hjf, hlt, hh9⟩ locs3 hS ls hl
      have hq9 : C9 / 2 ^ j9 ≤ C9 := Nat.div_le_self _ _
      refine lv_aload_n hx hb dL_modulus_3 rfl (lv_at hl 1 rfl) ?_
      refine lv_iload hx hb dL_modulus_4 (lv_at hl 5 rfl) ?_
      refine hk_callS 2 (As := [.ref (la 3), .int (nI ms)]) (rest := []) X K hAE hS hl.1 (c_L_claim E l H0 hL hV hI hm he1) (fun _ h => h.elim) gL_modulus_L_claim rfl hd_L_claim rfl ⟨⟨(Nat.le_of_ble_eq_true rfl), (Nat.le_of_ble_eq_true rfl)⟩, (Nat.le_of_ble_eq_true rfl), (Nat.le_of_ble_eq_true rfl)⟩ rfl (Nat.le_of_ble_eq_true rfl) dL_modulus_6 (fun v9 H1 locsH1 hp hS hzH1 hkH1 => ?_)
      obtain ⟨hv, hh⟩ := hp
      subst hv; subst hh
      rw [eC9]
      refine lv_iload hx hb dL_modulus_9 (lv_at hl 0 rfl) ?_
      refine lv_ishr hx hb dL_modulus_11 ?_
      refine lv_topi (fun q11 eq11 => ?_)
      rw [shr_at hC9 (by omega)] at eq11
      subst eq11
      refine lv_iconst (v := 1) hx hb dL_modulus_12 (by decide) ?_
      refine lv_icmp_le (tgt := 22) hx hb dL_modulus_13 (by decide) (fun c_13 => ?_) (fun c_13 => ?_)
      · have hx9 : C9 / 2 ^ j9 ≤ 1 := (nI_leI (a := C9 / 2 ^ j9) (b := 1) (by omega) (by omega)).mp c_13
        refine lv_aload_n hx hb dL_modulus_22 rfl (lv_at hl 2 rfl) ?_
        refine lv_aload_n hx hb dL_modulus_23 rfl (lv_at hl 3 rfl) ?_
        refine lv_aload_n hx hb dL_modulus_24 rfl (lv_at hl 4 rfl) ?_
        refine lv_iload hx hb dL_modulus_25 (lv_at hl 5 rfl) ?_
        refine hk_callS 4 (As := [.ref (la 5), .ref (la 10), .ref (la 11), .int (nI ms)]) (rest := []) X K hAE hS hl.1 (c_L_mean E l H0 hL hV hI hX hm h0) (fun _ h => h.elim) gL_modulus_L_mean rfl hd_L_mean rfl ⟨⟨(Nat.le_of_ble_eq_true rfl), (Nat.le_of_ble_eq_true rfl)⟩, (Nat.le_of_ble_eq_true rfl), (Nat.le_of_ble_eq_true rfl)⟩ rfl (Nat.le_of_ble_eq_true rfl) dL_modulus_27 (fun v9 H2 locsH2 hp hS hzH2 hkH2 => ?_)
        obtain ⟨hv, hh⟩ := hp
        subst hv; subst hh
        refine lv_aload_n hx hb dL_modulus_30 rfl (lv_at hl 1 rfl) ?_
        refine lv_iconst (v := 4) hx hb dL_modulus_31 (by decide) ?_
        refine lv_iload hx hb dL_modulus_32 (lv_at hl 5 rfl) ?_
        refine hk_callS 1 (As := [.int (nI ms)]) (rest := [.int 4, .ref (la 3), .int (sp_mn μ (sp_sel μ e1 (-1) (cn 12)))]) X K hAE hS hl.1 (c_L_lowest E l H0 hm.1 hm0) (fun _ h => h.elim) gL_modulus_L_lowest rfl hd_L_lowest rfl ⟨⟨(Nat.le_of_ble_eq_true rfl), (Nat.le_of_ble_eq_true rfl)⟩, (Nat.le_of_ble_eq_true rfl), (Nat.le_of_ble_eq_true rfl)⟩ rfl (Nat.le_of_ble_eq_true rfl) dL_modulus_34 (fun v9 H3 locsH3 hp hS hzH3 hkH3 => ?_)
        obtain ⟨hv, hh⟩ := hp
        subst hv; subst hh
        refine lv_imul hx hb dL_modulus_37 ?_
        refine lv_topi (fun z_4 ez_4 => ?_)
        have ez_4 : z_4 = nI (4 * (lowb ms)) := ez_4.trans (nI_mul 4 (lowb ms))
        subst ez_4
        refine lv_iconst (v := 3) hx hb dL_modulus_38 (by decide) ?_
        refine lv_iadd hx hb dL_modulus_39 ?_
        refine lv_topi (fun z_5 ez_5 => ?_)
        have ez_5 : z_5 = nI ((4 * (lowb ms)) + 3) := ez_5.trans (nI_add (4 * (lowb ms)) 3)
        subst ez_5
        refine hk_ild X K hL.c3 (vp_in_nI (by omega) (by omega)) dL_modulus_40 ?_
        rw [show (V 3) (nI ((4 * (lowb ms)) + 3)).toNatClampNeg = V 3 ((4 * (lowb ms)) + 3) from by rw [nI_clamp (show ((4 * (lowb ms)) + 3) < 2 ^ 31 by omega)]]
        refine lv_isub hx hb dL_modulus_41 ?_
        refine lv_aload_n hx hb dL_modulus_42 rfl (lv_at hl 3 rfl) ?_
        refine lv_iconst (v := 5) hx hb dL_modulus_43 (by decide) ?_
        refine hk_ild X K hL.c10 (show vp_in (nI 5) 6 from vp_in_nI (by decide) (by decide)) dL_modulus_44 ?_
        rw [show (V 10) (5 : Int32).toNatClampNeg = sc 32 from hV.g5]
        refine lv_isub hx hb dL_modulus_45 ?_
        refine lv_bipush (v := 75) hx hb dL_modulus_46 (by decide) ?_
        refine lv_iload hx hb dL_modulus_48 (lv_at hl 0 rfl) ?_
        refine lv_imul hx hb dL_modulus_50 ?_
        refine lv_iadd hx hb dL_modulus_51 ?_
        exact hk_iret X hr hlk hQ hS (Nat.le_of_ble_eq_true rfl) (Nat.le_of_ble_eq_true rfl) dL_modulus_52 (⟨congrArg (fun v => some (Value.int v)) (by
            rw [hlvN_0 hx9] at hh9
            rw [hV.a3 (by have := lowb_le ms; omega)]
            unfold mdS sp_hlv
            rw [show clmS (cn, sc, μ) e1 = nI C9 from eC9, ix_nI hC9, hh9, hlo, ix_nI (by have := lowb_le ms; omega)]
            rfl), rfl⟩)
      · have hx9 : ¬ C9 / 2 ^ j9 ≤ 1 := fun h => c_13 (nI_le (b := 1) h (by omega))
        obtain ⟨f7, ef7, hf7, hh7⟩ := hlvN_1 hx9 hlt
        obtain ⟨q16, eq16⟩ : ∃ y : Int32, y = (nI j9) + 1 := ⟨_, rfl⟩
        refine lv_iinc (v := q16) (lv' := [(5, .int q16), (0, .ref (la 3)), (1, .ref (la 5)), (2, .ref (la 10)), (3, .ref (la 11)), (4, .int (nI ms))]) hx hb dL_modulus_16 hl (k := 0) rfl (by rw [eq16]; rfl) (by decide) rfl (fun ls hl => ?_)
        rw [nI_1] at eq16
        subst eq16
        refine lv_goto (tgt := 3) hx hb dL_modulus_19 (by decide) ?_
        exact ih (j9 + 1) f7 (by omega) ⟨by omega, by rw [shr_nx]; exact hf7, by rw [shr_nx, hh9, hh7]; omega⟩ _ hS _ (lv_sub hl [0, 1, 2, 3, 4, 5] rfl)
  exact L3 32 0 31 (by omega) ⟨by omega, by rw [Nat.pow_zero, Nat.div_one]; omega, by rw [Nat.pow_zero, Nat.div_one, Nat.zero_add]⟩ _ hS _ (lv_sub hl [0, 1, 2, 3, 4, 5] rfl)

