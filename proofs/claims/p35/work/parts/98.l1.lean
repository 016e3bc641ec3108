set_option maxHeartbeats 4000000 in
set_option maxRecDepth 100000 in
/-- THE LOOP, from its head, with tn turns done -/
theorem law_loop {p : Program} {l : Launch} {e : Env} {s : State} {m : MethodId} {below : List Frame} {meth : Method} {c : Code} {b L : Nat} {xs : Nat → Int32} {E : hk_E} {Z : Nat → Prop} {ho ts b4 : Nat} {li : Nat → Nat} {rr : Nat → Nat → Nat} {la : Nat → Nat} (G0 : lw_G p l s m meth c b L xs E Z la b4) : ∀ (n tn : Nat), 111 ≤ tn + n → tn ≤ 110 → ∀ (H : Heap) (locs : List Loc), lw_J E Z ho ts li rr la b4 s (fun S => tI tn (S.1 1)) H locs → ∀ (ls : Array Slot), lv_has ls 26 [(16, .int (nI tn)), (15, .int 1), (2, .ref (la 0)), (3, .ref (la 1)), (4, .ref (la 2)), (5, .ref (la 3)), (6, .ref (la 4)), (7, .ref (la 5)), (8, .ref (la 6)), (9, .ref (la 7)), (10, .ref (la 8)), (11, .ref (la 9)), (12, .ref (la 10)), (13, .ref (la 11)), (14, .ref (la 12)), (1, .ref ho), (0, .ref b)] → W p l e room_1 s m #[Value.ref b] below meth c H locs (200 + 40 * tn + 3100 * (tn / 5)) (8000 + 2000 * tn + 155000 * (tn / 5)) (lw_Z below #[Value.ref b] s) (F0 m 113 ls []) := by
  intro n
  induction n with
  | zero =>
    intro tn h1 h2
    exact absurd h2 (by omega)
  | succ n ih =>
    intro tn h1 h2 H locs hJ0 ls hl
    obtain ⟨hl9, hLL, C0, X, K, hE, hZn0, hlz, hla, hlA⟩ := id G0
    obtain ⟨G, R, V, ⟨cn, sc, μ⟩, hI, hV, hW, hL, hS, hb4, ht9⟩ := hJ0
    obtain ⟨hx, hb, hr, hml, hown, hts, hXs, hbl, hlocks, -⟩ := id C0
    have hAE : ∀ q, hk_A E q → hk_A E q := fun _ h => h
    have hZA : ∀ q, Z q → hk_A E q := hW.2.2.2.2.2.2.2.2.2.2.2.2
    have hZn : ∀ q, H.size ≤ q → Z q := fun q h => hZn0 q (Nat.le_trans hb4 h)
    have hn1 : cn 1 ≤ 4 := hV.n1
    have hn8 : cn 8 ≤ 3 := hV.n8
    have hn12 : cn 12 ≤ 24 := hV.n12
    have hn22 : cn 22 ≤ 4 := hV.n22
    have hn29 : cn 29 ≤ 8 := hV.n29
    have ht9 : tI tn (cn 1) := ht9
    have hbA : ¬ hk_A E b := fun g => absurd hbl (Nat.not_lt.mpr (by rw [← hE]; exact g))
    refine lv_iload hx hb dL_law_113 (lv_at hl 0 rfl) ?_
    refine lv_bipush (v := 110) hx hb dL_law_115 (by decide) ?_
    refine lv_icmp_ge (tgt := 2202) hx hb dL_law_117 (by decide) (fun c_117 => ?_) (fun c_117 => ?_)
    · have htn : tn = 110 := by
        have := (nI_leI (a := 110) (by omega) (by omega)).mp c_117
        omega
      exact t_2202 G0 ⟨G, R, V, (cn, sc, μ), hI, hV, hW, hL, hS, hb4, by have := ht9.2 (by omega); exact this⟩ (by omega) (by omega) (lv_sub hl [1, 2, 3, 4, 5, 6, 7, 8, 9, 10, 11, 12, 13, 14, 15, 16] rfl)
    · have htn : tn < 110 := Nat.lt_of_not_le (fun h => c_117 (nI_le (a := 110) h (by omega)))
      refine lv_iload hx hb dL_law_120 (lv_at hl 1 rfl) ?_
      refine lv_if_eq (tgt := 2202) hx hb dL_law_122 (by decide) (fun c_122 => ?_) (fun c_122 => ?_)
      · exact absurd c_122 (by decide)
      · have J165 : ∀ (qn : Nat), qn < 2 ^ 31 → ∀ (ls : Array Slot), lv_has ls 26 [(17, .int (nI qn)), (16, .int (nI tn)), (15, .int 1), (2, .ref (la 0)), (3, .ref (la 1)), (4, .ref (la 2)), (5, .ref (la 3)), (6, .ref (la 4)), (7, .ref (la 5)), (8, .ref (la 6)), (9, .ref (la 7)), (10, .ref (la 8)), (11, .ref (la 9)), (12, .ref (la 10)), (13, .ref (la 11)), (14, .ref (la 12)), (1, .ref ho), (0, .ref b)] → W p l e room_1 s m #[Value.ref b] below meth c H locs (200 + 40 * tn + 3100 * (tn / 5)) (8000 + 2000 * tn + 155000 * (tn / 5)) (lw_Z below #[Value.ref b] s) (F0 m 165 ls []) := by
          intro qn hq31 ls hl
          have J203 : ∀ (kd : Int32), (kd = 0 ∨ 2 ≤ tn) → ∀ (ls : Array Slot), lv_has ls 26 [(18, .int kd), (17, .int (nI qn)), (16, .int (nI tn)), (15, .int 1), (2, .ref (la 0)), (3, .ref (la 1)), (4, .ref (la 2)), (5, .ref (la 3)), (6, .ref (la 4)), (7, .ref (la 5)), (8, .ref (la 6)), (9, .ref (la 7)), (10, .ref (la 8)), (11, .ref (la 9)), (12, .ref (la 10)), (13, .ref (la 11)), (14, .ref (la 12)), (1, .ref ho), (0, .ref b)] → W p l e room_1 s m #[Value.ref b] below meth c H locs (200 + 40 * tn + 3100 * (tn / 5)) (8000 + 2000 * tn + 155000 * (tn / 5)) (lw_Z below #[Value.ref b] s) (F0 m 203 ls []) := by
            intro kd hkd ls hl
            refine lv_iload hx hb dL_law_203 (lv_at hl 1 rfl) ?_
            obtain ⟨zn, ezn⟩ : ∃ y, y = qn / 29 := ⟨_, rfl⟩
            refine lv_bipush (v := 29) hx hb dL_law_205 (by decide) ?_
            refine lv_idiv hx hb dL_law_207 (by decide) ?_
            refine lv_topi (fun z_1 ez_1 => ?_)
            have ez_1 : z_1 = nI zn := ez_1.trans ((pk_div (a := qn) (d := 29) (by omega) (by omega) (by omega)).trans (congrArg nI (show qn / 29 = zn by omega)))
            subst ez_1
            refine lv_istore (lv' := [(19, .int (nI zn)), (18, .int kd), (17, .int (nI qn)), (16, .int (nI tn)), (15, .int 1), (2, .ref (la 0)), (3, .ref (la 1)), (4, .ref (la 2)), (5, .ref (la 3)), (6, .ref (la 4)), (7, .ref (la 5)), (8, .ref (la 6)), (9, .ref (la 7)), (10, .ref (la 8)), (11, .ref (la 9)), (12, .ref (la 10)), (13, .ref (la 11)), (14, .ref (la 12)), (1, .ref ho), (0, .ref b)]) hx hb dL_law_208 hl (by decide) rfl (fun ls hl => ?_)
            have J230 : ∀ (st9 : Nat), (1 ≤ cn 1 → st9 < cn 1) → ∀ (ls : Array Slot), lv_has ls 26 [(20, .int (nI st9)), (19, .int (nI zn)), (18, .int kd), (17, .int (nI qn)), (16, .int (nI tn)), (15, .int 1), (2, .ref (la 0)), (3, .ref (la 1)), (4, .ref (la 2)), (5, .ref (la 3)), (6, .ref (la 4)), (7, .ref (la 5)), (8, .ref (la 6)), (9, .ref (la 7)), (10, .ref (la 8)), (11, .ref (la 9)), (12, .ref (la 10)), (13, .ref (la 11)), (14, .ref (la 12)), (1, .ref ho), (0, .ref b)] → W p l e room_1 s m #[Value.ref b] below meth c H locs (200 + 40 * tn + 3100 * (tn / 5)) (8000 + 2000 * tn + 155000 * (tn / 5)) (lw_Z below #[Value.ref b] s) (F0 m 230 ls []) := by
              intro st9 hst9 ls hl
              refine k_230 (zn := zn) (tn := tn) (kd := kd) (st9 := st9) G0 ⟨G, R, V, (cn, sc, μ), hI, hV, hW, hL, hS, hb4, ⟨ht9, hst9⟩⟩ (by omega) hkd (by omega) (by omega) (lv_sub hl [0, 1, 2, 4, 5, 6, 7, 8, 9, 10, 11, 12, 13, 14, 15, 16, 17, 18, 19, 20] rfl) (fun H1 locs1 hJ1 ls hl => ?_)
              exact t_2061 (c9 := 200 + 40 * (tn + 1) + 3100 * ((tn + 1) / 5)) (s9 := 8000 + 2000 * (tn + 1) + 155000 * ((tn + 1) / 5)) G0 hJ1 (by omega) htn (by omega) (by omega) (by omega) (by omega) (by intro h; omega) (by intro h; omega) hl (fun H2 locs2 hJ2 ls hl => ih (tn + 1) (by omega) (by omega) H2 locs2 hJ2 ls hl)
            refine lv_aload hx hb dL_law_210 (lv_at hl 15 rfl) ?_
            refine lv_iconst (v := 0) hx hb dL_law_212 (by decide) ?_
            refine hk_ild (f := (V 10)) X K hL.c10 (show vp_in (nI 0) 6 from vp_in_nI (by decide) (by decide)) dL_law_213 ?_
            rw [show (V 10) (0 : Int32).toNatClampNeg = nI (cn 1) from hV.g0]
            refine lv_if_ne (tgt := 221) hx hb dL_law_214 (by decide) (fun c_214 => ?_) (fun c_214 => ?_)
            · have hn0 : 0 < cn 1 := by
                rcases Nat.eq_zero_or_pos (cn 1) with h | h
                · rw [h] at c_214; exact absurd rfl c_214
                · exact h
              refine lv_iload hx hb dL_law_221 (lv_at hl 0 rfl) ?_
              refine lv_aload hx hb dL_law_223 (lv_at hl 15 rfl) ?_
              refine lv_iconst (v := 0) hx hb dL_law_225 (by decide) ?_
              refine hk_ild (f := (V 10)) X K hL.c10 (show vp_in (nI 0) 6 from vp_in_nI (by decide) (by decide)) dL_law_226 ?_
              rw [show (V 10) (0 : Int32).toNatClampNeg = nI (cn 1) from hV.g0]
              refine lv_irem hx hb dL_law_227 (nI_ne0 (by omega) (by omega)) ?_
              refine lv_topi (fun z_2 ez_2 => ?_)
              have ez_2 : z_2 = nI (zn % (cn 1)) := ez_2.trans (pk_rem (a := zn) (d := (cn 1)) (by omega) (by omega) (by omega))
              subst ez_2
              refine lv_istore (lv' := [(20, .int (nI (zn % (cn 1)))), (19, .int (nI zn)), (18, .int kd), (17, .int (nI qn)), (16, .int (nI tn)), (15, .int 1), (2, .ref (la 0)), (3, .ref (la 1)), (4, .ref (la 2)), (5, .ref (la 3)), (6, .ref (la 4)), (7, .ref (la 5)), (8, .ref (la 6)), (9, .ref (la 7)), (10, .ref (la 8)), (11, .ref (la 9)), (12, .ref (la 10)), (13, .ref (la 11)), (14, .ref (la 12)), (1, .ref ho), (0, .ref b)]) hx hb dL_law_228 hl (by decide) rfl (fun ls hl => ?_)
              exact J230 (zn % (cn 1)) (fun h => Nat.mod_lt _ h) _ (lv_sub hl [0, 1, 2, 3, 4, 5, 6, 7, 8, 9, 10, 11, 12, 13, 14, 15, 16, 17, 18, 19, 20] rfl)
            · have hn0 : cn 1 = 0 := (nI_eq (b := 0) (by omega) (by omega)).mp c_214
              refine lv_iconst (v := 0) hx hb dL_law_217 (by decide) ?_
              refine lv_goto (tgt := 228) hx hb dL_law_218 (by decide) ?_
              refine lv_istore (lv' := [(20, .int 0), (19, .int (nI zn)), (18, .int kd), (17, .int (nI qn)), (16, .int (nI tn)), (15, .int 1), (2, .ref (la 0)), (3, .ref (la 1)), (4, .ref (la 2)), (5, .ref (la 3)), (6, .ref (la 4)), (7, .ref (la 5)), (8, .ref (la 6)), (9, .ref (la 7)), (10, .ref (la 8)), (11, .ref (la 9)), (12, .ref (la 10)), (13, .ref (la 11)), (14, .ref (la 12)), (1, .ref ho), (0, .ref b)]) hx hb dL_law_228 hl (by decide) rfl (fun ls hl => ?_)
              exact J230 0 (fun h => by omega) _ (lv_sub hl [0, 1, 2, 3, 4, 5, 6, 7, 8, 9, 10, 11, 12, 13, 14, 15, 16, 17, 18, 19, 20] rfl)
          refine lv_iload hx hb dL_law_165 (lv_at hl 1 rfl) ?_
          refine lv_iconst (v := 2) hx hb dL_law_167 (by decide) ?_
          refine lv_icmp_ge (tgt := 175) hx hb dL_law_168 (by decide) (fun c_168 => ?_) (fun c_168 => ?_)
          · have hA2 : 2 ≤ tn := (nI_leI (a := 2) (by omega) (by omega)).mp c_168
            refine lv_iload hx hb dL_law_175 (lv_at hl 1 rfl) ?_
            refine lv_iconst (v := 4) hx hb dL_law_177 (by decide) ?_
            refine lv_icmp_ge (tgt := 185) hx hb dL_law_178 (by decide) (fun c_178 => ?_) (fun c_178 => ?_)
            · refine lv_iload hx hb dL_law_185 (lv_at hl 1 rfl) ?_
              refine lv_bipush (v := 6) hx hb dL_law_187 (by decide) ?_
              refine lv_icmp_ge (tgt := 196) hx hb dL_law_189 (by decide) (fun c_189 => ?_) (fun c_189 => ?_)
              · refine lv_iload hx hb dL_law_196 (lv_at hl 0 rfl) ?_
                refine lv_bipush (v := 29) hx hb dL_law_198 (by decide) ?_
                refine lv_irem hx hb dL_law_200 (by decide) ?_
                refine lv_topi (fun z_3 ez_3 => ?_)
                have ez_3 : z_3 = nI (qn % 29) := ez_3.trans (pk_rem (a := qn) (d := 29) (by omega) (by omega) (by omega))
                subst ez_3
                refine lv_istore (lv' := [(18, .int (nI (qn % 29))), (17, .int (nI qn)), (16, .int (nI tn)), (15, .int 1), (2, .ref (la 0)), (3, .ref (la 1)), (4, .ref (la 2)), (5, .ref (la 3)), (6, .ref (la 4)), (7, .ref (la 5)), (8, .ref (la 6)), (9, .ref (la 7)), (10, .ref (la 8)), (11, .ref (la 9)), (12, .ref (la 10)), (13, .ref (la 11)), (14, .ref (la 12)), (1, .ref ho), (0, .ref b)]) hx hb dL_law_201 hl (by decide) rfl (fun ls hl => ?_)
                exact J203 (nI (qn % 29)) (Or.inr hA2) _ (lv_sub hl [0, 1, 2, 3, 4, 5, 6, 7, 8, 9, 10, 11, 12, 13, 14, 15, 16, 17, 18] rfl)
              · refine lv_iconst (v := 2) hx hb dL_law_192 (by decide) ?_
                refine lv_goto (tgt := 201) hx hb dL_law_193 (by decide) ?_
                refine lv_istore (lv' := [(18, .int 2), (17, .int (nI qn)), (16, .int (nI tn)), (15, .int 1), (2, .ref (la 0)), (3, .ref (la 1)), (4, .ref (la 2)), (5, .ref (la 3)), (6, .ref (la 4)), (7, .ref (la 5)), (8, .ref (la 6)), (9, .ref (la 7)), (10, .ref (la 8)), (11, .ref (la 9)), (12, .ref (la 10)), (13, .ref (la 11)), (14, .ref (la 12)), (1, .ref ho), (0, .ref b)]) hx hb dL_law_201 hl (by decide) rfl (fun ls hl => ?_)
                exact J203 2 (Or.inr hA2) _ (lv_sub hl [0, 1, 2, 3, 4, 5, 6, 7, 8, 9, 10, 11, 12, 13, 14, 15, 16, 17, 18] rfl)
            · refine lv_iconst (v := 1) hx hb dL_law_181 (by decide) ?_
              refine lv_goto (tgt := 201) hx hb dL_law_182 (by decide) ?_
              refine lv_istore (lv' := [(18, .int 1), (17, .int (nI qn)), (16, .int (nI tn)), (15, .int 1), (2, .ref (la 0)), (3, .ref (la 1)), (4, .ref (la 2)), (5, .ref (la 3)), (6, .ref (la 4)), (7, .ref (la 5)), (8, .ref (la 6)), (9, .ref (la 7)), (10, .ref (la 8)), (11, .ref (la 9)), (12, .ref (la 10)), (13, .ref (la 11)), (14, .ref (la 12)), (1, .ref ho), (0, .ref b)]) hx hb dL_law_201 hl (by decide) rfl (fun ls hl => ?_)
              exact J203 1 (Or.inr hA2) _ (lv_sub hl [0, 1, 2, 3, 4, 5, 6, 7, 8, 9, 10, 11, 12, 13, 14, 15, 16, 17, 18] rfl)
          · refine lv_iconst (v := 0) hx hb dL_law_171 (by decide) ?_
            refine lv_goto (tgt := 201) hx hb dL_law_172 (by decide) ?_
            refine lv_istore (lv' := [(18, .int 0), (17, .int (nI qn)), (16, .int (nI tn)), (15, .int 1), (2, .ref (la 0)), (3, .ref (la 1)), (4, .ref (la 2)), (5, .ref (la 3)), (6, .ref (la 4)), (7, .ref (la 5)), (8, .ref (la 6)), (9, .ref (la 7)), (10, .ref (la 8)), (11, .ref (la 9)), (12, .ref (la 10)), (13, .ref (la 11)), (14, .ref (la 12)), (1, .ref ho), (0, .ref b)]) hx hb dL_law_201 hl (by decide) rfl (fun ls hl => ?_)
            exact J203 0 (Or.inl rfl) _ (lv_sub hl [0, 1, 2, 3, 4, 5, 6, 7, 8, 9, 10, 11, 12, 13, 14, 15, 16, 17, 18] rfl)
        refine lv_iload hx hb dL_law_125 (lv_at hl 0 rfl) ?_
        refine lv_aload_n hx hb dL_law_127 rfl (lv_at hl 16 rfl) ?_
        refine va_slen hx hb hXs hbl hbA hS dL_law_128 ?_
        refine lv_icmp_ge (tgt := 142) hx hb dL_law_129 (by decide) (fun c_129 => ?_) (fun c_129 => ?_)
        · refine lv_ldc hx hb hown (hts (.constant RL 134 (45269)) (by decide +kernel)) dL_law_142 ?_
          refine lv_iload hx hb dL_law_144 (lv_at hl 0 rfl) ?_
          refine lv_imul hx hb dL_law_146 ?_
          refine lv_iload hx hb dL_law_147 (lv_at hl 0 rfl) ?_
          refine lv_imul hx hb dL_law_149 ?_
          refine lv_sipush (v := 9127) hx hb dL_law_150 (by decide) ?_
          refine lv_iload hx hb dL_law_153 (lv_at hl 0 rfl) ?_
          refine lv_imul hx hb dL_law_155 ?_
          refine lv_iadd hx hb dL_law_156 ?_
          refine lv_bipush (v := 51) hx hb dL_law_157 (by decide) ?_
          refine lv_iadd hx hb dL_law_159 ?_
          refine lv_ldc hx hb hown (hts (.constant RL 133 (2147483647)) (by decide +kernel)) dL_law_160 ?_
          refine lv_iand hx hb dL_law_162 ?_
          obtain ⟨qn, hqn, eqn9⟩ := pk_andE ((((45269 * (nI tn)) * (nI tn)) + (9127 * (nI tn))) + 51) (m := 2147483647) 31 (by decide)
          rw [eqn9]
          refine lv_istore (lv' := [(17, .int (nI qn)), (16, .int (nI tn)), (15, .int 1), (2, .ref (la 0)), (3, .ref (la 1)), (4, .ref (la 2)), (5, .ref (la 3)), (6, .ref (la 4)), (7, .ref (la 5)), (8, .ref (la 6)), (9, .ref (la 7)), (10, .ref (la 8)), (11, .ref (la 9)), (12, .ref (la 10)), (13, .ref (la 11)), (14, .ref (la 12)), (1, .ref ho), (0, .ref b)]) hx hb dL_law_163 hl (by decide) rfl (fun ls hl => ?_)
          exact J165 qn hqn _ (lv_sub hl [0, 1, 2, 3, 4, 5, 6, 7, 8, 9, 10, 11, 12, 13, 14, 15, 16, 17] rfl)
        · have htL : tn < L := Nat.lt_of_not_le (fun h => c_129 (nI_le h (by omega)))
          refine lv_aload_n hx hb dL_law_132 rfl (lv_at hl 16 rfl) ?_
          refine lv_iload hx hb dL_law_133 (lv_at hl 0 rfl) ?_
          refine va_sld hx hb hXs hbl hbA hS (vp_in_nI (show tn < L by omega) (by omega)) dL_law_135 ?_
          refine lv_ldc hx hb hown (hts (.constant RL 133 (2147483647)) (by decide +kernel)) dL_law_136 ?_
          refine lv_iand hx hb dL_law_138 ?_
          obtain ⟨qn, hqn, eqn9⟩ := pk_andE (xs (nI tn).toNatClampNeg) (m := 2147483647) 31 (by decide)
          rw [eqn9]
          refine lv_goto (tgt := 163) hx hb dL_law_139 (by decide) ?_
          refine lv_istore (lv' := [(17, .int (nI qn)), (16, .int (nI tn)), (15, .int 1), (2, .ref (la 0)), (3, .ref (la 1)), (4, .ref (la 2)), (5, .ref (la 3)), (6, .ref (la 4)), (7, .ref (la 5)), (8, .ref (la 6)), (9, .ref (la 7)), (10, .ref (la 8)), (11, .ref (la 9)), (12, .ref (la 10)), (13, .ref (la 11)), (14, .ref (la 12)), (1, .ref ho), (0, .ref b)]) hx hb dL_law_163 hl (by decide) rfl (fun ls hl => ?_)
          exact J165 qn hqn _ (lv_sub hl [0, 1, 2, 3, 4, 5, 6, 7, 8, 9, 10, 11, 12, 13, 14, 15, 16, 17] rfl)
