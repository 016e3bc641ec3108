set_option maxHeartbeats 4000000 in
set_option maxRecDepth 100000 in
/-- THE LOOP, from its head, with tn turns done -/
theorem law_loop {p : Program} {l : Launch} {e : Env} {s : State} {m : MethodId} {below : List Frame} {meth : Method} {c : Code} {b L : Nat} {xs : Nat → Int32} {E : hk_E} {Z : Nat → Prop} {ho ts b4 : Nat} {li : Nat → Nat} {rr : Nat → Nat → Nat} {la : Nat → Nat} (G0 : lw_G p l s m meth c b L xs E Z la b4) : ∀ (n tn : Nat), 111 ≤ tn + n → tn ≤ 110 → ∀ (H : Heap) (locs : List Loc), lw_J E Z ho ts li rr la b4 s (fun S => tI tn (S.1 1)) H locs → ∀ (ls : Array Slot), lv_has ls 26 [(16, .int (nI tn)), (15, .int 1), (2, .ref (la 0)), (3, .ref (la 1)), (4, .ref (la 2)), (5, .ref (la 3)), (6, .ref (la 4)), (7, .ref (la 5)), (8, .ref (la 6)), (9, .ref (la 7)), (10, .ref (la 8)), (11, .ref (la 9)), (12, .ref (la 10)), (13, .ref (la 11)), (14, .ref (la 12)), (1, .ref ho), (0, .ref b)] → W p l e room_1 s m #[Value.ref b] below meth c H locs (200 + 40 * tn + 2200 * (tn / 5)) (8000 + 2000 * tn + 110000 * (tn / 5)) (lw_Z below #[Value.ref b] s) (F0 m 113 ls []) := by
  intro n
  induction n with
  | zero =>
    intro tn h1 h2
    exact absurd h2 (by omega)
  | succ n ih =>
    intro tn h1 h2 H locs hJ0 ls hl
    obtain ⟨hl9, hLL, C0, X, K, hE, hZn0, hlz, hla, hlA⟩ := id G0
    obtain ⟨G, R, V, ⟨cn, sc, μ⟩, hI, hV, hW, hL, hS, hb4, ht9⟩ := hJ0
    obtain ⟨hx, hb, hr, hml, hown, -, hXs, hbl, hlocks, -⟩ := id C0
    have hAE : ∀ q, hk_A E q → hk_A E q := fun _ h => h
    have hZA : ∀ q, Z q → hk_A E q := hW.2.2.2.2.2.2.2.2.2.2.2.2
    have hZn : ∀ q, H.size ≤ q → Z q := fun q h => hZn0 q (Nat.le_trans hb4 h)
    have hn1 : cn 1 ≤ 4 := hV.n1
    have hn8 : cn 8 ≤ 3 := hV.n8
    have hn12 : cn 12 ≤ 24 := hV.n12
    have hn22 : cn 22 ≤ 4 := hV.n22
    have hn29 : cn 29 ≤ 8 := hV.n29
    have hbA : ¬ hk_A E b := fun g => absurd hbl (Nat.not_lt.mpr (by rw [← hE]; exact g))
    refine lv_iload hx hb dL_law_113 (lv_at hl 0 rfl) ?_
    refine lv_bipush (v := 110) hx hb dL_law_115 (by decide) ?_
    refine lv_icmp_ge (tgt := 2202) hx hb dL_law_117 (by decide) (fun c_117 => ?_) (fun c_117 => ?_)
    · have htn : tn = 110 := by
        have := (nI_leI (a := 110) (by omega) (by omega)).mp c_117
        omega
      exact t_2202 G0 ⟨G, R, V, (cn, sc, μ), hI, hV, hW, hL, hS, hb4, by have := ht9.2 (by omega); exact this⟩ (by omega) (by omega) (lv_sub hl [1, 2, 3, 4, 5, 6, 7, 8, 9, 10, 11, 12, 13, 14, 15, 16] rfl)
    · have htn : tn < 110 := Nat.lt_of_not_le (fun h => c_117 (nI_le (a := 110) h (by omega)))
      refine lv_iload hx hb dL_law_120 (lv_at hl 1 rfl) ?_
      refine lv_if_eq (tgt := 2202) hx hb dL_law_122 (by decide) (fun c_122 => ?_) (fun c_122 => ?_)
      · exact absurd c_122 (by decide)
      · refine lv_iload hx hb dL_law_125 (lv_at hl 0 rfl) ?_
        refine lv_aload_n hx hb dL_law_127 rfl (lv_at hl 16 rfl) ?_
        refine va_slen hx hb hXs hbl hbA hS dL_law_128 ?_
        refine lv_icmp_ge (tgt := 142) hx hb dL_law_129 (by decide) (fun c_129 => ?_) (fun c_129 => ?_)
        · refine lv_ldc hx hb hown (hts (.constant RL 134 (45269)) (by decide +kernel)) dL_law_142 ?_
          refine lv_iload hx hb dL_law_144 (lv_at hl 0 rfl) ?_
          refine lv_imul hx hb dL_law_146 ?_
          refine lv_iload hx hb dL_law_147 (lv_at hl 0 rfl) ?_
          refine lv_imul hx hb dL_law_149 ?_
          refine lv_sipush (v := 9127) hx hb dL_law_150 (by decide) ?_
          refine lv_iload hx hb dL_law_153 (lv_at hl 0 rfl) ?_
          refine lv_imul hx hb dL_law_155 ?_
          refine lv_iadd hx hb dL_law_156 ?_
          refine lv_bipush (v := 51) hx hb dL_law_157 (by decide) ?_
          refine lv_iadd hx hb dL_law_159 ?_
          refine lv_ldc hx hb hown (hts (.constant RL 133 (2147483647)) (by decide +kernel)) dL_law_160 ?_
          refine lv_iand hx hb dL_law_162 ?_
          obtain ⟨qn, hqn, eqn9⟩ := pk_andE ((((45269 * (nI tn)) * (nI tn)) + (9127 * (nI tn))) + 51) (m := 2147483647) 31 (by decide)
          rw [eqn9]
          refine lv_istore (lv' := [(17, .int (nI qn)), (16, .int (nI tn)), (15, .int 1), (2, .ref (la 0)), (3, .ref (la 1)), (4, .ref (la 2)), (5, .ref (la 3)), (6, .ref (la 4)), (7, .ref (la 5)), (8, .ref (la 6)), (9, .ref (la 7)), (10, .ref (la 8)), (11, .ref (la 9)), (12, .ref (la 10)), (13, .ref (la 11)), (14, .ref (la 12)), (1, .ref ho), (0, .ref b)]) hx hb dL_law_163 hl (by decide) rfl (fun ls hl => ?_)
          exact J165 qn hqn _ (lv_sub hl [0, 1, 2, 3, 4, 5, 6, 7, 8, 9, 10, 11, 12, 13, 14, 15, 16, 17] rfl)
        · have htL : tn < L := Nat.lt_of_not_le (fun h => c_129 (nI_le h (by omega)))
          refine lv_aload_n hx hb dL_law_132 rfl (lv_at hl 16 rfl) ?_
          refine lv_iload hx hb dL_law_133 (lv_at hl 0 rfl) ?_
          refine va_sld hx hb hXs hbl hbA hS (vp_in_nI (show tn < L by omega) (by omega)) dL_law_135 ?_
          refine lv_ldc hx hb hown (hts (.constant RL 133 (2147483647)) (by decide +kernel)) dL_law_136 ?_
          refine lv_iand hx hb dL_law_138 ?_
          obtain ⟨qn, hqn, eqn9⟩ := pk_andE (xs (nI tn).toNatClampNeg) (m := 2147483647) 31 (by decide)
          rw [eqn9]
          refine lv_goto (tgt := 163) hx hb dL_law_139 (by decide) ?_
          refine lv_istore (lv' := [(17, .int (nI qn)), (16, .int (nI tn)), (15, .int 1), (2, .ref (la 0)), (3, .ref (la 1)), (4, .ref (la 2)), (5, .ref (la 3)), (6, .ref (la 4)), (7, .ref (la 5)), (8, .ref (la 6)), (9, .ref (la 7)), (10, .ref (la 8)), (11, .ref (la 9)), (12, .ref (la 10)), (13, .ref (la 11)), (14, .ref (la 12)), (1, .ref ho), (0, .ref b)]) hx hb dL_law_163 hl (by decide) rfl (fun ls hl => ?_)
          exact J165 qn hqn _ (lv_sub hl [0, 1, 2, 3, 4, 5, 6, 7, 8, 9, 10, 11, 12, 13, 14, 15, 16, 17] rfl)
