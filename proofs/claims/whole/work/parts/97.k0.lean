theorem hd_L_comparison : yL_comparison.cls ≠ "java/lang/invoke/MethodHandle" ∧ yL_comparison.cls ≠ "java/lang/invoke/VarHandle" ∧ (parseMethodDescriptor yL_comparison.desc).map (fun d => d.parameters.length) = some 4 := ⟨by decide, by decide, by decide +kernel⟩
theorem hd_X11_comparison : yX11_comparison.cls ≠ "java/lang/invoke/MethodHandle" ∧ yX11_comparison.cls ≠ "java/lang/invoke/VarHandle" ∧ (parseMethodDescriptor yX11_comparison.desc).map (fun d => d.parameters.length) = some 2 := ⟨by decide, by decide, by decide +kernel⟩
theorem hd_X11_thrown : yX11_thrown.cls ≠ "java/lang/invoke/MethodHandle" ∧ yX11_thrown.cls ≠ "java/lang/invoke/VarHandle" ∧ (parseMethodDescriptor yX11_thrown.desc).map (fun d => d.parameters.length) = some 0 := ⟨by decide, by decide, by decide +kernel⟩
theorem hd_L_star : yL_star.cls ≠ "java/lang/invoke/MethodHandle" ∧ yL_star.cls ≠ "java/lang/invoke/VarHandle" ∧ (parseMethodDescriptor yL_star.desc).map (fun d => d.parameters.length) = some 3 := ⟨by decide, by decide, by decide +kernel⟩
theorem hd_X11_star : yX11_star.cls ≠ "java/lang/invoke/MethodHandle" ∧ yX11_star.cls ≠ "java/lang/invoke/VarHandle" ∧ (parseMethodDescriptor yX11_star.desc).map (fun d => d.parameters.length) = some 1 := ⟨by decide, by decide, by decide +kernel⟩
theorem hd_L_bias : yL_bias.cls ≠ "java/lang/invoke/MethodHandle" ∧ yL_bias.cls ≠ "java/lang/invoke/VarHandle" ∧ (parseMethodDescriptor yL_bias.desc).map (fun d => d.parameters.length) = some 4 := ⟨by decide, by decide, by decide +kernel⟩
theorem hd_X11_bias : yX11_bias.cls ≠ "java/lang/invoke/MethodHandle" ∧ yX11_bias.cls ≠ "java/lang/invoke/VarHandle" ∧ (parseMethodDescriptor yX11_bias.desc).map (fun d => d.parameters.length) = some 2 := ⟨by decide, by decide, by decide +kernel⟩
theorem hd_L_clock : yL_clock.cls ≠ "java/lang/invoke/MethodHandle" ∧ yL_clock.cls ≠ "java/lang/invoke/VarHandle" ∧ (parseMethodDescriptor yL_clock.desc).map (fun d => d.parameters.length) = some 4 := ⟨by decide, by decide, by decide +kernel⟩
theorem hd_X11_clock : yX11_clock.cls ≠ "java/lang/invoke/MethodHandle" ∧ yX11_clock.cls ≠ "java/lang/invoke/VarHandle" ∧ (parseMethodDescriptor yX11_clock.desc).map (fun d => d.parameters.length) = some 2 := ⟨by decide, by decide, by decide +kernel⟩
theorem hd_L_plate : yL_plate.cls ≠ "java/lang/invoke/MethodHandle" ∧ yL_plate.cls ≠ "java/lang/invoke/VarHandle" ∧ (parseMethodDescriptor yL_plate.desc).map (fun d => d.parameters.length) = some 5 := ⟨by decide, by decide, by decide +kernel⟩
theorem hd_X11_plate : yX11_plate.cls ≠ "java/lang/invoke/MethodHandle" ∧ yX11_plate.cls ≠ "java/lang/invoke/VarHandle" ∧ (parseMethodDescriptor yX11_plate.desc).map (fun d => d.parameters.length) = some 3 := ⟨by decide, by decide, by decide +kernel⟩
theorem hd_L_join : yL_join.cls ≠ "java/lang/invoke/MethodHandle" ∧ yL_join.cls ≠ "java/lang/invoke/VarHandle" ∧ (parseMethodDescriptor yL_join.desc).map (fun d => d.parameters.length) = some 4 := ⟨by decide, by decide, by decide +kernel⟩
theorem hd_X11_join : yX11_join.cls ≠ "java/lang/invoke/MethodHandle" ∧ yX11_join.cls ≠ "java/lang/invoke/VarHandle" ∧ (parseMethodDescriptor yX11_join.desc).map (fun d => d.parameters.length) = some 2 := ⟨by decide, by decide, by decide +kernel⟩
theorem hd_L_step : yL_step.cls ≠ "java/lang/invoke/MethodHandle" ∧ yL_step.cls ≠ "java/lang/invoke/VarHandle" ∧ (parseMethodDescriptor yL_step.desc).map (fun d => d.parameters.length) = some 9 := ⟨by decide, by decide, by decide +kernel⟩
theorem hd_X11_step : yX11_step.cls ≠ "java/lang/invoke/MethodHandle" ∧ yX11_step.cls ≠ "java/lang/invoke/VarHandle" ∧ (parseMethodDescriptor yX11_step.desc).map (fun d => d.parameters.length) = some 7 := ⟨by decide, by decide, by decide +kernel⟩
theorem hd_L_density : yL_density.cls ≠ "java/lang/invoke/MethodHandle" ∧ yL_density.cls ≠ "java/lang/invoke/VarHandle" ∧ (parseMethodDescriptor yL_density.desc).map (fun d => d.parameters.length) = some 5 := ⟨by decide, by decide, by decide +kernel⟩
theorem hd_X11_density : yX11_density.cls ≠ "java/lang/invoke/MethodHandle" ∧ yX11_density.cls ≠ "java/lang/invoke/VarHandle" ∧ (parseMethodDescriptor yX11_density.desc).map (fun d => d.parameters.length) = some 3 := ⟨by decide, by decide, by decide +kernel⟩
theorem hd_L_doubt : yL_doubt.cls ≠ "java/lang/invoke/MethodHandle" ∧ yL_doubt.cls ≠ "java/lang/invoke/VarHandle" ∧ (parseMethodDescriptor yL_doubt.desc).map (fun d => d.parameters.length) = some 4 := ⟨by decide, by decide, by decide +kernel⟩
theorem hd_X11_doubt : yX11_doubt.cls ≠ "java/lang/invoke/MethodHandle" ∧ yX11_doubt.cls ≠ "java/lang/invoke/VarHandle" ∧ (parseMethodDescriptor yX11_doubt.desc).map (fun d => d.parameters.length) = some 2 := ⟨by decide, by decide, by decide +kernel⟩
theorem hd_L_minimum : yL_minimum.cls ≠ "java/lang/invoke/MethodHandle" ∧ yL_minimum.cls ≠ "java/lang/invoke/VarHandle" ∧ (parseMethodDescriptor yL_minimum.desc).map (fun d => d.parameters.length) = some 4 := ⟨by decide, by decide, by decide +kernel⟩
theorem hd_X11_minimum : yX11_minimum.cls ≠ "java/lang/invoke/MethodHandle" ∧ yX11_minimum.cls ≠ "java/lang/invoke/VarHandle" ∧ (parseMethodDescriptor yX11_minimum.desc).map (fun d => d.parameters.length) = some 2 := ⟨by decide, by decide, by decide +kernel⟩
theorem hd_L_merge : yL_merge.cls ≠ "java/lang/invoke/MethodHandle" ∧ yL_merge.cls ≠ "java/lang/invoke/VarHandle" ∧ (parseMethodDescriptor yL_merge.desc).map (fun d => d.parameters.length) = some 4 := ⟨by decide, by decide, by decide +kernel⟩
theorem hd_X11_merge : yX11_merge.cls ≠ "java/lang/invoke/MethodHandle" ∧ yX11_merge.cls ≠ "java/lang/invoke/VarHandle" ∧ (parseMethodDescriptor yX11_merge.desc).map (fun d => d.parameters.length) = some 2 := ⟨by decide, by decide, by decide +kernel⟩
theorem hd_L_split : yL_split.cls ≠ "java/lang/invoke/MethodHandle" ∧ yL_split.cls ≠ "java/lang/invoke/VarHandle" ∧ (parseMethodDescriptor yL_split.desc).map (fun d => d.parameters.length) = some 3 := ⟨by decide, by decide, by decide +kernel⟩
theorem hd_X11_split : yX11_split.cls ≠ "java/lang/invoke/MethodHandle" ∧ yX11_split.cls ≠ "java/lang/invoke/VarHandle" ∧ (parseMethodDescriptor yX11_split.desc).map (fun d => d.parameters.length) = some 1 := ⟨by decide, by decide, by decide +kernel⟩
theorem hd_L_entry : yL_entry.cls ≠ "java/lang/invoke/MethodHandle" ∧ yL_entry.cls ≠ "java/lang/invoke/VarHandle" ∧ (parseMethodDescriptor yL_entry.desc).map (fun d => d.parameters.length) = some 3 := ⟨by decide, by decide, by decide +kernel⟩
theorem hd_X11_entry : yX11_entry.cls ≠ "java/lang/invoke/MethodHandle" ∧ yX11_entry.cls ≠ "java/lang/invoke/VarHandle" ∧ (parseMethodDescriptor yX11_entry.desc).map (fun d => d.parameters.length) = some 1 := ⟨by decide, by decide, by decide +kernel⟩
theorem hd_L_entries : yL_entries.cls ≠ "java/lang/invoke/MethodHandle" ∧ yL_entries.cls ≠ "java/lang/invoke/VarHandle" ∧ (parseMethodDescriptor yL_entries.desc).map (fun d => d.parameters.length) = some 3 := ⟨by decide, by decide, by decide +kernel⟩
theorem hd_X11_entries : yX11_entries.cls ≠ "java/lang/invoke/MethodHandle" ∧ yX11_entries.cls ≠ "java/lang/invoke/VarHandle" ∧ (parseMethodDescriptor yX11_entries.desc).map (fun d => d.parameters.length) = some 1 := ⟨by decide, by decide, by decide +kernel⟩
theorem hd_L_look : yL_look.cls ≠ "java/lang/invoke/MethodHandle" ∧ yL_look.cls ≠ "java/lang/invoke/VarHandle" ∧ (parseMethodDescriptor yL_look.desc).map (fun d => d.parameters.length) = some 4 := ⟨by decide, by decide, by decide +kernel⟩
theorem hd_X11_look : yX11_look.cls ≠ "java/lang/invoke/MethodHandle" ∧ yX11_look.cls ≠ "java/lang/invoke/VarHandle" ∧ (parseMethodDescriptor yX11_look.desc).map (fun d => d.parameters.length) = some 2 := ⟨by decide, by decide, by decide +kernel⟩
theorem hd_L_string : yL_string.cls ≠ "java/lang/invoke/MethodHandle" ∧ yL_string.cls ≠ "java/lang/invoke/VarHandle" ∧ (parseMethodDescriptor yL_string.desc).map (fun d => d.parameters.length) = some 4 := ⟨by decide, by decide, by decide +kernel⟩
theorem hd_X11_string : yX11_string.cls ≠ "java/lang/invoke/MethodHandle" ∧ yX11_string.cls ≠ "java/lang/invoke/VarHandle" ∧ (parseMethodDescriptor yX11_string.desc).map (fun d => d.parameters.length) = some 2 := ⟨by decide, by decide, by decide +kernel⟩
theorem hd_L_together : yL_together.cls ≠ "java/lang/invoke/MethodHandle" ∧ yL_together.cls ≠ "java/lang/invoke/VarHandle" ∧ (parseMethodDescriptor yL_together.desc).map (fun d => d.parameters.length) = some 5 := ⟨by decide, by decide, by decide +kernel⟩
theorem hd_X11_together : yX11_together.cls ≠ "java/lang/invoke/MethodHandle" ∧ yX11_together.cls ≠ "java/lang/invoke/VarHandle" ∧ (parseMethodDescriptor yX11_together.desc).map (fun d => d.parameters.length) = some 3 := ⟨by decide, by decide, by decide +kernel⟩
theorem hd_L_period : yL_period.cls ≠ "java/lang/invoke/MethodHandle" ∧ yL_period.cls ≠ "java/lang/invoke/VarHandle" ∧ (parseMethodDescriptor yL_period.desc).map (fun d => d.parameters.length) = some 6 := ⟨by decide, by decide, by decide +kernel⟩
theorem hd_X11_period : yX11_period.cls ≠ "java/lang/invoke/MethodHandle" ∧ yX11_period.cls ≠ "java/lang/invoke/VarHandle" ∧ (parseMethodDescriptor yX11_period.desc).map (fun d => d.parameters.length) = some 4 := ⟨by decide, by decide, by decide +kernel⟩
theorem hd_L_aliases : yL_aliases.cls ≠ "java/lang/invoke/MethodHandle" ∧ yL_aliases.cls ≠ "java/lang/invoke/VarHandle" ∧ (parseMethodDescriptor yL_aliases.desc).map (fun d => d.parameters.length) = some 7 := ⟨by decide, by decide, by decide +kernel⟩
theorem hd_X11_aliases : yX11_aliases.cls ≠ "java/lang/invoke/MethodHandle" ∧ yX11_aliases.cls ≠ "java/lang/invoke/VarHandle" ∧ (parseMethodDescriptor yX11_aliases.desc).map (fun d => d.parameters.length) = some 5 := ⟨by decide, by decide, by decide +kernel⟩
theorem hd_L_claim : yL_claim.cls ≠ "java/lang/invoke/MethodHandle" ∧ yL_claim.cls ≠ "java/lang/invoke/VarHandle" ∧ (parseMethodDescriptor yL_claim.desc).map (fun d => d.parameters.length) = some 4 := ⟨by decide, by decide, by decide +kernel⟩
theorem hd_X11_claim : yX11_claim.cls ≠ "java/lang/invoke/MethodHandle" ∧ yX11_claim.cls ≠ "java/lang/invoke/VarHandle" ∧ (parseMethodDescriptor yX11_claim.desc).map (fun d => d.parameters.length) = some 2 := ⟨by decide, by decide, by decide +kernel⟩
theorem hd_L_feature : yL_feature.cls ≠ "java/lang/invoke/MethodHandle" ∧ yL_feature.cls ≠ "java/lang/invoke/VarHandle" ∧ (parseMethodDescriptor yL_feature.desc).map (fun d => d.parameters.length) = some 4 := ⟨by decide, by decide, by decide +kernel⟩
theorem hd_X11_feature : yX11_feature.cls ≠ "java/lang/invoke/MethodHandle" ∧ yX11_feature.cls ≠ "java/lang/invoke/VarHandle" ∧ (parseMethodDescriptor yX11_feature.desc).map (fun d => d.parameters.length) = some 2 := ⟨by decide, by decide, by decide +kernel⟩
theorem hd_L_rule : yL_rule.cls ≠ "java/lang/invoke/MethodHandle" ∧ yL_rule.cls ≠ "java/lang/invoke/VarHandle" ∧ (parseMethodDescriptor yL_rule.desc).map (fun d => d.parameters.length) = some 7 := ⟨by decide, by decide, by decide +kernel⟩
theorem hd_X11_rule : yX11_rule.cls ≠ "java/lang/invoke/MethodHandle" ∧ yX11_rule.cls ≠ "java/lang/invoke/VarHandle" ∧ (parseMethodDescriptor yX11_rule.desc).map (fun d => d.parameters.length) = some 5 := ⟨by decide, by decide, by decide +kernel⟩
theorem hd_L_withdraw : yL_withdraw.cls ≠ "java/lang/invoke/MethodHandle" ∧ yL_withdraw.cls ≠ "java/lang/invoke/VarHandle" ∧ (parseMethodDescriptor yL_withdraw.desc).map (fun d => d.parameters.length) = some 4 := ⟨by decide, by decide, by decide +kernel⟩
theorem hd_X11_withdraw : yX11_withdraw.cls ≠ "java/lang/invoke/MethodHandle" ∧ yX11_withdraw.cls ≠ "java/lang/invoke/VarHandle" ∧ (parseMethodDescriptor yX11_withdraw.desc).map (fun d => d.parameters.length) = some 2 := ⟨by decide, by decide, by decide +kernel⟩
theorem hd_L_votes : yL_votes.cls ≠ "java/lang/invoke/MethodHandle" ∧ yL_votes.cls ≠ "java/lang/invoke/VarHandle" ∧ (parseMethodDescriptor yL_votes.desc).map (fun d => d.parameters.length) = some 4 := ⟨by decide, by decide, by decide +kernel⟩
theorem hd_X11_votes : yX11_votes.cls ≠ "java/lang/invoke/MethodHandle" ∧ yX11_votes.cls ≠ "java/lang/invoke/VarHandle" ∧ (parseMethodDescriptor yX11_votes.desc).map (fun d => d.parameters.length) = some 2 := ⟨by decide, by decide, by decide +kernel⟩
theorem hd_L_kind : yL_kind.cls ≠ "java/lang/invoke/MethodHandle" ∧ yL_kind.cls ≠ "java/lang/invoke/VarHandle" ∧ (parseMethodDescriptor yL_kind.desc).map (fun d => d.parameters.length) = some 3 := ⟨by decide, by decide, by decide +kernel⟩
theorem hd_X11_kind : yX11_kind.cls ≠ "java/lang/invoke/MethodHandle" ∧ yX11_kind.cls ≠ "java/lang/invoke/VarHandle" ∧ (parseMethodDescriptor yX11_kind.desc).map (fun d => d.parameters.length) = some 1 := ⟨by decide, by decide, by decide +kernel⟩
theorem hd_L_cycle : yL_cycle.cls ≠ "java/lang/invoke/MethodHandle" ∧ yL_cycle.cls ≠ "java/lang/invoke/VarHandle" ∧ (parseMethodDescriptor yL_cycle.desc).map (fun d => d.parameters.length) = some 6 := ⟨by decide, by decide, by decide +kernel⟩
theorem hd_X11_cycle : yX11_cycle.cls ≠ "java/lang/invoke/MethodHandle" ∧ yX11_cycle.cls ≠ "java/lang/invoke/VarHandle" ∧ (parseMethodDescriptor yX11_cycle.desc).map (fun d => d.parameters.length) = some 4 := ⟨by decide, by decide, by decide +kernel⟩
theorem hd_L_lost : yL_lost.cls ≠ "java/lang/invoke/MethodHandle" ∧ yL_lost.cls ≠ "java/lang/invoke/VarHandle" ∧ (parseMethodDescriptor yL_lost.desc).map (fun d => d.parameters.length) = some 4 := ⟨by decide, by decide, by decide +kernel⟩
theorem hd_X11_lost : yX11_lost.cls ≠ "java/lang/invoke/MethodHandle" ∧ yX11_lost.cls ≠ "java/lang/invoke/VarHandle" ∧ (parseMethodDescriptor yX11_lost.desc).map (fun d => d.parameters.length) = some 2 := ⟨by decide, by decide, by decide +kernel⟩
theorem hd_L_dust : yL_dust.cls ≠ "java/lang/invoke/MethodHandle" ∧ yL_dust.cls ≠ "java/lang/invoke/VarHandle" ∧ (parseMethodDescriptor yL_dust.desc).map (fun d => d.parameters.length) = some 4 := ⟨by decide, by decide, by decide +kernel⟩
theorem hd_X11_dust : yX11_dust.cls ≠ "java/lang/invoke/MethodHandle" ∧ yX11_dust.cls ≠ "java/lang/invoke/VarHandle" ∧ (parseMethodDescriptor yX11_dust.desc).map (fun d => d.parameters.length) = some 2 := ⟨by decide, by decide, by decide +kernel⟩
theorem hd_L_zero : yL_zero.cls ≠ "java/lang/invoke/MethodHandle" ∧ yL_zero.cls ≠ "java/lang/invoke/VarHandle" ∧ (parseMethodDescriptor yL_zero.desc).map (fun d => d.parameters.length) = some 3 := ⟨by decide, by decide, by decide +kernel⟩
theorem hd_X11_zero : yX11_zero.cls ≠ "java/lang/invoke/MethodHandle" ∧ yX11_zero.cls ≠ "java/lang/invoke/VarHandle" ∧ (parseMethodDescriptor yX11_zero.desc).map (fun d => d.parameters.length) = some 1 := ⟨by decide, by decide, by decide +kernel⟩
theorem hd_L_mean : yL_mean.cls ≠ "java/lang/invoke/MethodHandle" ∧ yL_mean.cls ≠ "java/lang/invoke/VarHandle" ∧ (parseMethodDescriptor yL_mean.desc).map (fun d => d.parameters.length) = some 3 := ⟨by decide, by decide, by decide +kernel⟩
theorem hd_X11_mean : yX11_mean.cls ≠ "java/lang/invoke/MethodHandle" ∧ yX11_mean.cls ≠ "java/lang/invoke/VarHandle" ∧ (parseMethodDescriptor yX11_mean.desc).map (fun d => d.parameters.length) = some 1 := ⟨by decide, by decide, by decide +kernel⟩
theorem hd_L_modulus : yL_modulus.cls ≠ "java/lang/invoke/MethodHandle" ∧ yL_modulus.cls ≠ "java/lang/invoke/VarHandle" ∧ (parseMethodDescriptor yL_modulus.desc).map (fun d => d.parameters.length) = some 3 := ⟨by decide, by decide, by decide +kernel⟩
theorem hd_X11_modulus : yX11_modulus.cls ≠ "java/lang/invoke/MethodHandle" ∧ yX11_modulus.cls ≠ "java/lang/invoke/VarHandle" ∧ (parseMethodDescriptor yX11_modulus.desc).map (fun d => d.parameters.length) = some 1 := ⟨by decide, by decide, by decide +kernel⟩
theorem hd_L_nearest : yL_nearest.cls ≠ "java/lang/invoke/MethodHandle" ∧ yL_nearest.cls ≠ "java/lang/invoke/VarHandle" ∧ (parseMethodDescriptor yL_nearest.desc).map (fun d => d.parameters.length) = some 3 := ⟨by decide, by decide, by decide +kernel⟩
theorem hd_X11_nearest : yX11_nearest.cls ≠ "java/lang/invoke/MethodHandle" ∧ yX11_nearest.cls ≠ "java/lang/invoke/VarHandle" ∧ (parseMethodDescriptor yX11_nearest.desc).map (fun d => d.parameters.length) = some 1 := ⟨by decide, by decide, by decide +kernel⟩
set_option maxHeartbeats 4000000 in
set_option maxRecDepth 100000 in
theorem k_comparison {p : Program} {l : Launch} {e : Env} {s : State} {m : MethodId} {below : List Frame} {meth : Method} {c : Code} {b L : Nat} {xs : Nat → Int32} {E : hk_E} {Zh Zm : Nat → Prop} {ho ts mo o9 b4 : Nat} {li am : Nat → Nat} {rr : Nat → Nat → Nat} (G0 : lw_G p l s m meth c b L xs E Zh Zm o9 b4) {H : Heap} {locs : List Loc} {cells slots : Nat} (hJ0 : lw_J E Zh Zm ho ts mo o9 b4 li am rr s H locs) {i : Nat} (hi : i + 8 ≤ L) (hce : cells + 12 ≤ 601024) (hsl : slots + 700 ≤ 7293034) {ls : Array Slot} (hl : lv_has ls 7 [(4, .int (nI i)), (3, .ref o9), (2, .ref mo), (1, .ref ho), (0, .ref b)])
  (J2534 : ∀ (H1 : Heap) (locs1 : List Loc), lw_J E Zh Zm ho ts mo o9 b4 li am rr s H1 locs1 → ∀ (ls : Array Slot), lv_has ls 7 [(4, .int (nI i)), (3, .ref o9), (2, .ref mo), (1, .ref ho), (0, .ref b)] → W p l e room_1 s m #[Value.ref b] below meth c H1 locs1 (cells + 12) (slots + 700) (lw_Z below #[Value.ref b] s) (F0 m 2534 ls [])) : W p l e room_1 s m #[Value.ref b] below meth c H locs cells slots (lw_Z below #[Value.ref b] s) (F0 m 184 ls []) := by
  obtain ⟨hl9, hLL, C0, X, K, hE, hZn0, hoZ, hoA, hZm⟩ := G0
  obtain ⟨G, R, ⟨cn, sc, μ⟩, ⟨cn1, sc1, μ1⟩, f0, hI, hW, hM, hag, hL, hS, hb4⟩ := hJ0
  obtain ⟨hx, hb, hr, hml, hown, -, hXs, hbl, hlocks, -⟩ := id C0
  have hAE : ∀ q, hk_A E q → hk_A E q := fun _ h => h
  have hZA : ∀ q, Zh q → hk_A E q := hW.2.2.2.2.2.2.2.2.2.2.2.2
  have hAz : ∀ q, (Zh q ∨ q = o9) → hk_A E q := fun q h => h.elim (fun h => hZA q h) (fun h => by rw [h]; exact hoA)
  have hmA : ∀ q, Zm q → hk_A E q := fun q h => (hZm q h).2.2.2
  have hZn : ∀ q, H.size ≤ q → Zh q := fun q h => hZn0 q (Nat.le_trans hb4 h)
  have hbA : ¬ hk_A E b := fun g => absurd hbl (Nat.not_lt.mpr (by rw [← hE]; exact g))
  have hJ : Inv (cn1, sc1, μ1) := inv_agr hI.1 hag
  refine lv_aload_n hx hb dL_law_184 rfl (lv_at hl 3 rfl) ?_
  refine lv_aload_n hx hb dL_law_185 rfl (lv_at hl 4 rfl) ?_
  refine lv_iload hx hb dL_law_186 (lv_at hl 0 rfl) ?_
  refine lv_iconst (v := 1) hx hb dL_law_188 (by decide) ?_
  refine lv_iadd hx hb dL_law_189 ?_
  refine lv_topi (fun z_1 ez_1 => ?_)
  have ez_1 : z_1 = nI (i + 1) := ez_1.trans (nI_add i 1)
  subst ez_1
  refine va_sld hx hb hXs hbl hbA hS (vp_in_nI (show i + 1 < L by omega) (by omega)) dL_law_190 ?_
  rw [show xs (nI (i + 1)).toNatClampNeg = xs (i + 1) from congrArg xs (nI_clamp (by omega))]
  refine lv_aload_n hx hb dL_law_191 rfl (lv_at hl 4 rfl) ?_
  refine lv_iload hx hb dL_law_192 (lv_at hl 0 rfl) ?_
  refine lv_iconst (v := 2) hx hb dL_law_194 (by decide) ?_
  refine lv_iadd hx hb dL_law_195 ?_
  refine lv_topi (fun z_2 ez_2 => ?_)
  have ez_2 : z_2 = nI (i + 2) := ez_2.trans (nI_add i 2)
  subst ez_2
  refine va_sld hx hb hXs hbl hbA hS (vp_in_nI (show i + 2 < L by omega) (by omega)) dL_law_196 ?_
  rw [show xs (nI (i + 2)).toNatClampNeg = xs (i + 2) from congrArg xs (nI_clamp (by omega))]
  refine lv_aload_n hx hb dL_law_197 rfl (lv_at hl 1 rfl) ?_
  refine hk_callSxW 4 (As := [.ref ho, .int (xs (i + 1)), .int (xs (i + 2)), .ref o9]) (rest := []) X K hAE hS hl.1 (c_L_comparison E l hl9 H hW hI hZn hL hoZ hoA (p0 := xs (i + 1)) (p1 := xs (i + 2))) hAz gL_law_L_comparison rfl hd_L_comparison rfl ⟨⟨(Nat.le_of_ble_eq_true rfl), (Nat.le_of_ble_eq_true rfl)⟩, hce, hsl⟩ rfl (Nat.le_of_ble_eq_true rfl) dL_law_198 (fun _ _ _ _ _ hp _ _ _ _ _ _ => False.elim hp) (fun v9 H1 locs1 hp hS hz1 hk1 => ?_)
  obtain ⟨hz, G1, R1, f1, hW1, hL1, hf1⟩ := hp
  subst hz
  have hM1 := MW.kept hM (fun q hq => hk1 q (Nat.lt_of_lt_of_le (hZm q hq).1 hb4) (fun g => g.elim (hZm q hq).2.1 (hZm q hq).2.2.1))
  refine lv_topi (fun k ek => ?_)
  refine lv_istore (lv' := [(5, .int k), (4, .int (nI i)), (3, .ref o9), (2, .ref mo), (1, .ref ho), (0, .ref b)]) hx hb dL_law_201 hl (by decide) rfl (fun ls hl => ?_)
  rw [← ek] at hW1 hf1
  have hcT : cd_comparison (xs (i + 1)) (xs (i + 2)) (cn1, sc1, μ1) = k := (cd_comparison_agr hag).symm.trans ek.symm
  obtain ⟨w, ew⟩ : ∃ w : Int32, w = an_comparison (xs (i + 1)) (xs (i + 2)) (cn, sc, μ) := ⟨_, rfl⟩
  rw [← ew] at hf1
  have haT : an_comparison (xs (i + 1)) (xs (i + 2)) (cn1, sc1, μ1) = w := (an_comparison_agr hag).symm.trans ew.symm
  refine lv_aload_n hx hb dL_law_203 rfl (lv_at hl 3 rfl) ?_
  refine lv_aload_n hx hb dL_law_204 rfl (lv_at hl 5 rfl) ?_
  refine lv_iload hx hb dL_law_205 (lv_at hl 1 rfl) ?_
  refine lv_iconst (v := 1) hx hb dL_law_207 (by decide) ?_
  refine lv_iadd hx hb dL_law_208 ?_
  refine lv_topi (fun z_3 ez_3 => ?_)
  have ez_3 : z_3 = nI (i + 1) := ez_3.trans (nI_add i 1)
  subst ez_3
  refine va_sld hx hb hXs hbl hbA hS (vp_in_nI (show i + 1 < L by omega) (by omega)) dL_law_209 ?_
  rw [show xs (nI (i + 1)).toNatClampNeg = xs (i + 1) from congrArg xs (nI_clamp (by omega))]
  refine lv_aload_n hx hb dL_law_210 rfl (lv_at hl 5 rfl) ?_
  refine lv_iload hx hb dL_law_211 (lv_at hl 1 rfl) ?_
  refine lv_iconst (v := 2) hx hb dL_law_213 (by decide) ?_
  refine lv_iadd hx hb dL_law_214 ?_
  refine lv_topi (fun z_4 ez_4 => ?_)
  have ez_4 : z_4 = nI (i + 2) := ez_4.trans (nI_add i 2)
  subst ez_4
  refine va_sld hx hb hXs hbl hbA hS (vp_in_nI (show i + 2 < L by omega) (by omega)) dL_law_215 ?_
  rw [show xs (nI (i + 2)).toNatClampNeg = xs (i + 2) from congrArg xs (nI_clamp (by omega))]
  refine hk_callV 2 (As := [.int (xs (i + 1)), .int (xs (i + 2))]) (rest := []) X K hAE hS hl.1 hM1.1 rfl (c_X11_comparison E l H1 hM1 hmA  (p0 := xs (i + 1)) (p1 := xs (i + 2))) hmA gL_law_X11_comparison rfl ⟨rfl, hd_X11_comparison⟩ rfl ⟨⟨(Nat.le_of_ble_eq_true rfl), (Nat.le_of_ble_eq_true rfl)⟩, (by show cells + 12 + 0 ≤ 601024; omega), (by show slots + 700 + 0 ≤ 7293034; omega)⟩ rfl (Nat.le_of_ble_eq_true rfl) dL_law_216 (fun v9 H2 locs2 hp hS hz2 hk2 => ?_)
  obtain ⟨cn2, sc2, μ2, hM2, h33, hz, ha⟩ := hp
  subst hz
  rw [hcT] at h33 ha
  have hW2 := HW.kept hW1 (fun q h1 h2 => hk2 q h1 (fun g => h2.elim (hZm q g).2.1 (fun h => h (hZm q g).2.2.2)))
  have hL2 : hk_L E o9 1 f1 H2 := (hk2 _ (ar_lt hL1) (fun g => (hZm _ g).2.2.1 rfl)).trans hL1
  have hb9 : b4 ≤ H2.size := Nat.le_trans (Nat.le_trans hb4 hz1) hz2
  rw [hcT, haT]
  refine lv_topi (fun v ev => ?_)
  refine lv_istore (lv' := [(6, .int v), (5, .int k), (4, .int (nI i)), (3, .ref o9), (2, .ref mo), (1, .ref ho), (0, .ref b)]) hx hb dL_law_219 hl (by decide) rfl (fun ls hl => ?_)
  refine lv_aload_n hx hb dL_law_221 rfl (lv_at hl 4 rfl) ?_
  refine hk_callV 0 (As := []) (rest := []) X K hAE hS hl.1 hM2.1 rfl (c_X11_thrown E l H2 hM2) (fun _ h => False.elim h) gL_law_X11_thrown rfl ⟨rfl, hd_X11_thrown⟩ rfl ⟨⟨(Nat.le_of_ble_eq_true rfl), (Nat.le_of_ble_eq_true rfl)⟩, (by show cells + 12 + 0 + 0 ≤ 601024; omega), (by show slots + 700 + 0 + 0 ≤ 7293034; omega)⟩ rfl (Nat.le_of_ble_eq_true rfl) dL_law_222 (fun v9 H3 locs3 hp hS hz3 hk3 => ?_)
  obtain ⟨hz, hh⟩ := hp
  subst hz; subst hh
  refine lv_iload hx hb dL_law_225 (lv_at hl 1 rfl) ?_
  refine lv_icmp_eq (tgt := 232) hx hb dL_law_227 (by decide) (fun c_227 => ?_) (fun c_227 => ?_)
  · refine lv_iload hx hb dL_law_232 (lv_at hl 1 rfl) ?_
    refine lv_if_ne (tgt := 249) hx hb dL_law_234 (by decide) (fun c_234 => ?_) (fun c_234 => ?_)
    · rw [if_neg c_234] at hW2 ha
      refine lv_goto (tgt := 2534) hx hb dL_law_249 (by decide) ?_
      exact J2534 H2 _ ⟨G1, R1, _, (cn2, sc2, μ2), f1, hI, hW2, hM2, hag.trans ha, hL2, hS, hb9⟩ _ (lv_sub hl [2, 3, 4, 5, 6] rfl)
    · have ckz := c_234
      refine lv_aload_n hx hb dL_law_237 rfl (lv_at hl 3 rfl) ?_
      refine lv_iconst (v := 0) hx hb dL_law_238 (by decide) ?_
      refine hk_lld X K hL2 (show vp_in (0 : Int32) 1 from vp_in_nI (n := 0) (by decide) (by decide)) dL_law_239 ?_
      rw [show f1 (0 : Int32).toNatClampNeg = w.toInt64 from (congrArg f1 hk_c0).trans (hf1 c_234)]
      have ev : v = w := ev.trans (if_pos c_234)
      rw [if_pos c_234] at hW2 ha
      refine lv_iload hx hb dL_law_240 (lv_at hl 0 rfl) ?_
      refine lv_i2l hx hb dL_law_242 rfl ?_
      refine lv_lcmp hx hb dL_law_243 ?_
      rw [show lcv (w.toInt64) v.toInt64 = 0 from by rw [ev]; exact lcv_self]
      refine lv_if_eq (tgt := 249) hx hb dL_law_244 (by decide) (fun c_244 => ?_) (fun c_244 => ?_)
      · refine lv_goto (tgt := 2534) hx hb dL_law_249 (by decide) ?_
        exact J2534 H2 _ ⟨G1, R1, _, (cn2, sc2, μ2), f1, invF_comparison hI (ek.symm.trans ckz), hW2, hM2, (st_comparison_agr hag).trans ha, hL2, hS, hb9⟩ _ (lv_sub hl [2, 3, 4, 5, 6] rfl)
      · exact absurd (by decide) c_244
  · exact absurd c_227 (fun h => h h33)
set_option maxHeartbeats 4000000 in
set_option maxRecDepth 100000 in
theorem k_star {p : Program} {l : Launch} {e : Env} {s : State} {m : MethodId} {below : List Frame} {meth : Method} {c : Code} {b L : Nat} {xs : Nat → Int32} {E : hk_E} {Zh Zm : Nat → Prop} {ho ts mo o9 b4 : Nat} {li am : Nat → Nat} {rr : Nat → Nat → Nat} (G0 : lw_G p l s m meth c b L xs E Zh Zm o9 b4) {H : Heap} {locs : List Loc} {cells slots : Nat} (hJ0 : lw_J E Zh Zm ho ts mo o9 b4 li am rr s H locs) {i : Nat} (hi : i + 8 ≤ L) (hce : cells + 12 ≤ 601024) (hsl : slots + 700 ≤ 7293034) {ls : Array Slot} (hl : lv_has ls 7 [(4, .int (nI i)), (3, .ref o9), (2, .ref mo), (1, .ref ho), (0, .ref b)])
  (J2534 : ∀ (H1 : Heap) (locs1 : List Loc), lw_J E Zh Zm ho ts mo o9 b4 li am rr s H1 locs1 → ∀ (ls : Array Slot), lv_has ls 7 [(4, .int (nI i)), (3, .ref o9), (2, .ref mo), (1, .ref ho), (0, .ref b)] → W p l e room_1 s m #[Value.ref b] below meth c H1 locs1 (cells + 12) (slots + 700) (lw_Z below #[Value.ref b] s) (F0 m 2534 ls [])) : W p l e room_1 s m #[Value.ref b] below meth c H locs cells slots (lw_Z below #[Value.ref b] s) (F0 m 252 ls []) := by
  obtain ⟨hl9, hLL, C0, X, K, hE, hZn0, hoZ, hoA, hZm⟩ := G0
  obtain ⟨G, R, ⟨cn, sc, μ⟩, ⟨cn1, sc1, μ1⟩, f0, hI, hW, hM, hag, hL, hS, hb4⟩ := hJ0
  obtain ⟨hx, hb, hr, hml, hown, -, hXs, hbl, hlocks, -⟩ := id C0
  have hAE : ∀ q, hk_A E q → hk_A E q := fun _ h => h
  have hZA : ∀ q, Zh q → hk_A E q := hW.2.2.2.2.2.2.2.2.2.2.2.2
  have hAz : ∀ q, (Zh q ∨ q = o9) → hk_A E q := fun q h => h.elim (fun h => hZA q h) (fun h => by rw [h]; exact hoA)
  have hmA : ∀ q, Zm q → hk_A E q := fun q h => (hZm q h).2.2.2
  have hZn : ∀ q, H.size ≤ q → Zh q := fun q h => hZn0 q (Nat.le_trans hb4 h)
  have hbA : ¬ hk_A E b := fun g => absurd hbl (Nat.not_lt.mpr (by rw [← hE]; exact g))
  have hJ : Inv (cn1, sc1, μ1) := inv_agr hI.1 hag
  refine lv_aload_n hx hb dL_law_252 rfl (lv_at hl 3 rfl) ?_
  refine lv_aload_n hx hb dL_law_253 rfl (lv_at hl 4 rfl) ?_
  refine lv_iload hx hb dL_law_254 (lv_at hl 0 rfl) ?_
  refine lv_iconst (v := 1) hx hb dL_law_256 (by decide) ?_
  refine lv_iadd hx hb dL_law_257 ?_
  refine lv_topi (fun z_1 ez_1 => ?_)
  have ez_1 : z_1 = nI (i + 1) := ez_1.trans (nI_add i 1)
  subst ez_1
  refine va_sld hx hb hXs hbl hbA hS (vp_in_nI (show i + 1 < L by omega) (by omega)) dL_law_258 ?_
  rw [show xs (nI (i + 1)).toNatClampNeg = xs (i + 1) from congrArg xs (nI_clamp (by omega))]
  refine lv_aload_n hx hb dL_law_259 rfl (lv_at hl 1 rfl) ?_
  refine hk_callSxW 3 (As := [.ref ho, .int (xs (i + 1)), .ref o9]) (rest := []) X K hAE hS hl.1 (c_L_star E l hl9 H hW hI hZn hL hoZ hoA (p0 := xs (i + 1))) hAz gL_law_L_star rfl hd_L_star rfl ⟨⟨(Nat.le_of_ble_eq_true rfl), (Nat.le_of_ble_eq_true rfl)⟩, hce, hsl⟩ rfl (Nat.le_of_ble_eq_true rfl) dL_law_260 (fun _ _ _ _ _ hp _ _ _ _ _ _ => False.elim hp) (fun v9 H1 locs1 hp hS hz1 hk1 => ?_)
  obtain ⟨hz, G1, R1, f1, hW1, hL1, hf1⟩ := hp
  subst hz
  have hM1 := MW.kept hM (fun q hq => hk1 q (Nat.lt_of_lt_of_le (hZm q hq).1 hb4) (fun g => g.elim (hZm q hq).2.1 (hZm q hq).2.2.1))
  refine lv_topi (fun k ek => ?_)
  refine lv_istore (lv' := [(5, .int k), (4, .int (nI i)), (3, .ref o9), (2, .ref mo), (1, .ref ho), (0, .ref b)]) hx hb dL_law_263 hl (by decide) rfl (fun ls hl => ?_)
  rw [← ek] at hW1 hf1
  have hcT : cd_star (xs (i + 1)) (cn1, sc1, μ1) = k := (cd_star_agr hag).symm.trans ek.symm
  obtain ⟨w, ew⟩ : ∃ w : Int32, w = an_star (xs (i + 1)) (cn, sc, μ) := ⟨_, rfl⟩
  rw [← ew] at hf1
  have haT : an_star (xs (i + 1)) (cn1, sc1, μ1) = w := (an_star_agr hag).symm.trans ew.symm
  refine lv_aload_n hx hb dL_law_265 rfl (lv_at hl 3 rfl) ?_
  refine lv_aload_n hx hb dL_law_266 rfl (lv_at hl 5 rfl) ?_
  refine lv_iload hx hb dL_law_267 (lv_at hl 1 rfl) ?_
  refine lv_iconst (v := 1) hx hb dL_law_269 (by decide) ?_
  refine lv_iadd hx hb dL_law_270 ?_
  refine lv_topi (fun z_2 ez_2 => ?_)
  have ez_2 : z_2 = nI (i + 1) := ez_2.trans (nI_add i 1)
  subst ez_2
  refine va_sld hx hb hXs hbl hbA hS (vp_in_nI (show i + 1 < L by omega) (by omega)) dL_law_271 ?_
  rw [show xs (nI (i + 1)).toNatClampNeg = xs (i + 1) from congrArg xs (nI_clamp (by omega))]
  refine hk_callV 1 (As := [.int (xs (i + 1))]) (rest := []) X K hAE hS hl.1 hM1.1 rfl (c_X11_star E l H1 hM1 hmA hJ.1.1 (p0 := xs (i + 1))) hmA gL_law_X11_star rfl ⟨rfl, hd_X11_star⟩ rfl ⟨⟨(Nat.le_of_ble_eq_true rfl), (Nat.le_of_ble_eq_true rfl)⟩, (by show cells + 12 + 0 ≤ 601024; omega), (by show slots + 700 + 0 ≤ 7293034; omega)⟩ rfl (Nat.le_of_ble_eq_true rfl) dL_law_272 (fun v9 H2 locs2 hp hS hz2 hk2 => ?_)
  obtain ⟨cn2, sc2, μ2, hM2, h33, hz, ha⟩ := hp
  subst hz
  rw [hcT] at h33 ha
  have hW2 := HW.kept hW1 (fun q h1 h2 => hk2 q h1 (fun g => h2.elim (hZm q g).2.1 (fun h => h (hZm q g).2.2.2)))
  have hL2 : hk_L E o9 1 f1 H2 := (hk2 _ (ar_lt hL1) (fun g => (hZm _ g).2.2.1 rfl)).trans hL1
  have hb9 : b4 ≤ H2.size := Nat.le_trans (Nat.le_trans hb4 hz1) hz2
  rw [hcT, haT]
  refine lv_topi (fun v ev => ?_)
  refine lv_istore (lv' := [(6, .int v), (5, .int k), (4, .int (nI i)), (3, .ref o9), (2, .ref mo), (1, .ref ho), (0, .ref b)]) hx hb dL_law_275 hl (by decide) rfl (fun ls hl => ?_)
  refine lv_aload_n hx hb dL_law_277 rfl (lv_at hl 4 rfl) ?_
  refine hk_callV 0 (As := []) (rest := []) X K hAE hS hl.1 hM2.1 rfl (c_X11_thrown E l H2 hM2) (fun _ h => False.elim h) gL_law_X11_thrown rfl ⟨rfl, hd_X11_thrown⟩ rfl ⟨⟨(Nat.le_of_ble_eq_true rfl), (Nat.le_of_ble_eq_true rfl)⟩, (by show cells + 12 + 0 + 0 ≤ 601024; omega), (by show slots + 700 + 0 + 0 ≤ 7293034; omega)⟩ rfl (Nat.le_of_ble_eq_true rfl) dL_law_278 (fun v9 H3 locs3 hp hS hz3 hk3 => ?_)
  obtain ⟨hz, hh⟩ := hp
  subst hz; subst hh
  refine lv_iload hx hb dL_law_281 (lv_at hl 1 rfl) ?_
  refine lv_icmp_eq (tgt := 288) hx hb dL_law_283 (by decide) (fun c_283 => ?_) (fun c_283 => ?_)
  · refine lv_iload hx hb dL_law_288 (lv_at hl 1 rfl) ?_
    refine lv_if_ne (tgt := 305) hx hb dL_law_290 (by decide) (fun c_290 => ?_) (fun c_290 => ?_)
    · rw [if_neg c_290] at hW2 ha
      refine lv_goto (tgt := 2534) hx hb dL_law_305 (by decide) ?_
      exact J2534 H2 _ ⟨G1, R1, _, (cn2, sc2, μ2), f1, hI, hW2, hM2, hag.trans ha, hL2, hS, hb9⟩ _ (lv_sub hl [2, 3, 4, 5, 6] rfl)
    · have ckz := c_290
      refine lv_aload_n hx hb dL_law_293 rfl (lv_at hl 3 rfl) ?_
      refine lv_iconst (v := 0) hx hb dL_law_294 (by decide) ?_
      refine hk_lld X K hL2 (show vp_in (0 : Int32) 1 from vp_in_nI (n := 0) (by decide) (by decide)) dL_law_295 ?_
      rw [show f1 (0 : Int32).toNatClampNeg = w.toInt64 from (congrArg f1 hk_c0).trans (hf1 c_290)]
      have ev : v = w := ev.trans (if_pos c_290)
      rw [if_pos c_290] at hW2 ha
      refine lv_iload hx hb dL_law_296 (lv_at hl 0 rfl) ?_
      refine lv_i2l hx hb dL_law_298 rfl ?_
      refine lv_lcmp hx hb dL_law_299 ?_
      rw [show lcv (w.toInt64) v.toInt64 = 0 from by rw [ev]; exact lcv_self]
      refine lv_if_eq (tgt := 305) hx hb dL_law_300 (by decide) (fun c_300 => ?_) (fun c_300 => ?_)
      · refine lv_goto (tgt := 2534) hx hb dL_law_305 (by decide) ?_
        exact J2534 H2 _ ⟨G1, R1, _, (cn2, sc2, μ2), f1, invF_star hI (ek.symm.trans ckz), hW2, hM2, (st_star_agr hag).trans ha, hL2, hS, hb9⟩ _ (lv_sub hl [2, 3, 4, 5, 6] rfl)
      · exact absurd (by decide) c_300
  · exact absurd c_283 (fun h => h h33)
set_option maxHeartbeats 4000000 in
set_option maxRecDepth 100000 in
theorem k_bias {p : Program} {l : Launch} {e : Env} {s : State} {m : MethodId} {below : List Frame} {meth : Method} {c : Code} {b L : Nat} {xs : Nat → Int32} {E : hk_E} {Zh Zm : Nat → Prop} {ho ts mo o9 b4 : Nat} {li am : Nat → Nat} {rr : Nat → Nat → Nat} (G0 : lw_G p l s m meth c b L xs E Zh Zm o9 b4) {H : Heap} {locs : List Loc} {cells slots : Nat} (hJ0 : lw_J E Zh Zm ho ts mo o9 b4 li am rr s H locs) {i : Nat} (hi : i + 8 ≤ L) (hce : cells + 12 ≤ 601024) (hsl : slots + 700 ≤ 7293034) {ls : Array Slot} (hl : lv_has ls 7 [(4, .int (nI i)), (3, .ref o9), (2, .ref mo), (1, .ref ho), (0, .ref b)])
  (J2534 : ∀ (H1 : Heap) (locs1 : List Loc), lw_J E Zh Zm ho ts mo o9 b4 li am rr s H1 locs1 → ∀ (ls : Array Slot), lv_has ls 7 [(4, .int (nI i)), (3, .ref o9), (2, .ref mo), (1, .ref ho), (0, .ref b)] → W p l e room_1 s m #[Value.ref b] below meth c H1 locs1 (cells + 12) (slots + 700) (lw_Z below #[Value.ref b] s) (F0 m 2534 ls [])) : W p l e room_1 s m #[Value.ref b] below meth c H locs cells slots (lw_Z below #[Value.ref b] s) (F0 m 308 ls []) := by
  obtain ⟨hl9, hLL, C0, X, K, hE, hZn0, hoZ, hoA, hZm⟩ := G0
  obtain ⟨G, R, ⟨cn, sc, μ⟩, ⟨cn1, sc1, μ1⟩, f0, hI, hW, hM, hag, hL, hS, hb4⟩ := hJ0
  obtain ⟨hx, hb, hr, hml, hown, -, hXs, hbl, hlocks, -⟩ := id C0
  have hAE : ∀ q, hk_A E q → hk_A E q := fun _ h => h
  have hZA : ∀ q, Zh q → hk_A E q := hW.2.2.2.2.2.2.2.2.2.2.2.2
  have hAz : ∀ q, (Zh q ∨ q = o9) → hk_A E q := fun q h => h.elim (fun h => hZA q h) (fun h => by rw [h]; exact hoA)
  have hmA : ∀ q, Zm q → hk_A E q := fun q h => (hZm q h).2.2.2
  have hZn : ∀ q, H.size ≤ q → Zh q := fun q h => hZn0 q (Nat.le_trans hb4 h)
  have hbA : ¬ hk_A E b := fun g => absurd hbl (Nat.not_lt.mpr (by rw [← hE]; exact g))
  have hJ : Inv (cn1, sc1, μ1) := inv_agr hI.1 hag
  refine lv_aload_n hx hb dL_law_308 rfl (lv_at hl 3 rfl) ?_
  refine lv_aload_n hx hb dL_law_309 rfl (lv_at hl 4 rfl) ?_
  refine lv_iload hx hb dL_law_310 (lv_at hl 0 rfl) ?_
  refine lv_iconst (v := 1) hx hb dL_law_312 (by decide) ?_
  refine lv_iadd hx hb dL_law_313 ?_
  refine lv_topi (fun z_1 ez_1 => ?_)
  have ez_1 : z_1 = nI (i + 1) := ez_1.trans (nI_add i 1)
  subst ez_1
  refine va_sld hx hb hXs hbl hbA hS (vp_in_nI (show i + 1 < L by omega) (by omega)) dL_law_314 ?_
  rw [show xs (nI (i + 1)).toNatClampNeg = xs (i + 1) from congrArg xs (nI_clamp (by omega))]
  refine lv_aload_n hx hb dL_law_315 rfl (lv_at hl 4 rfl) ?_
  refine lv_iload hx hb dL_law_316 (lv_at hl 0 rfl) ?_
  refine lv_iconst (v := 2) hx hb dL_law_318 (by decide) ?_
  refine lv_iadd hx hb dL_law_319 ?_
  refine lv_topi (fun z_2 ez_2 => ?_)
  have ez_2 : z_2 = nI (i + 2) := ez_2.trans (nI_add i 2)
  subst ez_2
  refine va_sld hx hb hXs hbl hbA hS (vp_in_nI (show i + 2 < L by omega) (by omega)) dL_law_320 ?_
  rw [show xs (nI (i + 2)).toNatClampNeg = xs (i + 2) from congrArg xs (nI_clamp (by omega))]
  refine lv_aload_n hx hb dL_law_321 rfl (lv_at hl 1 rfl) ?_
  refine hk_callSxW 4 (As := [.ref ho, .int (xs (i + 1)), .int (xs (i + 2)), .ref o9]) (rest := []) X K hAE hS hl.1 (c_L_bias E l hl9 H hW hI hZn hL hoZ hoA (p0 := xs (i + 1)) (p1 := xs (i + 2))) hAz gL_law_L_bias rfl hd_L_bias rfl ⟨⟨(Nat.le_of_ble_eq_true rfl), (Nat.le_of_ble_eq_true rfl)⟩, hce, hsl⟩ rfl (Nat.le_of_ble_eq_true rfl) dL_law_322 (fun _ _ _ _ _ hp _ _ _ _ _ _ => False.elim hp) (fun v9 H1 locs1 hp hS hz1 hk1 => ?_)
  obtain ⟨hz, G1, R1, f1, hW1, hL1, hf1⟩ := hp
  subst hz
  have hM1 := MW.kept hM (fun q hq => hk1 q (Nat.lt_of_lt_of_le (hZm q hq).1 hb4) (fun g => g.elim (hZm q hq).2.1 (hZm q hq).2.2.1))
  refine lv_topi (fun k ek => ?_)
  refine lv_istore (lv' := [(5, .int k), (4, .int (nI i)), (3, .ref o9), (2, .ref mo), (1, .ref ho), (0, .ref b)]) hx hb dL_law_325 hl (by decide) rfl (fun ls hl => ?_)
  rw [← ek] at hW1 hf1
  have hcT : cd_bias (xs (i + 1)) (xs (i + 2)) (cn1, sc1, μ1) = k := (cd_bias_agr hag).symm.trans ek.symm
  obtain ⟨w, ew⟩ : ∃ w : Int32, w = an_bias (xs (i + 1)) (xs (i + 2)) (cn, sc, μ) := ⟨_, rfl⟩
  rw [← ew] at hf1
  have haT : an_bias (xs (i + 1)) (xs (i + 2)) (cn1, sc1, μ1) = w := (an_bias_agr hag).symm.trans ew.symm
  refine lv_aload_n hx hb dL_law_327 rfl (lv_at hl 3 rfl) ?_
  refine lv_aload_n hx hb dL_law_328 rfl (lv_at hl 5 rfl) ?_
  refine lv_iload hx hb dL_law_329 (lv_at hl 1 rfl) ?_
  refine lv_iconst (v := 1) hx hb dL_law_331 (by decide) ?_
  refine lv_iadd hx hb dL_law_332 ?_
  refine lv_topi (fun z_3 ez_3 => ?_)
  have ez_3 : z_3 = nI (i + 1) := ez_3.trans (nI_add i 1)
  subst ez_3
  refine va_sld hx hb hXs hbl hbA hS (vp_in_nI (show i + 1 < L by omega) (by omega)) dL_law_333 ?_
  rw [show xs (nI (i + 1)).toNatClampNeg = xs (i + 1) from congrArg xs (nI_clamp (by omega))]
  refine lv_aload_n hx hb dL_law_334 rfl (lv_at hl 5 rfl) ?_
  refine lv_iload hx hb dL_law_335 (lv_at hl 1 rfl) ?_
  refine lv_iconst (v := 2) hx hb dL_law_337 (by decide) ?_
  refine lv_iadd hx hb dL_law_338 ?_
  refine lv_topi (fun z_4 ez_4 => ?_)
  have ez_4 : z_4 = nI (i + 2) := ez_4.trans (nI_add i 2)
  subst ez_4
  refine va_sld hx hb hXs hbl hbA hS (vp_in_nI (show i + 2 < L by omega) (by omega)) dL_law_339 ?_
  rw [show xs (nI (i + 2)).toNatClampNeg = xs (i + 2) from congrArg xs (nI_clamp (by omega))]
  refine hk_callV 2 (As := [.int (xs (i + 1)), .int (xs (i + 2))]) (rest := []) X K hAE hS hl.1 hM1.1 rfl (c_X11_bias E l H1 hM1 hmA  (p0 := xs (i + 1)) (p1 := xs (i + 2))) hmA gL_law_X11_bias rfl ⟨rfl, hd_X11_bias⟩ rfl ⟨⟨(Nat.le_of_ble_eq_true rfl), (Nat.le_of_ble_eq_true rfl)⟩, (by show cells + 12 + 0 ≤ 601024; omega), (by show slots + 700 + 0 ≤ 7293034; omega)⟩ rfl (Nat.le_of_ble_eq_true rfl) dL_law_340 (fun v9 H2 locs2 hp hS hz2 hk2 => ?_)
  obtain ⟨cn2, sc2, μ2, hM2, h33, hz, ha⟩ := hp
  subst hz
  rw [hcT] at h33 ha
  have hW2 := HW.kept hW1 (fun q h1 h2 => hk2 q h1 (fun g => h2.elim (hZm q g).2.1 (fun h => h (hZm q g).2.2.2)))
  have hL2 : hk_L E o9 1 f1 H2 := (hk2 _ (ar_lt hL1) (fun g => (hZm _ g).2.2.1 rfl)).trans hL1
  have hb9 : b4 ≤ H2.size := Nat.le_trans (Nat.le_trans hb4 hz1) hz2
  rw [hcT, haT]
  refine lv_topi (fun v ev => ?_)
  refine lv_istore (lv' := [(6, .int v), (5, .int k), (4, .int (nI i)), (3, .ref o9), (2, .ref mo), (1, .ref ho), (0, .ref b)]) hx hb dL_law_343 hl (by decide) rfl (fun ls hl => ?_)
  refine lv_aload_n hx hb dL_law_345 rfl (lv_at hl 4 rfl) ?_
  refine hk_callV 0 (As := []) (rest := []) X K hAE hS hl.1 hM2.1 rfl (c_X11_thrown E l H2 hM2) (fun _ h => False.elim h) gL_law_X11_thrown rfl ⟨rfl, hd_X11_thrown⟩ rfl ⟨⟨(Nat.le_of_ble_eq_true rfl), (Nat.le_of_ble_eq_true rfl)⟩, (by show cells + 12 + 0 + 0 ≤ 601024; omega), (by show slots + 700 + 0 + 0 ≤ 7293034; omega)⟩ rfl (Nat.le_of_ble_eq_true rfl) dL_law_346 (fun v9 H3 locs3 hp hS hz3 hk3 => ?_)
  obtain ⟨hz, hh⟩ := hp
  subst hz; subst hh
  refine lv_iload hx hb dL_law_349 (lv_at hl 1 rfl) ?_
  refine lv_icmp_eq (tgt := 356) hx hb dL_law_351 (by decide) (fun c_351 => ?_) (fun c_351 => ?_)
  · refine lv_iload hx hb dL_law_356 (lv_at hl 1 rfl) ?_
    refine lv_if_ne (tgt := 373) hx hb dL_law_358 (by decide) (fun c_358 => ?_) (fun c_358 => ?_)
    · rw [if_neg c_358] at hW2 ha
      refine lv_goto (tgt := 2534) hx hb dL_law_373 (by decide) ?_
      exact J2534 H2 _ ⟨G1, R1, _, (cn2, sc2, μ2), f1, hI, hW2, hM2, hag.trans ha, hL2, hS, hb9⟩ _ (lv_sub hl [2, 3, 4, 5, 6] rfl)
    · have ckz := c_358
      refine lv_aload_n hx hb dL_law_361 rfl (lv_at hl 3 rfl) ?_
      refine lv_iconst (v := 0) hx hb dL_law_362 (by decide) ?_
      refine hk_lld X K hL2 (show vp_in (0 : Int32) 1 from vp_in_nI (n := 0) (by decide) (by decide)) dL_law_363 ?_
      rw [show f1 (0 : Int32).toNatClampNeg = w.toInt64 from (congrArg f1 hk_c0).trans (hf1 c_358)]
      have ev : v = w := ev.trans (if_pos c_358)
      rw [if_pos c_358] at hW2 ha
      refine lv_iload hx hb dL_law_364 (lv_at hl 0 rfl) ?_
      refine lv_i2l hx hb dL_law_366 rfl ?_
      refine lv_lcmp hx hb dL_law_367 ?_
      rw [show lcv (w.toInt64) v.toInt64 = 0 from by rw [ev]; exact lcv_self]
      refine lv_if_eq (tgt := 373) hx hb dL_law_368 (by decide) (fun c_368 => ?_) (fun c_368 => ?_)
      · refine lv_goto (tgt := 2534) hx hb dL_law_373 (by decide) ?_
        exact J2534 H2 _ ⟨G1, R1, _, (cn2, sc2, μ2), f1, invF_bias hI (ek.symm.trans ckz), hW2, hM2, (st_bias_agr hag).trans ha, hL2, hS, hb9⟩ _ (lv_sub hl [2, 3, 4, 5, 6] rfl)
      · exact absurd (by decide) c_368
  · exact absurd c_351 (fun h => h h33)
set_option maxHeartbeats 4000000 in
set_option maxRecDepth 100000 in
theorem k_clock {p : Program} {l : Launch} {e : Env} {s : State} {m : MethodId} {below : List Frame} {meth : Method} {c : Code} {b L : Nat} {xs : Nat → Int32} {E : hk_E} {Zh Zm : Nat → Prop} {ho ts mo o9 b4 : Nat} {li am : Nat → Nat} {rr : Nat → Nat → Nat} (G0 : lw_G p l s m meth c b L xs E Zh Zm o9 b4) {H : Heap} {locs : List Loc} {cells slots : Nat} (hJ0 : lw_J E Zh Zm ho ts mo o9 b4 li am rr s H locs) {i : Nat} (hi : i + 8 ≤ L) (hce : cells + 12 ≤ 601024) (hsl : slots + 700 ≤ 7293034) {ls : Array Slot} (hl : lv_has ls 7 [(4, .int (nI i)), (3, .ref o9), (2, .ref mo), (1, .ref ho), (0, .ref b)])
  (J2534 : ∀ (H1 : Heap) (locs1 : List Loc), lw_J E Zh Zm ho ts mo o9 b4 li am rr s H1 locs1 → ∀ (ls : Array Slot), lv_has ls 7 [(4, .int (nI i)), (3, .ref o9), (2, .ref mo), (1, .ref ho), (0, .ref b)] → W p l e room_1 s m #[Value.ref b] below meth c H1 locs1 (cells + 12) (slots + 700) (lw_Z below #[Value.ref b] s) (F0 m 2534 ls [])) : W p l e room_1 s m #[Value.ref b] below meth c H locs cells slots (lw_Z below #[Value.ref b] s) (F0 m 376 ls []) := by
  obtain ⟨hl9, hLL, C0, X, K, hE, hZn0, hoZ, hoA, hZm⟩ := G0
  obtain ⟨G, R, ⟨cn, sc, μ⟩, ⟨cn1, sc1, μ1⟩, f0, hI, hW, hM, hag, hL, hS, hb4⟩ := hJ0
  obtain ⟨hx, hb, hr, hml, hown, -, hXs, hbl, hlocks, -⟩ := id C0
  have hAE : ∀ q, hk_A E q → hk_A E q := fun _ h => h
  have hZA : ∀ q, Zh q → hk_A E q := hW.2.2.2.2.2.2.2.2.2.2.2.2
  have hAz : ∀ q, (Zh q ∨ q = o9) → hk_A E q := fun q h => h.elim (fun h => hZA q h) (fun h => by rw [h]; exact hoA)
  have hmA : ∀ q, Zm q → hk_A E q := fun q h => (hZm q h).2.2.2
  have hZn : ∀ q, H.size ≤ q → Zh q := fun q h => hZn0 q (Nat.le_trans hb4 h)
  have hbA : ¬ hk_A E b := fun g => absurd hbl (Nat.not_lt.mpr (by rw [← hE]; exact g))
  have hJ : Inv (cn1, sc1, μ1) := inv_agr hI.1 hag
  refine lv_aload_n hx hb dL_law_376 rfl (lv_at hl 3 rfl) ?_
  refine lv_aload_n hx hb dL_law_377 rfl (lv_at hl 4 rfl) ?_
  refine lv_iload hx hb dL_law_378 (lv_at hl 0 rfl) ?_
  refine lv_iconst (v := 1) hx hb dL_law_380 (by decide) ?_
  refine lv_iadd hx hb dL_law_381 ?_
  refine lv_topi (fun z_1 ez_1 => ?_)
  have ez_1 : z_1 = nI (i + 1) := ez_1.trans (nI_add i 1)
  subst ez_1
  refine va_sld hx hb hXs hbl hbA hS (vp_in_nI (show i + 1 < L by omega) (by omega)) dL_law_382 ?_
  rw [show xs (nI (i + 1)).toNatClampNeg = xs (i + 1) from congrArg xs (nI_clamp (by omega))]
  refine lv_aload_n hx hb dL_law_383 rfl (lv_at hl 4 rfl) ?_
  refine lv_iload hx hb dL_law_384 (lv_at hl 0 rfl) ?_
  refine lv_iconst (v := 2) hx hb dL_law_386 (by decide) ?_
  refine lv_iadd hx hb dL_law_387 ?_
  refine lv_topi (fun z_2 ez_2 => ?_)
  have ez_2 : z_2 = nI (i + 2) := ez_2.trans (nI_add i 2)
  subst ez_2
  refine va_sld hx hb hXs hbl hbA hS (vp_in_nI (show i + 2 < L by omega) (by omega)) dL_law_388 ?_
  rw [show xs (nI (i + 2)).toNatClampNeg = xs (i + 2) from congrArg xs (nI_clamp (by omega))]
  refine lv_aload_n hx hb dL_law_389 rfl (lv_at hl 1 rfl) ?_
  refine hk_callSxW 4 (As := [.ref ho, .int (xs (i + 1)), .int (xs (i + 2)), .ref o9]) (rest := []) X K hAE hS hl.1 (c_L_clock E l hl9 H hW hI hZn hL hoZ hoA (p0 := xs (i + 1)) (p1 := xs (i + 2))) hAz gL_law_L_clock rfl hd_L_clock rfl ⟨⟨(Nat.le_of_ble_eq_true rfl), (Nat.le_of_ble_eq_true rfl)⟩, hce, hsl⟩ rfl (Nat.le_of_ble_eq_true rfl) dL_law_390 (fun _ _ _ _ _ hp _ _ _ _ _ _ => False.elim hp) (fun v9 H1 locs1 hp hS hz1 hk1 => ?_)
  obtain ⟨hz, G1, R1, f1, hW1, hL1, hf1⟩ := hp
  subst hz
  have hM1 := MW.kept hM (fun q hq => hk1 q (Nat.lt_of_lt_of_le (hZm q hq).1 hb4) (fun g => g.elim (hZm q hq).2.1 (hZm q hq).2.2.1))
  refine lv_topi (fun k ek => ?_)
  refine lv_istore (lv' := [(5, .int k), (4, .int (nI i)), (3, .ref o9), (2, .ref mo), (1, .ref ho), (0, .ref b)]) hx hb dL_law_393 hl (by decide) rfl (fun ls hl => ?_)
  rw [← ek] at hW1 hf1
  have hcT : cd_clock (xs (i + 1)) (xs (i + 2)) (cn1, sc1, μ1) = k := (cd_clock_agr hag).symm.trans ek.symm
  obtain ⟨w, ew⟩ : ∃ w : Int32, w = an_clock (xs (i + 1)) (xs (i + 2)) (cn, sc, μ) := ⟨_, rfl⟩
  rw [← ew] at hf1
  have haT : an_clock (xs (i + 1)) (xs (i + 2)) (cn1, sc1, μ1) = w := (an_clock_agr hag).symm.trans ew.symm
  refine lv_aload_n hx hb dL_law_395 rfl (lv_at hl 3 rfl) ?_
  refine lv_aload_n hx hb dL_law_396 rfl (lv_at hl 5 rfl) ?_
  refine lv_iload hx hb dL_law_397 (lv_at hl 1 rfl) ?_
  refine lv_iconst (v := 1) hx hb dL_law_399 (by decide) ?_
  refine lv_iadd hx hb dL_law_400 ?_
  refine lv_topi (fun z_3 ez_3 => ?_)
  have ez_3 : z_3 = nI (i + 1) := ez_3.trans (nI_add i 1)
  subst ez_3
  refine va_sld hx hb hXs hbl hbA hS (vp_in_nI (show i + 1 < L by omega) (by omega)) dL_law_401 ?_
  rw [show xs (nI (i + 1)).toNatClampNeg = xs (i + 1) from congrArg xs (nI_clamp (by omega))]
  refine lv_aload_n hx hb dL_law_402 rfl (lv_at hl 5 rfl) ?_
  refine lv_iload hx hb dL_law_403 (lv_at hl 1 rfl) ?_
  refine lv_iconst (v := 2) hx hb dL_law_405 (by decide) ?_
  refine lv_iadd hx hb dL_law_406 ?_
  refine lv_topi (fun z_4 ez_4 => ?_)
  have ez_4 : z_4 = nI (i + 2) := ez_4.trans (nI_add i 2)
  subst ez_4
  refine va_sld hx hb hXs hbl hbA hS (vp_in_nI (show i + 2 < L by omega) (by omega)) dL_law_407 ?_
  rw [show xs (nI (i + 2)).toNatClampNeg = xs (i + 2) from congrArg xs (nI_clamp (by omega))]
  refine hk_callV 2 (As := [.int (xs (i + 1)), .int (xs (i + 2))]) (rest := []) X K hAE hS hl.1 hM1.1 rfl (c_X11_clock E l H1 hM1 hmA  (p0 := xs (i + 1)) (p1 := xs (i + 2))) hmA gL_law_X11_clock rfl ⟨rfl, hd_X11_clock⟩ rfl ⟨⟨(Nat.le_of_ble_eq_true rfl), (Nat.le_of_ble_eq_true rfl)⟩, (by show cells + 12 + 0 ≤ 601024; omega), (by show slots + 700 + 0 ≤ 7293034; omega)⟩ rfl (Nat.le_of_ble_eq_true rfl) dL_law_408 (fun v9 H2 locs2 hp hS hz2 hk2 => ?_)
  obtain ⟨cn2, sc2, μ2, hM2, h33, hz, ha⟩ := hp
  subst hz
  rw [hcT] at h33 ha
  have hW2 := HW.kept hW1 (fun q h1 h2 => hk2 q h1 (fun g => h2.elim (hZm q g).2.1 (fun h => h (hZm q g).2.2.2)))
  have hL2 : hk_L E o9 1 f1 H2 := (hk2 _ (ar_lt hL1) (fun g => (hZm _ g).2.2.1 rfl)).trans hL1
  have hb9 : b4 ≤ H2.size := Nat.le_trans (Nat.le_trans hb4 hz1) hz2
  rw [hcT, haT]
  refine lv_topi (fun v ev => ?_)
  refine lv_istore (lv' := [(6, .int v), (5, .int k), (4, .int (nI i)), (3, .ref o9), (2, .ref mo), (1, .ref ho), (0, .ref b)]) hx hb dL_law_411 hl (by decide) rfl (fun ls hl => ?_)
  refine lv_aload_n hx hb dL_law_413 rfl (lv_at hl 4 rfl) ?_
  refine hk_callV 0 (As := []) (rest := []) X K hAE hS hl.1 hM2.1 rfl (c_X11_thrown E l H2 hM2) (fun _ h => False.elim h) gL_law_X11_thrown rfl ⟨rfl, hd_X11_thrown⟩ rfl ⟨⟨(Nat.le_of_ble_eq_true rfl), (Nat.le_of_ble_eq_true rfl)⟩, (by show cells + 12 + 0 + 0 ≤ 601024; omega), (by show slots + 700 + 0 + 0 ≤ 7293034; omega)⟩ rfl (Nat.le_of_ble_eq_true rfl) dL_law_414 (fun v9 H3 locs3 hp hS hz3 hk3 => ?_)
  obtain ⟨hz, hh⟩ := hp
  subst hz; subst hh
  refine lv_iload hx hb dL_law_417 (lv_at hl 1 rfl) ?_
  refine lv_icmp_eq (tgt := 424) hx hb dL_law_419 (by decide) (fun c_419 => ?_) (fun c_419 => ?_)
  · refine lv_iload hx hb dL_law_424 (lv_at hl 1 rfl) ?_
    refine lv_if_ne (tgt := 441) hx hb dL_law_426 (by decide) (fun c_426 => ?_) (fun c_426 => ?_)
    · rw [if_neg c_426] at hW2 ha
      refine lv_goto (tgt := 2534) hx hb dL_law_441 (by decide) ?_
      exact J2534 H2 _ ⟨G1, R1, _, (cn2, sc2, μ2), f1, hI, hW2, hM2, hag.trans ha, hL2, hS, hb9⟩ _ (lv_sub hl [2, 3, 4, 5, 6] rfl)
    · have ckz := c_426
      refine lv_aload_n hx hb dL_law_429 rfl (lv_at hl 3 rfl) ?_
      refine lv_iconst (v := 0) hx hb dL_law_430 (by decide) ?_
      refine hk_lld X K hL2 (show vp_in (0 : Int32) 1 from vp_in_nI (n := 0) (by decide) (by decide)) dL_law_431 ?_
      rw [show f1 (0 : Int32).toNatClampNeg = w.toInt64 from (congrArg f1 hk_c0).trans (hf1 c_426)]
      have ev : v = w := ev.trans (if_pos c_426)
      rw [if_pos c_426] at hW2 ha
      refine lv_iload hx hb dL_law_432 (lv_at hl 0 rfl) ?_
      refine lv_i2l hx hb dL_law_434 rfl ?_
      refine lv_lcmp hx hb dL_law_435 ?_
      rw [show lcv (w.toInt64) v.toInt64 = 0 from by rw [ev]; exact lcv_self]
      refine lv_if_eq (tgt := 441) hx hb dL_law_436 (by decide) (fun c_436 => ?_) (fun c_436 => ?_)
      · refine lv_goto (tgt := 2534) hx hb dL_law_441 (by decide) ?_
        exact J2534 H2 _ ⟨G1, R1, _, (cn2, sc2, μ2), f1, invF_clock hI, hW2, hM2, (st_clock_agr hag).trans ha, hL2, hS, hb9⟩ _ (lv_sub hl [2, 3, 4, 5, 6] rfl)
      · exact absurd (by decide) c_436
  · exact absurd c_419 (fun h => h h33)
set_option maxHeartbeats 4000000 in
set_option maxRecDepth 100000 in
theorem k_plate {p : Program} {l : Launch} {e : Env} {s : State} {m : MethodId} {below : List Frame} {meth : Method} {c : Code} {b L : Nat} {xs : Nat → Int32} {E : hk_E} {Zh Zm : Nat → Prop} {ho ts mo o9 b4 : Nat} {li am : Nat → Nat} {rr : Nat → Nat → Nat} (G0 : lw_G p l s m meth c b L xs E Zh Zm o9 b4) {H : Heap} {locs : List Loc} {cells slots : Nat} (hJ0 : lw_J E Zh Zm ho ts mo o9 b4 li am rr s H locs) {i : Nat} (hi : i + 8 ≤ L) (hce : cells + 12 ≤ 601024) (hsl : slots + 700 ≤ 7293034) {ls : Array Slot} (hl : lv_has ls 7 [(4, .int (nI i)), (3, .ref o9), (2, .ref mo), (1, .ref ho), (0, .ref b)])
  (J2534 : ∀ (H1 : Heap) (locs1 : List Loc), lw_J E Zh Zm ho ts mo o9 b4 li am rr s H1 locs1 → ∀ (ls : Array Slot), lv_has ls 7 [(4, .int (nI i)), (3, .ref o9), (2, .ref mo), (1, .ref ho), (0, .ref b)] → W p l e room_1 s m #[Value.ref b] below meth c H1 locs1 (cells + 12) (slots + 700) (lw_Z below #[Value.ref b] s) (F0 m 2534 ls [])) : W p l e room_1 s m #[Value.ref b] below meth c H locs cells slots (lw_Z below #[Value.ref b] s) (F0 m 444 ls []) := by
  obtain ⟨hl9, hLL, C0, X, K, hE, hZn0, hoZ, hoA, hZm⟩ := G0
  obtain ⟨G, R, ⟨cn, sc, μ⟩, ⟨cn1, sc1, μ1⟩, f0, hI, hW, hM, hag, hL, hS, hb4⟩ := hJ0
  obtain ⟨hx, hb, hr, hml, hown, -, hXs, hbl, hlocks, -⟩ := id C0
  have hAE : ∀ q, hk_A E q → hk_A E q := fun _ h => h
  have hZA : ∀ q, Zh q → hk_A E q := hW.2.2.2.2.2.2.2.2.2.2.2.2
  have hAz : ∀ q, (Zh q ∨ q = o9) → hk_A E q := fun q h => h.elim (fun h => hZA q h) (fun h => by rw [h]; exact hoA)
  have hmA : ∀ q, Zm q → hk_A E q := fun q h => (hZm q h).2.2.2
  have hZn : ∀ q, H.size ≤ q → Zh q := fun q h => hZn0 q (Nat.le_trans hb4 h)
  have hbA : ¬ hk_A E b := fun g => absurd hbl (Nat.not_lt.mpr (by rw [← hE]; exact g))
  have hJ : Inv (cn1, sc1, μ1) := inv_agr hI.1 hag
  refine lv_aload_n hx hb dL_law_444 rfl (lv_at hl 3 rfl) ?_
  refine lv_aload_n hx hb dL_law_445 rfl (lv_at hl 4 rfl) ?_
  refine lv_iload hx hb dL_law_446 (lv_at hl 0 rfl) ?_
  refine lv_iconst (v := 1) hx hb dL_law_448 (by decide) ?_
  refine lv_iadd hx hb dL_law_449 ?_
  refine lv_topi (fun z_1 ez_1 => ?_)
  have ez_1 : z_1 = nI (i + 1) := ez_1.trans (nI_add i 1)
  subst ez_1
  refine va_sld hx hb hXs hbl hbA hS (vp_in_nI (show i + 1 < L by omega) (by omega)) dL_law_450 ?_
  rw [show xs (nI (i + 1)).toNatClampNeg = xs (i + 1) from congrArg xs (nI_clamp (by omega))]
  refine lv_aload_n hx hb dL_law_451 rfl (lv_at hl 4 rfl) ?_
  refine lv_iload hx hb dL_law_452 (lv_at hl 0 rfl) ?_
  refine lv_iconst (v := 2) hx hb dL_law_454 (by decide) ?_
  refine lv_iadd hx hb dL_law_455 ?_
  refine lv_topi (fun z_2 ez_2 => ?_)
  have ez_2 : z_2 = nI (i + 2) := ez_2.trans (nI_add i 2)
  subst ez_2
  refine va_sld hx hb hXs hbl hbA hS (vp_in_nI (show i + 2 < L by omega) (by omega)) dL_law_456 ?_
  rw [show xs (nI (i + 2)).toNatClampNeg = xs (i + 2) from congrArg xs (nI_clamp (by omega))]
  refine lv_aload_n hx hb dL_law_457 rfl (lv_at hl 4 rfl) ?_
  refine lv_iload hx hb dL_law_458 (lv_at hl 0 rfl) ?_
  refine lv_iconst (v := 3) hx hb dL_law_460 (by decide) ?_
  refine lv_iadd hx hb dL_law_461 ?_
  refine lv_topi (fun z_3 ez_3 => ?_)
  have ez_3 : z_3 = nI (i + 3) := ez_3.trans (nI_add i 3)
  subst ez_3
  refine va_sld hx hb hXs hbl hbA hS (vp_in_nI (show i + 3 < L by omega) (by omega)) dL_law_462 ?_
  rw [show xs (nI (i + 3)).toNatClampNeg = xs (i + 3) from congrArg xs (nI_clamp (by omega))]
  refine lv_aload_n hx hb dL_law_463 rfl (lv_at hl 1 rfl) ?_
  refine hk_callSxW 5 (As := [.ref ho, .int (xs (i + 1)), .int (xs (i + 2)), .int (xs (i + 3)), .ref o9]) (rest := []) X K hAE hS hl.1 (c_L_plate E l hl9 H hW hI hZn hL hoZ hoA (p0 := xs (i + 1)) (p1 := xs (i + 2)) (p2 := xs (i + 3))) hAz gL_law_L_plate rfl hd_L_plate rfl ⟨⟨(Nat.le_of_ble_eq_true rfl), (Nat.le_of_ble_eq_true rfl)⟩, hce, hsl⟩ rfl (Nat.le_of_ble_eq_true rfl) dL_law_464 (fun _ _ _ _ _ hp _ _ _ _ _ _ => False.elim hp) (fun v9 H1 locs1 hp hS hz1 hk1 => ?_)
  obtain ⟨hz, G1, R1, f1, hW1, hL1, hf1⟩ := hp
  subst hz
  have hM1 := MW.kept hM (fun q hq => hk1 q (Nat.lt_of_lt_of_le (hZm q hq).1 hb4) (fun g => g.elim (hZm q hq).2.1 (hZm q hq).2.2.1))
  refine lv_topi (fun k ek => ?_)
  refine lv_istore (lv' := [(5, .int k), (4, .int (nI i)), (3, .ref o9), (2, .ref mo), (1, .ref ho), (0, .ref b)]) hx hb dL_law_467 hl (by decide) rfl (fun ls hl => ?_)
  rw [← ek] at hW1 hf1
  have hcT : cd_plate (xs (i + 1)) (xs (i + 2)) (xs (i + 3)) (cn1, sc1, μ1) = k := (cd_plate_agr hag).symm.trans ek.symm
  obtain ⟨w, ew⟩ : ∃ w : Int32, w = an_plate (xs (i + 1)) (xs (i + 2)) (xs (i + 3)) (cn, sc, μ) := ⟨_, rfl⟩
  rw [← ew] at hf1
  have haT : an_plate (xs (i + 1)) (xs (i + 2)) (xs (i + 3)) (cn1, sc1, μ1) = w := (an_plate_agr hag).symm.trans ew.symm
  refine lv_aload_n hx hb dL_law_469 rfl (lv_at hl 3 rfl) ?_
  refine lv_aload_n hx hb dL_law_470 rfl (lv_at hl 5 rfl) ?_
  refine lv_iload hx hb dL_law_471 (lv_at hl 1 rfl) ?_
  refine lv_iconst (v := 1) hx hb dL_law_473 (by decide) ?_
  refine lv_iadd hx hb dL_law_474 ?_
  refine lv_topi (fun z_4 ez_4 => ?_)
  have ez_4 : z_4 = nI (i + 1) := ez_4.trans (nI_add i 1)
  subst ez_4
  refine va_sld hx hb hXs hbl hbA hS (vp_in_nI (show i + 1 < L by omega) (by omega)) dL_law_475 ?_
  rw [show xs (nI (i + 1)).toNatClampNeg = xs (i + 1) from congrArg xs (nI_clamp (by omega))]
  refine lv_aload_n hx hb dL_law_476 rfl (lv_at hl 5 rfl) ?_
  refine lv_iload hx hb dL_law_477 (lv_at hl 1 rfl) ?_
  refine lv_iconst (v := 2) hx hb dL_law_479 (by decide) ?_
  refine lv_iadd hx hb dL_law_480 ?_
  refine lv_topi (fun z_5 ez_5 => ?_)
  have ez_5 : z_5 = nI (i + 2) := ez_5.trans (nI_add i 2)
  subst ez_5
  refine va_sld hx hb hXs hbl hbA hS (vp_in_nI (show i + 2 < L by omega) (by omega)) dL_law_481 ?_
  rw [show xs (nI (i + 2)).toNatClampNeg = xs (i + 2) from congrArg xs (nI_clamp (by omega))]
  refine lv_aload_n hx hb dL_law_482 rfl (lv_at hl 5 rfl) ?_
  refine lv_iload hx hb dL_law_483 (lv_at hl 1 rfl) ?_
  refine lv_iconst (v := 3) hx hb dL_law_485 (by decide) ?_
  refine lv_iadd hx hb dL_law_486 ?_
  refine lv_topi (fun z_6 ez_6 => ?_)
  have ez_6 : z_6 = nI (i + 3) := ez_6.trans (nI_add i 3)
  subst ez_6
  refine va_sld hx hb hXs hbl hbA hS (vp_in_nI (show i + 3 < L by omega) (by omega)) dL_law_487 ?_
  rw [show xs (nI (i + 3)).toNatClampNeg = xs (i + 3) from congrArg xs (nI_clamp (by omega))]
  refine hk_callV 3 (As := [.int (xs (i + 1)), .int (xs (i + 2)), .int (xs (i + 3))]) (rest := []) X K hAE hS hl.1 hM1.1 rfl (c_X11_plate E l H1 hM1 hmA hJ.1.2.1 (p0 := xs (i + 1)) (p1 := xs (i + 2)) (p2 := xs (i + 3))) hmA gL_law_X11_plate rfl ⟨rfl, hd_X11_plate⟩ rfl ⟨⟨(Nat.le_of_ble_eq_true rfl), (Nat.le_of_ble_eq_true rfl)⟩, (by show cells + 12 + 0 ≤ 601024; omega), (by show slots + 700 + 0 ≤ 7293034; omega)⟩ rfl (Nat.le_of_ble_eq_true rfl) dL_law_488 (fun v9 H2 locs2 hp hS hz2 hk2 => ?_)
  obtain ⟨cn2, sc2, μ2, hM2, h33, hz, ha⟩ := hp
  subst hz
  rw [hcT] at h33 ha
  have hW2 := HW.kept hW1 (fun q h1 h2 => hk2 q h1 (fun g => h2.elim (hZm q g).2.1 (fun h => h (hZm q g).2.2.2)))
  have hL2 : hk_L E o9 1 f1 H2 := (hk2 _ (ar_lt hL1) (fun g => (hZm _ g).2.2.1 rfl)).trans hL1
  have hb9 : b4 ≤ H2.size := Nat.le_trans (Nat.le_trans hb4 hz1) hz2
  rw [hcT, haT]
  refine lv_topi (fun v ev => ?_)
  refine lv_istore (lv' := [(6, .int v), (5, .int k), (4, .int (nI i)), (3, .ref o9), (2, .ref mo), (1, .ref ho), (0, .ref b)]) hx hb dL_law_491 hl (by decide) rfl (fun ls hl => ?_)
  refine lv_aload_n hx hb dL_law_493 rfl (lv_at hl 4 rfl) ?_
  refine hk_callV 0 (As := []) (rest := []) X K hAE hS hl.1 hM2.1 rfl (c_X11_thrown E l H2 hM2) (fun _ h => False.elim h) gL_law_X11_thrown rfl ⟨rfl, hd_X11_thrown⟩ rfl ⟨⟨(Nat.le_of_ble_eq_true rfl), (Nat.le_of_ble_eq_true rfl)⟩, (by show cells + 12 + 0 + 0 ≤ 601024; omega), (by show slots + 700 + 0 + 0 ≤ 7293034; omega)⟩ rfl (Nat.le_of_ble_eq_true rfl) dL_law_494 (fun v9 H3 locs3 hp hS hz3 hk3 => ?_)
  obtain ⟨hz, hh⟩ := hp
  subst hz; subst hh
  refine lv_iload hx hb dL_law_497 (lv_at hl 1 rfl) ?_
  refine lv_icmp_eq (tgt := 504) hx hb dL_law_499 (by decide) (fun c_499 => ?_) (fun c_499 => ?_)
  · refine lv_iload hx hb dL_law_504 (lv_at hl 1 rfl) ?_
    refine lv_if_ne (tgt := 521) hx hb dL_law_506 (by decide) (fun c_506 => ?_) (fun c_506 => ?_)
    · rw [if_neg c_506] at hW2 ha
      refine lv_goto (tgt := 2534) hx hb dL_law_521 (by decide) ?_
      exact J2534 H2 _ ⟨G1, R1, _, (cn2, sc2, μ2), f1, hI, hW2, hM2, hag.trans ha, hL2, hS, hb9⟩ _ (lv_sub hl [2, 3, 4, 5, 6] rfl)
    · have ckz := c_506
      refine lv_aload_n hx hb dL_law_509 rfl (lv_at hl 3 rfl) ?_
      refine lv_iconst (v := 0) hx hb dL_law_510 (by decide) ?_
      refine hk_lld X K hL2 (show vp_in (0 : Int32) 1 from vp_in_nI (n := 0) (by decide) (by decide)) dL_law_511 ?_
      rw [show f1 (0 : Int32).toNatClampNeg = w.toInt64 from (congrArg f1 hk_c0).trans (hf1 c_506)]
      have ev : v = w := ev.trans (if_pos c_506)
      rw [if_pos c_506] at hW2 ha
      refine lv_iload hx hb dL_law_512 (lv_at hl 0 rfl) ?_
      refine lv_i2l hx hb dL_law_514 rfl ?_
      refine lv_lcmp hx hb dL_law_515 ?_
      rw [show lcv (w.toInt64) v.toInt64 = 0 from by rw [ev]; exact lcv_self]
      refine lv_if_eq (tgt := 521) hx hb dL_law_516 (by decide) (fun c_516 => ?_) (fun c_516 => ?_)
      · refine lv_goto (tgt := 2534) hx hb dL_law_521 (by decide) ?_
        exact J2534 H2 _ ⟨G1, R1, _, (cn2, sc2, μ2), f1, invF_plate hI (ek.symm.trans ckz), hW2, hM2, (st_plate_agr hag).trans ha, hL2, hS, hb9⟩ _ (lv_sub hl [2, 3, 4, 5, 6] rfl)
      · exact absurd (by decide) c_516
  · exact absurd c_499 (fun h => h h33)
set_option maxHeartbeats 4000000 in
set_option maxRecDepth 100000 in
theorem k_join {p : Program} {l : Launch} {e : Env} {s : State} {m : MethodId} {below : List Frame} {meth : Method} {c : Code} {b L : Nat} {xs : Nat → Int32} {E : hk_E} {Zh Zm : Nat → Prop} {ho ts mo o9 b4 : Nat} {li am : Nat → Nat} {rr : Nat → Nat → Nat} (G0 : lw_G p l s m meth c b L xs E Zh Zm o9 b4) {H : Heap} {locs : List Loc} {cells slots : Nat} (hJ0 : lw_J E Zh Zm ho ts mo o9 b4 li am rr s H locs) {i : Nat} (hi : i + 8 ≤ L) (hce : cells + 12 ≤ 601024) (hsl : slots + 700 ≤ 7293034) {ls : Array Slot} (hl : lv_has ls 7 [(4, .int (nI i)), (3, .ref o9), (2, .ref mo), (1, .ref ho), (0, .ref b)])
  (J2534 : ∀ (H1 : Heap) (locs1 : List Loc), lw_J E Zh Zm ho ts mo o9 b4 li am rr s H1 locs1 → ∀ (ls : Array Slot), lv_has ls 7 [(4, .int (nI i)), (3, .ref o9), (2, .ref mo), (1, .ref ho), (0, .ref b)] → W p l e room_1 s m #[Value.ref b] below meth c H1 locs1 (cells + 12) (slots + 700) (lw_Z below #[Value.ref b] s) (F0 m 2534 ls [])) : W p l e room_1 s m #[Value.ref b] below meth c H locs cells slots (lw_Z below #[Value.ref b] s) (F0 m 524 ls []) := by
  obtain ⟨hl9, hLL, C0, X, K, hE, hZn0, hoZ, hoA, hZm⟩ := G0
  obtain ⟨G, R, ⟨cn, sc, μ⟩, ⟨cn1, sc1, μ1⟩, f0, hI, hW, hM, hag, hL, hS, hb4⟩ := hJ0
  obtain ⟨hx, hb, hr, hml, hown, -, hXs, hbl, hlocks, -⟩ := id C0
  have hAE : ∀ q, hk_A E q → hk_A E q := fun _ h => h
  have hZA : ∀ q, Zh q → hk_A E q := hW.2.2.2.2.2.2.2.2.2.2.2.2
  have hAz : ∀ q, (Zh q ∨ q = o9) → hk_A E q := fun q h => h.elim (fun h => hZA q h) (fun h => by rw [h]; exact hoA)
  have hmA : ∀ q, Zm q → hk_A E q := fun q h => (hZm q h).2.2.2
  have hZn : ∀ q, H.size ≤ q → Zh q := fun q h => hZn0 q (Nat.le_trans hb4 h)
  have hbA : ¬ hk_A E b := fun g => absurd hbl (Nat.not_lt.mpr (by rw [← hE]; exact g))
  have hJ : Inv (cn1, sc1, μ1) := inv_agr hI.1 hag
  refine lv_aload_n hx hb dL_law_524 rfl (lv_at hl 3 rfl) ?_
  refine lv_aload_n hx hb dL_law_525 rfl (lv_at hl 4 rfl) ?_
  refine lv_iload hx hb dL_law_526 (lv_at hl 0 rfl) ?_
  refine lv_iconst (v := 1) hx hb dL_law_528 (by decide) ?_
  refine lv_iadd hx hb dL_law_529 ?_
  refine lv_topi (fun z_1 ez_1 => ?_)
  have ez_1 : z_1 = nI (i + 1) := ez_1.trans (nI_add i 1)
  subst ez_1
  refine va_sld hx hb hXs hbl hbA hS (vp_in_nI (show i + 1 < L by omega) (by omega)) dL_law_530 ?_
  rw [show xs (nI (i + 1)).toNatClampNeg = xs (i + 1) from congrArg xs (nI_clamp (by omega))]
  refine lv_aload_n hx hb dL_law_531 rfl (lv_at hl 4 rfl) ?_
  refine lv_iload hx hb dL_law_532 (lv_at hl 0 rfl) ?_
  refine lv_iconst (v := 2) hx hb dL_law_534 (by decide) ?_
  refine lv_iadd hx hb dL_law_535 ?_
  refine lv_topi (fun z_2 ez_2 => ?_)
  have ez_2 : z_2 = nI (i + 2) := ez_2.trans (nI_add i 2)
  subst ez_2
  refine va_sld hx hb hXs hbl hbA hS (vp_in_nI (show i + 2 < L by omega) (by omega)) dL_law_536 ?_
  rw [show xs (nI (i + 2)).toNatClampNeg = xs (i + 2) from congrArg xs (nI_clamp (by omega))]
  refine lv_aload_n hx hb dL_law_537 rfl (lv_at hl 1 rfl) ?_
  refine hk_callSxW 4 (As := [.ref ho, .int (xs (i + 1)), .int (xs (i + 2)), .ref o9]) (rest := []) X K hAE hS hl.1 (c_L_join E l hl9 H hW hI hZn hL hoZ hoA (p0 := xs (i + 1)) (p1 := xs (i + 2))) hAz gL_law_L_join rfl hd_L_join rfl ⟨⟨(Nat.le_of_ble_eq_true rfl), (Nat.le_of_ble_eq_true rfl)⟩, hce, hsl⟩ rfl (Nat.le_of_ble_eq_true rfl) dL_law_538 (fun _ _ _ _ _ hp _ _ _ _ _ _ => False.elim hp) (fun v9 H1 locs1 hp hS hz1 hk1 => ?_)
  obtain ⟨hz, G1, R1, f1, hW1, hL1, hf1⟩ := hp
  subst hz
  have hM1 := MW.kept hM (fun q hq => hk1 q (Nat.lt_of_lt_of_le (hZm q hq).1 hb4) (fun g => g.elim (hZm q hq).2.1 (hZm q hq).2.2.1))
  refine lv_topi (fun k ek => ?_)
  refine lv_istore (lv' := [(5, .int k), (4, .int (nI i)), (3, .ref o9), (2, .ref mo), (1, .ref ho), (0, .ref b)]) hx hb dL_law_541 hl (by decide) rfl (fun ls hl => ?_)
  rw [← ek] at hW1 hf1
  have hcT : cd_join (xs (i + 1)) (xs (i + 2)) (cn1, sc1, μ1) = k := (cd_join_agr hag).symm.trans ek.symm
  obtain ⟨w, ew⟩ : ∃ w : Int32, w = an_join (xs (i + 1)) (xs (i + 2)) (cn, sc, μ) := ⟨_, rfl⟩
  rw [← ew] at hf1
  have haT : an_join (xs (i + 1)) (xs (i + 2)) (cn1, sc1, μ1) = w := (an_join_agr hag).symm.trans ew.symm
  refine lv_aload_n hx hb dL_law_543 rfl (lv_at hl 3 rfl) ?_
  refine lv_aload_n hx hb dL_law_544 rfl (lv_at hl 5 rfl) ?_
  refine lv_iload hx hb dL_law_545 (lv_at hl 1 rfl) ?_
  refine lv_iconst (v := 1) hx hb dL_law_547 (by decide) ?_
  refine lv_iadd hx hb dL_law_548 ?_
  refine lv_topi (fun z_3 ez_3 => ?_)
  have ez_3 : z_3 = nI (i + 1) := ez_3.trans (nI_add i 1)
  subst ez_3
  refine va_sld hx hb hXs hbl hbA hS (vp_in_nI (show i + 1 < L by omega) (by omega)) dL_law_549 ?_
  rw [show xs (nI (i + 1)).toNatClampNeg = xs (i + 1) from congrArg xs (nI_clamp (by omega))]
  refine lv_aload_n hx hb dL_law_550 rfl (lv_at hl 5 rfl) ?_
  refine lv_iload hx hb dL_law_551 (lv_at hl 1 rfl) ?_
  refine lv_iconst (v := 2) hx hb dL_law_553 (by decide) ?_
  refine lv_iadd hx hb dL_law_554 ?_
  refine lv_topi (fun z_4 ez_4 => ?_)
  have ez_4 : z_4 = nI (i + 2) := ez_4.trans (nI_add i 2)
  subst ez_4
  refine va_sld hx hb hXs hbl hbA hS (vp_in_nI (show i + 2 < L by omega) (by omega)) dL_law_555 ?_
  rw [show xs (nI (i + 2)).toNatClampNeg = xs (i + 2) from congrArg xs (nI_clamp (by omega))]
  refine hk_callV 2 (As := [.int (xs (i + 1)), .int (xs (i + 2))]) (rest := []) X K hAE hS hl.1 hM1.1 rfl (c_X11_join E l H1 hM1 hmA hJ.1.2.1 (p0 := xs (i + 1)) (p1 := xs (i + 2))) hmA gL_law_X11_join rfl ⟨rfl, hd_X11_join⟩ rfl ⟨⟨(Nat.le_of_ble_eq_true rfl), (Nat.le_of_ble_eq_true rfl)⟩, (by show cells + 12 + 0 ≤ 601024; omega), (by show slots + 700 + 0 ≤ 7293034; omega)⟩ rfl (Nat.le_of_ble_eq_true rfl) dL_law_556 (fun v9 H2 locs2 hp hS hz2 hk2 => ?_)
  obtain ⟨cn2, sc2, μ2, hM2, h33, hz, ha⟩ := hp
  subst hz
  rw [hcT] at h33 ha
  have hW2 := HW.kept hW1 (fun q h1 h2 => hk2 q h1 (fun g => h2.elim (hZm q g).2.1 (fun h => h (hZm q g).2.2.2)))
  have hL2 : hk_L E o9 1 f1 H2 := (hk2 _ (ar_lt hL1) (fun g => (hZm _ g).2.2.1 rfl)).trans hL1
  have hb9 : b4 ≤ H2.size := Nat.le_trans (Nat.le_trans hb4 hz1) hz2
  rw [hcT, haT]
  refine lv_topi (fun v ev => ?_)
  refine lv_istore (lv' := [(6, .int v), (5, .int k), (4, .int (nI i)), (3, .ref o9), (2, .ref mo), (1, .ref ho), (0, .ref b)]) hx hb dL_law_559 hl (by decide) rfl (fun ls hl => ?_)
  refine lv_aload_n hx hb dL_law_561 rfl (lv_at hl 4 rfl) ?_
  refine hk_callV 0 (As := []) (rest := []) X K hAE hS hl.1 hM2.1 rfl (c_X11_thrown E l H2 hM2) (fun _ h => False.elim h) gL_law_X11_thrown rfl ⟨rfl, hd_X11_thrown⟩ rfl ⟨⟨(Nat.le_of_ble_eq_true rfl), (Nat.le_of_ble_eq_true rfl)⟩, (by show cells + 12 + 0 + 0 ≤ 601024; omega), (by show slots + 700 + 0 + 0 ≤ 7293034; omega)⟩ rfl (Nat.le_of_ble_eq_true rfl) dL_law_562 (fun v9 H3 locs3 hp hS hz3 hk3 => ?_)
  obtain ⟨hz, hh⟩ := hp
  subst hz; subst hh
  refine lv_iload hx hb dL_law_565 (lv_at hl 1 rfl) ?_
  refine lv_icmp_eq (tgt := 572) hx hb dL_law_567 (by decide) (fun c_567 => ?_) (fun c_567 => ?_)
  · refine lv_iload hx hb dL_law_572 (lv_at hl 1 rfl) ?_
    refine lv_if_ne (tgt := 589) hx hb dL_law_574 (by decide) (fun c_574 => ?_) (fun c_574 => ?_)
    · rw [if_neg c_574] at hW2 ha
      refine lv_goto (tgt := 2534) hx hb dL_law_589 (by decide) ?_
      exact J2534 H2 _ ⟨G1, R1, _, (cn2, sc2, μ2), f1, hI, hW2, hM2, hag.trans ha, hL2, hS, hb9⟩ _ (lv_sub hl [2, 3, 4, 5, 6] rfl)
    · have ckz := c_574
      refine lv_aload_n hx hb dL_law_577 rfl (lv_at hl 3 rfl) ?_
      refine lv_iconst (v := 0) hx hb dL_law_578 (by decide) ?_
      refine hk_lld X K hL2 (show vp_in (0 : Int32) 1 from vp_in_nI (n := 0) (by decide) (by decide)) dL_law_579 ?_
      rw [show f1 (0 : Int32).toNatClampNeg = w.toInt64 from (congrArg f1 hk_c0).trans (hf1 c_574)]
      have ev : v = w := ev.trans (if_pos c_574)
      rw [if_pos c_574] at hW2 ha
      refine lv_iload hx hb dL_law_580 (lv_at hl 0 rfl) ?_
      refine lv_i2l hx hb dL_law_582 rfl ?_
      refine lv_lcmp hx hb dL_law_583 ?_
      rw [show lcv (w.toInt64) v.toInt64 = 0 from by rw [ev]; exact lcv_self]
      refine lv_if_eq (tgt := 589) hx hb dL_law_584 (by decide) (fun c_584 => ?_) (fun c_584 => ?_)
      · refine lv_goto (tgt := 2534) hx hb dL_law_589 (by decide) ?_
        exact J2534 H2 _ ⟨G1, R1, _, (cn2, sc2, μ2), f1, invF_join hI (ek.symm.trans ckz), hW2, hM2, (st_join_agr hag).trans ha, hL2, hS, hb9⟩ _ (lv_sub hl [2, 3, 4, 5, 6] rfl)
      · exact absurd (by decide) c_584
  · exact absurd c_567 (fun h => h h33)
set_option maxHeartbeats 4000000 in
set_option maxRecDepth 100000 in
theorem k_step {p : Program} {l : Launch} {e : Env} {s : State} {m : MethodId} {below : List Frame} {meth : Method} {c : Code} {b L : Nat} {xs : Nat → Int32} {E : hk_E} {Zh Zm : Nat → Prop} {ho ts mo o9 b4 : Nat} {li am : Nat → Nat} {rr : Nat → Nat → Nat} (G0 : lw_G p l s m meth c b L xs E Zh Zm o9 b4) {H : Heap} {locs : List Loc} {cells slots : Nat} (hJ0 : lw_J E Zh Zm ho ts mo o9 b4 li am rr s H locs) {i : Nat} (hi : i + 8 ≤ L) (hce : cells + 12 ≤ 601024) (hsl : slots + 700 ≤ 7293034) {ls : Array Slot} (hl : lv_has ls 7 [(4, .int (nI i)), (3, .ref o9), (2, .ref mo), (1, .ref ho), (0, .ref b)])
  (J2534 : ∀ (H1 : Heap) (locs1 : List Loc), lw_J E Zh Zm ho ts mo o9 b4 li am rr s H1 locs1 → ∀ (ls : Array Slot), lv_has ls 7 [(4, .int (nI i)), (3, .ref o9), (2, .ref mo), (1, .ref ho), (0, .ref b)] → W p l e room_1 s m #[Value.ref b] below meth c H1 locs1 (cells + 12) (slots + 700) (lw_Z below #[Value.ref b] s) (F0 m 2534 ls [])) : W p l e room_1 s m #[Value.ref b] below meth c H locs cells slots (lw_Z below #[Value.ref b] s) (F0 m 592 ls []) := by
  obtain ⟨hl9, hLL, C0, X, K, hE, hZn0, hoZ, hoA, hZm⟩ := G0
  obtain ⟨G, R, ⟨cn, sc, μ⟩, ⟨cn1, sc1, μ1⟩, f0, hI, hW, hM, hag, hL, hS, hb4⟩ := hJ0
  obtain ⟨hx, hb, hr, hml, hown, -, hXs, hbl, hlocks, -⟩ := id C0
  have hAE : ∀ q, hk_A E q → hk_A E q := fun _ h => h
  have hZA : ∀ q, Zh q → hk_A E q := hW.2.2.2.2.2.2.2.2.2.2.2.2
  have hAz : ∀ q, (Zh q ∨ q = o9) → hk_A E q := fun q h => h.elim (fun h => hZA q h) (fun h => by rw [h]; exact hoA)
  have hmA : ∀ q, Zm q → hk_A E q := fun q h => (hZm q h).2.2.2
  have hZn : ∀ q, H.size ≤ q → Zh q := fun q h => hZn0 q (Nat.le_trans hb4 h)
  have hbA : ¬ hk_A E b := fun g => absurd hbl (Nat.not_lt.mpr (by rw [← hE]; exact g))
  have hJ : Inv (cn1, sc1, μ1) := inv_agr hI.1 hag
  refine lv_aload_n hx hb dL_law_592 rfl (lv_at hl 3 rfl) ?_
  refine lv_aload_n hx hb dL_law_593 rfl (lv_at hl 4 rfl) ?_
  refine lv_iload hx hb dL_law_594 (lv_at hl 0 rfl) ?_
  refine lv_iconst (v := 1) hx hb dL_law_596 (by decide) ?_
  refine lv_iadd hx hb dL_law_597 ?_
  refine lv_topi (fun z_1 ez_1 => ?_)
  have ez_1 : z_1 = nI (i + 1) := ez_1.trans (nI_add i 1)
  subst ez_1
  refine va_sld hx hb hXs hbl hbA hS (vp_in_nI (show i + 1 < L by omega) (by omega)) dL_law_598 ?_
  rw [show xs (nI (i + 1)).toNatClampNeg = xs (i + 1) from congrArg xs (nI_clamp (by omega))]
  refine lv_aload_n hx hb dL_law_599 rfl (lv_at hl 4 rfl) ?_
  refine lv_iload hx hb dL_law_600 (lv_at hl 0 rfl) ?_
  refine lv_iconst (v := 2) hx hb dL_law_602 (by decide) ?_
  refine lv_iadd hx hb dL_law_603 ?_
  refine lv_topi (fun z_2 ez_2 => ?_)
  have ez_2 : z_2 = nI (i + 2) := ez_2.trans (nI_add i 2)
  subst ez_2
  refine va_sld hx hb hXs hbl hbA hS (vp_in_nI (show i + 2 < L by omega) (by omega)) dL_law_604 ?_
  rw [show xs (nI (i + 2)).toNatClampNeg = xs (i + 2) from congrArg xs (nI_clamp (by omega))]
  refine lv_aload_n hx hb dL_law_605 rfl (lv_at hl 4 rfl) ?_
  refine lv_iload hx hb dL_law_606 (lv_at hl 0 rfl) ?_
  refine lv_iconst (v := 3) hx hb dL_law_608 (by decide) ?_
  refine lv_iadd hx hb dL_law_609 ?_
  refine lv_topi (fun z_3 ez_3 => ?_)
  have ez_3 : z_3 = nI (i + 3) := ez_3.trans (nI_add i 3)
  subst ez_3
  refine va_sld hx hb hXs hbl hbA hS (vp_in_nI (show i + 3 < L by omega) (by omega)) dL_law_610 ?_
  rw [show xs (nI (i + 3)).toNatClampNeg = xs (i + 3) from congrArg xs (nI_clamp (by omega))]
  refine lv_aload_n hx hb dL_law_611 rfl (lv_at hl 4 rfl) ?_
  refine lv_iload hx hb dL_law_612 (lv_at hl 0 rfl) ?_
  refine lv_iconst (v := 4) hx hb dL_law_614 (by decide) ?_
  refine lv_iadd hx hb dL_law_615 ?_
  refine lv_topi (fun z_4 ez_4 => ?_)
  have ez_4 : z_4 = nI (i + 4) := ez_4.trans (nI_add i 4)
  subst ez_4
  refine va_sld hx hb hXs hbl hbA hS (vp_in_nI (show i + 4 < L by omega) (by omega)) dL_law_616 ?_
  rw [show xs (nI (i + 4)).toNatClampNeg = xs (i + 4) from congrArg xs (nI_clamp (by omega))]
  refine lv_aload_n hx hb dL_law_617 rfl (lv_at hl 4 rfl) ?_
  refine lv_iload hx hb dL_law_618 (lv_at hl 0 rfl) ?_
  refine lv_iconst (v := 5) hx hb dL_law_620 (by decide) ?_
  refine lv_iadd hx hb dL_law_621 ?_
  refine lv_topi (fun z_5 ez_5 => ?_)
  have ez_5 : z_5 = nI (i + 5) := ez_5.trans (nI_add i 5)
  subst ez_5
  refine va_sld hx hb hXs hbl hbA hS (vp_in_nI (show i + 5 < L by omega) (by omega)) dL_law_622 ?_
  rw [show xs (nI (i + 5)).toNatClampNeg = xs (i + 5) from congrArg xs (nI_clamp (by omega))]
  refine lv_aload_n hx hb dL_law_623 rfl (lv_at hl 4 rfl) ?_
  refine lv_iload hx hb dL_law_624 (lv_at hl 0 rfl) ?_
  refine lv_bipush (v := 6) hx hb dL_law_626 (by decide) ?_
  refine lv_iadd hx hb dL_law_628 ?_
  refine lv_topi (fun z_6 ez_6 => ?_)
  have ez_6 : z_6 = nI (i + 6) := ez_6.trans (nI_add i 6)
  subst ez_6
  refine va_sld hx hb hXs hbl hbA hS (vp_in_nI (show i + 6 < L by omega) (by omega)) dL_law_629 ?_
  rw [show xs (nI (i + 6)).toNatClampNeg = xs (i + 6) from congrArg xs (nI_clamp (by omega))]
  refine lv_aload_n hx hb dL_law_630 rfl (lv_at hl 4 rfl) ?_
  refine lv_iload hx hb dL_law_631 (lv_at hl 0 rfl) ?_
  refine lv_bipush (v := 7) hx hb dL_law_633 (by decide) ?_
  refine lv_iadd hx hb dL_law_635 ?_
  refine lv_topi (fun z_7 ez_7 => ?_)
  have ez_7 : z_7 = nI (i + 7) := ez_7.trans (nI_add i 7)
  subst ez_7
  refine va_sld hx hb hXs hbl hbA hS (vp_in_nI (show i + 7 < L by omega) (by omega)) dL_law_636 ?_
  rw [show xs (nI (i + 7)).toNatClampNeg = xs (i + 7) from congrArg xs (nI_clamp (by omega))]
  refine lv_aload_n hx hb dL_law_637 rfl (lv_at hl 1 rfl) ?_
  refine hk_callSxW 9 (As := [.ref ho, .int (xs (i + 1)), .int (xs (i + 2)), .int (xs (i + 3)), .int (xs (i + 4)), .int (xs (i + 5)), .int (xs (i + 6)), .int (xs (i + 7)), .ref o9]) (rest := []) X K hAE hS hl.1 (c_L_step E l hl9 H hW hI hZn hL hoZ hoA (p0 := xs (i + 1)) (p1 := xs (i + 2)) (p2 := xs (i + 3)) (p3 := xs (i + 4)) (p4 := xs (i + 5)) (p5 := xs (i + 6)) (p6 := xs (i + 7))) hAz gL_law_L_step rfl hd_L_step rfl ⟨⟨(Nat.le_of_ble_eq_true rfl), (Nat.le_of_ble_eq_true rfl)⟩, hce, hsl⟩ rfl (Nat.le_of_ble_eq_true rfl) dL_law_638 (fun _ _ _ _ _ hp _ _ _ _ _ _ => False.elim hp) (fun v9 H1 locs1 hp hS hz1 hk1 => ?_)
  obtain ⟨hz, G1, R1, f1, hW1, hL1, hf1⟩ := hp
  subst hz
  have hM1 := MW.kept hM (fun q hq => hk1 q (Nat.lt_of_lt_of_le (hZm q hq).1 hb4) (fun g => g.elim (hZm q hq).2.1 (hZm q hq).2.2.1))
  refine lv_topi (fun k ek => ?_)
  refine lv_istore (lv' := [(5, .int k), (4, .int (nI i)), (3, .ref o9), (2, .ref mo), (1, .ref ho), (0, .ref b)]) hx hb dL_law_641 hl (by decide) rfl (fun ls hl => ?_)
  rw [← ek] at hW1 hf1
  have hcT : cd_step (xs (i + 1)) (xs (i + 2)) (xs (i + 3)) (xs (i + 4)) (xs (i + 5)) (xs (i + 6)) (xs (i + 7)) (cn1, sc1, μ1) = k := (cd_step_agr hag).symm.trans ek.symm
  obtain ⟨w, ew⟩ : ∃ w : Int32, w = an_step (xs (i + 1)) (xs (i + 2)) (xs (i + 3)) (xs (i + 4)) (xs (i + 5)) (xs (i + 6)) (xs (i + 7)) (cn, sc, μ) := ⟨_, rfl⟩
  rw [← ew] at hf1
  have haT : an_step (xs (i + 1)) (xs (i + 2)) (xs (i + 3)) (xs (i + 4)) (xs (i + 5)) (xs (i + 6)) (xs (i + 7)) (cn1, sc1, μ1) = w := (an_step_agr hag).symm.trans ew.symm
  refine lv_aload_n hx hb dL_law_643 rfl (lv_at hl 3 rfl) ?_
  refine lv_aload_n hx hb dL_law_644 rfl (lv_at hl 5 rfl) ?_
  refine lv_iload hx hb dL_law_645 (lv_at hl 1 rfl) ?_
  refine lv_iconst (v := 1) hx hb dL_law_647 (by decide) ?_
  refine lv_iadd hx hb dL_law_648 ?_
  refine lv_topi (fun z_8 ez_8 => ?_)
  have ez_8 : z_8 = nI (i + 1) := ez_8.trans (nI_add i 1)
  subst ez_8
  refine va_sld hx hb hXs hbl hbA hS (vp_in_nI (show i + 1 < L by omega) (by omega)) dL_law_649 ?_
  rw [show xs (nI (i + 1)).toNatClampNeg = xs (i + 1) from congrArg xs (nI_clamp (by omega))]
  refine lv_aload_n hx hb dL_law_650 rfl (lv_at hl 5 rfl) ?_
  refine lv_iload hx hb dL_law_651 (lv_at hl 1 rfl) ?_
  refine lv_iconst (v := 2) hx hb dL_law_653 (by decide) ?_
  refine lv_iadd hx hb dL_law_654 ?_
  refine lv_topi (fun z_9 ez_9 => ?_)
  have ez_9 : z_9 = nI (i + 2) := ez_9.trans (nI_add i 2)
  subst ez_9
  refine va_sld hx hb hXs hbl hbA hS (vp_in_nI (show i + 2 < L by omega) (by omega)) dL_law_655 ?_
  rw [show xs (nI (i + 2)).toNatClampNeg = xs (i + 2) from congrArg xs (nI_clamp (by omega))]
  refine lv_aload_n hx hb dL_law_656 rfl (lv_at hl 5 rfl) ?_
  refine lv_iload hx hb dL_law_657 (lv_at hl 1 rfl) ?_
  refine lv_iconst (v := 3) hx hb dL_law_659 (by decide) ?_
  refine lv_iadd hx hb dL_law_660 ?_
  refine lv_topi (fun z_10 ez_10 => ?_)
  have ez_10 : z_10 = nI (i + 3) := ez_10.trans (nI_add i 3)
  subst ez_10
  refine va_sld hx hb hXs hbl hbA hS (vp_in_nI (show i + 3 < L by omega) (by omega)) dL_law_661 ?_
  rw [show xs (nI (i + 3)).toNatClampNeg = xs (i + 3) from congrArg xs (nI_clamp (by omega))]
  refine lv_aload_n hx hb dL_law_662 rfl (lv_at hl 5 rfl) ?_
  refine lv_iload hx hb dL_law_663 (lv_at hl 1 rfl) ?_
  refine lv_iconst (v := 4) hx hb dL_law_665 (by decide) ?_
  refine lv_iadd hx hb dL_law_666 ?_
  refine lv_topi (fun z_11 ez_11 => ?_)
  have ez_11 : z_11 = nI (i + 4) := ez_11.trans (nI_add i 4)
  subst ez_11
  refine va_sld hx hb hXs hbl hbA hS (vp_in_nI (show i + 4 < L by omega) (by omega)) dL_law_667 ?_
  rw [show xs (nI (i + 4)).toNatClampNeg = xs (i + 4) from congrArg xs (nI_clamp (by omega))]
  refine lv_aload_n hx hb dL_law_668 rfl (lv_at hl 5 rfl) ?_
  refine lv_iload hx hb dL_law_669 (lv_at hl 1 rfl) ?_
  refine lv_iconst (v := 5) hx hb dL_law_671 (by decide) ?_
  refine lv_iadd hx hb dL_law_672 ?_
  refine lv_topi (fun z_12 ez_12 => ?_)
  have ez_12 : z_12 = nI (i + 5) := ez_12.trans (nI_add i 5)
  subst ez_12
  refine va_sld hx hb hXs hbl hbA hS (vp_in_nI (show i + 5 < L by omega) (by omega)) dL_law_673 ?_
  rw [show xs (nI (i + 5)).toNatClampNeg = xs (i + 5) from congrArg xs (nI_clamp (by omega))]
  refine lv_aload_n hx hb dL_law_674 rfl (lv_at hl 5 rfl) ?_
  refine lv_iload hx hb dL_law_675 (lv_at hl 1 rfl) ?_
  refine lv_bipush (v := 6) hx hb dL_law_677 (by decide) ?_
  refine lv_iadd hx hb dL_law_679 ?_
  refine lv_topi (fun z_13 ez_13 => ?_)
  have ez_13 : z_13 = nI (i + 6) := ez_13.trans (nI_add i 6)
  subst ez_13
  refine va_sld hx hb hXs hbl hbA hS (vp_in_nI (show i + 6 < L by omega) (by omega)) dL_law_680 ?_
  rw [show xs (nI (i + 6)).toNatClampNeg = xs (i + 6) from congrArg xs (nI_clamp (by omega))]
  refine lv_aload_n hx hb dL_law_681 rfl (lv_at hl 5 rfl) ?_
  refine lv_iload hx hb dL_law_682 (lv_at hl 1 rfl) ?_
  refine lv_bipush (v := 7) hx hb dL_law_684 (by decide) ?_
  refine lv_iadd hx hb dL_law_686 ?_
  refine lv_topi (fun z_14 ez_14 => ?_)
  have ez_14 : z_14 = nI (i + 7) := ez_14.trans (nI_add i 7)
  subst ez_14
  refine va_sld hx hb hXs hbl hbA hS (vp_in_nI (show i + 7 < L by omega) (by omega)) dL_law_687 ?_
  rw [show xs (nI (i + 7)).toNatClampNeg = xs (i + 7) from congrArg xs (nI_clamp (by omega))]
  refine hk_callV 7 (As := [.int (xs (i + 1)), .int (xs (i + 2)), .int (xs (i + 3)), .int (xs (i + 4)), .int (xs (i + 5)), .int (xs (i + 6)), .int (xs (i + 7))]) (rest := []) X K hAE hS hl.1 hM1.1 rfl (c_X11_step E l H1 hM1 hmA hJ.1.1 hJ.1.2.2.1 (p0 := xs (i + 1)) (p1 := xs (i + 2)) (p2 := xs (i + 3)) (p3 := xs (i + 4)) (p4 := xs (i + 5)) (p5 := xs (i + 6)) (p6 := xs (i + 7))) hmA gL_law_X11_step rfl ⟨rfl, hd_X11_step⟩ rfl ⟨⟨(Nat.le_of_ble_eq_true rfl), (Nat.le_of_ble_eq_true rfl)⟩, (by show cells + 12 + 0 ≤ 601024; omega), (by show slots + 700 + 0 ≤ 7293034; omega)⟩ rfl (Nat.le_of_ble_eq_true rfl) dL_law_688 (fun v9 H2 locs2 hp hS hz2 hk2 => ?_)
  obtain ⟨cn2, sc2, μ2, hM2, h33, hz, ha⟩ := hp
  subst hz
  rw [hcT] at h33 ha
  have hW2 := HW.kept hW1 (fun q h1 h2 => hk2 q h1 (fun g => h2.elim (hZm q g).2.1 (fun h => h (hZm q g).2.2.2)))
  have hL2 : hk_L E o9 1 f1 H2 := (hk2 _ (ar_lt hL1) (fun g => (hZm _ g).2.2.1 rfl)).trans hL1
  have hb9 : b4 ≤ H2.size := Nat.le_trans (Nat.le_trans hb4 hz1) hz2
  rw [hcT, haT]
  refine lv_topi (fun v ev => ?_)
  refine lv_istore (lv' := [(6, .int v), (5, .int k), (4, .int (nI i)), (3, .ref o9), (2, .ref mo), (1, .ref ho), (0, .ref b)]) hx hb dL_law_691 hl (by decide) rfl (fun ls hl => ?_)
  refine lv_aload_n hx hb dL_law_693 rfl (lv_at hl 4 rfl) ?_
  refine hk_callV 0 (As := []) (rest := []) X K hAE hS hl.1 hM2.1 rfl (c_X11_thrown E l H2 hM2) (fun _ h => False.elim h) gL_law_X11_thrown rfl ⟨rfl, hd_X11_thrown⟩ rfl ⟨⟨(Nat.le_of_ble_eq_true rfl), (Nat.le_of_ble_eq_true rfl)⟩, (by show cells + 12 + 0 + 0 ≤ 601024; omega), (by show slots + 700 + 0 + 0 ≤ 7293034; omega)⟩ rfl (Nat.le_of_ble_eq_true rfl) dL_law_694 (fun v9 H3 locs3 hp hS hz3 hk3 => ?_)
  obtain ⟨hz, hh⟩ := hp
  subst hz; subst hh
  refine lv_iload hx hb dL_law_697 (lv_at hl 1 rfl) ?_
  refine lv_icmp_eq (tgt := 704) hx hb dL_law_699 (by decide) (fun c_699 => ?_) (fun c_699 => ?_)
  · refine lv_iload hx hb dL_law_704 (lv_at hl 1 rfl) ?_
    refine lv_if_ne (tgt := 721) hx hb dL_law_706 (by decide) (fun c_706 => ?_) (fun c_706 => ?_)
    · rw [if_neg c_706] at hW2 ha
      refine lv_goto (tgt := 2534) hx hb dL_law_721 (by decide) ?_
      exact J2534 H2 _ ⟨G1, R1, _, (cn2, sc2, μ2), f1, hI, hW2, hM2, hag.trans ha, hL2, hS, hb9⟩ _ (lv_sub hl [2, 3, 4, 5, 6] rfl)
    · have ckz := c_706
      refine lv_aload_n hx hb dL_law_709 rfl (lv_at hl 3 rfl) ?_
      refine lv_iconst (v := 0) hx hb dL_law_710 (by decide) ?_
      refine hk_lld X K hL2 (show vp_in (0 : Int32) 1 from vp_in_nI (n := 0) (by decide) (by decide)) dL_law_711 ?_
      rw [show f1 (0 : Int32).toNatClampNeg = w.toInt64 from (congrArg f1 hk_c0).trans (hf1 c_706)]
      have ev : v = w := ev.trans (if_pos c_706)
      rw [if_pos c_706] at hW2 ha
      refine lv_iload hx hb dL_law_712 (lv_at hl 0 rfl) ?_
      refine lv_i2l hx hb dL_law_714 rfl ?_
      refine lv_lcmp hx hb dL_law_715 ?_
      rw [show lcv (w.toInt64) v.toInt64 = 0 from by rw [ev]; exact lcv_self]
      refine lv_if_eq (tgt := 721) hx hb dL_law_716 (by decide) (fun c_716 => ?_) (fun c_716 => ?_)
      · refine lv_goto (tgt := 2534) hx hb dL_law_721 (by decide) ?_
        exact J2534 H2 _ ⟨G1, R1, _, (cn2, sc2, μ2), f1, invF_step hI (ek.symm.trans ckz), hW2, hM2, (st_step_agr hag).trans ha, hL2, hS, hb9⟩ _ (lv_sub hl [2, 3, 4, 5, 6] rfl)
      · exact absurd (by decide) c_716
  · exact absurd c_699 (fun h => h h33)
set_option maxHeartbeats 4000000 in
set_option maxRecDepth 100000 in
theorem k_density {p : Program} {l : Launch} {e : Env} {s : State} {m : MethodId} {below : List Frame} {meth : Method} {c : Code} {b L : Nat} {xs : Nat → Int32} {E : hk_E} {Zh Zm : Nat → Prop} {ho ts mo o9 b4 : Nat} {li am : Nat → Nat} {rr : Nat → Nat → Nat} (G0 : lw_G p l s m meth c b L xs E Zh Zm o9 b4) {H : Heap} {locs : List Loc} {cells slots : Nat} (hJ0 : lw_J E Zh Zm ho ts mo o9 b4 li am rr s H locs) {i : Nat} (hi : i + 8 ≤ L) (hce : cells + 12 ≤ 601024) (hsl : slots + 700 ≤ 7293034) {ls : Array Slot} (hl : lv_has ls 7 [(4, .int (nI i)), (3, .ref o9), (2, .ref mo), (1, .ref ho), (0, .ref b)])
  (J2534 : ∀ (H1 : Heap) (locs1 : List Loc), lw_J E Zh Zm ho ts mo o9 b4 li am rr s H1 locs1 → ∀ (ls : Array Slot), lv_has ls 7 [(4, .int (nI i)), (3, .ref o9), (2, .ref mo), (1, .ref ho), (0, .ref b)] → W p l e room_1 s m #[Value.ref b] below meth c H1 locs1 (cells + 12) (slots + 700) (lw_Z below #[Value.ref b] s) (F0 m 2534 ls [])) : W p l e room_1 s m #[Value.ref b] below meth c H locs cells slots (lw_Z below #[Value.ref b] s) (F0 m 724 ls []) := by
  obtain ⟨hl9, hLL, C0, X, K, hE, hZn0, hoZ, hoA, hZm⟩ := G0
  obtain ⟨G, R, ⟨cn, sc, μ⟩, ⟨cn1, sc1, μ1⟩, f0, hI, hW, hM, hag, hL, hS, hb4⟩ := hJ0
  obtain ⟨hx, hb, hr, hml, hown, -, hXs, hbl, hlocks, -⟩ := id C0
  have hAE : ∀ q, hk_A E q → hk_A E q := fun _ h => h
  have hZA : ∀ q, Zh q → hk_A E q := hW.2.2.2.2.2.2.2.2.2.2.2.2
  have hAz : ∀ q, (Zh q ∨ q = o9) → hk_A E q := fun q h => h.elim (fun h => hZA q h) (fun h => by rw [h]; exact hoA)
  have hmA : ∀ q, Zm q → hk_A E q := fun q h => (hZm q h).2.2.2
  have hZn : ∀ q, H.size ≤ q → Zh q := fun q h => hZn0 q (Nat.le_trans hb4 h)
  have hbA : ¬ hk_A E b := fun g => absurd hbl (Nat.not_lt.mpr (by rw [← hE]; exact g))
  have hJ : Inv (cn1, sc1, μ1) := inv_agr hI.1 hag
  refine lv_aload_n hx hb dL_law_724 rfl (lv_at hl 3 rfl) ?_
  refine lv_aload_n hx hb dL_law_725 rfl (lv_at hl 4 rfl) ?_
  refine lv_iload hx hb dL_law_726 (lv_at hl 0 rfl) ?_
  refine lv_iconst (v := 1) hx hb dL_law_728 (by decide) ?_
  refine lv_iadd hx hb dL_law_729 ?_
  refine lv_topi (fun z_1 ez_1 => ?_)
  have ez_1 : z_1 = nI (i + 1) := ez_1.trans (nI_add i 1)
  subst ez_1
  refine va_sld hx hb hXs hbl hbA hS (vp_in_nI (show i + 1 < L by omega) (by omega)) dL_law_730 ?_
  rw [show xs (nI (i + 1)).toNatClampNeg = xs (i + 1) from congrArg xs (nI_clamp (by omega))]
  refine lv_aload_n hx hb dL_law_731 rfl (lv_at hl 4 rfl) ?_
  refine lv_iload hx hb dL_law_732 (lv_at hl 0 rfl) ?_
  refine lv_iconst (v := 2) hx hb dL_law_734 (by decide) ?_
  refine lv_iadd hx hb dL_law_735 ?_
  refine lv_topi (fun z_2 ez_2 => ?_)
  have ez_2 : z_2 = nI (i + 2) := ez_2.trans (nI_add i 2)
  subst ez_2
  refine va_sld hx hb hXs hbl hbA hS (vp_in_nI (show i + 2 < L by omega) (by omega)) dL_law_736 ?_
  rw [show xs (nI (i + 2)).toNatClampNeg = xs (i + 2) from congrArg xs (nI_clamp (by omega))]
  refine lv_aload_n hx hb dL_law_737 rfl (lv_at hl 4 rfl) ?_
  refine lv_iload hx hb dL_law_738 (lv_at hl 0 rfl) ?_
  refine lv_iconst (v := 3) hx hb dL_law_740 (by decide) ?_
  refine lv_iadd hx hb dL_law_741 ?_
  refine lv_topi (fun z_3 ez_3 => ?_)
  have ez_3 : z_3 = nI (i + 3) := ez_3.trans (nI_add i 3)
  subst ez_3
  refine va_sld hx hb hXs hbl hbA hS (vp_in_nI (show i + 3 < L by omega) (by omega)) dL_law_742 ?_
  rw [show xs (nI (i + 3)).toNatClampNeg = xs (i + 3) from congrArg xs (nI_clamp (by omega))]
  refine lv_aload_n hx hb dL_law_743 rfl (lv_at hl 1 rfl) ?_
  refine hk_callSxW 5 (As := [.ref ho, .int (xs (i + 1)), .int (xs (i + 2)), .int (xs (i + 3)), .ref o9]) (rest := []) X K hAE hS hl.1 (c_L_density E l hl9 H hW hI hZn hL hoZ hoA (p0 := xs (i + 1)) (p1 := xs (i + 2)) (p2 := xs (i + 3))) hAz gL_law_L_density rfl hd_L_density rfl ⟨⟨(Nat.le_of_ble_eq_true rfl), (Nat.le_of_ble_eq_true rfl)⟩, hce, hsl⟩ rfl (Nat.le_of_ble_eq_true rfl) dL_law_744 (fun _ _ _ _ _ hp _ _ _ _ _ _ => False.elim hp) (fun v9 H1 locs1 hp hS hz1 hk1 => ?_)
  obtain ⟨hz, G1, R1, f1, hW1, hL1, hf1⟩ := hp
  subst hz
  have hM1 := MW.kept hM (fun q hq => hk1 q (Nat.lt_of_lt_of_le (hZm q hq).1 hb4) (fun g => g.elim (hZm q hq).2.1 (hZm q hq).2.2.1))
  refine lv_topi (fun k ek => ?_)
  refine lv_istore (lv' := [(5, .int k), (4, .int (nI i)), (3, .ref o9), (2, .ref mo), (1, .ref ho), (0, .ref b)]) hx hb dL_law_747 hl (by decide) rfl (fun ls hl => ?_)
  rw [← ek] at hW1 hf1
  have hcT : cd_density (xs (i + 1)) (xs (i + 2)) (xs (i + 3)) (cn1, sc1, μ1) = k := (cd_density_agr hag).symm.trans ek.symm
  obtain ⟨w, ew⟩ : ∃ w : Int32, w = an_density (xs (i + 1)) (xs (i + 2)) (xs (i + 3)) (cn, sc, μ) := ⟨_, rfl⟩
  rw [← ew] at hf1
  have haT : an_density (xs (i + 1)) (xs (i + 2)) (xs (i + 3)) (cn1, sc1, μ1) = w := (an_density_agr hag).symm.trans ew.symm
  refine lv_aload_n hx hb dL_law_749 rfl (lv_at hl 3 rfl) ?_
  refine lv_aload_n hx hb dL_law_750 rfl (lv_at hl 5 rfl) ?_
  refine lv_iload hx hb dL_law_751 (lv_at hl 1 rfl) ?_
  refine lv_iconst (v := 1) hx hb dL_law_753 (by decide) ?_
  refine lv_iadd hx hb dL_law_754 ?_
  refine lv_topi (fun z_4 ez_4 => ?_)
  have ez_4 : z_4 = nI (i + 1) := ez_4.trans (nI_add i 1)
  subst ez_4
  refine va_sld hx hb hXs hbl hbA hS (vp_in_nI (show i + 1 < L by omega) (by omega)) dL_law_755 ?_
  rw [show xs (nI (i + 1)).toNatClampNeg = xs (i + 1) from congrArg xs (nI_clamp (by omega))]
  refine lv_aload_n hx hb dL_law_756 rfl (lv_at hl 5 rfl) ?_
  refine lv_iload hx hb dL_law_757 (lv_at hl 1 rfl) ?_
  refine lv_iconst (v := 2) hx hb dL_law_759 (by decide) ?_
  refine lv_iadd hx hb dL_law_760 ?_
  refine lv_topi (fun z_5 ez_5 => ?_)
  have ez_5 : z_5 = nI (i + 2) := ez_5.trans (nI_add i 2)
  subst ez_5
  refine va_sld hx hb hXs hbl hbA hS (vp_in_nI (show i + 2 < L by omega) (by omega)) dL_law_761 ?_
  rw [show xs (nI (i + 2)).toNatClampNeg = xs (i + 2) from congrArg xs (nI_clamp (by omega))]
  refine lv_aload_n hx hb dL_law_762 rfl (lv_at hl 5 rfl) ?_
  refine lv_iload hx hb dL_law_763 (lv_at hl 1 rfl) ?_
  refine lv_iconst (v := 3) hx hb dL_law_765 (by decide) ?_
  refine lv_iadd hx hb dL_law_766 ?_
  refine lv_topi (fun z_6 ez_6 => ?_)
  have ez_6 : z_6 = nI (i + 3) := ez_6.trans (nI_add i 3)
  subst ez_6
  refine va_sld hx hb hXs hbl hbA hS (vp_in_nI (show i + 3 < L by omega) (by omega)) dL_law_767 ?_
  rw [show xs (nI (i + 3)).toNatClampNeg = xs (i + 3) from congrArg xs (nI_clamp (by omega))]
  refine hk_callV 3 (As := [.int (xs (i + 1)), .int (xs (i + 2)), .int (xs (i + 3))]) (rest := []) X K hAE hS hl.1 hM1.1 rfl (c_X11_density E l H1 hM1 hmA hJ.1.1 hJ.1.2.1 hJ.1.2.2.1 (p0 := xs (i + 1)) (p1 := xs (i + 2)) (p2 := xs (i + 3))) hmA gL_law_X11_density rfl ⟨rfl, hd_X11_density⟩ rfl ⟨⟨(Nat.le_of_ble_eq_true rfl), (Nat.le_of_ble_eq_true rfl)⟩, (by show cells + 12 + 0 ≤ 601024; omega), (by show slots + 700 + 0 ≤ 7293034; omega)⟩ rfl (Nat.le_of_ble_eq_true rfl) dL_law_768 (fun v9 H2 locs2 hp hS hz2 hk2 => ?_)
  obtain ⟨cn2, sc2, μ2, hM2, h33, hz, ha⟩ := hp
  subst hz
  rw [hcT] at h33 ha
  have hW2 := HW.kept hW1 (fun q h1 h2 => hk2 q h1 (fun g => h2.elim (hZm q g).2.1 (fun h => h (hZm q g).2.2.2)))
  have hL2 : hk_L E o9 1 f1 H2 := (hk2 _ (ar_lt hL1) (fun g => (hZm _ g).2.2.1 rfl)).trans hL1
  have hb9 : b4 ≤ H2.size := Nat.le_trans (Nat.le_trans hb4 hz1) hz2
  rw [hcT, haT]
  refine lv_topi (fun v ev => ?_)
  refine lv_istore (lv' := [(6, .int v), (5, .int k), (4, .int (nI i)), (3, .ref o9), (2, .ref mo), (1, .ref ho), (0, .ref b)]) hx hb dL_law_771 hl (by decide) rfl (fun ls hl => ?_)
  refine lv_aload_n hx hb dL_law_773 rfl (lv_at hl 4 rfl) ?_
  refine hk_callV 0 (As := []) (rest := []) X K hAE hS hl.1 hM2.1 rfl (c_X11_thrown E l H2 hM2) (fun _ h => False.elim h) gL_law_X11_thrown rfl ⟨rfl, hd_X11_thrown⟩ rfl ⟨⟨(Nat.le_of_ble_eq_true rfl), (Nat.le_of_ble_eq_true rfl)⟩, (by show cells + 12 + 0 + 0 ≤ 601024; omega), (by show slots + 700 + 0 + 0 ≤ 7293034; omega)⟩ rfl (Nat.le_of_ble_eq_true rfl) dL_law_774 (fun v9 H3 locs3 hp hS hz3 hk3 => ?_)
  obtain ⟨hz, hh⟩ := hp
  subst hz; subst hh
  refine lv_iload hx hb dL_law_777 (lv_at hl 1 rfl) ?_
  refine lv_icmp_eq (tgt := 784) hx hb dL_law_779 (by decide) (fun c_779 => ?_) (fun c_779 => ?_)
  · refine lv_iload hx hb dL_law_784 (lv_at hl 1 rfl) ?_
    refine lv_if_ne (tgt := 801) hx hb dL_law_786 (by decide) (fun c_786 => ?_) (fun c_786 => ?_)
    · rw [if_neg c_786] at hW2 ha
      refine lv_goto (tgt := 2534) hx hb dL_law_801 (by decide) ?_
      exact J2534 H2 _ ⟨G1, R1, _, (cn2, sc2, μ2), f1, hI, hW2, hM2, hag.trans ha, hL2, hS, hb9⟩ _ (lv_sub hl [2, 3, 4, 5, 6] rfl)
    · have ckz := c_786
      refine lv_aload_n hx hb dL_law_789 rfl (lv_at hl 3 rfl) ?_
      refine lv_iconst (v := 0) hx hb dL_law_790 (by decide) ?_
      refine hk_lld X K hL2 (show vp_in (0 : Int32) 1 from vp_in_nI (n := 0) (by decide) (by decide)) dL_law_791 ?_
      rw [show f1 (0 : Int32).toNatClampNeg = w.toInt64 from (congrArg f1 hk_c0).trans (hf1 c_786)]
      have ev : v = w := ev.trans (if_pos c_786)
      rw [if_pos c_786] at hW2 ha
      refine lv_iload hx hb dL_law_792 (lv_at hl 0 rfl) ?_
      refine lv_i2l hx hb dL_law_794 rfl ?_
      refine lv_lcmp hx hb dL_law_795 ?_
      rw [show lcv (w.toInt64) v.toInt64 = 0 from by rw [ev]; exact lcv_self]
      refine lv_if_eq (tgt := 801) hx hb dL_law_796 (by decide) (fun c_796 => ?_) (fun c_796 => ?_)
      · refine lv_goto (tgt := 2534) hx hb dL_law_801 (by decide) ?_
        exact J2534 H2 _ ⟨G1, R1, _, (cn2, sc2, μ2), f1, invF_density hI (ek.symm.trans ckz), hW2, hM2, (st_density_agr hag).trans ha, hL2, hS, hb9⟩ _ (lv_sub hl [2, 3, 4, 5, 6] rfl)
      · exact absurd (by decide) c_796
  · exact absurd c_779 (fun h => h h33)
