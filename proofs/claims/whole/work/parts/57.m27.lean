theorem up_cg {α : Type} {f g : Nat → α} {i : Nat} {v : α} {k : Nat} (h : f k = g k) : va_up f i v k = va_up g i v k := by
  unfold va_up
  by_cases c : k = i
  · rw [if_pos c, if_pos c]
  · rw [if_neg c, if_neg c]; exact h
theorem st_string_agr {S T : mS} (h : agr S T) {p0 p1 : Int32} : agr (st_string p0 p1 S) (st_string p0 p1 T) := h
theorem st_together_agr {S T : mS} (h : agr S T) {p0 p1 p2 : Int32} : agr (st_together p0 p1 p2 S) (st_together p0 p1 p2 T) := h
theorem st_period_agr {S T : mS} (h : agr S T) {p0 p1 p2 p3 : Int32} : agr (st_period p0 p1 p2 p3 S) (st_period p0 p1 p2 p3 T) := h
theorem st_aliases_agr {S T : mS} (h : agr S T) {p0 p1 p2 p3 p4 : Int32} : agr (st_aliases p0 p1 p2 p3 p4 S) (st_aliases p0 p1 p2 p3 p4 T) := h
theorem st_feature_agr {S T : mS} (h : agr S T) {p0 p1 : Int32} : agr (st_feature p0 p1 S) (st_feature p0 p1 T) := h
theorem st_votes_agr {S T : mS} (h : agr S T) {p0 p1 : Int32} : agr (st_votes p0 p1 S) (st_votes p0 p1 T) := h
theorem st_kind_agr {S T : mS} (h : agr S T) {p0 : Int32} : agr (st_kind p0 S) (st_kind p0 T) := h
theorem st_comparison_agr {S T : mS} (h : agr S T) {p0 p1 : Int32} : agr (st_comparison p0 p1 S) (st_comparison p0 p1 T) := fun k hk => by
  refine ⟨?_, ?_, ?_⟩
  · exact (h k hk).1
  · exact (h k hk).2.1
  · show (va_up S.2.2 0 (upd (S.2.2 0) (ix p0) p1)) k = (va_up T.2.2 0 (upd (T.2.2 0) (ix p0) p1)) k
    rw [(h 0 (by decide)).2.2]
    repeat (apply up_cg)
    exact (h k hk).2.2
theorem st_bias_agr {S T : mS} (h : agr S T) {p0 p1 : Int32} : agr (st_bias p0 p1 S) (st_bias p0 p1 T) := fun k hk => by
  refine ⟨?_, ?_, ?_⟩
  · exact (h k hk).1
  · exact (h k hk).2.1
  · show (va_up S.2.2 6 (upd (S.2.2 6) (ix p0) p1)) k = (va_up T.2.2 6 (upd (T.2.2 6) (ix p0) p1)) k
    rw [(h 6 (by decide)).2.2]
    repeat (apply up_cg)
    exact (h k hk).2.2
theorem st_clock_agr {S T : mS} (h : agr S T) {p0 p1 : Int32} : agr (st_clock p0 p1 S) (st_clock p0 p1 T) := fun k hk => by
  refine ⟨?_, ?_, ?_⟩
  · exact (h k hk).1
  · exact (h k hk).2.1
  · show (va_up S.2.2 7 (upd (S.2.2 7) (ix p0) p1)) k = (va_up T.2.2 7 (upd (T.2.2 7) (ix p0) p1)) k
    rw [(h 7 (by decide)).2.2]
    repeat (apply up_cg)
    exact (h k hk).2.2
theorem st_star_agr {S T : mS} (h : agr S T) {p0 : Int32} : agr (st_star p0 S) (st_star p0 T) := fun k hk => by
  refine ⟨?_, ?_, ?_⟩
  · show (va_up S.1 1 (S.1 1 + 1)) k = (va_up T.1 1 (T.1 1 + 1)) k
    rw [(h 1 (by decide)).1]
    repeat (apply up_cg)
    exact (h k hk).1
  · exact (h k hk).2.1
  · show (va_up (va_up S.2.2 2 (upd (S.2.2 2) (S.1 1) p0)) 3 (upd (S.2.2 3) (S.1 1) (nI (S.1 1)))) k = (va_up (va_up T.2.2 2 (upd (T.2.2 2) (T.1 1) p0)) 3 (upd (T.2.2 3) (T.1 1) (nI (T.1 1)))) k
    rw [(h 1 (by decide)).1, (h 2 (by decide)).2.2, (h 3 (by decide)).2.2]
    repeat (apply up_cg)
    exact (h k hk).2.2
theorem st_plate_agr {S T : mS} (h : agr S T) {p0 p1 p2 : Int32} : agr (st_plate p0 p1 p2 S) (st_plate p0 p1 p2 T) := fun k hk => by
  refine ⟨?_, ?_, ?_⟩
  · show (va_up S.1 8 (S.1 8 + 1)) k = (va_up T.1 8 (T.1 8 + 1)) k
    rw [(h 8 (by decide)).1]
    repeat (apply up_cg)
    exact (h k hk).1
  · exact (h k hk).2.1
  · show (va_up (va_up (va_up S.2.2 9 (upd (S.2.2 9) (S.1 8) p0)) 10 (upd (S.2.2 10) (S.1 8) p1)) 11 (upd (S.2.2 11) (S.1 8) p2)) k = (va_up (va_up (va_up T.2.2 9 (upd (T.2.2 9) (T.1 8) p0)) 10 (upd (T.2.2 10) (T.1 8) p1)) 11 (upd (T.2.2 11) (T.1 8) p2)) k
    rw [(h 8 (by decide)).1, (h 9 (by decide)).2.2, (h 10 (by decide)).2.2, (h 11 (by decide)).2.2]
    repeat (apply up_cg)
    exact (h k hk).2.2
theorem st_minimum_agr {S T : mS} (h : agr S T) {p0 p1 : Int32} : agr (st_minimum p0 p1 S) (st_minimum p0 p1 T) := fun k hk => by
  refine ⟨?_, ?_, ?_⟩
  · show (va_up S.1 29 (S.1 29 + 1)) k = (va_up T.1 29 (T.1 29 + 1)) k
    rw [(h 29 (by decide)).1]
    repeat (apply up_cg)
    exact (h k hk).1
  · exact (h k hk).2.1
  · show (va_up (va_up S.2.2 30 (upd (S.2.2 30) (S.1 29) p0)) 31 (upd (S.2.2 31) (S.1 29) p1)) k = (va_up (va_up T.2.2 30 (upd (T.2.2 30) (T.1 29) p0)) 31 (upd (T.2.2 31) (T.1 29) p1)) k
    rw [(h 29 (by decide)).1, (h 30 (by decide)).2.2, (h 31 (by decide)).2.2]
    repeat (apply up_cg)
    exact (h k hk).2.2
theorem st_rule_agr {S T : mS} (h : agr S T) {p0 p1 p2 p3 p4 : Int32} : agr (st_rule p0 p1 p2 p3 p4 S) (st_rule p0 p1 p2 p3 p4 T) := fun k hk => by
  refine ⟨?_, ?_, ?_⟩
  · show (va_up S.1 22 (S.1 22 + 1)) k = (va_up T.1 22 (T.1 22 + 1)) k
    rw [(h 22 (by decide)).1]
    repeat (apply up_cg)
    exact (h k hk).1
  · exact (h k hk).2.1
  · show (va_up (va_up (va_up (va_up (va_up S.2.2 23 (upd (S.2.2 23) (S.1 22) p0)) 24 (upd (S.2.2 24) (S.1 22) p1)) 25 (upd (S.2.2 25) (S.1 22) p2)) 26 (upd (S.2.2 26) (S.1 22) p3)) 27 (upd (S.2.2 27) (S.1 22) p4)) k = (va_up (va_up (va_up (va_up (va_up T.2.2 23 (upd (T.2.2 23) (T.1 22) p0)) 24 (upd (T.2.2 24) (T.1 22) p1)) 25 (upd (T.2.2 25) (T.1 22) p2)) 26 (upd (T.2.2 26) (T.1 22) p3)) 27 (upd (T.2.2 27) (T.1 22) p4)) k
    rw [(h 22 (by decide)).1, (h 23 (by decide)).2.2, (h 24 (by decide)).2.2, (h 25 (by decide)).2.2, (h 26 (by decide)).2.2, (h 27 (by decide)).2.2]
    repeat (apply up_cg)
    exact (h k hk).2.2
theorem st_join_agr {S T : mS} (h : agr S T) {p0 p1 : Int32} : agr (st_join p0 p1 S) (st_join p0 p1 T) := fun k hk => by
  refine ⟨?_, ?_, ?_⟩
  · exact (h k hk).1
  · exact (h k hk).2.1
  · show (va_up S.2.2 10 (upd (S.2.2 10) (ix p0) p1)) k = (va_up T.2.2 10 (upd (T.2.2 10) (ix p0) p1)) k
    rw [(h 10 (by decide)).2.2]
    repeat (apply up_cg)
    exact (h k hk).2.2
theorem st_claim_agr {S T : mS} (h : agr S T) {p0 p1 : Int32} : agr (st_claim p0 p1 S) (st_claim p0 p1 T) := fun k hk => by
  refine ⟨?_, ?_, ?_⟩
  · exact (h k hk).1
  · exact (h k hk).2.1
  · show (va_up S.2.2 4 (upd (S.2.2 4) (ix p0) p1)) k = (va_up T.2.2 4 (upd (T.2.2 4) (ix p0) p1)) k
    rw [(h 4 (by decide)).2.2]
    repeat (apply up_cg)
    exact (h k hk).2.2
theorem st_cycle_agr {S T : mS} (h : agr S T) {p0 p1 p2 p3 : Int32} : agr (st_cycle p0 p1 p2 p3 S) (st_cycle p0 p1 p2 p3 T) := h
theorem st_lost_agr {S T : mS} (h : agr S T) {p0 p1 : Int32} : agr (st_lost p0 p1 S) (st_lost p0 p1 T) := h
theorem st_mean_agr {S T : mS} (h : agr S T) {p0 : Int32} : agr (st_mean p0 S) (st_mean p0 T) := h
theorem st_modulus_agr {S T : mS} (h : agr S T) {p0 : Int32} : agr (st_modulus p0 S) (st_modulus p0 T) := h
theorem st_nearest_agr {S T : mS} (h : agr S T) {p0 : Int32} : agr (st_nearest p0 S) (st_nearest p0 T) := h
theorem st_doubt_agr {S T : mS} (h : agr S T) {p0 p1 : Int32} : agr (st_doubt p0 p1 S) (st_doubt p0 p1 T) := fun k hk => by
  refine ⟨?_, ?_, ?_⟩
  · exact (h k hk).1
  · exact (h k hk).2.1
  · show (va_up S.2.2 21 (upd (S.2.2 21) (ix p0) p1)) k = (va_up T.2.2 21 (upd (T.2.2 21) (ix p0) p1)) k
    rw [(h 21 (by decide)).2.2]
    repeat (apply up_cg)
    exact (h k hk).2.2
theorem st_withdraw_agr {S T : mS} (h : agr S T) {p0 p1 : Int32} : agr (st_withdraw p0 p1 S) (st_withdraw p0 p1 T) := fun k hk => by
  refine ⟨?_, ?_, ?_⟩
  · exact (h k hk).1
  · exact (h k hk).2.1
  · show (va_up S.2.2 28 (upd (S.2.2 28) (ix p0) p1)) k = (va_up T.2.2 28 (upd (T.2.2 28) (ix p0) p1)) k
    rw [(h 28 (by decide)).2.2]
    repeat (apply up_cg)
    exact (h k hk).2.2
theorem st_dust_agr {S T : mS} (h : agr S T) {p0 p1 : Int32} : agr (st_dust p0 p1 S) (st_dust p0 p1 T) := fun k hk => by
  refine ⟨?_, ?_, ?_⟩
  · exact (h k hk).1
  · exact (h k hk).2.1
  · show (va_up S.2.2 5 (upd (S.2.2 5) (ix p0) p1)) k = (va_up T.2.2 5 (upd (T.2.2 5) (ix p0) p1)) k
    rw [(h 5 (by decide)).2.2]
    repeat (apply up_cg)
    exact (h k hk).2.2
theorem st_entry_agr {S T : mS} (h : agr S T) {p0 : Int32} : agr (st_entry p0 S) (st_entry p0 T) := h
theorem st_zero_agr {S T : mS} (h : agr S T) {p0 : Int32} : agr (st_zero p0 S) (st_zero p0 T) := fun k hk => by
  refine ⟨?_, ?_, ?_⟩
  · exact (h k hk).1
  · show (va_up S.2.1 32 p0) k = (va_up T.2.1 32 p0) k
    repeat (apply up_cg)
    exact (h k hk).2.1
  · exact (h k hk).2.2
theorem st_entries_agr {S T : mS} (h : agr S T) {p0 : Int32} : agr (st_entries p0 S) (st_entries p0 T) := h
theorem st_merge_agr {S T : mS} (h : agr S T) {p0 p1 : Int32} : agr (st_merge p0 p1 S) (st_merge p0 p1 T) := fun k hk => by
  refine ⟨?_, ?_, ?_⟩
  · exact (h k hk).1
  · exact (h k hk).2.1
  · show (va_up S.2.2 3 (sp_mrg (S.2.2 3) (S.2.2 3 (ix p0)) (S.2.2 3 (ix p1)) (S.1 1))) k = (va_up T.2.2 3 (sp_mrg (T.2.2 3) (T.2.2 3 (ix p0)) (T.2.2 3 (ix p1)) (T.1 1))) k
    rw [(h 1 (by decide)).1, (h 3 (by decide)).2.2]
    repeat (apply up_cg)
    exact (h k hk).2.2
theorem st_split_agr {S T : mS} (h : agr S T) {p0 : Int32} : agr (st_split p0 S) (st_split p0 T) := fun k hk => by
  refine ⟨?_, ?_, ?_⟩
  · exact (h k hk).1
  · exact (h k hk).2.1
  · show (va_up S.2.2 3 (sp_spl (S.2.2 3) (ix p0) p0 (S.1 1))) k = (va_up T.2.2 3 (sp_spl (T.2.2 3) (ix p0) p0 (T.1 1))) k
    rw [(h 1 (by decide)).1, (h 3 (by decide)).2.2]
    repeat (apply up_cg)
    exact (h k hk).2.2
theorem st_look_agr {S T : mS} (h : agr S T) {p0 p1 : Int32} : agr (st_look p0 p1 S) (st_look p0 p1 T) := h
theorem mu_keeps_cg {μ μ' : Nat → Nat → Int32} (h : ∀ k, k < 33 → μ k = μ' k) {n : Nat} {a b c d : Int32} : ∀ k, k < 33 → mu_keeps μ n a b c d k = mu_keeps μ' n a b c d k := by
  intro k hk
  unfold mu_keeps
  rw [h 13 (by decide), h 14 (by decide), h 15 (by decide), h 16 (by decide), h 21 (by decide)]
  repeat (apply up_cg)
  exact h k hk
theorem st_density_agr {S T : mS} (h : agr S T) {p0 p1 p2 : Int32} : agr (st_density p0 p1 p2 S) (st_density p0 p1 p2 T) := fun k hk => by
  refine ⟨?_, ?_, ?_⟩
  · show (va_up S.1 12 (S.1 12 + 1)) k = (va_up T.1 12 (T.1 12 + 1)) k
    rw [(h 12 (by decide)).1]
    repeat (apply up_cg)
    exact (h k hk).1
  · exact (h k hk).2.1
  · show mu_keeps S.2.2 (S.1 12) 1 p0 p1 p2 k = mu_keeps T.2.2 (T.1 12) 1 p0 p1 p2 k
    rw [(h 12 (by decide)).1]
    exact mu_keeps_cg h.mu k hk
theorem st_step_agr {S T : mS} (h : agr S T) {p0 p1 p2 p3 p4 p5 p6 : Int32} : agr (st_step p0 p1 p2 p3 p4 p5 p6 S) (st_step p0 p1 p2 p3 p4 p5 p6 T) := fun k hk => by
  refine ⟨?_, ?_, ?_⟩
  · show (va_up S.1 12 (S.1 12 + 1)) k = (va_up T.1 12 (T.1 12 + 1)) k
    rw [(h 12 (by decide)).1]
    repeat (apply up_cg)
    exact (h k hk).1
  · exact (h k hk).2.1
  · show mu_keeps (va_up (va_up (va_up (va_up S.2.2 17 (upd (S.2.2 17) (S.1 12) p3)) 18 (upd (S.2.2 18) (S.1 12) p4)) 19 (upd (S.2.2 19) (S.1 12) p5)) 20 (upd (S.2.2 20) (S.1 12) p6)) (S.1 12) 0 p0 p1 p2 k = mu_keeps (va_up (va_up (va_up (va_up T.2.2 17 (upd (T.2.2 17) (T.1 12) p3)) 18 (upd (T.2.2 18) (T.1 12) p4)) 19 (upd (T.2.2 19) (T.1 12) p5)) 20 (upd (T.2.2 20) (T.1 12) p6)) (T.1 12) 0 p0 p1 p2 k
    rw [(h 12 (by decide)).1]
    refine mu_keeps_cg (fun k hk => ?_) k hk
    rw [(h 17 (by decide)).2.2, (h 18 (by decide)).2.2, (h 19 (by decide)).2.2, (h 20 (by decide)).2.2]
    repeat (apply up_cg)
    exact (h k hk).2.2
