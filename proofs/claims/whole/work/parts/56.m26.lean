theorem str_arf {μ μ' : Nat → Nat → Int32} (h : ∀ k, k < 33 → μ k = μ' k) {L : List Nat} : sp_str μ L = sp_str μ' L := funext fun _ => str_ar h
theorem laid_arf {S T : mS} (h : agr S T) : laidS S = laidS T := by
  funext j
  unfold laidS
  rw [hf_agr h, (h 3 (by decide)).2.2]
theorem mod_arf {S T : mS} (h : agr S T) : modS S = modS T := by
  funext j
  unfold modS
  rw [laid_arf h, mdS_agr h]
theorem vt_arf {S T : mS} (h : agr S T) {e : Int32} : (fun k => vtS S e (nI k)) = fun k => vtS T e (nI k) := funext fun _ => vtS_agr h
theorem cd_string_agr {S T : mS} (h : agr S T) {p0 p1 : Int32} : cd_string p0 p1 S = cd_string p0 p1 T := by
  unfold cd_string
  rw [(h 1 (by decide)).1]
theorem an_string_agr {S T : mS} (h : agr S T) {p0 p1 : Int32} : an_string p0 p1 S = an_string p0 p1 T := by
  unfold an_string
  rw [str_arf h.mu, sel2_agr h, (h 3 (by decide)).2.2]
theorem cd_together_agr {S T : mS} (h : agr S T) {p0 p1 p2 : Int32} : cd_together p0 p1 p2 S = cd_together p0 p1 p2 T := by
  unfold cd_together
  rw [(h 1 (by decide)).1]
theorem an_together_agr {S T : mS} (h : agr S T) {p0 p1 p2 : Int32} : an_together p0 p1 p2 S = an_together p0 p1 p2 T := by
  unfold an_together
  rw [str_arf h.mu, sel2_agr h, (h 3 (by decide)).2.2]
theorem cd_period_agr {S T : mS} (h : agr S T) {p0 p1 p2 p3 : Int32} : cd_period p0 p1 p2 p3 S = cd_period p0 p1 p2 p3 T := by
  unfold cd_period
  rw [tr_agr h]
theorem an_period_agr {S T : mS} (h : agr S T) {p0 p1 p2 p3 : Int32} : an_period p0 p1 p2 p3 S = an_period p0 p1 p2 p3 T := by
  unfold an_period
  rw [str_arf h.mu, sel2_agr h, (h 3 (by decide)).2.2]
theorem cd_aliases_agr {S T : mS} (h : agr S T) {p0 p1 p2 p3 p4 : Int32} : cd_aliases p0 p1 p2 p3 p4 S = cd_aliases p0 p1 p2 p3 p4 T := by
  unfold cd_aliases
  rw [tr_agr h]
theorem an_aliases_agr {S T : mS} (h : agr S T) {p0 p1 p2 p3 p4 : Int32} : an_aliases p0 p1 p2 p3 p4 S = an_aliases p0 p1 p2 p3 p4 T := by
  unfold an_aliases
  rw [str_arf h.mu, sel2_agr h, (h 3 (by decide)).2.2]
theorem cd_feature_agr {S T : mS} (h : agr S T) {p0 p1 : Int32} : cd_feature p0 p1 S = cd_feature p0 p1 T := by
  unfold cd_feature
  rw [hf_agr h, (h 1 (by decide)).1, (h 3 (by decide)).2.2]
theorem an_feature_agr {S T : mS} (h : agr S T) {p0 p1 : Int32} : an_feature p0 p1 S = an_feature p0 p1 T := by
  unfold an_feature
  rw [ftS_agr h, (h 3 (by decide)).2.2]
theorem cd_votes_agr {S T : mS} (h : agr S T) {p0 p1 : Int32} : cd_votes p0 p1 S = cd_votes p0 p1 T := by
  unfold cd_votes
  rw [hf_agr h, (h 1 (by decide)).1, (h 3 (by decide)).2.2]
theorem an_votes_agr {S T : mS} (h : agr S T) {p0 p1 : Int32} : an_votes p0 p1 S = an_votes p0 p1 T := by
  unfold an_votes
  rw [vtS_agr h, (h 3 (by decide)).2.2]
theorem cd_kind_agr {S T : mS} (h : agr S T) {p0 : Int32} : cd_kind p0 S = cd_kind p0 T := by
  unfold cd_kind
  rw [hf_agr h, (h 1 (by decide)).1, (h 3 (by decide)).2.2]
theorem an_kind_agr {S T : mS} (h : agr S T) {p0 : Int32} : an_kind p0 S = an_kind p0 T := by
  unfold an_kind
  rw [vt_arf h, (h 3 (by decide)).2.2]
theorem cd_comparison_agr {S T : mS} (h : agr S T) {p0 p1 : Int32} : cd_comparison p0 p1 S = cd_comparison p0 p1 T := rfl
theorem an_comparison_agr {S T : mS} (h : agr S T) {p0 p1 : Int32} : an_comparison p0 p1 S = an_comparison p0 p1 T := by
  unfold an_comparison
  rw [(h 0 (by decide)).2.2]
theorem cd_bias_agr {S T : mS} (h : agr S T) {p0 p1 : Int32} : cd_bias p0 p1 S = cd_bias p0 p1 T := rfl
theorem an_bias_agr {S T : mS} (h : agr S T) {p0 p1 : Int32} : an_bias p0 p1 S = an_bias p0 p1 T := by
  unfold an_bias
  rw [(h 6 (by decide)).2.2]
theorem cd_clock_agr {S T : mS} (h : agr S T) {p0 p1 : Int32} : cd_clock p0 p1 S = cd_clock p0 p1 T := rfl
theorem an_clock_agr {S T : mS} (h : agr S T) {p0 p1 : Int32} : an_clock p0 p1 S = an_clock p0 p1 T := by
  unfold an_clock
  rw [(h 7 (by decide)).2.2]
theorem cd_star_agr {S T : mS} (h : agr S T) {p0 : Int32} : cd_star p0 S = cd_star p0 T := by
  unfold cd_star
  rw [(h 1 (by decide)).1]
theorem an_star_agr {S T : mS} (h : agr S T) {p0 : Int32} : an_star p0 S = an_star p0 T := by
  unfold an_star
  rw [(h 1 (by decide)).1]
theorem cd_plate_agr {S T : mS} (h : agr S T) {p0 p1 p2 : Int32} : cd_plate p0 p1 p2 S = cd_plate p0 p1 p2 T := by
  unfold cd_plate
  rw [(h 8 (by decide)).1]
theorem an_plate_agr {S T : mS} (h : agr S T) {p0 p1 p2 : Int32} : an_plate p0 p1 p2 S = an_plate p0 p1 p2 T := by
  unfold an_plate
  rw [(h 8 (by decide)).1]
theorem cd_minimum_agr {S T : mS} (h : agr S T) {p0 p1 : Int32} : cd_minimum p0 p1 S = cd_minimum p0 p1 T := by
  unfold cd_minimum
  rw [(h 1 (by decide)).1, (h 29 (by decide)).1]
theorem an_minimum_agr {S T : mS} (h : agr S T) {p0 p1 : Int32} : an_minimum p0 p1 S = an_minimum p0 p1 T := by
  unfold an_minimum
  rw [(h 29 (by decide)).1]
theorem cd_rule_agr {S T : mS} (h : agr S T) {p0 p1 p2 p3 p4 : Int32} : cd_rule p0 p1 p2 p3 p4 S = cd_rule p0 p1 p2 p3 p4 T := by
  unfold cd_rule
  rw [(h 22 (by decide)).1]
theorem an_rule_agr {S T : mS} (h : agr S T) {p0 p1 p2 p3 p4 : Int32} : an_rule p0 p1 p2 p3 p4 S = an_rule p0 p1 p2 p3 p4 T := by
  unfold an_rule
  rw [(h 22 (by decide)).1]
theorem cd_join_agr {S T : mS} (h : agr S T) {p0 p1 : Int32} : cd_join p0 p1 S = cd_join p0 p1 T := by
  unfold cd_join
  rw [(h 8 (by decide)).1]
theorem an_join_agr {S T : mS} (h : agr S T) {p0 p1 : Int32} : an_join p0 p1 S = an_join p0 p1 T := by
  unfold an_join
  rw [(h 10 (by decide)).2.2]
theorem cd_claim_agr {S T : mS} (h : agr S T) {p0 p1 : Int32} : cd_claim p0 p1 S = cd_claim p0 p1 T := by
  unfold cd_claim
  rw [(h 1 (by decide)).1]
theorem an_claim_agr {S T : mS} (h : agr S T) {p0 p1 : Int32} : an_claim p0 p1 S = an_claim p0 p1 T := by
  unfold an_claim
  rw [(h 4 (by decide)).2.2]
theorem cd_cycle_agr {S T : mS} (h : agr S T) {p0 p1 p2 p3 : Int32} : cd_cycle p0 p1 p2 p3 S = cd_cycle p0 p1 p2 p3 T := by
  unfold cd_cycle
  rw [layS_agr h, (h 1 (by decide)).1, (h 3 (by decide)).2.2]
theorem an_cycle_agr {S T : mS} (h : agr S T) {p0 p1 p2 p3 : Int32} : an_cycle p0 p1 p2 p3 S = an_cycle p0 p1 p2 p3 T := by
  unfold an_cycle
  rw [layS_agr h, (h 3 (by decide)).2.2]
theorem cd_lost_agr {S T : mS} (h : agr S T) {p0 p1 : Int32} : cd_lost p0 p1 S = cd_lost p0 p1 T := by
  unfold cd_lost
  rw [(h 1 (by decide)).1]
theorem an_lost_agr {S T : mS} (h : agr S T) {p0 p1 : Int32} : an_lost p0 p1 S = an_lost p0 p1 T := by
  unfold an_lost
  rw [layS_agr h, (h 3 (by decide)).2.2]
theorem cd_mean_agr {S T : mS} (h : agr S T) {p0 : Int32} : cd_mean p0 S = cd_mean p0 T := by
  unfold cd_mean
  rw [selS_agr h, (h 1 (by decide)).1, (h 3 (by decide)).2.2]
theorem an_mean_agr {S T : mS} (h : agr S T) {p0 : Int32} : an_mean p0 S = an_mean p0 T := by
  unfold an_mean
  rw [selS_agr h, mn_ar h.mu, (h 3 (by decide)).2.2]
theorem cd_modulus_agr {S T : mS} (h : agr S T) {p0 : Int32} : cd_modulus p0 S = cd_modulus p0 T := by
  unfold cd_modulus
  rw [hf_agr h, (h 1 (by decide)).1, (h 3 (by decide)).2.2]
theorem an_modulus_agr {S T : mS} (h : agr S T) {p0 : Int32} : an_modulus p0 S = an_modulus p0 T := by
  unfold an_modulus
  rw [mdS_agr h, (h 3 (by decide)).2.2]
theorem cd_nearest_agr {S T : mS} (h : agr S T) {p0 : Int32} : cd_nearest p0 S = cd_nearest p0 T := rfl
theorem an_nearest_agr {S T : mS} (h : agr S T) {p0 : Int32} : an_nearest p0 S = an_nearest p0 T := by
  unfold an_nearest
  rw [laid_arf h, mod_arf h, (h 1 (by decide)).1]
theorem cd_density_agr {S T : mS} (h : agr S T) {p0 p1 p2 : Int32} : cd_density p0 p1 p2 S = cd_density p0 p1 p2 T := by
  unfold cd_density
  rw [(h 1 (by decide)).1, (h 8 (by decide)).1, (h 12 (by decide)).1]
theorem an_density_agr {S T : mS} (h : agr S T) {p0 p1 p2 : Int32} : an_density p0 p1 p2 S = an_density p0 p1 p2 T := by
  unfold an_density
  rw [(h 12 (by decide)).1]
theorem cd_doubt_agr {S T : mS} (h : agr S T) {p0 p1 : Int32} : cd_doubt p0 p1 S = cd_doubt p0 p1 T := by
  unfold cd_doubt
  rw [(h 12 (by decide)).1]
theorem an_doubt_agr {S T : mS} (h : agr S T) {p0 p1 : Int32} : an_doubt p0 p1 S = an_doubt p0 p1 T := by
  unfold an_doubt
  rw [(h 21 (by decide)).2.2]
theorem cd_withdraw_agr {S T : mS} (h : agr S T) {p0 p1 : Int32} : cd_withdraw p0 p1 S = cd_withdraw p0 p1 T := by
  unfold cd_withdraw
  rw [(h 22 (by decide)).1]
theorem an_withdraw_agr {S T : mS} (h : agr S T) {p0 p1 : Int32} : an_withdraw p0 p1 S = an_withdraw p0 p1 T := by
  unfold an_withdraw
  rw [(h 28 (by decide)).2.2]
theorem cd_dust_agr {S T : mS} (h : agr S T) {p0 p1 : Int32} : cd_dust p0 p1 S = cd_dust p0 p1 T := by
  unfold cd_dust
  rw [(h 1 (by decide)).1]
theorem an_dust_agr {S T : mS} (h : agr S T) {p0 p1 : Int32} : an_dust p0 p1 S = an_dust p0 p1 T := by
  unfold an_dust
  rw [(h 5 (by decide)).2.2]
theorem cd_entry_agr {S T : mS} (h : agr S T) {p0 : Int32} : cd_entry p0 S = cd_entry p0 T := by
  unfold cd_entry
  rw [(h 1 (by decide)).1]
theorem an_entry_agr {S T : mS} (h : agr S T) {p0 : Int32} : an_entry p0 S = an_entry p0 T := by
  unfold an_entry
  rw [(h 3 (by decide)).2.2]
theorem cd_zero_agr {S T : mS} (h : agr S T) {p0 : Int32} : cd_zero p0 S = cd_zero p0 T := rfl
theorem an_zero_agr {S T : mS} (h : agr S T) {p0 : Int32} : an_zero p0 S = an_zero p0 T := by
  unfold an_zero
  rw [(h 32 (by decide)).2.1]
theorem cd_step_agr {S T : mS} (h : agr S T) {p0 p1 p2 p3 p4 p5 p6 : Int32} : cd_step p0 p1 p2 p3 p4 p5 p6 S = cd_step p0 p1 p2 p3 p4 p5 p6 T := by
  unfold cd_step
  rw [(h 1 (by decide)).1, (h 12 (by decide)).1]
theorem an_step_agr {S T : mS} (h : agr S T) {p0 p1 p2 p3 p4 p5 p6 : Int32} : an_step p0 p1 p2 p3 p4 p5 p6 S = an_step p0 p1 p2 p3 p4 p5 p6 T := by
  unfold an_step
  rw [(h 12 (by decide)).1]
theorem cd_entries_agr {S T : mS} (h : agr S T) {p0 : Int32} : cd_entries p0 S = cd_entries p0 T := rfl
theorem an_entries_agr {S T : mS} (h : agr S T) {p0 : Int32} : an_entries p0 S = an_entries p0 T := by
  unfold an_entries
  rw [(h 1 (by decide)).1, (h 3 (by decide)).2.2]
theorem cd_merge_agr {S T : mS} (h : agr S T) {p0 p1 : Int32} : cd_merge p0 p1 S = cd_merge p0 p1 T := by
  unfold cd_merge
  rw [(h 1 (by decide)).1, (h 3 (by decide)).2.2]
theorem an_merge_agr {S T : mS} (h : agr S T) {p0 p1 : Int32} : an_merge p0 p1 S = an_merge p0 p1 T := by
  unfold an_merge
  rw [(h 1 (by decide)).1, (h 3 (by decide)).2.2]
theorem cd_split_agr {S T : mS} (h : agr S T) {p0 : Int32} : cd_split p0 S = cd_split p0 T := by
  unfold cd_split
  rw [(h 1 (by decide)).1, (h 3 (by decide)).2.2]
theorem an_split_agr {S T : mS} (h : agr S T) {p0 : Int32} : an_split p0 S = an_split p0 T := by
  unfold an_split
  rw [(h 1 (by decide)).1, (h 3 (by decide)).2.2]
theorem cd_look_agr {S T : mS} (h : agr S T) {p0 p1 : Int32} : cd_look p0 p1 S = cd_look p0 p1 T := by
  unfold cd_look
  rw [(h 12 (by decide)).1]
theorem an_look_agr {S T : mS} (h : agr S T) {p0 p1 : Int32} : an_look p0 p1 S = an_look p0 p1 T := by
  unfold an_look
  rw [raw_ar h.mu, light_ar h.mu, time_ar h.mu, (h 13 (by decide)).2.2, (h 14 (by decide)).2.2, (h 21 (by decide)).2.2]
