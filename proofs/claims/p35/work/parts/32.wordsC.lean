theorem sel_ar {μ μ' : Nat → Nat → Int32} (h : ∀ k, k < 33 → μ k = μ' k) {e1 e2 : Int32} (n : Nat) : sp_sel μ e1 e2 n = sp_sel μ' e1 e2 n := by
  induction n with
  | zero => rfl
  | succ n ih =>
    rw [sp_sel, sp_sel, ih]
    unfold selp
    rw [h 21 (by decide), h 3 (by decide), h 14 (by decide)]
theorem late_ar {μ μ' : Nat → Nat → Int32} (h : ∀ k, k < 33 → μ k = μ' k) {a : Int32} {j : Nat} : sp_late μ a j = sp_late μ' a j := by
  unfold sp_late sp_k
  rw [h 2 (by decide)]
theorem raw_ar {μ μ' : Nat → Nat → Int32} (h : ∀ k, k < 33 → μ k = μ' k) {k : Nat} : sp_raw μ k = sp_raw μ' k := by
  unfold sp_raw
  rw [h 13 (by decide), h 0 (by decide), h 17 (by decide), h 20 (by decide), h 18 (by decide), h 19 (by decide), h 10 (by decide), h 15 (by decide), h 16 (by decide), h 11 (by decide)]
theorem light_ar {μ μ' : Nat → Nat → Int32} (h : ∀ k, k < 33 → μ k = μ' k) {k : Nat} : sp_light μ k = sp_light μ' k := by
  unfold sp_light
  rw [raw_ar h, h 13 (by decide), h 6 (by decide), h 15 (by decide)]
theorem time_ar {μ μ' : Nat → Nat → Int32} (h : ∀ k, k < 33 → μ k = μ' k) {k : Nat} : sp_time μ k = sp_time μ' k := by
  unfold sp_time
  rw [late_ar h, late_ar h (a := μ 9 (ix (μ 15 k))), h 13 (by decide), h 16 (by decide), h 7 (by decide), h 15 (by decide), h 14 (by decide), h 9 (by decide)]
theorem str_ar {μ μ' : Nat → Nat → Int32} (h : ∀ k, k < 33 → μ k = μ' k) {L : List Nat} {P : Int32} : sp_str μ L P = sp_str μ' L P := by
  have e1 : (fun i => sp_light μ (L.getD i 0)) = fun i => sp_light μ' (L.getD i 0) := funext fun i => light_ar h
  have e2 : (fun i => sp_time μ (L.getD i 0)) = fun i => sp_time μ' (L.getD i 0) := funext fun i => time_ar h
  unfold sp_str
  rw [e1, e2]
theorem ft_ar {μ μ' : Nat → Nat → Int32} (h : ∀ k, k < 33 → μ k = μ' k) {L : List Nat} {c w : Int32} : sp_ft μ L c w = sp_ft μ' L c w := by
  have e1 : (fun i => sp_light μ (L.getD i 0)) = fun i => sp_light μ' (L.getD i 0) := funext fun i => light_ar h
  have e2 : (fun i => sp_time μ (L.getD i 0)) = fun i => sp_time μ' (L.getD i 0) := funext fun i => time_ar h
  unfold sp_ft
  rw [e1, e2]
theorem mn_ar {μ μ' : Nat → Nat → Int32} (h : ∀ k, k < 33 → μ k = μ' k) {L : List Nat} : sp_mn μ L = sp_mn μ' L := by
  have e1 : (fun i => sp_light μ (L.getD i 0)) = fun i => sp_light μ' (L.getD i 0) := funext fun i => light_ar h
  unfold sp_mn
  rw [e1]
theorem vt_ar {μ μ' : Nat → Nat → Int32} (h : ∀ k, k < 33 → μ k = μ' k) {F : Int32 → Int32} {kd : Int32} (n : Nat) : sp_vt μ F kd n = sp_vt μ' F kd n := by
  induction n with
  | zero => rfl
  | succ n ih => rw [sp_vt, sp_vt, ih, h 23 (by decide), h 28 (by decide), h 24 (by decide), h 25 (by decide), h 26 (by decide), h 27 (by decide)]
theorem mt_ar {μ μ' : Nat → Nat → Int32} (h : ∀ k, k < 33 → μ k = μ' k) {i : Nat} : sp_mt μ i = sp_mt μ' i := by
  unfold sp_mt
  rw [late_ar h, h 31 (by decide), h 30 (by decide)]
theorem lay_ar {μ μ' : Nat → Nat → Int32} (h : ∀ k, k < 33 → μ k = μ' k) {e : Int32} {g : Nat → Int32} (n : Nat) : layA μ e g n = layA μ' e g n := by
  induction n with
  | zero => rfl
  | succ n ih => rw [layA, layA, ih, mt_ar h, h 3 (by decide), h 30 (by decide)]
theorem agr.mu {S T : mS} (h : agr S T) : ∀ k, k < 33 → S.2.2 k = T.2.2 k := fun k hk => (h k hk).2.2
theorem clmS_agr {S T : mS} (h : agr S T) {e : Int32} : clmS S e = clmS T e := by
  unfold clmS
  rw [(h 1 (by decide)).1, (h 3 (by decide)).2.2, (h 4 (by decide)).2.2]
theorem selS_agr {S T : mS} (h : agr S T) {e : Int32} : selS S e = selS T e := by
  unfold selS
  rw [(h 12 (by decide)).1, sel_ar h.mu]
theorem sel2_agr {S T : mS} (h : agr S T) {e1 e2 : Int32} : sp_sel S.2.2 e1 e2 (S.1 12) = sp_sel T.2.2 e1 e2 (T.1 12) := by rw [(h 12 (by decide)).1, sel_ar h.mu]
theorem hf_agr {S T : mS} (h : agr S T) {e : Int32} : sp_hf S e = sp_hf T e := by
  unfold sp_hf
  rw [sel2_agr h, (h 1 (by decide)).1, (h 3 (by decide)).2.2, (h 4 (by decide)).2.2]
theorem ftS_agr {S T : mS} (h : agr S T) {e w : Int32} : ftS S e w = ftS T e w := by
  unfold ftS
  rw [selS_agr h, clmS_agr h, ft_ar h.mu]
theorem vtS_agr {S T : mS} (h : agr S T) {e kd : Int32} : vtS S e kd = vtS T e kd := by
  unfold vtS
  rw [show (fun w => ftS S e w) = fun w => ftS T e w from funext fun w => ftS_agr h, (h 22 (by decide)).1, vt_ar h.mu]
theorem mdS_agr {S T : mS} (h : agr S T) {e : Int32} : mdS S e = mdS T e := by
  unfold mdS
  rw [selS_agr h, clmS_agr h, mn_ar h.mu, (h 5 (by decide)).2.2, (h 32 (by decide)).2.1]
theorem layS_agr {S T : mS} (h : agr S T) {e : Int32} : layS S e = layS T e := by
  unfold layS
  rw [lay_ar h.mu, (h 29 (by decide)).1]
theorem tr_agr {S T : mS} (h : agr S T) {si fr to st ok : Int32} : sp_tr S si fr to st ok = sp_tr T si fr to st ok := by
  unfold sp_tr
  rw [sel2_agr h, (h 1 (by decide)).1, (h 3 (by decide)).2.2]
theorem agr.symm {S T : mS} (h : agr S T) : agr T S := fun k hk => ⟨(h k hk).1.symm, (h k hk).2.1.symm, (h k hk).2.2.symm⟩
theorem agr.trans {S T U : mS} (h : agr S T) (g : agr T U) : agr S U := fun k hk => ⟨(h k hk).1.trans (g k hk).1, (h k hk).2.1.trans (g k hk).2.1, (h k hk).2.2.trans (g k hk).2.2⟩
theorem agr.mu_up {S : mS} {cn : Nat → Nat} {sc : Nat → Int32} {μ : Nat → Nat → Int32} {f : Nat → Int32} (k : Nat) (h : agr S (cn, sc, μ)) (hk : 33 ≤ k) : agr S (cn, sc, va_up μ k f) := fun j hj => ⟨(h j hj).1, (h j hj).2.1, (h j hj).2.2.trans (if_neg (show ¬ j = k by omega)).symm⟩
theorem agr.cn_up {S : mS} {cn : Nat → Nat} {sc : Nat → Int32} {μ : Nat → Nat → Int32} {n : Nat} (k : Nat) (h : agr S (cn, sc, μ)) (hk : 33 ≤ k) : agr S (va_up cn k n, sc, μ) := fun j hj => ⟨(h j hj).1.trans (if_neg (show ¬ j = k by omega)).symm, (h j hj).2.1, (h j hj).2.2⟩
theorem agr.cn34 {S : mS} {cn : Nat → Nat} {sc : Nat → Int32} {μ : Nat → Nat → Int32} {m n : Nat} (h : agr S (va_up cn 34 m, sc, μ)) : agr S (va_up cn 34 n, sc, μ) := by
  have h9 := h.cn_up (n := n) 34 (by decide)
  rw [va_up2] at h9
  exact h9
theorem hf_agr2 {S T : mS} (h : agr S T) {e : Int32} : some (Value.int (sp_hf T e)) = some (Value.int (sp_hf S e)) := by rw [hf_agr h]
theorem md_agr2 {S T : mS} (h : agr S T) {e : Int32} : some (Value.int (mdS T e)) = some (Value.int (mdS S e)) := by rw [mdS_agr h]
/-- whether a star's entry is laid, and its modulus -/
def laidS (S : mS) (j : Nat) : Int32 := if S.2.2 3 j = nI j ∧ ¬ sp_hf S (nI j) = 0 then 1 else 0
def modS (S : mS) (j : Nat) : Int32 := if laidS S j = 0 then 0 else mdS S (nI j)
theorem nr_step {a b f g : Nat → Int32} {k : Nat} {v w : Int32} (h : ∀ j, j < k → a j = f j ∧ b j = g j) (hv : v = f k) (hw : w = g k) : ∀ j, j < k + 1 → upd a k v j = f j ∧ upd b k w j = g j := by
  intro j hj
  unfold upd
  by_cases e : j = k
  · subst e
    rw [if_pos rfl, if_pos rfl]
    exact ⟨hv, hw⟩
  · rw [if_neg e, if_neg e]
    exact h j (by omega)
/-- how many of the first n stars stand ahead of star i -/
def cntN (a b : Nat → Int32) (i : Nat) : Nat → Int32
  | 0 => 0
  | j + 1 => cntN a b i j + (if ¬ a j = 0 ∧ (b j < b i ∨ (b j = b i ∧ nI j < nI i)) then 1 else 0)
/-- the first star from i on that is laid and has as many ahead as asked -/
def nrA (a b : Nat → Int32) (N : Nat) (rank : Int32) : Nat → Nat → Int32
  | 0, _ => -1
  | f + 1, i => if ¬ a i = 0 ∧ cntN a b i N = rank then nI i else nrA a b N rank f (i + 1)
theorem cntN_cg {a b a' b' : Nat → Int32} {N i : Nat} (h : ∀ j, j < N → a j = a' j ∧ b j = b' j) (hi : i < N) (n : Nat) (hn : n ≤ N) : cntN a b i n = cntN a' b' i n := by
  induction n with
  | zero => rfl
  | succ n ih => rw [cntN, cntN, ih (by omega), (h n (by omega)).1, (h n (by omega)).2, (h i hi).2]
theorem nrA_cg {a b a' b' : Nat → Int32} {N : Nat} {rank : Int32} (h : ∀ j, j < N → a j = a' j ∧ b j = b' j) (f : Nat) : ∀ i, f + i = N → nrA a b N rank f i = nrA a' b' N rank f i := by
  induction f with
  | zero => intro i _; rfl
  | succ f ih =>
    intro i hi
    rw [nrA, nrA, ih (i + 1) (by omega), (h i (by omega)).1, cntN_cg h (by omega) N (Nat.le_refl _)]
def cd_nearest (p0 : Int32) (S : mS) : Int32 := if 0 ≤ p0 then 0 else 1
def an_nearest (p0 : Int32) (S : mS) : Int32 := nrA (laidS S) (modS S) (S.1 1) p0 (S.1 1) 0
def st_nearest (p0 : Int32) (S : mS) : mS := S
theorem str_arf {μ μ' : Nat → Nat → Int32} (h : ∀ k, k < 33 → μ k = μ' k) {L : List Nat} : sp_str μ L = sp_str μ' L := funext fun _ => str_ar h
theorem laid_arf {S T : mS} (h : agr S T) : laidS S = laidS T := by
  funext j
  unfold laidS
  rw [hf_agr h, (h 3 (by decide)).2.2]
theorem mod_arf {S T : mS} (h : agr S T) : modS S = modS T := by
  funext j
  unfold modS
  rw [laid_arf h, mdS_agr h]
theorem vt_arf {S T : mS} (h : agr S T) {e : Int32} : (fun k => vtS S e (nI k)) = fun k => vtS T e (nI k) := funext fun _ => vtS_agr h
theorem cd_string_agr {S T : mS} (h : agr S T) {p0 p1 : Int32} : cd_string p0 p1 S = cd_string p0 p1 T := by
  unfold cd_string
  rw [(h 1 (by decide)).1]
theorem an_string_agr {S T : mS} (h : agr S T) {p0 p1 : Int32} : an_string p0 p1 S = an_string p0 p1 T := by
  unfold an_string
  rw [str_arf h.mu, sel2_agr h, (h 3 (by decide)).2.2]
theorem cd_together_agr {S T : mS} (h : agr S T) {p0 p1 p2 : Int32} : cd_together p0 p1 p2 S = cd_together p0 p1 p2 T := by
  unfold cd_together
  rw [(h 1 (by decide)).1]
theorem an_together_agr {S T : mS} (h : agr S T) {p0 p1 p2 : Int32} : an_together p0 p1 p2 S = an_together p0 p1 p2 T := by
  unfold an_together
  rw [str_arf h.mu, sel2_agr h, (h 3 (by decide)).2.2]
theorem cd_period_agr {S T : mS} (h : agr S T) {p0 p1 p2 p3 : Int32} : cd_period p0 p1 p2 p3 S = cd_period p0 p1 p2 p3 T := by
  unfold cd_period
  rw [tr_agr h]
theorem an_period_agr {S T : mS} (h : agr S T) {p0 p1 p2 p3 : Int32} : an_period p0 p1 p2 p3 S = an_period p0 p1 p2 p3 T := by
  unfold an_period
  rw [str_arf h.mu, sel2_agr h, (h 3 (by decide)).2.2]
theorem cd_aliases_agr {S T : mS} (h : agr S T) {p0 p1 p2 p3 p4 : Int32} : cd_aliases p0 p1 p2 p3 p4 S = cd_aliases p0 p1 p2 p3 p4 T := by
  unfold cd_aliases
  rw [tr_agr h]
theorem an_aliases_agr {S T : mS} (h : agr S T) {p0 p1 p2 p3 p4 : Int32} : an_aliases p0 p1 p2 p3 p4 S = an_aliases p0 p1 p2 p3 p4 T := by
  unfold an_aliases
  rw [str_arf h.mu, sel2_agr h, (h 3 (by decide)).2.2]
theorem cd_feature_agr {S T : mS} (h : agr S T) {p0 p1 : Int32} : cd_feature p0 p1 S = cd_feature p0 p1 T := by
  unfold cd_feature
  rw [hf_agr h, (h 1 (by decide)).1, (h 3 (by decide)).2.2]
theorem an_feature_agr {S T : mS} (h : agr S T) {p0 p1 : Int32} : an_feature p0 p1 S = an_feature p0 p1 T := by
  unfold an_feature
  rw [ftS_agr h, (h 3 (by decide)).2.2]
theorem cd_votes_agr {S T : mS} (h : agr S T) {p0 p1 : Int32} : cd_votes p0 p1 S = cd_votes p0 p1 T := by
  unfold cd_votes
  rw [hf_agr h, (h 1 (by decide)).1, (h 3 (by decide)).2.2]
theorem an_votes_agr {S T : mS} (h : agr S T) {p0 p1 : Int32} : an_votes p0 p1 S = an_votes p0 p1 T := by
  unfold an_votes
  rw [vtS_agr h, (h 3 (by decide)).2.2]
theorem cd_kind_agr {S T : mS} (h : agr S T) {p0 : Int32} : cd_kind p0 S = cd_kind p0 T := by
  unfold cd_kind
  rw [hf_agr h, (h 1 (by decide)).1, (h 3 (by decide)).2.2]
theorem an_kind_agr {S T : mS} (h : agr S T) {p0 : Int32} : an_kind p0 S = an_kind p0 T := by
  unfold an_kind
  rw [vt_arf h, (h 3 (by decide)).2.2]
theorem cd_comparison_agr {S T : mS} (h : agr S T) {p0 p1 : Int32} : cd_comparison p0 p1 S = cd_comparison p0 p1 T := rfl
theorem an_comparison_agr {S T : mS} (h : agr S T) {p0 p1 : Int32} : an_comparison p0 p1 S = an_comparison p0 p1 T := by
  unfold an_comparison
  rw [(h 0 (by decide)).2.2]
theorem cd_bias_agr {S T : mS} (h : agr S T) {p0 p1 : Int32} : cd_bias p0 p1 S = cd_bias p0 p1 T := rfl
theorem an_bias_agr {S T : mS} (h : agr S T) {p0 p1 : Int32} : an_bias p0 p1 S = an_bias p0 p1 T := by
  unfold an_bias
  rw [(h 6 (by decide)).2.2]
theorem cd_clock_agr {S T : mS} (h : agr S T) {p0 p1 : Int32} : cd_clock p0 p1 S = cd_clock p0 p1 T := rfl
theorem an_clock_agr {S T : mS} (h : agr S T) {p0 p1 : Int32} : an_clock p0 p1 S = an_clock p0 p1 T := by
  unfold an_clock
  rw [(h 7 (by decide)).2.2]
theorem cd_star_agr {S T : mS} (h : agr S T) {p0 : Int32} : cd_star p0 S = cd_star p0 T := by
  unfold cd_star
  rw [(h 1 (by decide)).1]
theorem an_star_agr {S T : mS} (h : agr S T) {p0 : Int32} : an_star p0 S = an_star p0 T := by
  unfold an_star
  rw [(h 1 (by decide)).1]
theorem cd_plate_agr {S T : mS} (h : agr S T) {p0 p1 p2 : Int32} : cd_plate p0 p1 p2 S = cd_plate p0 p1 p2 T := by
  unfold cd_plate
  rw [(h 8 (by decide)).1]
theorem an_plate_agr {S T : mS} (h : agr S T) {p0 p1 p2 : Int32} : an_plate p0 p1 p2 S = an_plate p0 p1 p2 T := by
  unfold an_plate
  rw [(h 8 (by decide)).1]
theorem cd_minimum_agr {S T : mS} (h : agr S T) {p0 p1 : Int32} : cd_minimum p0 p1 S = cd_minimum p0 p1 T := by
  unfold cd_minimum
  rw [(h 1 (by decide)).1, (h 29 (by decide)).1]
theorem an_minimum_agr {S T : mS} (h : agr S T) {p0 p1 : Int32} : an_minimum p0 p1 S = an_minimum p0 p1 T := by
  unfold an_minimum
  rw [(h 29 (by decide)).1]
theorem cd_rule_agr {S T : mS} (h : agr S T) {p0 p1 p2 p3 p4 : Int32} : cd_rule p0 p1 p2 p3 p4 S = cd_rule p0 p1 p2 p3 p4 T := by
  unfold cd_rule
  rw [(h 22 (by decide)).1]
theorem an_rule_agr {S T : mS} (h : agr S T) {p0 p1 p2 p3 p4 : Int32} : an_rule p0 p1 p2 p3 p4 S = an_rule p0 p1 p2 p3 p4 T := by
  unfold an_rule
  rw [(h 22 (by decide)).1]
theorem cd_join_agr {S T : mS} (h : agr S T) {p0 p1 : Int32} : cd_join p0 p1 S = cd_join p0 p1 T := by
  unfold cd_join
  rw [(h 8 (by decide)).1]
theorem an_join_agr {S T : mS} (h : agr S T) {p0 p1 : Int32} : an_join p0 p1 S = an_join p0 p1 T := by
  unfold an_join
  rw [(h 10 (by decide)).2.2]
theorem cd_claim_agr {S T : mS} (h : agr S T) {p0 p1 : Int32} : cd_claim p0 p1 S = cd_claim p0 p1 T := by
  unfold cd_claim
  rw [(h 1 (by decide)).1]
theorem an_claim_agr {S T : mS} (h : agr S T) {p0 p1 : Int32} : an_claim p0 p1 S = an_claim p0 p1 T := by
  unfold an_claim
  rw [(h 4 (by decide)).2.2]
theorem cd_cycle_agr {S T : mS} (h : agr S T) {p0 p1 p2 p3 : Int32} : cd_cycle p0 p1 p2 p3 S = cd_cycle p0 p1 p2 p3 T := by
  unfold cd_cycle
  rw [layS_agr h, (h 1 (by decide)).1, (h 3 (by decide)).2.2]
theorem an_cycle_agr {S T : mS} (h : agr S T) {p0 p1 p2 p3 : Int32} : an_cycle p0 p1 p2 p3 S = an_cycle p0 p1 p2 p3 T := by
  unfold an_cycle
  rw [layS_agr h, (h 3 (by decide)).2.2]
theorem cd_lost_agr {S T : mS} (h : agr S T) {p0 p1 : Int32} : cd_lost p0 p1 S = cd_lost p0 p1 T := by
  unfold cd_lost
  rw [(h 1 (by decide)).1]
theorem an_lost_agr {S T : mS} (h : agr S T) {p0 p1 : Int32} : an_lost p0 p1 S = an_lost p0 p1 T := by
  unfold an_lost
  rw [layS_agr h, (h 3 (by decide)).2.2]
theorem cd_mean_agr {S T : mS} (h : agr S T) {p0 : Int32} : cd_mean p0 S = cd_mean p0 T := by
  unfold cd_mean
  rw [selS_agr h, (h 1 (by decide)).1, (h 3 (by decide)).2.2]
theorem an_mean_agr {S T : mS} (h : agr S T) {p0 : Int32} : an_mean p0 S = an_mean p0 T := by
  unfold an_mean
  rw [selS_agr h, mn_ar h.mu, (h 3 (by decide)).2.2]
theorem cd_modulus_agr {S T : mS} (h : agr S T) {p0 : Int32} : cd_modulus p0 S = cd_modulus p0 T := by
  unfold cd_modulus
  rw [hf_agr h, (h 1 (by decide)).1, (h 3 (by decide)).2.2]
theorem an_modulus_agr {S T : mS} (h : agr S T) {p0 : Int32} : an_modulus p0 S = an_modulus p0 T := by
  unfold an_modulus
  rw [mdS_agr h, (h 3 (by decide)).2.2]
theorem cd_nearest_agr {S T : mS} (h : agr S T) {p0 : Int32} : cd_nearest p0 S = cd_nearest p0 T := rfl
theorem an_nearest_agr {S T : mS} (h : agr S T) {p0 : Int32} : an_nearest p0 S = an_nearest p0 T := by
  unfold an_nearest
  rw [laid_arf h, mod_arf h, (h 1 (by decide)).1]
theorem cd_density_agr {S T : mS} (h : agr S T) {p0 p1 p2 : Int32} : cd_density p0 p1 p2 S = cd_density p0 p1 p2 T := by
  unfold cd_density
  rw [(h 1 (by decide)).1, (h 8 (by decide)).1, (h 12 (by decide)).1]
theorem an_density_agr {S T : mS} (h : agr S T) {p0 p1 p2 : Int32} : an_density p0 p1 p2 S = an_density p0 p1 p2 T := by
  unfold an_density
  rw [(h 12 (by decide)).1]
theorem cd_doubt_agr {S T : mS} (h : agr S T) {p0 p1 : Int32} : cd_doubt p0 p1 S = cd_doubt p0 p1 T := by
  unfold cd_doubt
  rw [(h 12 (by decide)).1]
theorem an_doubt_agr {S T : mS} (h : agr S T) {p0 p1 : Int32} : an_doubt p0 p1 S = an_doubt p0 p1 T := by
  unfold an_doubt
  rw [(h 21 (by decide)).2.2]
theorem cd_withdraw_agr {S T : mS} (h : agr S T) {p0 p1 : Int32} : cd_withdraw p0 p1 S = cd_withdraw p0 p1 T := by
  unfold cd_withdraw
  rw [(h 22 (by decide)).1]
theorem an_withdraw_agr {S T : mS} (h : agr S T) {p0 p1 : Int32} : an_withdraw p0 p1 S = an_withdraw p0 p1 T := by
  unfold an_withdraw
  rw [(h 28 (by decide)).2.2]
theorem cd_dust_agr {S T : mS} (h : agr S T) {p0 p1 : Int32} : cd_dust p0 p1 S = cd_dust p0 p1 T := by
  unfold cd_dust
  rw [(h 1 (by decide)).1]
theorem an_dust_agr {S T : mS} (h : agr S T) {p0 p1 : Int32} : an_dust p0 p1 S = an_dust p0 p1 T := by
  unfold an_dust
  rw [(h 5 (by decide)).2.2]
theorem cd_entry_agr {S T : mS} (h : agr S T) {p0 : Int32} : cd_entry p0 S = cd_entry p0 T := by
  unfold cd_entry
  rw [(h 1 (by decide)).1]
theorem an_entry_agr {S T : mS} (h : agr S T) {p0 : Int32} : an_entry p0 S = an_entry p0 T := by
  unfold an_entry
  rw [(h 3 (by decide)).2.2]
theorem cd_zero_agr {S T : mS} (h : agr S T) {p0 : Int32} : cd_zero p0 S = cd_zero p0 T := rfl
theorem an_zero_agr {S T : mS} (h : agr S T) {p0 : Int32} : an_zero p0 S = an_zero p0 T := by
  unfold an_zero
  rw [(h 32 (by decide)).2.1]
theorem cd_step_agr {S T : mS} (h : agr S T) {p0 p1 p2 p3 p4 p5 p6 : Int32} : cd_step p0 p1 p2 p3 p4 p5 p6 S = cd_step p0 p1 p2 p3 p4 p5 p6 T := by
  unfold cd_step
  rw [(h 1 (by decide)).1, (h 12 (by decide)).1]
theorem an_step_agr {S T : mS} (h : agr S T) {p0 p1 p2 p3 p4 p5 p6 : Int32} : an_step p0 p1 p2 p3 p4 p5 p6 S = an_step p0 p1 p2 p3 p4 p5 p6 T := by
  unfold an_step
  rw [(h 12 (by decide)).1]
theorem cd_entries_agr {S T : mS} (h : agr S T) {p0 : Int32} : cd_entries p0 S = cd_entries p0 T := rfl
theorem an_entries_agr {S T : mS} (h : agr S T) {p0 : Int32} : an_entries p0 S = an_entries p0 T := by
  unfold an_entries
  rw [(h 1 (by decide)).1, (h 3 (by decide)).2.2]
theorem cd_merge_agr {S T : mS} (h : agr S T) {p0 p1 : Int32} : cd_merge p0 p1 S = cd_merge p0 p1 T := by
  unfold cd_merge
  rw [(h 1 (by decide)).1, (h 3 (by decide)).2.2]
theorem an_merge_agr {S T : mS} (h : agr S T) {p0 p1 : Int32} : an_merge p0 p1 S = an_merge p0 p1 T := by
  unfold an_merge
  rw [(h 1 (by decide)).1, (h 3 (by decide)).2.2]
theorem cd_split_agr {S T : mS} (h : agr S T) {p0 : Int32} : cd_split p0 S = cd_split p0 T := by
  unfold cd_split
  rw [(h 1 (by decide)).1, (h 3 (by decide)).2.2]
theorem an_split_agr {S T : mS} (h : agr S T) {p0 : Int32} : an_split p0 S = an_split p0 T := by
  unfold an_split
  rw [(h 1 (by decide)).1, (h 3 (by decide)).2.2]
theorem cd_look_agr {S T : mS} (h : agr S T) {p0 p1 : Int32} : cd_look p0 p1 S = cd_look p0 p1 T := by
  unfold cd_look
  rw [(h 12 (by decide)).1]
theorem an_look_agr {S T : mS} (h : agr S T) {p0 p1 : Int32} : an_look p0 p1 S = an_look p0 p1 T := by
  unfold an_look
  rw [raw_ar h.mu, light_ar h.mu, time_ar h.mu, (h 13 (by decide)).2.2, (h 14 (by decide)).2.2, (h 21 (by decide)).2.2]
theorem up_cg {α : Type} {f g : Nat → α} {i : Nat} {v : α} {k : Nat} (h : f k = g k) : va_up f i v k = va_up g i v k := by
  unfold va_up
  by_cases c : k = i
  · rw [if_pos c, if_pos c]
  · rw [if_neg c, if_neg c]; exact h
theorem st_string_agr {S T : mS} (h : agr S T) {p0 p1 : Int32} : agr (st_string p0 p1 S) (st_string p0 p1 T) := h
theorem st_together_agr {S T : mS} (h : agr S T) {p0 p1 p2 : Int32} : agr (st_together p0 p1 p2 S) (st_together p0 p1 p2 T) := h
theorem st_period_agr {S T : mS} (h : agr S T) {p0 p1 p2 p3 : Int32} : agr (st_period p0 p1 p2 p3 S) (st_period p0 p1 p2 p3 T) := h
theorem st_aliases_agr {S T : mS} (h : agr S T) {p0 p1 p2 p3 p4 : Int32} : agr (st_aliases p0 p1 p2 p3 p4 S) (st_aliases p0 p1 p2 p3 p4 T) := h
theorem st_feature_agr {S T : mS} (h : agr S T) {p0 p1 : Int32} : agr (st_feature p0 p1 S) (st_feature p0 p1 T) := h
theorem st_votes_agr {S T : mS} (h : agr S T) {p0 p1 : Int32} : agr (st_votes p0 p1 S) (st_votes p0 p1 T) := h
theorem st_kind_agr {S T : mS} (h : agr S T) {p0 : Int32} : agr (st_kind p0 S) (st_kind p0 T) := h
theorem st_comparison_agr {S T : mS} (h : agr S T) {p0 p1 : Int32} : agr (st_comparison p0 p1 S) (st_comparison p0 p1 T) := fun k hk => by
  refine ⟨?_, ?_, ?_⟩
  · exact (h k hk).1
  · exact (h k hk).2.1
  · show (va_up S.2.2 0 (upd (S.2.2 0) (ix p0) p1)) k = (va_up T.2.2 0 (upd (T.2.2 0) (ix p0) p1)) k
    rw [(h 0 (by decide)).2.2]
    repeat (apply up_cg)
    exact (h k hk).2.2
theorem st_bias_agr {S T : mS} (h : agr S T) {p0 p1 : Int32} : agr (st_bias p0 p1 S) (st_bias p0 p1 T) := fun k hk => by
  refine ⟨?_, ?_, ?_⟩
  · exact (h k hk).1
  · exact (h k hk).2.1
  · show (va_up S.2.2 6 (upd (S.2.2 6) (ix p0) p1)) k = (va_up T.2.2 6 (upd (T.2.2 6) (ix p0) p1)) k
    rw [(h 6 (by decide)).2.2]
    repeat (apply up_cg)
    exact (h k hk).2.2
theorem st_clock_agr {S T : mS} (h : agr S T) {p0 p1 : Int32} : agr (st_clock p0 p1 S) (st_clock p0 p1 T) := fun k hk => by
  refine ⟨?_, ?_, ?_⟩
  · exact (h k hk).1
  · exact (h k hk).2.1
  · show (va_up S.2.2 7 (upd (S.2.2 7) (ix p0) p1)) k = (va_up T.2.2 7 (upd (T.2.2 7) (ix p0) p1)) k
    rw [(h 7 (by decide)).2.2]
    repeat (apply up_cg)
    exact (h k hk).2.2
theorem st_star_agr {S T : mS} (h : agr S T) {p0 : Int32} : agr (st_star p0 S) (st_star p0 T) := fun k hk => by
  refine ⟨?_, ?_, ?_⟩
  · show (va_up S.1 1 (S.1 1 + 1)) k = (va_up T.1 1 (T.1 1 + 1)) k
    rw [(h 1 (by decide)).1]
    repeat (apply up_cg)
    exact (h k hk).1
  · exact (h k hk).2.1
  · show (va_up (va_up S.2.2 2 (upd (S.2.2 2) (S.1 1) p0)) 3 (upd (S.2.2 3) (S.1 1) (nI (S.1 1)))) k = (va_up (va_up T.2.2 2 (upd (T.2.2 2) (T.1 1) p0)) 3 (upd (T.2.2 3) (T.1 1) (nI (T.1 1)))) k
    rw [(h 1 (by decide)).1, (h 2 (by decide)).2.2, (h 3 (by decide)).2.2]
    repeat (apply up_cg)
    exact (h k hk).2.2
theorem st_plate_agr {S T : mS} (h : agr S T) {p0 p1 p2 : Int32} : agr (st_plate p0 p1 p2 S) (st_plate p0 p1 p2 T) := fun k hk => by
  refine ⟨?_, ?_, ?_⟩
  · show (va_up S.1 8 (S.1 8 + 1)) k = (va_up T.1 8 (T.1 8 + 1)) k
    rw [(h 8 (by decide)).1]
    repeat (apply up_cg)
    exact (h k hk).1
  · exact (h k hk).2.1
  · show (va_up (va_up (va_up S.2.2 9 (upd (S.2.2 9) (S.1 8) p0)) 10 (upd (S.2.2 10) (S.1 8) p1)) 11 (upd (S.2.2 11) (S.1 8) p2)) k = (va_up (va_up (va_up T.2.2 9 (upd (T.2.2 9) (T.1 8) p0)) 10 (upd (T.2.2 10) (T.1 8) p1)) 11 (upd (T.2.2 11) (T.1 8) p2)) k
    rw [(h 8 (by decide)).1, (h 9 (by decide)).2.2, (h 10 (by decide)).2.2, (h 11 (by decide)).2.2]
    repeat (apply up_cg)
    exact (h k hk).2.2
theorem st_minimum_agr {S T : mS} (h : agr S T) {p0 p1 : Int32} : agr (st_minimum p0 p1 S) (st_minimum p0 p1 T) := fun k hk => by
  refine ⟨?_, ?_, ?_⟩
  · show (va_up S.1 29 (S.1 29 + 1)) k = (va_up T.1 29 (T.1 29 + 1)) k
    rw [(h 29 (by decide)).1]
    repeat (apply up_cg)
    exact (h k hk).1
  · exact (h k hk).2.1
  · show (va_up (va_up S.2.2 30 (upd (S.2.2 30) (S.1 29) p0)) 31 (upd (S.2.2 31) (S.1 29) p1)) k = (va_up (va_up T.2.2 30 (upd (T.2.2 30) (T.1 29) p0)) 31 (upd (T.2.2 31) (T.1 29) p1)) k
    rw [(h 29 (by decide)).1, (h 30 (by decide)).2.2, (h 31 (by decide)).2.2]
    repeat (apply up_cg)
    exact (h k hk).2.2
theorem st_rule_agr {S T : mS} (h : agr S T) {p0 p1 p2 p3 p4 : Int32} : agr (st_rule p0 p1 p2 p3 p4 S) (st_rule p0 p1 p2 p3 p4 T) := fun k hk => by
  refine ⟨?_, ?_, ?_⟩
  · show (va_up S.1 22 (S.1 22 + 1)) k = (va_up T.1 22 (T.1 22 + 1)) k
    rw [(h 22 (by decide)).1]
    repeat (apply up_cg)
    exact (h k hk).1
  · exact (h k hk).2.1
  · show (va_up (va_up (va_up (va_up (va_up S.2.2 23 (upd (S.2.2 23) (S.1 22) p0)) 24 (upd (S.2.2 24) (S.1 22) p1)) 25 (upd (S.2.2 25) (S.1 22) p2)) 26 (upd (S.2.2 26) (S.1 22) p3)) 27 (upd (S.2.2 27) (S.1 22) p4)) k = (va_up (va_up (va_up (va_up (va_up T.2.2 23 (upd (T.2.2 23) (T.1 22) p0)) 24 (upd (T.2.2 24) (T.1 22) p1)) 25 (upd (T.2.2 25) (T.1 22) p2)) 26 (upd (T.2.2 26) (T.1 22) p3)) 27 (upd (T.2.2 27) (T.1 22) p4)) k
    rw [(h 22 (by decide)).1, (h 23 (by decide)).2.2, (h 24 (by decide)).2.2, (h 25 (by decide)).2.2, (h 26 (by decide)).2.2, (h 27 (by decide)).2.2]
    repeat (apply up_cg)
    exact (h k hk).2.2
theorem st_join_agr {S T : mS} (h : agr S T) {p0 p1 : Int32} : agr (st_join p0 p1 S) (st_join p0 p1 T) := fun k hk => by
  refine ⟨?_, ?_, ?_⟩
  · exact (h k hk).1
  · exact (h k hk).2.1
  · show (va_up S.2.2 10 (upd (S.2.2 10) (ix p0) p1)) k = (va_up T.2.2 10 (upd (T.2.2 10) (ix p0) p1)) k
    rw [(h 10 (by decide)).2.2]
    repeat (apply up_cg)
    exact (h k hk).2.2
theorem st_claim_agr {S T : mS} (h : agr S T) {p0 p1 : Int32} : agr (st_claim p0 p1 S) (st_claim p0 p1 T) := fun k hk => by
  refine ⟨?_, ?_, ?_⟩
  · exact (h k hk).1
  · exact (h k hk).2.1
  · show (va_up S.2.2 4 (upd (S.2.2 4) (ix p0) p1)) k = (va_up T.2.2 4 (upd (T.2.2 4) (ix p0) p1)) k
    rw [(h 4 (by decide)).2.2]
    repeat (apply up_cg)
    exact (h k hk).2.2
theorem st_cycle_agr {S T : mS} (h : agr S T) {p0 p1 p2 p3 : Int32} : agr (st_cycle p0 p1 p2 p3 S) (st_cycle p0 p1 p2 p3 T) := h
theorem st_lost_agr {S T : mS} (h : agr S T) {p0 p1 : Int32} : agr (st_lost p0 p1 S) (st_lost p0 p1 T) := h
theorem st_mean_agr {S T : mS} (h : agr S T) {p0 : Int32} : agr (st_mean p0 S) (st_mean p0 T) := h
theorem st_modulus_agr {S T : mS} (h : agr S T) {p0 : Int32} : agr (st_modulus p0 S) (st_modulus p0 T) := h
theorem st_nearest_agr {S T : mS} (h : agr S T) {p0 : Int32} : agr (st_nearest p0 S) (st_nearest p0 T) := h
theorem st_doubt_agr {S T : mS} (h : agr S T) {p0 p1 : Int32} : agr (st_doubt p0 p1 S) (st_doubt p0 p1 T) := fun k hk => by
  refine ⟨?_, ?_, ?_⟩
  · exact (h k hk).1
  · exact (h k hk).2.1
  · show (va_up S.2.2 21 (upd (S.2.2 21) (ix p0) p1)) k = (va_up T.2.2 21 (upd (T.2.2 21) (ix p0) p1)) k
    rw [(h 21 (by decide)).2.2]
    repeat (apply up_cg)
    exact (h k hk).2.2
theorem st_withdraw_agr {S T : mS} (h : agr S T) {p0 p1 : Int32} : agr (st_withdraw p0 p1 S) (st_withdraw p0 p1 T) := fun k hk => by
  refine ⟨?_, ?_, ?_⟩
  · exact (h k hk).1
  · exact (h k hk).2.1
  · show (va_up S.2.2 28 (upd (S.2.2 28) (ix p0) p1)) k = (va_up T.2.2 28 (upd (T.2.2 28) (ix p0) p1)) k
    rw [(h 28 (by decide)).2.2]
    repeat (apply up_cg)
    exact (h k hk).2.2
theorem st_dust_agr {S T : mS} (h : agr S T) {p0 p1 : Int32} : agr (st_dust p0 p1 S) (st_dust p0 p1 T) := fun k hk => by
  refine ⟨?_, ?_, ?_⟩
  · exact (h k hk).1
  · exact (h k hk).2.1
  · show (va_up S.2.2 5 (upd (S.2.2 5) (ix p0) p1)) k = (va_up T.2.2 5 (upd (T.2.2 5) (ix p0) p1)) k
    rw [(h 5 (by decide)).2.2]
    repeat (apply up_cg)
    exact (h k hk).2.2
theorem st_entry_agr {S T : mS} (h : agr S T) {p0 : Int32} : agr (st_entry p0 S) (st_entry p0 T) := h
theorem st_zero_agr {S T : mS} (h : agr S T) {p0 : Int32} : agr (st_zero p0 S) (st_zero p0 T) := fun k hk => by
  refine ⟨?_, ?_, ?_⟩
  · exact (h k hk).1
  · show (va_up S.2.1 32 p0) k = (va_up T.2.1 32 p0) k
    repeat (apply up_cg)
    exact (h k hk).2.1
  · exact (h k hk).2.2
theorem st_entries_agr {S T : mS} (h : agr S T) {p0 : Int32} : agr (st_entries p0 S) (st_entries p0 T) := h
theorem st_merge_agr {S T : mS} (h : agr S T) {p0 p1 : Int32} : agr (st_merge p0 p1 S) (st_merge p0 p1 T) := fun k hk => by
  refine ⟨?_, ?_, ?_⟩
  · exact (h k hk).1
  · exact (h k hk).2.1
  · show (va_up S.2.2 3 (sp_mrg (S.2.2 3) (S.2.2 3 (ix p0)) (S.2.2 3 (ix p1)) (S.1 1))) k = (va_up T.2.2 3 (sp_mrg (T.2.2 3) (T.2.2 3 (ix p0)) (T.2.2 3 (ix p1)) (T.1 1))) k
    rw [(h 1 (by decide)).1, (h 3 (by decide)).2.2]
    repeat (apply up_cg)
    exact (h k hk).2.2
theorem st_split_agr {S T : mS} (h : agr S T) {p0 : Int32} : agr (st_split p0 S) (st_split p0 T) := fun k hk => by
  refine ⟨?_, ?_, ?_⟩
  · exact (h k hk).1
  · exact (h k hk).2.1
  · show (va_up S.2.2 3 (sp_spl (S.2.2 3) (ix p0) p0 (S.1 1))) k = (va_up T.2.2 3 (sp_spl (T.2.2 3) (ix p0) p0 (T.1 1))) k
    rw [(h 1 (by decide)).1, (h 3 (by decide)).2.2]
    repeat (apply up_cg)
    exact (h k hk).2.2
theorem st_look_agr {S T : mS} (h : agr S T) {p0 p1 : Int32} : agr (st_look p0 p1 S) (st_look p0 p1 T) := h
theorem mu_keeps_cg {μ μ' : Nat → Nat → Int32} (h : ∀ k, k < 33 → μ k = μ' k) {n : Nat} {a b c d : Int32} : ∀ k, k < 33 → mu_keeps μ n a b c d k = mu_keeps μ' n a b c d k := by
  intro k hk
  unfold mu_keeps
  rw [h 13 (by decide), h 14 (by decide), h 15 (by decide), h 16 (by decide), h 21 (by decide)]
  repeat (apply up_cg)
  exact h k hk
theorem st_density_agr {S T : mS} (h : agr S T) {p0 p1 p2 : Int32} : agr (st_density p0 p1 p2 S) (st_density p0 p1 p2 T) := fun k hk => by
  refine ⟨?_, ?_, ?_⟩
  · show (va_up S.1 12 (S.1 12 + 1)) k = (va_up T.1 12 (T.1 12 + 1)) k
    rw [(h 12 (by decide)).1]
    repeat (apply up_cg)
    exact (h k hk).1
  · exact (h k hk).2.1
  · show mu_keeps S.2.2 (S.1 12) 1 p0 p1 p2 k = mu_keeps T.2.2 (T.1 12) 1 p0 p1 p2 k
    rw [(h 12 (by decide)).1]
    exact mu_keeps_cg h.mu k hk
theorem st_step_agr {S T : mS} (h : agr S T) {p0 p1 p2 p3 p4 p5 p6 : Int32} : agr (st_step p0 p1 p2 p3 p4 p5 p6 S) (st_step p0 p1 p2 p3 p4 p5 p6 T) := fun k hk => by
  refine ⟨?_, ?_, ?_⟩
  · show (va_up S.1 12 (S.1 12 + 1)) k = (va_up T.1 12 (T.1 12 + 1)) k
    rw [(h 12 (by decide)).1]
    repeat (apply up_cg)
    exact (h k hk).1
  · exact (h k hk).2.1
  · show mu_keeps (va_up (va_up (va_up (va_up S.2.2 17 (upd (S.2.2 17) (S.1 12) p3)) 18 (upd (S.2.2 18) (S.1 12) p4)) 19 (upd (S.2.2 19) (S.1 12) p5)) 20 (upd (S.2.2 20) (S.1 12) p6)) (S.1 12) 0 p0 p1 p2 k = mu_keeps (va_up (va_up (va_up (va_up T.2.2 17 (upd (T.2.2 17) (T.1 12) p3)) 18 (upd (T.2.2 18) (T.1 12) p4)) 19 (upd (T.2.2 19) (T.1 12) p5)) 20 (upd (T.2.2 20) (T.1 12) p6)) (T.1 12) 0 p0 p1 p2 k
    rw [(h 12 (by decide)).1]
    refine mu_keeps_cg (fun k hk => ?_) k hk
    rw [(h 17 (by decide)).2.2, (h 18 (by decide)).2.2, (h 19 (by decide)).2.2, (h 20 (by decide)).2.2]
    repeat (apply up_cg)
    exact (h k hk).2.2
theorem ite_ok {a : Prop} [Decidable a] {b c : Int32} (h : (if a then b else c) = 0) (hc : c ≠ 0) : a ∧ b = 0 := by
  by_cases g : a
  · rw [if_pos g] at h; exact ⟨g, h⟩
  · rw [if_neg g] at h; exact absurd h hc
theorem upd_P {P : Int32 → Prop} {f : Nat → Int32} {k i : Nat} {v : Int32} (hf : P (f i)) (hv : P v) : P (upd f k v i) := by
  unfold upd
  by_cases c : i = k
  · rw [if_pos c]; exact hv
  · rw [if_neg c]; exact hf
theorem inv_comparison {S : mS} (h : Inv S) {p0 p1 : Int32} (hc : cd_comparison p0 p1 S = 0) : Inv (st_comparison p0 p1 S) := by
  obtain ⟨cn, sc, μ⟩ := S
  have a1 := (ite_ok hc (by decide)).2
  have a2 := (ite_ok a1 (by decide)).1
  exact ⟨h.1, fun i hi => upd_P (P := fun x => inr x (-200) 2000) (h.2.1 i hi) a2, h.2.2⟩
theorem inv_bias {S : mS} (h : Inv S) {p0 p1 : Int32} (hc : cd_bias p0 p1 S = 0) : Inv (st_bias p0 p1 S) := by
  obtain ⟨cn, sc, μ⟩ := S
  have a1 := (ite_ok hc (by decide)).2
  have a2 := (ite_ok a1 (by decide)).1
  exact ⟨h.1, h.2.1, h.2.2.1, fun i hi => upd_P (P := fun x => inr x (-99) 99) (h.2.2.2.1 i hi) a2, h.2.2.2.2⟩
theorem inv_clock {S : mS} (h : Inv S) {p0 p1 : Int32} : Inv (st_clock p0 p1 S) := by
  obtain ⟨cn, sc, μ⟩ := S
  exact h
theorem inv_dust {S : mS} (h : Inv S) {p0 p1 : Int32} : Inv (st_dust p0 p1 S) := by
  obtain ⟨cn, sc, μ⟩ := S
  exact h
theorem inv_zero {S : mS} (h : Inv S) {p0 : Int32} : Inv (st_zero p0 S) := by
  obtain ⟨cn, sc, μ⟩ := S
  exact h
theorem inv_join {S : mS} (h : Inv S) {p0 p1 : Int32} (hc : cd_join p0 p1 S = 0) : Inv (st_join p0 p1 S) := by
  obtain ⟨cn, sc, μ⟩ := S
  have a1 := (ite_ok hc (by decide)).2
  have a2 := (ite_ok a1 (by decide)).1
  obtain ⟨h1, h2, h3, h4, h5, h6⟩ := h
  exact ⟨h1, h2, h3, h4, fun i hi => ⟨(h5 i hi).1, upd_P (P := fun x => inr x (-500) 3000) (h5 i hi).2.1 a2, (h5 i hi).2.2⟩, h6⟩
theorem inv_claim {S : mS} (h : Inv S) {p0 p1 : Int32} (hc : cd_claim p0 p1 S = 0) : Inv (st_claim p0 p1 S) := by
  obtain ⟨cn, sc, μ⟩ := S
  have a1 := (ite_ok hc (by decide)).2
  have a2 : p1 = 0 ∨ inr p1 30 1000000 := by
    by_cases g : p1 = 0
    · exact Or.inl g
    · rw [if_neg g] at a1; exact Or.inr (ite_ok a1 (by decide)).1
  obtain ⟨h1, h2, h3, h4, h5, h6⟩ := h
  exact ⟨h1, h2, fun i hi => ⟨(h3 i hi).1, (h3 i hi).2.1, upd_P (P := fun x => x = 0 ∨ inr x 30 1000000) (h3 i hi).2.2 a2⟩, h4, h5, h6⟩
theorem inv_doubt {S : mS} (h : Inv S) {p0 p1 : Int32} (hb : p1 = 0 ∨ p1 = 1) : Inv (st_doubt p0 p1 S) := by
  obtain ⟨cn, sc, μ⟩ := S
  obtain ⟨h1, h2, h3, h4, h5, h6, h7⟩ := h
  exact ⟨h1, h2, h3, h4, h5, fun k hk => ⟨(h6 k hk).1, upd_P (P := fun x => x = 0 ∨ x = 1) (h6 k hk).2.1 hb, (h6 k hk).2.2⟩, h7⟩
theorem inv_withdraw {S : mS} (h : Inv S) {p0 p1 : Int32} (hb : p1 = 0 ∨ p1 = 1) : Inv (st_withdraw p0 p1 S) := by
  obtain ⟨cn, sc, μ⟩ := S
  obtain ⟨h1, h2, h3, h4, h5, h6, h7, h8⟩ := h
  exact ⟨h1, h2, h3, h4, h5, h6, fun k hk => ⟨upd_P (P := fun x => x = 0 ∨ x = 1) (h7 k hk).1 hb, (h7 k hk).2⟩, h8⟩
/-- Inv, and what is written nowhere yet is 0 -/
def InvF (S : mS) : Prop := Inv S ∧ (∀ i, S.1 1 ≤ i → S.2.2 4 i = 0 ∧ S.2.2 5 i = 0) ∧ ∀ i, S.1 22 ≤ i → S.2.2 28 i = 0
theorem isS_up {n : Nat} {i : Int32} (hn : n + 1 < 2 ^ 31) (h : isS n i) : isS (n + 1) i := by
  obtain ⟨j, hj, rfl⟩ := isS_ix (by omega) h
  exact ⟨nI_pos' (by omega), nI_lt (by omega) hn⟩
theorem upd_at {f : Nat → Int32} {k : Nat} {v : Int32} : upd f k v k = v := if_pos rfl
theorem upd_ne {f : Nat → Int32} {k i : Nat} {v : Int32} (h : i ≠ k) : upd f k v i = f i := if_neg h
theorem full_ok {n N : Nat} {b : Int32} (hN : N < 2 ^ 31) (hn : n ≤ N) (h : (if nI n = nI N then b else 0) = 0) (hb : b ≠ 0) : n < N := by
  refine Nat.lt_of_le_of_ne hn (fun e => ?_)
  subst e
  rw [if_pos rfl] at h
  exact hb h
theorem invF_star {S : mS} (h : InvF S) {p0 : Int32} (hc : cd_star p0 S = 0) : InvF (st_star p0 S) := by
  obtain ⟨cn, sc, μ⟩ := S
  obtain ⟨a1, a2⟩ := ite_ok hc (by decide)
  obtain ⟨⟨h1, h2, h3, h4, h5, h6, h7, h8⟩, h9, h10⟩ := h
  have hlt : cn 1 < 12 := full_ok (N := 12) (by decide) h1.1 a2 (by decide)
  refine ⟨⟨⟨hlt, h1.2⟩, h2, fun i hi => ?_, h4, h5, fun k hk => ⟨isS_up (by omega) (h6 k hk).1, (h6 k hk).2⟩, h7, fun k hk => ⟨isS_up (by omega) (h8 k hk).1, (h8 k hk).2⟩⟩, fun i hi => h9 i (Nat.le_of_succ_le hi), h10⟩
  have hi2 : i < cn 1 + 1 := hi
  show inr (upd (μ 2) (cn 1) p0 i) 0 363 ∧ (∃ e, e ≤ i ∧ upd (μ 3) (cn 1) (nI (cn 1)) i = nI e ∧ upd (μ 3) (cn 1) (nI (cn 1)) e = nI e) ∧ (μ 4 i = 0 ∨ inr (μ 4 i) 30 1000000)
  by_cases e : i = cn 1
  · subst e
    rw [upd_at, upd_at]
    exact ⟨a1, ⟨cn 1, Nat.le_refl _, rfl, upd_at⟩, Or.inl (h9 (cn 1) (Nat.le_refl _)).1⟩
  · obtain ⟨q1, ⟨e9, q2, q3, q4⟩, q5⟩ := h3 i (by show i < cn 1; omega)
    rw [upd_ne e, upd_ne e]
    exact ⟨q1, ⟨e9, q2, q3, by rw [upd_ne (by omega)]; exact q4⟩, q5⟩
theorem invF_plate {S : mS} (h : InvF S) {p0 p1 p2 : Int32} (hc : cd_plate p0 p1 p2 S = 0) : InvF (st_plate p0 p1 p2 S) := by
  obtain ⟨cn, sc, μ⟩ := S
  obtain ⟨a1, a2⟩ := ite_ok hc (by decide)
  obtain ⟨b1, b2⟩ := ite_ok a2 (by decide)
  obtain ⟨c1, c2⟩ := ite_ok b2 (by decide)
  obtain ⟨⟨h1, h2, h3, h4, h5, h6, h7⟩, h9⟩ := h
  have hlt : cn 8 < 8 := full_ok (N := 8) (by decide) h1.2.1 c2 (by decide)
  refine ⟨⟨⟨h1.1, hlt, h1.2.2⟩, h2, h3, h4, fun i hi => ?_, fun k hk => ⟨(h6 k hk).1, (h6 k hk).2.1, (h6 k hk).2.2.imp id (fun g => ⟨g.1, isS_up (by omega) g.2.1, g.2.2⟩)⟩, h7⟩, h9⟩
  have hi2 : i < cn 8 + 1 := hi
  show inr (upd (μ 9) (cn 8) p0 i) 0 9999999 ∧ inr (upd (μ 10) (cn 8) p1 i) (-500) 3000 ∧ inr (upd (μ 11) (cn 8) p2 i) 1 20
  by_cases e : i = cn 8
  · subst e
    rw [upd_at, upd_at, upd_at]
    exact ⟨a1, b1, c1⟩
  · rw [upd_ne e, upd_ne e, upd_ne e]
    exact h5 i (by show i < cn 8; omega)
theorem invF_minimum {S : mS} (h : InvF S) {p0 p1 : Int32} (hc : cd_minimum p0 p1 S = 0) : InvF (st_minimum p0 p1 S) := by
  obtain ⟨cn, sc, μ⟩ := S
  obtain ⟨a1, a2⟩ := ite_ok hc (by decide)
  obtain ⟨b1, b2⟩ := ite_ok a2 (by decide)
  obtain ⟨⟨h1, h2, h3, h4, h5, h6, h7, h8⟩, h9⟩ := h
  have hlt : cn 29 < 30 := full_ok (N := 30) (by decide) h1.2.2.2.2 b2 (by decide)
  refine ⟨⟨⟨h1.1, h1.2.1, h1.2.2.1, h1.2.2.2.1, hlt⟩, h2, h3, h4, h5, h6, h7, fun i hi => ?_⟩, h9⟩
  have hi2 : i < cn 29 + 1 := hi
  show isS (cn 1) (upd (μ 30) (cn 29) p0 i) ∧ inr (upd (μ 31) (cn 29) p1 i) 0 9999999
  by_cases e : i = cn 29
  · subst e
    rw [upd_at, upd_at]
    exact ⟨a1, b1⟩
  · rw [upd_ne e, upd_ne e]
    exact h8 i (by show i < cn 29; omega)
theorem invF_rule {S : mS} (h : InvF S) {p0 p1 p2 p3 p4 : Int32} (hc : cd_rule p0 p1 p2 p3 p4 S = 0) : InvF (st_rule p0 p1 p2 p3 p4 S) := by
  obtain ⟨cn, sc, μ⟩ := S
  obtain ⟨a1, a2⟩ := ite_ok hc (by decide)
  obtain ⟨b1, b2⟩ := ite_ok a2 (by decide)
  obtain ⟨c1, c2⟩ := ite_ok b2 (by decide)
  obtain ⟨d1, d2⟩ := ite_ok c2 (by decide)
  obtain ⟨e1, e2⟩ := ite_ok d2 (by decide)
  have f2 : (if nI (cn 22) = nI 8 then 2 else 0 : Int32) = 0 := by
    by_cases g : p4 = 0
    · rw [if_pos g] at e2; exact absurd e2 (by decide)
    · rw [if_neg g] at e2; exact e2
  obtain ⟨⟨h1, h2, h3, h4, h5, h6, h7, h8⟩, h9, h10⟩ := h
  have hlt : cn 22 < 8 := full_ok (N := 8) (by decide) h1.2.2.2.1 f2 (by decide)
  refine ⟨⟨⟨h1.1, h1.2.1, h1.2.2.1, hlt, h1.2.2.2.2⟩, h2, h3, h4, h5, h6, fun i hi => ?_, h8⟩, h9, fun i hi => h10 i (Nat.le_of_succ_le hi)⟩
  have hi2 : i < cn 22 + 1 := hi
  show (μ 28 i = 0 ∨ μ 28 i = 1) ∧ inr (upd (μ 24) (cn 22) p1 i) 0 2
  by_cases e : i = cn 22
  · subst e
    rw [upd_at]
    exact ⟨Or.inl (h10 (cn 22) (Nat.le_refl _)), b1⟩
  · rw [upd_ne e]
    exact h7 i (by show i < cn 22; omega)
theorem invF_comparison {S : mS} (h : InvF S) {p0 p1 : Int32} (hc : cd_comparison p0 p1 S = 0) : InvF (st_comparison p0 p1 S) := ⟨inv_comparison h.1 hc, h.2⟩
theorem invF_bias {S : mS} (h : InvF S) {p0 p1 : Int32} (hc : cd_bias p0 p1 S = 0) : InvF (st_bias p0 p1 S) := ⟨inv_bias h.1 hc, h.2⟩
theorem invF_clock {S : mS} (h : InvF S) {p0 p1 : Int32} : InvF (st_clock p0 p1 S) := ⟨inv_clock h.1, h.2⟩
theorem invF_zero {S : mS} (h : InvF S) {p0 : Int32} : InvF (st_zero p0 S) := ⟨inv_zero h.1, h.2⟩
theorem invF_join {S : mS} (h : InvF S) {p0 p1 : Int32} (hc : cd_join p0 p1 S = 0) : InvF (st_join p0 p1 S) := ⟨inv_join h.1 hc, h.2⟩
theorem invF_doubt {S : mS} (h : InvF S) {p0 p1 : Int32} (hb : p1 = 0 ∨ p1 = 1) : InvF (st_doubt p0 p1 S) := ⟨inv_doubt h.1 hb, h.2⟩
theorem invF_claim {S : mS} (h : InvF S) {p0 p1 : Int32} (hc : cd_claim p0 p1 S = 0) : InvF (st_claim p0 p1 S) := by
  refine ⟨inv_claim h.1 hc, ?_, h.2.2⟩
  obtain ⟨cn, sc, μ⟩ := S
  intro i hi
  have h1 := h.1.1.1
  dsimp only at h1
  have hlt := isS_lt (by show cn 1 < 2 ^ 31; omega) (ite_ok hc (by decide)).1
  have hi2 : cn 1 ≤ i := hi
  have hl2 : ix p0 < cn 1 := hlt
  exact ⟨(upd_ne (show i ≠ ix p0 by omega)).trans (h.2.1 i hi).1, (h.2.1 i hi).2⟩
theorem invF_dust {S : mS} (h : InvF S) {p0 p1 : Int32} (hc : cd_dust p0 p1 S = 0) : InvF (st_dust p0 p1 S) := by
  refine ⟨inv_dust h.1, ?_, h.2.2⟩
  obtain ⟨cn, sc, μ⟩ := S
  intro i hi
  have h1 := h.1.1.1
  dsimp only at h1
  have hlt := isS_lt (by show cn 1 < 2 ^ 31; omega) (ite_ok hc (by decide)).1
  have hi2 : cn 1 ≤ i := hi
  have hl2 : ix p0 < cn 1 := hlt
  exact ⟨(h.2.1 i hi).1, (upd_ne (show i ≠ ix p0 by omega)).trans (h.2.1 i hi).2⟩
theorem invF_withdraw {S : mS} (h : InvF S) {p0 p1 : Int32} (hb : p1 = 0 ∨ p1 = 1) (hc : cd_withdraw p0 p1 S = 0) : InvF (st_withdraw p0 p1 S) := by
  refine ⟨inv_withdraw h.1 hb, h.2.1, ?_⟩
  obtain ⟨cn, sc, μ⟩ := S
  intro i hi
  have h1 := h.1.1.2.2.2.1
  dsimp only at h1
  have hlt := isS_lt (by show cn 22 < 2 ^ 31; omega) (ite_ok hc (by decide)).1
  have hi2 : cn 22 ≤ i := hi
  have hl2 : ix p0 < cn 22 := hlt
  exact (upd_ne (show i ≠ ix p0 by omega)).trans (h.2.2 i hi)
theorem sp_low_none {f : Nat → Int32} {e : Int32} (n : Nat) (h : ∀ i, i < n → f i ≠ e) : ∀ a, sp_low f e n a = a := by
  induction n with
  | zero => intro a; rfl
  | succ n ih =>
    intro a
    rw [sp_low, if_neg (h n (by omega))]
    exact ih (fun i hi => h i (by omega)) a
theorem sp_low_some {f : Nat → Int32} {e : Int32} (n : Nat) (h : ∃ j, j < n ∧ f j = e) : ∃ j, j < n ∧ f j = e ∧ (∀ i, i < j → f i ≠ e) ∧ ∀ a, sp_low f e n a = nI j := by
  induction n with
  | zero => obtain ⟨j, hj, _⟩ := h; exact absurd hj (Nat.not_lt_zero _)
  | succ n ih =>
    by_cases g : ∃ j, j < n ∧ f j = e
    · obtain ⟨j, h1, h2, h3, h4⟩ := ih g
      exact ⟨j, by omega, h2, h3, fun a => by rw [sp_low]; exact h4 _⟩
    · have g2 : ∀ i, i < n → f i ≠ e := fun i hi q => g ⟨i, hi, q⟩
      have hn : f n = e := by
        obtain ⟨j, hj, hf⟩ := h
        by_cases q : j = n
        · rw [← q]; exact hf
        · exact absurd hf (g2 j (by omega))
      exact ⟨n, by omega, hn, g2, fun a => by rw [sp_low, if_pos hn]; exact sp_low_none n g2 _⟩
/-- every star's entry is that of the lowest star in it -/
def entOK (n : Nat) (f : Nat → Int32) : Prop := ∀ i, i < n → ∃ e : Nat, e ≤ i ∧ f i = nI e ∧ f e = nI e
theorem ren_y {f : Nat → Int32} {e v : Int32} {n i : Nat} (hi : i < n) (h : f i = e) : sp_ren f e v n i = v := if_pos ⟨hi, h⟩
theorem ren_n {f : Nat → Int32} {e v : Int32} {n i : Nat} (h : ¬ f i = e) : sp_ren f e v n i = f i := if_neg (fun g => h g.2)
theorem ent_low {n : Nat} {g : Nat → Int32} {w : Int32} (hw : ∃ j, j < n ∧ g j = w) (hg : ∀ i, i < n → ¬ g i = w → ∃ e : Nat, e ≤ i ∧ g i = nI e ∧ g e = nI e) : entOK n (sp_ren g w (sp_low g w n (-1)) n) := by
  obtain ⟨j, h1, h2, h3, h4⟩ := sp_low_some n hw
  rw [h4 (-1)]
  intro i hi
  by_cases c : g i = w
  · refine ⟨j, Nat.le_of_not_lt (fun q => h3 i q c), ren_y hi c, ren_y h1 h2⟩
  · obtain ⟨e, q1, q2, q3⟩ := hg i hi c
    have q4 : ¬ g e = w := fun q => c (q2.trans (q3.symm.trans q))
    exact ⟨e, q1, by rw [ren_n c]; exact q2, by rw [ren_n q4]; exact q3⟩
theorem ent_mrg {n a b : Nat} {f : Nat → Int32} (hf : entOK n f) (ha : a < n) (hab : ¬ f a = f b) : entOK n (sp_mrg f (f a) (f b) n) := by
  unfold sp_mrg sp_low1
  refine ent_low ⟨a, ha, by rw [ren_n hab]⟩ (fun i hi c => ?_)
  have c2 : ¬ f i = f b := fun q => c (ren_y hi q)
  rw [ren_n c2] at c ⊢
  obtain ⟨e, q1, q2, q3⟩ := hf i hi
  exact ⟨e, q1, q2, by rw [ren_n (fun q => c2 (q2.trans (q3.symm.trans q)))]; exact q3⟩
theorem ent_spl {n j : Nat} {f : Nat → Int32} (hf : entOK n f) (hj : j < n) (hn : n ≤ 12) : entOK n (sp_spl f j (nI j) n) := by
  unfold sp_spl
  obtain ⟨e0, r1, r2, r3⟩ := hf j hj
  have h12 : ¬ (12 : Int32) = f j := fun q => by
    rw [r2, show (12 : Int32) = nI 12 from rfl, nI_eq (by decide) (by omega)] at q
    omega
  intro i hi
  by_cases c : i = j
  · subst c
    exact ⟨i, Nat.le_refl _, upd_at, upd_at⟩
  · rw [upd_ne c]
    by_cases d : f i = f j
    · have d1 : upd (f) j 12 i = f j := by rw [upd_ne c]; exact d
      obtain ⟨k, h1, h2, h3, h4⟩ := sp_low_some (f := upd f j 12) (e := f j) n ⟨i, hi, d1⟩
      have hkj : k ≠ j := fun q => h12 (by subst q; rw [upd_at] at h2; exact h2)
      rw [h4 (-1)]
      exact ⟨k, Nat.le_of_not_lt (fun q => h3 i q d1), ren_y hi d1, by rw [upd_ne hkj]; exact ren_y h1 h2⟩
    · have d1 : ¬ upd (f) j 12 i = f j := by rw [upd_ne c]; exact d
      obtain ⟨e, q1, q2, q3⟩ := hf i hi
      have hej : e ≠ j := fun q => d (by rw [q2, ← q3, q])
      have d2 : ¬ upd (f) j 12 e = f j := by rw [upd_ne hej]; exact fun q => d (q2.trans (q3.symm.trans q))
      exact ⟨e, q1, by rw [ren_n d1, upd_ne c]; exact q2, by rw [upd_ne hej, ren_n d2, upd_ne hej]; exact q3⟩
theorem invF_ent {cn : Nat → Nat} {sc : Nat → Int32} {μ : Nat → Nat → Int32} {g : Nat → Int32} (h : InvF (cn, sc, μ)) (hg : entOK (cn 1) g) : InvF (cn, sc, va_up μ 3 g) := by
  obtain ⟨⟨h1, h2, h3, h4⟩, h5⟩ := h
  exact ⟨⟨h1, h2, fun i hi => ⟨(h3 i hi).1, hg i hi, (h3 i hi).2.2⟩, h4⟩, h5⟩
theorem InvF.ent {cn : Nat → Nat} {sc : Nat → Int32} {μ : Nat → Nat → Int32} (h : InvF (cn, sc, μ)) : entOK (cn 1) (μ 3) := fun i hi => (h.1.2.2.1 i hi).2.1
theorem invF_merge {S : mS} (h : InvF S) {p0 p1 : Int32} (hc : cd_merge p0 p1 S = 0) : InvF (st_merge p0 p1 S) := by
  obtain ⟨cn, sc, μ⟩ := S
  obtain ⟨a1, a2⟩ := ite_ok hc (by decide)
  obtain ⟨b1, b2⟩ := ite_ok a2 (by decide)
  have h1 := h.1.1.1
  dsimp only at h1
  have hlt := isS_lt (by show cn 1 < 2 ^ 31; omega) a1
  refine invF_ent h (ent_mrg h.ent hlt (fun q => ?_))
  have b3 : (if μ 3 (ix p0) = μ 3 (ix p1) then 2 else 0 : Int32) = 0 := b2
  rw [if_pos q] at b3
  exact absurd b3 (by decide)
theorem invF_split {S : mS} (h : InvF S) {p0 : Int32} (hc : cd_split p0 S = 0) : InvF (st_split p0 S) := by
  obtain ⟨cn, sc, μ⟩ := S
  obtain ⟨a1, a2⟩ := ite_ok hc (by decide)
  have h1 := h.1.1.1
  dsimp only at h1
  obtain ⟨j, hj, rfl⟩ := isS_ix (by show cn 1 < 2 ^ 31; omega) a1
  have hj2 : j < cn 1 := hj
  have h9 := invF_ent h (ent_spl h.ent hj2 h1)
  show InvF (cn, sc, va_up μ 3 (sp_spl (μ 3) (ix (nI j)) (nI j) (cn 1)))
  rw [ix_nI (by omega)]
  exact h9
theorem invF_density {S : mS} (h : InvF S) {p0 p1 p2 : Int32} (hc : cd_density p0 p1 p2 S = 0) : InvF (st_density p0 p1 p2 S) := by
  obtain ⟨cn, sc, μ⟩ := S
  obtain ⟨a1, a2⟩ := ite_ok hc (by decide)
  obtain ⟨b1, b2⟩ := ite_ok a2 (by decide)
  obtain ⟨c1, c2⟩ := ite_ok b2 (by decide)
  obtain ⟨⟨h1, h2, h3, h4, h5, h6, h7⟩, h9⟩ := h
  have hlt : cn 12 < 80 := full_ok (N := 80) (by decide) h1.2.2.1 c2 (by decide)
  refine ⟨⟨⟨h1.1, h1.2.1, hlt, h1.2.2.2⟩, h2, h3, h4, h5, fun k hk => ?_, h7⟩, h9⟩
  have hk2 : k < cn 12 + 1 := hk
  show isS (cn 1) (upd (μ 14) (cn 12) p0 k) ∧ (upd (μ 21) (cn 12) 0 k = 0 ∨ upd (μ 21) (cn 12) 0 k = 1) ∧ ((upd (μ 13) (cn 12) 1 k = 0 ∧ inr (upd (μ 15) (cn 12) p1 k) 0 7 ∧ inr (upd (μ 16) (cn 12) p2 k) 0 9999999 ∧ inr (μ 17 k) 0 9 ∧ inr (μ 18 k) 0 9 ∧ inr (μ 19 k) 0 9 ∧ 0 < μ 18 k + μ 19 k ∧ inr (μ 20 k) 0 9) ∨ (upd (μ 13) (cn 12) 1 k = 1 ∧ isS (cn 8) (upd (μ 15) (cn 12) p1 k) ∧ inr (upd (μ 16) (cn 12) p2 k) 0 255))
  by_cases e : k = cn 12
  · subst e
    rw [upd_at, upd_at, upd_at, upd_at, upd_at]
    exact ⟨a1, Or.inl rfl, Or.inr ⟨rfl, b1, c1⟩⟩
  · rw [upd_ne e, upd_ne e, upd_ne e, upd_ne e, upd_ne e]
    exact h6 k (by show k < cn 12; omega)
theorem ite_no {a : Prop} [Decidable a] {b c : Int32} (h : (if a then b else c) = 0) (hb : b ≠ 0) : ¬ a ∧ c = 0 := by
  by_cases g : a
  · rw [if_pos g] at h; exact absurd h hb
  · rw [if_neg g] at h; exact ⟨g, h⟩
theorem invF_step {S : mS} (h : InvF S) {p0 p1 p2 p3 p4 p5 p6 : Int32} (hc : cd_step p0 p1 p2 p3 p4 p5 p6 S = 0) : InvF (st_step p0 p1 p2 p3 p4 p5 p6 S) := by
  obtain ⟨cn, sc, μ⟩ := S
  obtain ⟨a1, a2⟩ := ite_ok hc (by decide)
  obtain ⟨b1, b2⟩ := ite_ok a2 (by decide)
  obtain ⟨c1, c2⟩ := ite_ok b2 (by decide)
  obtain ⟨d1, d2⟩ := ite_ok c2 (by decide)
  obtain ⟨e1, e2⟩ := ite_ok d2 (by decide)
  obtain ⟨f1, f2⟩ := ite_ok e2 (by decide)
  obtain ⟨g1, g2⟩ := ite_ok f2 (by decide)
  obtain ⟨i1, i2⟩ := ite_no g2 (by decide)
  obtain ⟨j1, j2⟩ := ite_no i2 (by decide)
  obtain ⟨⟨h1, h2, h3, h4, h5, h6, h7⟩, h9⟩ := h
  have hlt : cn 12 < 80 := full_ok (N := 80) (by decide) h1.2.2.1 j2 (by decide)
  refine ⟨⟨⟨h1.1, h1.2.1, hlt, h1.2.2.2⟩, h2, h3, h4, h5, fun k hk => ?_, h7⟩, h9⟩
  have hk2 : k < cn 12 + 1 := hk
  show isS (cn 1) (upd (μ 14) (cn 12) p0 k) ∧ (upd (μ 21) (cn 12) 0 k = 0 ∨ upd (μ 21) (cn 12) 0 k = 1) ∧ ((upd (μ 13) (cn 12) 0 k = 0 ∧ inr (upd (μ 15) (cn 12) p1 k) 0 7 ∧ inr (upd (μ 16) (cn 12) p2 k) 0 9999999 ∧ inr (upd (μ 17) (cn 12) p3 k) 0 9 ∧ inr (upd (μ 18) (cn 12) p4 k) 0 9 ∧ inr (upd (μ 19) (cn 12) p5 k) 0 9 ∧ 0 < upd (μ 18) (cn 12) p4 k + upd (μ 19) (cn 12) p5 k ∧ inr (upd (μ 20) (cn 12) p6 k) 0 9) ∨ (upd (μ 13) (cn 12) 0 k = 1 ∧ isS (cn 8) (upd (μ 15) (cn 12) p1 k) ∧ inr (upd (μ 16) (cn 12) p2 k) 0 255))
  by_cases e : k = cn 12
  · subst e
    rw [upd_at, upd_at, upd_at, upd_at, upd_at, upd_at, upd_at, upd_at, upd_at]
    exact ⟨a1, Or.inl rfl, Or.inl ⟨rfl, b1, e1, c1, f1, g1, Int32.not_le.mp i1, d1⟩⟩
  · rw [upd_ne e, upd_ne e, upd_ne e, upd_ne e, upd_ne e, upd_ne e, upd_ne e, upd_ne e, upd_ne e]
    exact h6 k (by show k < cn 12; omega)
/-- the world at the start -/
def S0 : mS := (fun _ => 0, fun _ => 0, fun k => if k = 0 then fun i => if i < 10 then 1000 else 0 else fun _ => 0)
theorem invF_S0 : InvF S0 := by
  refine ⟨⟨⟨by decide, by decide, by decide, by decide, by decide⟩, fun i hi => ?_, fun i hi => absurd hi (Nat.not_lt_zero _), fun i hi => ?_, fun i hi => absurd hi (Nat.not_lt_zero _), fun i hi => absurd hi (Nat.not_lt_zero _), fun i hi => absurd hi (Nat.not_lt_zero _), fun i hi => absurd hi (Nat.not_lt_zero _)⟩, fun i _ => ⟨rfl, rfl⟩, fun i _ => rfl⟩
  · show inr (if i < 10 then 1000 else 0) (-200) 2000
    rw [if_pos hi]
    decide
  · show inr 0 (-99) 99
    decide
/-- where the model's rows lie, behind the first free cell -/
def midx (k : Nat) : Nat := [0, 0, 1, 2, 3, 4, 5, 6, 0, 7, 8, 9, 0, 10, 11, 12, 13, 14, 15, 16, 17, 18, 0, 19, 20, 21, 22, 23, 24, 0, 25, 26, 0, 0, 0, 27, 28, 29, 0, 30, 31, 32].getD k 0
theorem midx_inj : ∀ j, j < 42 → ∀ k, k < 42 → 0 < mlen j → 0 < mlen k → midx j = midx k → j = k := by decide +kernel
theorem mlen_42 {k : Nat} (h : 0 < mlen k) : k < 42 := by
  refine Nat.lt_of_not_le (fun g => ?_)
  unfold mlen at h
  rw [List.getD_eq_getElem?_getD, List.getElem?_eq_none (by simpa using g)] at h
  exact absurd h (by decide)
def mz : Nat → Nat → Int32 := fun _ _ => 0
theorem va_up_id {μ : Nat → Nat → Int32} {k : Nat} : va_up μ k (μ k) = μ := by
  funext j
  unfold va_up
  by_cases e : j = k
  · rw [if_pos e, e]
  · rw [if_neg e]
