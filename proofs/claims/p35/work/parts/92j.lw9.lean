/-! ===== the stars: what the law compares ===== -/
theorem l_or : ∀ m : Nat, m < 16 → ∀ k : Nat, k < 16 → nI m ||| nI k = nI (m ||| k) := by decide +kernel
theorem or_lt : ∀ m : Nat, m < 16 → ∀ k : Nat, k < 16 → m ||| k < 16 := by decide +kernel
theorem msk_or {n : Nat} {f : Nat → Int32} {m1 m2 : Nat} {e1 e2 : Int32} (hne : ∀ j, j < n → ¬ f j = -1) (h1 : mskR n f m1 e1 (-1)) (h2 : mskR n f m2 e2 (-1)) : mskR n f (m1 ||| m2) e1 e2 := by
  refine ⟨or_lt m1 h1.1 m2 h2.1, fun k hk => ?_⟩
  rw [Nat.testBit_or, Bool.or_eq_true, h1.2 k hk, h2.2 k hk]
  constructor
  · intro h
    rcases h with ⟨a, b⟩ | ⟨a, b⟩
    · exact ⟨a, Or.inl (b.resolve_right (hne k a))⟩
    · exact ⟨a, Or.inr (b.resolve_right (hne k a))⟩
  · intro h
    rcases h.2 with b | b
    · exact Or.inl ⟨h.1, Or.inl b⟩
    · exact Or.inr ⟨h.1, Or.inl b⟩
theorem ent_ne {S : mS} (hI : InvF S) (hn : S.1 1 ≤ 4) : ∀ j, j < S.1 1 → ¬ S.2.2 3 j = -1 := fun j hj g => by
  obtain ⟨-, ⟨x, hx, h1, -⟩, -⟩ := hI.1.2.2.1 j hj
  rw [h1] at g
  exact absurd (congrArg Int32.toInt g) (by rw [nI_toInt (by omega)]; show ¬ (x : Int) = -1; omega)
theorem ent_pos {S : mS} (hI : InvF S) (hn : S.1 1 ≤ 4) {j : Nat} (hj : j < S.1 1) : 0 ≤ S.2.2 3 j := by
  obtain ⟨-, ⟨x, hx, h1, -⟩, -⟩ := hI.1.2.2.1 j hj
  rw [h1]
  exact nI_pos' (by omega)
theorem star_cd {S : mS} {k : Nat} (hk : k < S.1 1) (hn : S.1 1 ≤ 4) : cd_entry (nI k) S = 0 := by
  unfold cd_entry
  rw [if_pos (isS_nI hk (by omega))]
theorem star_an {S : mS} {k : Nat} (hk : k < 4) : an_entry (nI k) S = S.2.2 3 k := by
  unfold an_entry
  rw [ix_nI (by omega)]
theorem str_cd {S : mS} {k P : Nat} (hk : k < S.1 1) (hn : S.1 1 ≤ 4) (h1 : 30 ≤ P) (h2 : P ≤ 1000000) : cd_string (nI k) (nI P) S = 0 := by
  unfold cd_string
  rw [if_pos (isS_nI hk (by omega)), if_pos (show inr (nI P) 30 1000000 from inr_nI (a := 30) (b := 1000000) h1 h2 (by omega))]
theorem str_an {S : mS} {k : Nat} {P : Int32} (hk : k < 4) : an_string (nI k) P S = sp_str S.2.2 (sp_sel S.2.2 (S.2.2 3 k) (-1) (S.1 12)) P := by
  unfold an_string
  rw [ix_nI (by omega)]
theorem tog_cd {S : mS} {k j P : Nat} (hk : k < S.1 1) (hj : j < S.1 1) (hn : S.1 1 ≤ 4) (h1 : 30 ≤ P) (h2 : P ≤ 1000000) : cd_together (nI k) (nI j) (nI P) S = 0 := by
  unfold cd_together
  rw [if_pos (isS_nI hk (by omega)), if_pos (isS_nI hj (by omega)), if_pos (show inr (nI P) 30 1000000 from inr_nI (a := 30) (b := 1000000) h1 h2 (by omega))]
theorem tog_an {S : mS} {k j : Nat} {P : Int32} (hk : k < 4) (hj : j < 4) : an_together (nI k) (nI j) P S = sp_str S.2.2 (sp_sel S.2.2 (S.2.2 3 k) (S.2.2 3 j) (S.1 12)) P := by
  unfold an_together
  rw [ix_nI (by omega), ix_nI (by omega)]
theorem mean_y {S : mS} {k : Nat} (hk : k < S.1 1) (hn : S.1 1 ≤ 4) (h : 0 < (sp_sel S.2.2 (S.2.2 3 k) (-1) (S.1 12)).length) (h2 : (sp_sel S.2.2 (S.2.2 3 k) (-1) (S.1 12)).length < 2 ^ 31) {a1 a2 a3 : Int32} : dv (cd_mean (nI k) S) (an_mean (nI k) S) a1 a2 a3 = sp_mn S.2.2 (sp_sel S.2.2 (S.2.2 3 k) (-1) (S.1 12)) := by
  refine (dv_0 ?_).trans ?_
  · unfold cd_mean selS
    rw [if_pos (isS_nI hk (by omega)), ix_nI (by omega), if_neg (nI_ne0 h h2)]
  · unfold an_mean selS
    rw [ix_nI (by omega)]
theorem mean_n {S : mS} {k : Nat} (hk : k < S.1 1) (hn : S.1 1 ≤ 4) (h : (sp_sel S.2.2 (S.2.2 3 k) (-1) (S.1 12)).length = 0) {a1 a2 a3 : Int32} : dv (cd_mean (nI k) S) (an_mean (nI k) S) a1 a2 a3 = a2 := by
  refine dv_2 ?_
  unfold cd_mean selS
  rw [if_pos (isS_nI hk (by omega)), ix_nI (by omega), h, nI_0, if_pos rfl]
/-- an entry that has looks and a claim -/
def canS (S : mS) (e : Int32) : Prop := 0 < (sp_sel S.2.2 e (-1) (S.1 12)).length ∧ 0 < sp_clm (S.2.2 3) (S.2.2 4) e (S.1 1) 0
theorem hf_y {S : mS} {e : Int32} (h : canS S e) (hn : S.1 12 ≤ 24) : ¬ sp_hf S e = 0 := by
  have := sp_sel_le (μ := S.2.2) (e1 := e) (e2 := -1) (S.1 12)
  unfold sp_hf
  rw [if_pos ⟨nI_gt0 h.1 (by omega), h.2⟩]
  decide
theorem hf_n {S : mS} {e : Int32} (h : ¬ canS S e) : sp_hf S e = 0 := by
  by_cases g : sp_hf S e = 0
  · exact g
  · exact absurd (sp_hf_1 g) h
section
variable {S : mS} {k j : Nat} {a1 a2 a3 : Int32}
theorem modu_y (hk : k < S.1 1) (hn : S.1 1 ≤ 4) (hn2 : S.1 12 ≤ 24) (h : canS S (S.2.2 3 k)) : dv (cd_modulus (nI k) S) (an_modulus (nI k) S) a1 a2 a3 = mdS S (S.2.2 3 k) := by
  refine (dv_0 ?_).trans ?_
  · unfold cd_modulus
    rw [if_pos (isS_nI hk (by omega)), ix_nI (by omega), if_neg (hf_y h hn2)]
  · unfold an_modulus
    rw [ix_nI (by omega)]
theorem modu_n (hk : k < S.1 1) (hn : S.1 1 ≤ 4) (h : ¬ canS S (S.2.2 3 k)) : dv (cd_modulus (nI k) S) (an_modulus (nI k) S) a1 a2 a3 = a2 := by
  refine dv_2 ?_
  unfold cd_modulus
  rw [if_pos (isS_nI hk (by omega)), ix_nI (by omega), if_pos (hf_n h)]
theorem vote_y (hk : k < S.1 1) (hn : S.1 1 ≤ 4) (hn2 : S.1 12 ≤ 24) (hj : j < 5) (h : canS S (S.2.2 3 k)) : dv (cd_votes (nI k) (nI j) S) (an_votes (nI k) (nI j) S) a1 a2 a3 = vtS S (S.2.2 3 k) (nI j) := by
  refine (dv_0 ?_).trans ?_
  · unfold cd_votes
    rw [if_pos (isS_nI hk (by omega)), if_pos (show inr (nI j) 0 4 from inr_nI (a := 0) (b := 4) (by omega) (by omega) (by omega)), ix_nI (by omega), if_neg (hf_y h hn2)]
  · unfold an_votes
    rw [ix_nI (by omega)]
theorem vote_n (hk : k < S.1 1) (hn : S.1 1 ≤ 4) (hj : j < 5) (h : ¬ canS S (S.2.2 3 k)) : dv (cd_votes (nI k) (nI j) S) (an_votes (nI k) (nI j) S) a1 a2 a3 = a3 := by
  refine dv_3 ?_
  unfold cd_votes
  rw [if_pos (isS_nI hk (by omega)), if_pos (show inr (nI j) 0 4 from inr_nI (a := 0) (b := 4) (by omega) (by omega) (by omega)), ix_nI (by omega), if_pos (hf_n h)]
theorem feat_y (hk : k < S.1 1) (hn : S.1 1 ≤ 4) (hn2 : S.1 12 ≤ 24) (hj : j < 3) (h : canS S (S.2.2 3 k)) : dv (cd_feature (nI k) (nI j) S) (an_feature (nI k) (nI j) S) a1 a2 a3 = sp_ft S.2.2 (sp_sel S.2.2 (S.2.2 3 k) (-1) (S.1 12)) (sp_clm (S.2.2 3) (S.2.2 4) (S.2.2 3 k) (S.1 1) 0) (nI j) := by
  refine (dv_0 ?_).trans ?_
  · unfold cd_feature
    rw [if_pos (isS_nI hk (by omega)), if_pos (show inr (nI j) 0 2 from inr_nI (a := 0) (b := 2) (by omega) (by omega) (by omega)), ix_nI (by omega), if_neg (hf_y h hn2)]
  · unfold an_feature
    rw [ix_nI (by omega)]
    rfl
theorem feat_n (hk : k < S.1 1) (hn : S.1 1 ≤ 4) (hj : j < 3) (h : ¬ canS S (S.2.2 3 k)) : dv (cd_feature (nI k) (nI j) S) (an_feature (nI k) (nI j) S) a1 a2 a3 = a3 := by
  refine dv_3 ?_
  unfold cd_feature
  rw [if_pos (isS_nI hk (by omega)), if_pos (show inr (nI j) 0 2 from inr_nI (a := 0) (b := 2) (by omega) (by omega) (by omega)), ix_nI (by omega), if_pos (hf_n h)]
theorem kind_y (hk : k < S.1 1) (hn : S.1 1 ≤ 4) (hn2 : S.1 12 ≤ 24) (h : canS S (S.2.2 3 k)) {b m : Int32} (hb : sp_kd (fun z => vtS S (S.2.2 3 k) (nI z)) 5 = (b, m)) : dv (cd_kind (nI k) S) (an_kind (nI k) S) a1 a2 a3 = b := by
  refine (dv_0 ?_).trans ?_
  · unfold cd_kind
    rw [if_pos (isS_nI hk (by omega)), ix_nI (by omega), if_neg (hf_y h hn2)]
  · unfold an_kind
    rw [ix_nI (by omega), hb]
theorem kind_n (hk : k < S.1 1) (hn : S.1 1 ≤ 4) (h : ¬ canS S (S.2.2 3 k)) : dv (cd_kind (nI k) S) (an_kind (nI k) S) a1 a2 a3 = a2 := by
  refine dv_2 ?_
  unfold cd_kind
  rw [if_pos (isS_nI hk (by omega)), ix_nI (by omega), if_pos (hf_n h)]
end
theorem kd_y {V : Nat → Int32} {k : Nat} {b m v : Int32} (h : sp_kd V k = (b, m)) (hv : v = V k) (c : ¬ v ≤ m) : sp_kd V (k + 1) = (nI k, v) := by
  have c2 : m < V k := by rw [← hv]; exact Int32.not_le.mp c
  rw [sp_kd, h, if_pos c2, if_pos c2, hv]
theorem kd_n {V : Nat → Int32} {k : Nat} {b m v : Int32} (h : sp_kd V k = (b, m)) (hv : v = V k) (c : v ≤ m) : sp_kd V (k + 1) = (b, m) := by
  have c2 : ¬ m < V k := by rw [← hv]; exact Int32.not_lt.mpr c
  rw [sp_kd, h, if_neg c2, if_neg c2]
/-- how many entries there are among the first n stars -/
def ecN (f : Nat → Int32) : Nat → Nat
  | 0 => 0
  | j + 1 => if f j = nI j then ecN f j + 1 else ecN f j
theorem ecN_le (f : Nat → Int32) : ∀ n, ecN f n ≤ n := by
  intro n
  induction n with
  | zero => exact Nat.le_refl _
  | succ n ih =>
    rw [ecN]
    by_cases c : f n = nI n
    · rw [if_pos c]; omega
    · rw [if_neg c]; omega
theorem ecN_mono {f : Nat → Int32} {i j : Nat} (h : i ≤ j) : ecN f i ≤ ecN f j := by
  obtain ⟨d, rfl⟩ : ∃ d, j = i + d := ⟨j - i, by omega⟩
  clear h
  induction d with
  | zero => exact Nat.le_refl _
  | succ d ih =>
    rw [← Nat.add_assoc, ecN]
    by_cases c : f (i + d) = nI (i + d)
    · rw [if_pos c]; omega
    · rw [if_neg c]; exact ih
theorem ec_y {f : Nat → Int32} {k : Nat} (h : f k = nI k) : nI (ecN f k) + 1 = nI (ecN f (k + 1)) := by rw [ecN, if_pos h, nI_1]
theorem ec_n {f : Nat → Int32} {k : Nat} (h : ¬ f k = nI k) : nI (ecN f k) = nI (ecN f (k + 1)) := by rw [ecN, if_neg h]
theorem ent_go {f : Nat → Int32} {p : Int32} {n : Nat} : ∀ k, k ≤ n → (∀ j, j < k → f j = nI j → ¬ nI (ecN f j) = p) → sp_ent f p n 0 0 = sp_ent f p (n - k) k (ecN f k) := by
  intro k
  induction k with
  | zero => intro _ _; rfl
  | succ k ih =>
    intro hk h
    rw [ih (by omega) (fun j hj => h j (by omega)), ecN]
    by_cases c : f k = nI k
    · rw [if_pos c, hent_a (by omega) c (h k (by omega) c)]
    · rw [if_neg c, hent_b (by omega) c]
theorem ent_at {f : Nat → Int32} {n k : Nat} (hk : k < n) (hn : n ≤ 4) (h : f k = nI k) : sp_ent f (nI (ecN f k)) n 0 0 = nI k := by
  rw [ent_go (n := n) k (by omega) (fun j hj hj2 g => ?_), hent_c hk h rfl]
  have h1 := ecN_le f n
  have h2 : ecN f (j + 1) ≤ ecN f k := ecN_mono (by omega)
  rw [ecN, if_pos hj2] at h2
  have h3 : ecN f k ≤ ecN f n := ecN_mono (by omega)
  have := (nI_eq (by omega) (by omega)).mp g
  omega
theorem ent_m1 {f : Nat → Int32} {n : Nat} (hn : n ≤ 4) : sp_ent f (-1) n 0 0 = nI (ecN f n) := by
  rw [ent_go (n := n) n (Nat.le_refl _) (fun j hj hj2 g => ?_), hent_d (Nat.le_refl _), if_pos rfl]
  have h1 := ecN_le f j
  exact absurd (congrArg Int32.toInt g) (by rw [nI_toInt (by omega)]; show ¬ (ecN f j : Int) = -1; omega)
theorem ent_end {f : Nat → Int32} {n : Nat} (hn : n ≤ 4) : sp_ent f (nI (ecN f n)) n 0 0 = -1 := by
  have h1 := ecN_le f n
  rw [ent_go (n := n) n (Nat.le_refl _) (fun j hj hj2 g => ?_), hent_d (Nat.le_refl _), if_neg]
  · intro g
    exact absurd (congrArg Int32.toInt g) (by rw [nI_toInt (by omega)]; show ¬ (ecN f n : Int) = -1; omega)
  · have h2 : ecN f (j + 1) ≤ ecN f n := ecN_mono (by omega)
    rw [ecN, if_pos hj2] at h2
    have := (nI_eq (by omega) (by omega)).mp g
    omega
theorem ents_cd {m : Nat} {S : mS} (h : m < 2 ^ 31) : cd_entries (nI m) S = 0 := if_pos (neg1_le h)
theorem ents_cm {S : mS} : cd_entries (-1) S = 0 := if_pos (Int32.le_refl _)
