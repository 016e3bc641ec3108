/-! ===== looks, trials: what the law compares ===== -/
theorem look_cd {S : mS} {k : Nat} {w : Int32} (hk : k < S.1 12) (hn : S.1 12 ≤ 24) (hw : inr w 0 5) : cd_look (nI k) w S = 0 := by
  unfold cd_look
  rw [if_pos (show isS (S.1 12) (nI k) from ⟨nI_pos' (by omega), nI_lt hk (by omega)⟩), if_pos hw]
theorem lk0 {S : mS} {k : Nat} (hk : k < 2 ^ 31) : an_look (nI k) 0 S = sp_raw S.2.2 k := by
  unfold an_look
  rw [if_pos rfl, ix_nI hk]
theorem lk1 {S : mS} {k : Nat} (hk : k < 2 ^ 31) : an_look (nI k) 1 S = sp_light S.2.2 k := by
  unfold an_look
  rw [if_neg (by decide), if_pos rfl, ix_nI hk]
theorem lk2 {S : mS} {k : Nat} (hk : k < 2 ^ 31) : an_look (nI k) 2 S = sp_time S.2.2 k := by
  unfold an_look
  rw [if_neg (by decide), if_neg (by decide), if_pos rfl, ix_nI hk]
theorem lk3 {S : mS} {k : Nat} (hk : k < 2 ^ 31) : an_look (nI k) 3 S = S.2.2 14 k := by
  unfold an_look
  rw [if_neg (by decide), if_neg (by decide), if_neg (by decide), if_pos rfl, ix_nI hk]
theorem lk4 {S : mS} {k d : Nat} (hk : k < 2 ^ 31) (hd : d < 2) (h : S.2.2 21 k = nI d) : an_look (nI k) 4 S = nI d := by
  unfold an_look
  rw [if_neg (by decide), if_neg (by decide), if_neg (by decide), if_neg (by decide), if_pos rfl, ix_nI hk, h]
  rcases (show d = 0 ∨ d = 1 by omega) with g | g <;> subst g <;> decide
theorem lk5 {S : mS} {k : Nat} (hk : k < 2 ^ 31) : an_look (nI k) 5 S = S.2.2 13 k := by
  unfold an_look
  rw [if_neg (by decide), if_neg (by decide), if_neg (by decide), if_neg (by decide), if_neg (by decide), ix_nI hk]
theorem inr_nI {x a b : Nat} (h1 : a ≤ x) (h2 : x ≤ b) (hb : b < 2 ^ 31) : inr (nI x) (nI a) (nI b) := ⟨nI_le h1 (by omega), nI_le h2 hb⟩
theorem isS_nI {n k : Nat} (hk : k < n) (hn : n < 2 ^ 31) : isS n (nI k) := ⟨nI_pos' (by omega), nI_lt hk hn⟩
theorem bestA_1 {fr st : Int32} {s : Int32 → Int32} : bestA fr st s 1 = (fr, s fr) := by
  show (if s (trI fr st 0) < s fr then trI fr st 0 else fr, if s (trI fr st 0) < s fr then s (trI fr st 0) else s fr) = _
  rw [trI_0, if_neg Int32.lt_irrefl, if_neg Int32.lt_irrefl]
theorem bestA_y {fr st : Int32} {s : Int32 → Int32} {i : Nat} {b l x : Int32} (h : bestA fr st s i = (b, l)) (hx : trI fr st i = x) (c : ¬ l ≤ s x) : bestA fr st s (i + 1) = (x, s x) := by
  have c2 := Int32.not_le.mp c
  rw [bestA, h, hx, if_pos c2, if_pos c2]
theorem bestA_n {fr st : Int32} {s : Int32 → Int32} {i : Nat} {b l x : Int32} (h : bestA fr st s i = (b, l)) (hx : trI fr st i = x) (c : l ≤ s x) : bestA fr st s (i + 1) = (b, l) := by
  have c2 : ¬ s x < l := Int32.not_lt.mpr c
  rw [bestA, h, hx, if_neg c2, if_neg c2]
theorem bestA_2 {fr st : Int32} {s : Int32 → Int32} (n : Nat) : (bestA fr st s n).2 = s (bestA fr st s n).1 := by
  induction n with
  | zero => rfl
  | succ n ih =>
    rw [bestA]
    by_cases c : s (trI fr st n) < (bestA fr st s n).2
    · rw [if_pos c, if_pos c]
    · rw [if_neg c, if_neg c]; exact ih
theorem al_y {fr st pc : Int32} {s : Int32 → Int32} {b l x : Int32} {i : Nat} (hs : ∀ P, 0 ≤ (s P).toInt ∧ (s P).toInt ≤ 3520000) (hp : inr pc 0 50) (hx : trI fr st i = x) (hl : l = s b) (c1 : ¬ x = b) (c2 : ¬ (100 + pc) * l < 100 * s x) : alA fr st pc s b i + 1 = alA fr st pc s b (i + 1) := by
  rw [alA, hx, if_pos ⟨c1, fun g => c2 (by rw [hl]; exact (al_le (hs x) (hs b) hp).mpr g)⟩]
theorem al_n {fr st pc : Int32} {s : Int32 → Int32} {b l x : Int32} {i : Nat} (hs : ∀ P, 0 ≤ (s P).toInt ∧ (s P).toInt ≤ 3520000) (hp : inr pc 0 50) (hx : trI fr st i = x) (hl : l = s b) (c : x = b ∨ (100 + pc) * l < 100 * s x) : alA fr st pc s b i + 0 = alA fr st pc s b (i + 1) := by
  rw [alA, hx, if_neg]
  intro g
  rcases c with c | c
  · exact g.1 c
  · rw [hl] at c
    exact g.2 ((al_le (hs x) (hs b) hp).mp c)
theorem tr_at {fr ss st r : Nat} (hf : fr ≤ 2100) (hss : ss ≤ 12) (h1 : 1 ≤ st) (h2 : st ≤ 300) (hr : r < st) (h30 : 30 ≤ fr) :
    trN (nI fr) (nI (fr + ss * st + r)) (nI st) = ss + 1 ∧ trOK (nI fr) (nI (fr + ss * st + r)) (nI st) ∧ (nI (fr + ss * st + r) - nI fr) / nI st + 1 ≤ 200 := by
  have hm : ss * st ≤ 12 * 300 := Nat.mul_le_mul hss h2
  have e1 : nI (fr + ss * st + r) - nI fr = nI (ss * st + r) := by rw [nI_sub (by omega)]; congr 1; omega
  have e2 : (ss * st + r) / st = ss := by
    rw [Nat.add_comm, Nat.add_mul_div_right _ _ (by omega), Nat.div_eq_of_lt hr, Nat.zero_add]
  have e3 : nI (ss * st + r) / nI st = nI ss := by rw [pk_div (by omega) (by omega) (by omega), e2]
  refine ⟨?_, ⟨inr_nI (a := 30) (b := 1000000) h30 (by omega) (by omega), inr_nI (b := 1000000) (by omega) (by omega) (by omega), inr_nI (a := 1) (b := 1000000) h1 (by omega) (by omega)⟩, ?_⟩
  · unfold trN
    rw [e1, e3, ix_nI (by omega)]
  · rw [e1, e3, nI_1]
    exact nI_le (b := 200) (by omega) (by omega)
theorem per_at {S : mS} (hn : S.1 1 ≤ 4) {s9 fr ss st r : Nat} (hs : s9 < S.1 1) (hf : fr ≤ 2100) (hss : ss ≤ 12) (h1 : 1 ≤ st) (h2 : st ≤ 300) (hr : r < st) (h30 : 30 ≤ fr) {b l : Int32} (hb : bestA (nI fr) (nI st) (sp_str S.2.2 (sp_sel S.2.2 (S.2.2 3 s9) (-1) (S.1 12))) (ss + 1) = (b, l)) {a1 a2 a3 : Int32} :
    dv (cd_period (nI s9) (nI fr) (nI (fr + ss * st + r)) (nI st) S) (an_period (nI s9) (nI fr) (nI (fr + ss * st + r)) (nI st) S) a1 a2 a3 = if 3 ≤ nI (sp_sel S.2.2 (S.2.2 3 s9) (-1) (S.1 12)).length then b else a3 := by
  obtain ⟨e1, e2, e3⟩ := tr_at hf hss h1 h2 hr h30
  have ec := sp_tr_yes (S := S) (si := nI s9) (ok := 1) (isS_nI hs (by omega)) (by decide) e2 e3
  rw [ix_nI (show s9 < 2 ^ 31 by omega)] at ec
  unfold cd_period an_period
  rw [ec, e1, ix_nI (show s9 < 2 ^ 31 by omega), hb]
  by_cases c : 3 ≤ nI (sp_sel S.2.2 (S.2.2 3 s9) (-1) (S.1 12)).length
  · rw [if_pos c, if_pos c]; rfl
  · rw [if_neg c, if_neg c]; rfl
theorem ali_at {S : mS} (hn : S.1 1 ≤ 4) {s9 fr ss st r pc : Nat} (hs : s9 < S.1 1) (hf : fr ≤ 2100) (hss : ss ≤ 12) (h1 : 1 ≤ st) (h2 : st ≤ 300) (hr : r < st) (h30 : 30 ≤ fr) (hpc : pc ≤ 50) {b l : Int32} (hb : bestA (nI fr) (nI st) (sp_str S.2.2 (sp_sel S.2.2 (S.2.2 3 s9) (-1) (S.1 12))) (ss + 1) = (b, l)) {a1 a2 a3 : Int32} :
    dv (cd_aliases (nI s9) (nI fr) (nI (fr + ss * st + r)) (nI st) (nI pc) S) (an_aliases (nI s9) (nI fr) (nI (fr + ss * st + r)) (nI st) (nI pc) S) a1 a2 a3 = if 3 ≤ nI (sp_sel S.2.2 (S.2.2 3 s9) (-1) (S.1 12)).length then alA (nI fr) (nI st) (nI pc) (sp_str S.2.2 (sp_sel S.2.2 (S.2.2 3 s9) (-1) (S.1 12))) b (ss + 1) else a3 := by
  obtain ⟨e1, e2, e3⟩ := tr_at hf hss h1 h2 hr h30
  have ec := sp_tr_yes (S := S) (si := nI s9) (ok := if inr (nI pc) 0 50 then 1 else 0) (isS_nI hs (by omega)) (by rw [if_pos (show inr (nI pc) 0 50 from inr_nI (a := 0) (b := 50) (by omega) hpc (by omega))]; decide) e2 e3
  rw [ix_nI (show s9 < 2 ^ 31 by omega)] at ec
  unfold cd_aliases an_aliases
  rw [ec, e1, ix_nI (show s9 < 2 ^ 31 by omega), hb]
  by_cases c : 3 ≤ nI (sp_sel S.2.2 (S.2.2 3 s9) (-1) (S.1 12)).length
  · rw [if_pos c, if_pos c]; rfl
  · rw [if_neg c, if_neg c]; rfl
/-! ===== the ladder ===== -/
theorem near_rank {a b : Nat → Int32} {N k : Nat} (hN : N ≤ 12) (hk : k < N) (ha : ¬ a k = 0) : nrA a b N (cntN a b k N) N 0 = nI k := by
  obtain ⟨B, eB⟩ : ∃ B, B = sSort b [] (ladL a N) := ⟨_, rfl⟩
  have hp : B.Perm (ladL a N) := by rw [eB]; exact sSort_perm _ _ []
  have hB : B.Pairwise (bef b (fun x y => x < y)) := by
    rw [eB]
    exact sSort_bef List.Pairwise.nil (fun a h => absurd h List.not_mem_nil) (ladL_up N)
  obtain ⟨p, hp1, hp2⟩ := mem_getD (hp.mem_iff.mpr (ladL_mem.mpr ⟨hk, ha⟩))
  have hc : cntN a b k N = nI p := by
    rw [cntN_list (by omega) N (by omega), ← hp.countP_eq, hp2, pw_count (fun a b => bef_asym (fun _ _ h g => absurd g (by omega)) a b) hB p hp1]
  have hl : B.length = (ladL a N).length := hp.length_eq
  have hl2 := ladL_le (a := a) N
  rw [nr_eq hN (by rw [hc]; exact nI_pos' (by omega)), hc, if_pos (nI_lt (by omega) (by omega)), ix_nI (by omega), ← eB, ← hp2]
theorem near_end {a b : Nat → Int32} {N : Nat} (hN : N ≤ 12) : nrA a b N (nI (ladL a N).length) N 0 = -1 := by
  have hl2 := ladL_le (a := a) N
  rw [nr_eq hN (nI_pos' (by omega)), if_neg Int32.lt_irrefl]
theorem lad_y {a : Nat → Int32} {j : Nat} (h : ¬ a j = 0) : nI (ladL a j).length + 1 = nI (ladL a (j + 1)).length := by
  rw [ladL, if_pos h, List.length_append, nI_1]; rfl
theorem lad_n {a : Nat → Int32} {j : Nat} (h : a j = 0) : nI (ladL a j).length + 0 = nI (ladL a (j + 1)).length := by
  rw [ladL, if_neg (fun g => g h), Int32.add_zero]
theorem cnt_y {a b : Nat → Int32} {i j : Nat} (h : ¬ a j = 0) (h2 : b j < b i ∨ (b j = b i ∧ nI j < nI i)) : cntN a b i j + 1 = cntN a b i (j + 1) := by rw [cntN, if_pos ⟨h, h2⟩]
theorem cnt_n {a b : Nat → Int32} {i j : Nat} (h : a j = 0 ∨ ¬ (b j < b i ∨ (b j = b i ∧ nI j < nI i))) : cntN a b i j + 0 = cntN a b i (j + 1) := by
  rw [cntN, if_neg (fun g => h.elim g.1 (fun h => h g.2))]
/-- an entry with a modulus -/
theorem laid_y {S : mS} {j : Nat} (h1 : S.2.2 3 j = nI j) (h2 : 0 < (sp_sel S.2.2 (nI j) (-1) (S.1 12)).length) (h3 : 0 < sp_clm (S.2.2 3) (S.2.2 4) (nI j) (S.1 1) 0) (h4 : (sp_sel S.2.2 (nI j) (-1) (S.1 12)).length < 2 ^ 31) : laidS S j = 1 := by
  have h5 : ¬ sp_hf S (nI j) = 0 := by
    unfold sp_hf
    rw [if_pos ⟨nI_gt0 h2 h4, h3⟩]
    decide
  unfold laidS
  rw [if_pos ⟨h1, h5⟩]
theorem laid_n {S : mS} {j : Nat} (h : ¬ S.2.2 3 j = nI j ∨ (sp_sel S.2.2 (nI j) (-1) (S.1 12)).length = 0 ∨ ¬ 0 < sp_clm (S.2.2 3) (S.2.2 4) (nI j) (S.1 1) 0) : laidS S j = 0 := by
  unfold laidS
  rw [if_neg]
  intro g
  have g2 := sp_hf_1 g.2
  rcases h with h | h | h
  · exact h g.1
  · omega
  · exact h g2.2
theorem mod_y {S : mS} {j : Nat} (h : laidS S j = 1) : modS S j = mdS S (nI j) := by
  unfold modS
  rw [if_neg (by rw [h]; decide)]
theorem mod_n {S : mS} {j : Nat} (h : laidS S j = 0) : modS S j = 0 := by
  unfold modS
  rw [if_pos h]
theorem near_cd {x : Int32} {S : mS} (h : 0 ≤ x) : cd_nearest x S = 0 := if_pos h
