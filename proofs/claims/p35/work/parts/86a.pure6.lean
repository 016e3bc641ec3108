/-! ===== minima in the order of their times ===== -/
theorem late_rng {μ : Nat → Nat → Int32} {m : Int32} {j : Nat} (hm : inr m 0 9999999) (hp : inr (μ 2 j) 0 363) : -8 ≤ (sp_late μ m j).toInt ∧ (sp_late μ m j).toInt ≤ 8 := by
  obtain ⟨a, ha, ea⟩ := inr_ix (N := 9999999) (by decide) hm
  obtain ⟨b, hb, eb⟩ := inr_ix (N := 363) (by decide) hp
  have e2 : sp_k μ m j = nI ((a / 1440 + b) % 364) := by
    unfold sp_k
    rw [ea, eb, show (1440 : Int32) = nI 1440 from rfl, pk_div (by omega) (by omega) (by omega), nI_add, show (364 : Int32) = nI 364 from rfl, pk_rem (by omega) (by omega) (by omega)]
  obtain ⟨t, ht, et⟩ : ∃ t, t < 364 ∧ (a / 1440 + b) % 364 = t := ⟨_, Nat.mod_lt _ (by decide), rfl⟩
  rw [et] at e2
  have e8 : (8 : Int32).toInt = 8 := rfl
  have fin : ∀ u, u ≤ 182 → -8 ≤ (8 - 16 * nI u / 182 : Int32).toInt ∧ (8 - 16 * nI u / 182 : Int32).toInt ≤ 8 := fun u hu => by
    have h1 : 16 * u / 182 ≤ 16 := by omega
    have h2 : (16 * nI u / 182 : Int32) = nI (16 * u / 182) := by rw [show (16 : Int32) * nI u = nI (16 * u) from pk_mul 16 u, show (182 : Int32) = nI 182 from rfl, pk_div (by omega) (by omega) (by omega)]
    have h3 := nI_toInt (n := 16 * u / 182) (by omega)
    rw [h2, fb_subI (by rw [e8, h3]; omega) (by rw [e8, h3]; omega), e8, h3]
    omega
  unfold sp_late
  rw [e2, show (364 : Int32) - nI t = nI (364 - t) from pk_sub (show t ≤ 364 by omega)]
  by_cases c : nI (364 - t) ≤ nI t
  · rw [if_pos c]
    have := (nI_leI (by omega) (by omega)).mp c
    exact fin _ (by omega)
  · rw [if_neg c]
    have : ¬ 364 - t ≤ t := fun g => c (nI_le g (by omega))
    exact fin _ (by omega)
abbrev mtr (x : Int32) : Prop := -8 ≤ x.toInt ∧ x.toInt ≤ 10000007
theorem mt_rng {cn : Nat → Nat} {sc : Nat → Int32} {μ : Nat → Nat → Int32} (hI : Inv (cn, sc, μ)) {i : Nat} (hi : i < cn 29) : mtr (sp_mt μ i) := by
  have h12 : cn 1 ≤ 12 := hI.1.1
  obtain ⟨h1, h2⟩ := hI.2.2.2.2.2.2.2 i hi
  have h3 := (hI.2.2.1 _ (isS_xl h1 (show cn 1 < 2 ^ 31 by omega))).1
  have a := late_rng (μ := μ) (m := μ 31 i) (j := ix (μ 30 i)) h2 h3
  have b := inr_int h2
  change (0 : Int32).toInt ≤ (μ 31 i).toInt ∧ (μ 31 i).toInt ≤ (9999999 : Int32).toInt at b
  have e9 : (9999999 : Int32).toInt = 9999999 := by decide
  rw [i_0, e9] at b
  unfold sp_mt mtr
  rw [fb_addI (by omega) (by omega)]
  omega
theorem jpT_at {f : Nat → Int32} {x : Int32} : ∀ {n : Nat}, row_up n f → row_at n f x (jpT f x n) := by
  intro n
  induction n with
  | zero => intro _; exact ⟨Nat.le_refl _, fun i h => absurd h (Nat.not_lt_zero _), fun i _ h => absurd h (Nat.not_lt_zero _)⟩
  | succ n ih =>
    intro h
    rw [jpT]
    by_cases c : f n ≤ x
    · rw [if_pos c]
      exact ⟨Nat.le_refl _, fun i hi => Int32.le_trans (h i n (by omega) (by omega)) c, fun i h1 h2 => absurd h1 (by omega)⟩
    · rw [if_neg c]
      obtain ⟨p1, p2, p3⟩ := ih (fun i j hij hj => h i j hij (by omega))
      refine ⟨by omega, p2, fun i h1 h2 => ?_⟩
      by_cases e : i = n
      · rw [e]; exact c
      · exact p3 i h1 (by omega)
theorem row_at_uniq {n p q : Nat} {k : Nat → Int32} {x : Int32} (h1 : row_at n k x p) (h2 : row_at n k x q) : p = q := by
  obtain ⟨a1, a2, a3⟩ := h1
  obtain ⟨b1, b2, b3⟩ := h2
  rcases Nat.lt_trichotomy p q with g | g | g
  · exact absurd (b2 p g) (a3 p (Nat.le_refl _) (by omega))
  · exact g
  · exact absurd (a2 q g) (b3 q (Nat.le_refl _) (by omega))
theorem insA_ins {f : Nat → Int32} {p n i : Nat} {x : Int32} (hi : i ≤ n) : insA f p x n i = ins f p x i := by
  unfold insA ins upd shf
  by_cases e : i = p
  · subst e; rw [if_pos rfl, if_neg (by omega), if_pos rfl]
  · rw [if_neg e]
    by_cases c : i < p
    · rw [if_neg (by omega), if_pos c]
    · rw [if_pos (by omega), if_neg c, if_neg e]
/-- a row holds what the model lays -/
def layR (n : Nat) (k : Nat → Int32) (G : (Nat → Int32) × Nat) : Prop := n = G.2 ∧ ∀ i, i < n → k i = G.1 i
theorem layR.no {μ : Nat → Nat → Int32} {e : Int32} {g : Nat → Int32} {j n : Nat} {k : Nat → Int32} (h : layR n k (layA μ e g j)) (hs : ¬ μ 3 (ix (μ 30 j)) = e) : layR n k (layA μ e g (j + 1)) := by
  rw [layA, if_neg hs]; exact h
theorem layR.yes {μ : Nat → Nat → Int32} {e : Int32} {g : Nat → Int32} {j n p : Nat} {k k' : Nat → Int32} (h : layR n k (layA μ e g j)) (hup : row_up n k) (hs : μ 3 (ix (μ 30 j)) = e) (hp : row_at n k (sp_mt μ j) p) (hk : ∀ i, i ≤ n → k' i = ins k p (sp_mt μ j) i) : layR (n + 1) k' (layA μ e g (j + 1)) := by
  rw [layA, if_pos hs]
  obtain ⟨h1, h2⟩ := h
  generalize layA μ e g j = G at h1 h2
  have hupG : row_up n G.1 := row_up_cong hup (fun i hi => (h2 i hi).symm)
  have hpG : row_at n G.1 (sp_mt μ j) p := ⟨hp.1, fun i hi => by rw [← h2 i (by have := hp.1; omega)]; exact hp.2.1 i hi, fun i h3 h4 => by rw [← h2 i h4]; exact hp.2.2 i h3 h4⟩
  have ep : jpT G.1 (sp_mt μ j) n = p := row_at_uniq (jpT_at hupG) hpG
  refine ⟨by rw [h1], fun i hi => ?_⟩
  show k' i = insA G.1 (jpT G.1 (sp_mt μ j) G.2) (sp_mt μ j) G.2 i
  rw [← h1, ep, hk i (by omega), insA_ins (by omega)]
  have hp1 := hp.1
  unfold ins
  by_cases c : i < p
  · rw [if_pos c, if_pos c]; exact h2 i (by omega)
  · rw [if_neg c, if_neg c]
    by_cases d : i = p
    · rw [if_pos d, if_pos d]
    · rw [if_neg d, if_neg d]; exact h2 (i - 1) (by omega)
/-- the row of eclipses holds the times of the minima of e -/
def hecl (R : hR) (S : mS) (e : Int32) : Prop := layR (R.1 2) (R.2.1 2) (layS S e) ∧ row_up (R.1 2) (R.2.1 2) ∧ ∀ i, i < R.1 2 → mtr (R.2.1 2 i)
theorem ins_mtr {k : Nat → Int32} {p n : Nat} {x : Int32} (h : ∀ i, i < n → mtr (k i)) (hx : mtr x) (hp : p ≤ n) : ∀ i, i < n + 1 → mtr (ins k p x i) := by
  intro i hi
  unfold ins
  by_cases c : i < p
  · rw [if_pos c]; exact h i (by omega)
  · rw [if_neg c]
    by_cases d : i = p
    · rw [if_pos d]; exact hx
    · rw [if_neg d]; exact h (i - 1) (by omega)
theorem cy_eq9 {k : Nat → Int32} {n i : Nat} {P : Int32} (hup : row_up n k) (hm : ∀ i, i < n → mtr (k i)) (hi : i < n) (hP : inr P 30 1000000) : qd (2 * (k i - k 0) + P) (2 * P) = sp_cy k i P ∧ 0 < 2 * P := by
  have a := hm i hi
  have b := hm 0 (by omega)
  have c := hup 0 i (Nat.zero_le _) hi
  have p := inr_int hP
  have e2 : (2 : Int32).toInt = 2 := rfl
  have e30 : (30 : Int32).toInt = 30 := rfl
  have e6 : (1000000 : Int32).toInt = 1000000 := rfl
  rw [i_le] at c
  have s1 : (k i - k 0).toInt = (k i).toInt - (k 0).toInt := fb_subI (by omega) (by omega)
  have s2 : (2 * (k i - k 0)).toInt = 2 * ((k i).toInt - (k 0).toInt) := by rw [fb_mulI (by rw [e2, s1]; omega) (by rw [e2, s1]; omega), e2, s1]
  have s3 : (2 * (k i - k 0) + P).toInt = 2 * ((k i).toInt - (k 0).toInt) + P.toInt := by rw [fb_addI (by rw [s2]; omega) (by rw [s2]; omega), s2]
  have s4 : (2 * P).toInt = 2 * P.toInt := by rw [fb_mulI (by rw [e2]; omega) (by rw [e2]; omega), e2]
  have hp0 : (0 : Int32) < 2 * P := by rw [i_lt, i_0, s4]; omega
  refine ⟨?_, hp0⟩
  unfold sp_cy
  exact qd_pos hp0 (by rw [i_le, i_0, s3]; omega)
theorem cy_cong {k g : Nat → Int32} {i : Nat} {P : Int32} (h0 : k 0 = g 0) (hi : k i = g i) : sp_cy k i P = sp_cy g i P ∧ sp_of k i P = sp_of g i P := by
  have h : sp_cy k i P = sp_cy g i P := by unfold sp_cy; rw [h0, hi]
  refine ⟨h, ?_⟩
  unfold sp_of
  rw [h, h0, hi]
/-! ===== who is near ===== -/
def ladL (a : Nat → Int32) : Nat → List Nat
  | 0 => []
  | n + 1 => if ¬ a n = 0 then ladL a n ++ [n] else ladL a n
theorem ladL_mem {a : Nat → Int32} : ∀ {n i : Nat}, i ∈ ladL a n ↔ (i < n ∧ ¬ a i = 0) := by
  intro n
  induction n with
  | zero => intro i; exact ⟨fun h => absurd h List.not_mem_nil, fun h => absurd h.1 (Nat.not_lt_zero _)⟩
  | succ n ih =>
    intro i
    rw [ladL]
    by_cases c : ¬ a n = 0
    · rw [if_pos c, List.mem_append, ih, List.mem_singleton]
      constructor
      · rintro (h | h)
        · exact ⟨by omega, h.2⟩
        · rw [h]; exact ⟨by omega, c⟩
      · intro h
        by_cases e : i = n
        · exact Or.inr e
        · exact Or.inl ⟨by omega, h.2⟩
    · rw [if_neg c, ih]
      constructor
      · exact fun h => ⟨by omega, h.2⟩
      · intro h
        by_cases e : i = n
        · rw [e] at h; exact absurd h.2 c
        · exact ⟨by omega, h.2⟩
theorem ladL_up {a : Nat → Int32} : ∀ n, (ladL a n).Pairwise (fun x y => x < y) := by
  intro n
  induction n with
  | zero => exact List.Pairwise.nil
  | succ n ih =>
    rw [ladL]
    by_cases c : ¬ a n = 0
    · rw [if_pos c]
      exact List.pairwise_append.mpr ⟨ih, List.pairwise_singleton _ _, fun x hx y hy => by rw [List.mem_singleton.mp hy]; exact (ladL_mem.mp hx).1⟩
    · rw [if_neg c]; exact ih
theorem ladL_le {a : Nat → Int32} : ∀ n, (ladL a n).length ≤ n := by
  intro n
  induction n with
  | zero => exact Nat.le_refl _
  | succ n ih =>
    rw [ladL]
    by_cases c : ¬ a n = 0
    · rw [if_pos c, List.length_append]; show _ + 1 ≤ _; omega
    · rw [if_neg c]; omega
theorem pw_count {r : Nat → Nat → Prop} [DecidableRel r] (hr : ∀ a b, r a b → ¬ r b a) : ∀ {A : List Nat}, A.Pairwise r → ∀ p, p < A.length → A.countP (fun y => decide (r y (A.getD p 0))) = p := by
  intro A
  induction A with
  | nil => intro _ p h; exact absurd h (Nat.not_lt_zero _)
  | cons y A ih =>
    intro h p hp
    have h1 := List.pairwise_cons.mp h
    cases p with
    | zero =>
      show (y :: A).countP (fun z => decide (r z y)) = 0
      rw [List.countP_eq_zero]
      intro z hz
      rcases List.mem_cons.mp hz with g | g
      · rw [g]; intro q; have q2 := of_decide_eq_true q; exact hr y y q2 q2
      · intro q; exact hr y z (h1.1 z g) (of_decide_eq_true q)
    | succ p =>
      have hp2 : p < A.length := by simp at hp; omega
      show (y :: A).countP (fun z => decide (r z (A.getD p 0))) = p + 1
      rw [List.countP_cons, ih h1.2 p hp2, if_pos (decide_eq_true (h1.1 _ (getD_mem hp2)))]
theorem cntN_list {a b : Nat → Int32} {i : Nat} (hi : i < 2 ^ 31) : ∀ n, n < 2 ^ 31 → cntN a b i n = nI ((ladL a n).countP (fun y => decide (bef b (fun x y => x < y) y i))) := by
  intro n
  induction n with
  | zero => intro _; rfl
  | succ n ih =>
    intro hn
    rw [cntN, ih (by omega), ladL]
    by_cases c : ¬ a n = 0
    · rw [if_pos c, List.countP_append, List.countP_singleton]
      have e : (¬ a n = 0 ∧ (b n < b i ∨ (b n = b i ∧ nI n < nI i))) ↔ bef b (fun x y => x < y) n i := by
        rw [nI_ltI (by omega) hi]
        exact ⟨fun h => h.2, fun h => ⟨c, h⟩⟩
      by_cases d : bef b (fun x y => x < y) n i
      · rw [if_pos (e.mpr d), if_pos (decide_eq_true d), nI_1]
      · rw [if_neg (fun h => d (e.mp h)), if_neg (fun h => d (of_decide_eq_true h)), Int32.add_zero, Nat.add_zero]
    · rw [if_neg c, if_neg (fun h => c h.1), Int32.add_zero]
theorem nrA_none {a b : Nat → Int32} {N : Nat} {rank : Int32} : ∀ {f i : Nat}, (∀ j, i ≤ j → j < i + f → ¬ (¬ a j = 0 ∧ cntN a b j N = rank)) → nrA a b N rank f i = -1 := by
  intro f
  induction f with
  | zero => intro i _; rfl
  | succ f ih =>
    intro i h
    rw [nrA, if_neg (h i (Nat.le_refl _) (by omega))]
    exact ih (fun j h1 h2 => h j (by omega) (by omega))
theorem nrA_found {a b : Nat → Int32} {N i0 : Nat} {rank : Int32} (h0 : ¬ a i0 = 0 ∧ cntN a b i0 N = rank) : ∀ {f i : Nat}, i ≤ i0 → i0 < i + f → (∀ j, i ≤ j → j < i0 → ¬ (¬ a j = 0 ∧ cntN a b j N = rank)) → nrA a b N rank f i = nI i0 := by
  intro f
  induction f with
  | zero => intro i h1 h2 _; omega
  | succ f ih =>
    intro i h1 h2 h
    rw [nrA]
    by_cases e : i = i0
    · subst e; rw [if_pos h0]
    · rw [if_neg (h i (Nat.le_refl _) (by omega))]
      exact ih (by omega) (by omega) (fun j h3 h4 => h j (by omega) h4)
theorem nr_eq {a b : Nat → Int32} {N : Nat} {rank : Int32} (hN : N ≤ 12) (hr : 0 ≤ rank) : nrA a b N rank N 0 = (if rank < nI (ladL a N).length then nI ((sSort b [] (ladL a N)).getD (ix rank) 0) else -1) := by
  have hp : (sSort b [] (ladL a N)).Perm (ladL a N) := sSort_perm b (ladL a N) []
  have hw : (sSort b [] (ladL a N)).Pairwise (bef b (fun x y => x < y)) := sSort_bef List.Pairwise.nil (fun x h => absurd h List.not_mem_nil) (ladL_up N)
  have hlen := hp.length_eq
  have hle := ladL_le (a := a) N
  have hc : ∀ p, p < (ladL a N).length → cntN a b ((sSort b [] (ladL a N)).getD p 0) N = nI p := fun p hp2 => by
    have hm := ladL_mem.mp (hp.mem_iff.mp (getD_mem (A := sSort b [] (ladL a N)) (i := p) (by omega)))
    rw [cntN_list (by omega) N (by omega), ← hp.countP_eq, pw_count (fun x y => bef_asym (fun _ _ h g => absurd g (by omega)) x y) hw p (by omega)]
  have hidx : ∀ i, i < N → ¬ a i = 0 → ∃ p, p < (ladL a N).length ∧ i = (sSort b [] (ladL a N)).getD p 0 := fun i h1 h2 => by
    obtain ⟨p, hp2, e⟩ := List.getElem_of_mem (hp.mem_iff.mpr (ladL_mem.mpr ⟨h1, h2⟩))
    exact ⟨p, by omega, by rw [← e, List.getD_eq_getElem?_getD, List.getElem?_eq_getElem hp2]; rfl⟩
  obtain ⟨k, hk, rfl⟩ := nI_of (x := rank) (Int32.not_lt.mpr hr)
  by_cases c : nI k < nI (ladL a N).length
  · rw [if_pos c]
    have c2 := (nI_ltI hk (by omega)).mp c
    have hm := ladL_mem.mp (hp.mem_iff.mp (getD_mem (A := sSort b [] (ladL a N)) (i := k) (by omega)))
    have ek : ix (nI k) = k := nI_clamp hk
    rw [ek]
    refine nrA_found ⟨hm.2, hc k c2⟩ (Nat.zero_le _) (by omega) (fun j h1 h2 h3 => ?_)
    obtain ⟨p, p1, p2⟩ := hidx j (by omega) h3.1
    have q := h3.2
    rw [p2, hc p p1] at q
    have e := (nI_eq (by omega) hk).mp q
    rw [e] at p2
    omega
  · rw [if_neg c]
    refine nrA_none (fun j h1 h2 h3 => ?_)
    obtain ⟨p, p1, p2⟩ := hidx j (by omega) h3.1
    have q := h3.2
    rw [p2, hc p p1] at q
    have e := (nI_eq (by omega) hk).mp q
    exact c (nI_lt (by omega) (by omega))
