/-! ===== sums, the brightest and the faintest ===== -/
theorem sp_sm_cong {f g : Nat → Int32} : ∀ {n : Nat}, (∀ i, i < n → f i = g i) → sp_sm f n = sp_sm g n := by
  intro n
  induction n with
  | zero => intro _; rfl
  | succ n ih => intro h; rw [sp_sm, sp_sm, ih (fun i hi => h i (by omega)), h n (by omega)]
def sumL (l : Nat → Int32) : List Nat → Int32
  | [] => 0
  | x :: A => l x + sumL l A
theorem sp_sm_shift {f : Nat → Int32} : ∀ n, sp_sm f (n + 1) = f 0 + sp_sm (fun i => f (i + 1)) n := by
  intro n
  induction n with
  | zero => show 0 + f 0 = f 0 + 0; rw [Int32.zero_add, Int32.add_zero]
  | succ n ih => rw [sp_sm, ih, sp_sm, Int32.add_assoc]
theorem sp_sm_list {l : Nat → Int32} : ∀ A : List Nat, sp_sm (fun i => l (A.getD i 0)) A.length = sumL l A := by
  intro A
  induction A with
  | nil => rfl
  | cons x A ih => rw [List.length_cons, sp_sm_shift, sumL, ← ih]; rfl
theorem sumL_perm {l : Nat → Int32} {A B : List Nat} (h : A.Perm B) : sumL l A = sumL l B := by
  induction h with
  | nil => rfl
  | cons x _ ih => rw [sumL, sumL, ih]
  | swap x y L => rw [sumL, sumL, sumL, sumL, ← Int32.add_assoc, Int32.add_comm (l y), Int32.add_assoc]
  | trans _ _ h1 h2 => exact h1.trans h2
theorem mean_eq {t l : Nat → Int32} {L : List Nat} {v : Nat → Int32} (hv : ∀ i, i < L.length → v i = l ((sSort t [] L).getD i 0)) : sp_sm v L.length = sp_sm (fun i => l (L.getD i 0)) L.length := by
  have hp : (sSort t [] L).Perm L := sSort_perm t L []
  rw [sp_sm_cong hv, sp_sm_list L, ← sumL_perm hp, ← sp_sm_list, hp.length_eq]
def hbr (v : Nat → Int32) : Nat → Nat
  | 0 => 0
  | n + 1 => if v (n + 1) < v (hbr v n) then n + 1 else hbr v n
def hfa (v : Nat → Int32) : Nat → Nat
  | 0 => 0
  | n + 1 => if v (hfa v n) < v (n + 1) then n + 1 else hfa v n
theorem hbr_spec {v : Nat → Int32} (n : Nat) : hbr v n ≤ n ∧ ∀ i, i ≤ n → v (hbr v n) < v i ∨ (v (hbr v n) = v i ∧ hbr v n ≤ i) := by
  induction n with
  | zero => exact ⟨Nat.le_refl _, fun i hi => Or.inr ⟨by rw [Nat.le_zero.mp hi]; rfl, Nat.zero_le _⟩⟩
  | succ n ih =>
    rw [hbr]
    by_cases c : v (n + 1) < v (hbr v n)
    · rw [if_pos c]
      refine ⟨Nat.le_refl _, fun i hi => ?_⟩
      by_cases e : i = n + 1
      · subst e; exact Or.inr ⟨rfl, Nat.le_refl _⟩
      · rcases ih.2 i (by omega) with g | g
        · refine Or.inl ?_; rw [i_lt] at *; omega
        · rw [← g.1]; exact Or.inl c
    · rw [if_neg c]
      refine ⟨by omega, fun i hi => ?_⟩
      by_cases e : i = n + 1
      · subst e
        by_cases c2 : v (hbr v n) < v (n + 1)
        · exact Or.inl c2
        · refine Or.inr ⟨?_, by omega⟩
          rw [i_lt] at c c2; rw [i_eq]; omega
      · exact ih.2 i (by omega)
theorem hfa_spec {v : Nat → Int32} (n : Nat) : hfa v n ≤ n ∧ ∀ i, i ≤ n → v i < v (hfa v n) ∨ (v (hfa v n) = v i ∧ hfa v n ≤ i) := by
  induction n with
  | zero => exact ⟨Nat.le_refl _, fun i hi => Or.inr ⟨by rw [Nat.le_zero.mp hi]; rfl, Nat.zero_le _⟩⟩
  | succ n ih =>
    rw [hfa]
    by_cases c : v (hfa v n) < v (n + 1)
    · rw [if_pos c]
      refine ⟨Nat.le_refl _, fun i hi => ?_⟩
      by_cases e : i = n + 1
      · subst e; exact Or.inr ⟨rfl, Nat.le_refl _⟩
      · rcases ih.2 i (by omega) with g | g
        · refine Or.inl ?_; rw [i_lt] at *; omega
        · rw [← g.1]; exact Or.inl c
    · rw [if_neg c]
      refine ⟨by omega, fun i hi => ?_⟩
      by_cases e : i = n + 1
      · subst e
        by_cases c2 : v (n + 1) < v (hfa v n)
        · exact Or.inl c2
        · refine Or.inr ⟨?_, by omega⟩
          rw [i_lt] at c c2; rw [i_eq]; omega
      · exact ih.2 i (by omega)
/-- lights are small -/
abbrev sml (x : Int32) : Prop := -22000 ≤ x.toInt ∧ x.toInt ≤ 22000
theorem sml_sub {x y : Int32} (hx : sml x) (hy : sml y) : (x - y).toInt = x.toInt - y.toInt := fb_subI (by omega) (by omega)
theorem sp_br_spec {fL fT : Nat → Int32} {n : Nat} (hs : ∀ i, i ≤ n → sml (fL i)) : ∀ k, k ≤ n → sp_br fL fT k ≤ k ∧ ∀ i, i ≤ k → fL (sp_br fL fT k) < fL i ∨ (fL (sp_br fL fT k) = fL i ∧ fT (sp_br fL fT k) ≤ fT i) := by
  intro k
  induction k with
  | zero => intro _; exact ⟨Nat.le_refl _, fun i hi => Or.inr (by rw [Nat.le_zero.mp hi]; exact ⟨rfl, Int32.le_refl _⟩)⟩
  | succ k ih =>
    intro hk
    obtain ⟨h1, h2⟩ := ih (by omega)
    rw [sp_br]
    have hd := sml_sub (hs (k + 1) hk) (hs (sp_br fL fT k) (by omega))
    generalize sp_br fL fT k = b at h1 h2 hd
    by_cases c : fL (k + 1) - fL b < 0 ∨ (fL (k + 1) - fL b = 0 ∧ fT (k + 1) < fT b)
    · rw [if_pos c]
      have c2 : fL (k + 1) < fL b ∨ (fL (k + 1) = fL b ∧ fT (k + 1) < fT b) := by
        rcases c with c | c
        · refine Or.inl ?_; rw [i_lt, hd, i_0] at c; rw [i_lt]; omega
        · refine Or.inr ⟨?_, c.2⟩
          have := c.1; rw [i_eq, hd, i_0] at this; rw [i_eq]; omega
      refine ⟨Nat.le_refl _, fun i hi => ?_⟩
      by_cases e : i = k + 1
      · subst e; exact Or.inr ⟨rfl, Int32.le_refl _⟩
      · have g := h2 i (by omega)
        simp only [i_lt, i_le, i_eq] at *
        omega
    · rw [if_neg c]
      have c2 : ¬ (fL (k + 1) < fL b ∨ (fL (k + 1) = fL b ∧ fT (k + 1) < fT b)) := fun g => c (by
        rcases g with g | g
        · refine Or.inl ?_; rw [i_lt, hd, i_0]; rw [i_lt] at g; omega
        · refine Or.inr ⟨?_, g.2⟩
          have := g.1; rw [i_eq, hd, i_0]; rw [i_eq] at this; omega)
      refine ⟨by omega, fun i hi => ?_⟩
      by_cases e : i = k + 1
      · subst e
        simp only [i_lt, i_le, i_eq] at *
        omega
      · exact h2 i (by omega)
theorem sp_fa_spec {fL fT : Nat → Int32} {n : Nat} (hs : ∀ i, i ≤ n → sml (fL i)) : ∀ k, k ≤ n → sp_fa fL fT k ≤ k ∧ ∀ i, i ≤ k → fL i < fL (sp_fa fL fT k) ∨ (fL (sp_fa fL fT k) = fL i ∧ fT (sp_fa fL fT k) ≤ fT i) := by
  intro k
  induction k with
  | zero => intro _; exact ⟨Nat.le_refl _, fun i hi => Or.inr (by rw [Nat.le_zero.mp hi]; exact ⟨rfl, Int32.le_refl _⟩)⟩
  | succ k ih =>
    intro hk
    obtain ⟨h1, h2⟩ := ih (by omega)
    rw [sp_fa]
    have hd := sml_sub (hs (sp_fa fL fT k) (by omega)) (hs (k + 1) hk)
    generalize sp_fa fL fT k = b at h1 h2 hd
    by_cases c : fL b - fL (k + 1) < 0 ∨ (fL b - fL (k + 1) = 0 ∧ fT (k + 1) < fT b)
    · rw [if_pos c]
      have c2 : fL b < fL (k + 1) ∨ (fL (k + 1) = fL b ∧ fT (k + 1) < fT b) := by
        rcases c with c | c
        · refine Or.inl ?_; rw [i_lt, hd, i_0] at c; rw [i_lt]; omega
        · refine Or.inr ⟨?_, c.2⟩
          have := c.1; rw [i_eq, hd, i_0] at this; rw [i_eq]; omega
      refine ⟨Nat.le_refl _, fun i hi => ?_⟩
      by_cases e : i = k + 1
      · subst e; exact Or.inr ⟨rfl, Int32.le_refl _⟩
      · have g := h2 i (by omega)
        simp only [i_lt, i_le, i_eq] at *
        omega
    · rw [if_neg c]
      have c2 : ¬ (fL b < fL (k + 1) ∨ (fL (k + 1) = fL b ∧ fT (k + 1) < fT b)) := fun g => c (by
        rcases g with g | g
        · refine Or.inl ?_; rw [i_lt, hd, i_0]; rw [i_lt] at g; omega
        · refine Or.inr ⟨?_, g.2⟩
          have := g.1; rw [i_eq, hd, i_0]; rw [i_eq] at this; omega)
      refine ⟨by omega, fun i hi => ?_⟩
      by_cases e : i = k + 1
      · subst e
        simp only [i_lt, i_le, i_eq] at *
        omega
      · exact h2 i (by omega)
theorem sSort_up {t : Nat → Int32} {L : List Nat} (hL : L.Pairwise (fun a b => a < b)) : ∀ i j, i ≤ j → j < (sSort t [] L).length → t ((sSort t [] L).getD i 0) ≤ t ((sSort t [] L).getD j 0) := by
  intro i j hij hj
  have h := sSort_bef (t := t) (r := fun a b => a < b) (L := L) (A := []) List.Pairwise.nil (fun a h => absurd h List.not_mem_nil) hL
  by_cases e : i = j
  · rw [e]; exact Int32.le_refl _
  · have q := List.pairwise_iff_getElem.mp h i j (by omega) hj (by omega)
    rw [List.getD_eq_getElem?_getD, List.getD_eq_getElem?_getD, List.getElem?_eq_getElem (show i < _ by omega), List.getElem?_eq_getElem hj]
    show t ((sSort t [] L)[i]) ≤ t ((sSort t [] L)[j])
    rcases q with q | q
    · rw [i_lt] at q; rw [i_le]; omega
    · rw [q.1]; exact Int32.le_refl _
/-- the house's brightest and faintest have the model's light and time -/
theorem ex_eq {t l : Nat → Int32} {L : List Nat} {k v : Nat → Int32} (hL : L.Pairwise (fun a b => a < b)) (hm : 0 < L.length) (hs : ∀ x ∈ L, sml (l x)) (hr : rowL L.length k v (sSort t [] L) t l) :
    (v (hbr v (L.length - 1)) = l (L.getD (sp_br (fun i => l (L.getD i 0)) (fun i => t (L.getD i 0)) (L.length - 1)) 0) ∧ k (hbr v (L.length - 1)) = t (L.getD (sp_br (fun i => l (L.getD i 0)) (fun i => t (L.getD i 0)) (L.length - 1)) 0)) ∧
    (v (hfa v (L.length - 1)) = l (L.getD (sp_fa (fun i => l (L.getD i 0)) (fun i => t (L.getD i 0)) (L.length - 1)) 0) ∧ k (hfa v (L.length - 1)) = t (L.getD (sp_fa (fun i => l (L.getD i 0)) (fun i => t (L.getD i 0)) (L.length - 1)) 0)) := by
  obtain ⟨r1, r2⟩ := hr
  have hp : (sSort t [] L).Perm L := sSort_perm t L []
  have hup := sSort_up (t := t) hL
  have hAL : ∀ i, i < L.length → ∃ j, j < L.length ∧ (sSort t [] L).getD i 0 = L.getD j 0 := fun i hi => by
    have m := hp.mem_iff.mp (getD_mem (A := sSort t [] L) (i := i) (by omega))
    obtain ⟨j, hj, e⟩ := List.getElem_of_mem m
    exact ⟨j, hj, by rw [← e, List.getD_eq_getElem?_getD, List.getElem?_eq_getElem hj]; rfl⟩
  have hLA : ∀ j, j < L.length → ∃ i, i < L.length ∧ (sSort t [] L).getD i 0 = L.getD j 0 := fun j hj => by
    have m := hp.mem_iff.mpr (getD_mem hj)
    obtain ⟨i, hi, e⟩ := List.getElem_of_mem m
    exact ⟨i, by omega, by rw [← e, List.getD_eq_getElem?_getD, List.getElem?_eq_getElem hi]; rfl⟩
  have hs2 : ∀ i, i ≤ L.length - 1 → sml (l (L.getD i 0)) := fun i hi => hs _ (getD_mem (by omega))
  refine ⟨?_, ?_⟩
  · obtain ⟨b1, b2⟩ := hbr_spec (v := v) (L.length - 1)
    obtain ⟨c1, c2⟩ := sp_br_spec (fL := fun i => l (L.getD i 0)) (fT := fun i => t (L.getD i 0)) hs2 (L.length - 1) (Nat.le_refl _)
    generalize hbr v (L.length - 1) = b at b1 b2
    generalize sp_br (fun i => l (L.getD i 0)) (fun i => t (L.getD i 0)) (L.length - 1) = c at c1 c2
    obtain ⟨i, hi, ei⟩ := hLA c (by omega)
    obtain ⟨j, hj, ej⟩ := hAL b (by omega)
    have g1 := b2 i (by omega)
    have g2 := c2 j (by omega)
    have g3 := hup b i
    rw [(r2 b (by omega)).2, (r2 i (by omega)).2, ei] at g1
    rw [(r2 b (by omega)).2, (r2 b (by omega)).1]
    rw [← ej] at g2
    rw [ei] at g3
    have g4 : b ≤ i → t ((sSort t [] L).getD b 0) ≤ t (L.getD c 0) := fun h => g3 h (by omega)
    generalize (sSort t [] L).getD b 0 = x at g1 g2 g4
    generalize L.getD c 0 = y at g1 g2 g4
    simp only [i_lt, i_le, i_eq] at *
    omega
  · obtain ⟨b1, b2⟩ := hfa_spec (v := v) (L.length - 1)
    obtain ⟨c1, c2⟩ := sp_fa_spec (fL := fun i => l (L.getD i 0)) (fT := fun i => t (L.getD i 0)) hs2 (L.length - 1) (Nat.le_refl _)
    generalize hfa v (L.length - 1) = b at b1 b2
    generalize sp_fa (fun i => l (L.getD i 0)) (fun i => t (L.getD i 0)) (L.length - 1) = c at c1 c2
    obtain ⟨i, hi, ei⟩ := hLA c (by omega)
    obtain ⟨j, hj, ej⟩ := hAL b (by omega)
    have g1 := b2 i (by omega)
    have g2 := c2 j (by omega)
    have g3 := hup b i
    rw [(r2 b (by omega)).2, (r2 i (by omega)).2, ei] at g1
    rw [(r2 b (by omega)).2, (r2 b (by omega)).1]
    rw [← ej] at g2
    rw [ei] at g3
    have g4 : b ≤ i → t ((sSort t [] L).getD b 0) ≤ t (L.getD c 0) := fun h => g3 h (by omega)
    generalize (sSort t [] L).getD b 0 = x at g1 g2 g4
    generalize L.getD c 0 = y at g1 g2 g4
    simp only [i_lt, i_le, i_eq] at *
    omega
/-- what the house reckons of a feature -/
def hft (k v : Nat → Int32) (m : Nat) (claim what : Int32) : Int32 := if what = 1 then claim else if what = 0 then v (hfa v (m - 1)) - v (hbr v (m - 1)) else qd (rmd (k (hbr v (m - 1)) - k (hfa v (m - 1))) claim * 100) claim
theorem hft_eq {μ : Nat → Nat → Int32} {L : List Nat} {k v : Nat → Int32} {claim what : Int32} (hL : L.Pairwise (fun a b => a < b)) (hm : 0 < L.length) (hs : ∀ x ∈ L, sml (sp_light μ x)) (hr : rowL L.length k v (sSort (sp_time μ) [] L) (sp_time μ) (sp_light μ)) (hc : inr claim 30 1000000) : hft k v L.length claim what = sp_ft μ L claim what := by
  obtain ⟨⟨e1, e2⟩, ⟨e3, e4⟩⟩ := ex_eq hL hm hs hr
  unfold hft sp_ft sp_ftA
  rw [e1, e2, e3, e4]
  by_cases c1 : what = 1
  · subst c1
    rw [if_pos rfl, if_neg (by decide), if_pos rfl]
  · rw [if_neg c1]
    by_cases c0 : what = 0
    · rw [if_pos c0, if_pos c0]
    · rw [if_neg c0, if_neg c0, if_neg c1]
      have hc0 : (0 : Int32) < claim := by have := hc.1; rw [i_le] at this; rw [i_lt, i_0]; have e : (30 : Int32).toInt = 30 := rfl; omega
      obtain ⟨q1, q2⟩ := rmd_rng (n := sp_time μ (L.getD (sp_br (fun i => sp_light μ (L.getD i 0)) (fun i => sp_time μ (L.getD i 0)) (L.length - 1)) 0) - sp_time μ (L.getD (sp_fa (fun i => sp_light μ (L.getD i 0)) (fun i => sp_time μ (L.getD i 0)) (L.length - 1)) 0)) hc0
      generalize rmd (sp_time μ (L.getD (sp_br (fun i => sp_light μ (L.getD i 0)) (fun i => sp_time μ (L.getD i 0)) (L.length - 1)) 0) - sp_time μ (L.getD (sp_fa (fun i => sp_light μ (L.getD i 0)) (fun i => sp_time μ (L.getD i 0)) (L.length - 1)) 0)) claim = x at q1 q2
      refine qd_pos hc0 ?_
      have h1 := hc.2
      have e : (1000000 : Int32).toInt = 1000000 := rfl
      have e9 : (100 : Int32).toInt = 100 := rfl
      rw [i_le] at q1 h1 ⊢
      rw [i_lt] at q2
      rw [i_0] at *
      rw [fb_mulI (by rw [e9]; omega) (by rw [e9]; omega), e9]
      omega
