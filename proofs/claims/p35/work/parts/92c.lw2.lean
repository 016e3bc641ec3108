/-! ===== the string, by asking for each look which is the next one around ===== -/
def okN (r : Nat → Nat → Prop) [DecidableRel r] (j : Nat) : Option Nat → Bool
  | none => true
  | some t => decide (r j t)
/-- the first of all, beginning with k -/
def fsK (r : Nat → Nat → Prop) [DecidableRel r] (q : Nat → Prop) [DecidablePred q] (k : Nat) : Nat → Nat
  | 0 => k
  | j + 1 => if q j ∧ r j (fsK r q k j) then j else fsK r q k j
/-- the first of those behind k -/
def nxK (r : Nat → Nat → Prop) [DecidableRel r] (q : Nat → Prop) [DecidablePred q] (k : Nat) : Nat → Option Nat
  | 0 => none
  | j + 1 => if q j ∧ r k j ∧ okN r j (nxK r q k j) = true then some j else nxK r q k j
def oI : Option Nat → Int32
  | none => -1
  | some t => nI t
def oN (o : Option Nat) (f : Nat) : Nat := match o with
  | none => f
  | some t => t
def nxF (r : Nat → Nat → Prop) [DecidableRel r] (q : Nat → Prop) [DecidablePred q] (n k : Nat) : Nat := oN (nxK r q k n) (fsK r q k n)
section
variable {r : Nat → Nat → Prop} {q : Nat → Prop}
theorem fsK_yes [DecidableRel r] [DecidablePred q] {k j f : Nat} (hf : f = fsK r q k j) (h1 : q j) (h2 : r j f) : j = fsK r q k (j + 1) := by
  subst hf
  rw [fsK, if_pos ⟨h1, h2⟩]
theorem fsK_no [DecidableRel r] [DecidablePred q] {k j f : Nat} (hf : f = fsK r q k j) (h : ¬ (q j ∧ r j f)) : f = fsK r q k (j + 1) := by
  subst hf
  rw [fsK, if_neg h]
theorem nxK_yes [DecidableRel r] [DecidablePred q] {k j : Nat} {o : Option Nat} (ho : o = nxK r q k j) (h1 : q j) (h2 : r k j) (h3 : ∀ t, o = some t → r j t) : some j = nxK r q k (j + 1) := by
  have h4 : okN r j o = true := by
    cases o with
    | none => rfl
    | some t => exact decide_eq_true (h3 t rfl)
  rw [nxK, ← ho, if_pos ⟨h1, h2, h4⟩]
theorem nxK_no [DecidableRel r] [DecidablePred q] {k j : Nat} {o : Option Nat} (ho : o = nxK r q k j) (h : ¬ (q j ∧ r k j) ∨ ∃ t, o = some t ∧ ¬ r j t) : o = nxK r q k (j + 1) := by
  rw [nxK, ← ho, if_neg]
  intro g
  rcases h with h | ⟨t, h1, h2⟩
  · exact h ⟨g.1, g.2.1⟩
  · subst h1
    exact h2 (of_decide_eq_true g.2.2)
theorem fsK_lt [DecidableRel r] [DecidablePred q] {k n : Nat} (hk : k < n) : ∀ j, j ≤ n → fsK r q k j < n := by
  intro j
  induction j with
  | zero => intro _; exact hk
  | succ j ih =>
    intro h
    rw [fsK]
    by_cases c : q j ∧ r j (fsK r q k j)
    · rw [if_pos c]; omega
    · rw [if_neg c]; exact ih (by omega)
theorem nxK_lt [DecidableRel r] [DecidablePred q] {k : Nat} : ∀ {j t : Nat}, some t = nxK r q k j → t < j := by
  intro j
  induction j with
  | zero => intro t h; rw [nxK] at h; cases h
  | succ j ih =>
    intro t h
    rw [nxK] at h
    by_cases c : q j ∧ r k j ∧ okN r j (nxK r q k j) = true
    · rw [if_pos c] at h; cases h; omega
    · rw [if_neg c] at h; have := ih h; omega
theorem fsK_spec [DecidableRel r] [DecidablePred q] (ha : ∀ a b, r a b → ¬ r b a) (ht : ∀ a b c, r a b → r b c → r a c) {k : Nat} : ∀ j, (fsK r q k j = k ∨ (fsK r q k j < j ∧ q (fsK r q k j))) ∧ ∀ i, i < j → q i → ¬ r i (fsK r q k j) := by
  intro j
  induction j with
  | zero => exact ⟨Or.inl rfl, fun i h => absurd h (Nat.not_lt_zero _)⟩
  | succ j ih =>
    rw [fsK]
    generalize fsK r q k j = f at ih
    by_cases c : q j ∧ r j f
    · rw [if_pos c]
      refine ⟨Or.inr ⟨by omega, c.1⟩, fun i hi hq g => ?_⟩
      by_cases e : i = j
      · subst e; exact ha _ _ g g
      · exact ih.2 i (by omega) hq (ht _ _ _ g c.2)
    · rw [if_neg c]
      refine ⟨ih.1.elim Or.inl (fun h => Or.inr ⟨by omega, h.2⟩), fun i hi hq g => ?_⟩
      by_cases e : i = j
      · subst e; exact c ⟨hq, g⟩
      · exact ih.2 i (by omega) hq g
def nxP (r : Nat → Nat → Prop) (q : Nat → Prop) (k j : Nat) : Option Nat → Prop
  | none => ∀ i, i < j → q i → ¬ r k i
  | some t => t < j ∧ q t ∧ r k t ∧ ∀ i, i < j → q i → r k i → ¬ r i t
theorem nxK_spec [DecidableRel r] [DecidablePred q] (ha : ∀ a b, r a b → ¬ r b a) (ht : ∀ a b c, r a b → r b c → r a c) {k : Nat} : ∀ j, nxP r q k j (nxK r q k j) := by
  intro j
  induction j with
  | zero => exact fun i h => absurd h (Nat.not_lt_zero _)
  | succ j ih =>
    rw [nxK]
    generalize nxK r q k j = o at ih
    by_cases c : q j ∧ r k j ∧ okN r j o = true
    · rw [if_pos c]
      refine ⟨by omega, c.1, c.2.1, fun i hi hq g1 g2 => ?_⟩
      by_cases e : i = j
      · subst e; exact ha _ _ g2 g2
      · cases o with
        | none => exact ih i (by omega) hq g1
        | some t => exact ih.2.2.2 i (by omega) hq g1 (ht _ _ _ g2 (of_decide_eq_true c.2.2))
    · rw [if_neg c]
      cases o with
      | none =>
        intro i hi hq g
        by_cases e : i = j
        · subst e; exact c ⟨hq, g, rfl⟩
        · exact ih i (by omega) hq g
      | some t =>
        refine ⟨by have := ih.1; omega, ih.2.1, ih.2.2.1, fun i hi hq g1 g2 => ?_⟩
        by_cases e : i = j
        · subst e; exact c ⟨hq, g1, decide_eq_true g2⟩
        · exact ih.2.2.2 i (by omega) hq g1 g2
end
theorem mem_getD {A : List Nat} {y : Nat} (h : y ∈ A) : ∃ i, i < A.length ∧ y = A.getD i 0 := by
  obtain ⟨i, hi, e⟩ := List.getElem_of_mem h
  refine ⟨i, hi, ?_⟩
  rw [← e, List.getD_eq_getElem?_getD, List.getElem?_eq_getElem hi]
  rfl
theorem pw_getD {r : Nat → Nat → Prop} {A : List Nat} (hA : A.Pairwise r) {i j : Nat} (hij : i < j) (hj : j < A.length) : r (A.getD i 0) (A.getD j 0) := by
  rw [List.getD_eq_getElem?_getD, List.getD_eq_getElem?_getD, List.getElem?_eq_getElem (show i < A.length by omega), List.getElem?_eq_getElem hj]
  exact List.pairwise_iff_getElem.mp hA i j (by omega) hj hij
theorem pw_lt {r : Nat → Nat → Prop} (ha : ∀ a b, r a b → ¬ r b a) {A : List Nat} (hA : A.Pairwise r) {i j : Nat} (hi : i < A.length) (h : r (A.getD i 0) (A.getD j 0)) : i < j := by
  rcases Nat.lt_trichotomy i j with g | g | g
  · exact g
  · subst g; exact absurd h (ha _ _ h)
  · exact absurd h (ha _ _ (pw_getD hA g hi))
/-- in the strict order of A, the next one around -/
theorem cyc_next {r : Nat → Nat → Prop} {q : Nat → Prop} [DecidableRel r] [DecidablePred q] (ha : ∀ a b, r a b → ¬ r b a) (ht : ∀ a b c, r a b → r b c → r a c) {A : List Nat} {n : Nat} (hA : A.Pairwise r) (hq : ∀ k, k ∈ A ↔ k < n ∧ q k) {i : Nat} (hi : i < A.length) :
    nxF r q n (A.getD i 0) = A.getD (if i + 1 = A.length then 0 else i + 1) 0 := by
  have hm : ∀ j, j < A.length → A.getD j 0 < n ∧ q (A.getD j 0) := fun j hj => (hq _).mp (getD_mem hj)
  have hs := nxK_spec (r := r) (q := q) ha ht (k := A.getD i 0) n
  unfold nxF
  generalize nxK r q (A.getD i 0) n = o at hs
  cases o with
  | none =>
    show fsK r q (A.getD i 0) n = _
    have hlast : i + 1 = A.length := by
      by_cases g : i + 1 = A.length
      · exact g
      · exact absurd (pw_getD hA (show i < i + 1 by omega) (by omega)) (hs _ (hm (i + 1) (by omega)).1 (hm (i + 1) (by omega)).2)
    rw [if_pos hlast]
    obtain ⟨f1, f2⟩ := fsK_spec (r := r) (q := q) ha ht (k := A.getD i 0) n
    have hf : fsK r q (A.getD i 0) n ∈ A := by
      rcases f1 with g | g
      · rw [g]; exact getD_mem hi
      · exact (hq _).mpr g
    obtain ⟨z, hz, ez⟩ := mem_getD hf
    rw [ez] at f2 ⊢
    by_cases g : z = 0
    · rw [g]
    · exact absurd (pw_getD hA (show 0 < z by omega) hz) (f2 _ (hm 0 (by omega)).1 (hm 0 (by omega)).2)
  | some t =>
    show t = _
    obtain ⟨h1, h2, h3, h4⟩ := hs
    obtain ⟨z, hz, ez⟩ := mem_getD ((hq t).mpr ⟨h1, h2⟩)
    rw [ez] at h3 h4
    have hzi := pw_lt ha hA hi h3
    rw [if_neg (by omega), ez]
    by_cases g : z = i + 1
    · rw [g]
    · exact absurd (pw_getD hA (show i + 1 < z by omega) hz) (h4 _ (hm (i + 1) (by omega)).1 (hm (i + 1) (by omega)).2 (pw_getD hA (show i < i + 1 by omega) (by omega)))
theorem cyS_sm {b : Nat → Int32} {m : Nat} : ∀ k, cyS b m k = sp_sm (fun i => absd (b i - b (if i + 1 = m then 0 else i + 1))) k := by
  intro k
  induction k with
  | zero => rfl
  | succ k ih => rw [cyS, sp_sm, ih]
theorem sp_sel_mem {μ : Nat → Nat → Int32} {e1 e2 : Int32} {k : Nat} : ∀ n, k ∈ sp_sel μ e1 e2 n ↔ k < n ∧ selp μ e1 e2 k := by
  intro n
  induction n with
  | zero => exact ⟨fun h => absurd h List.not_mem_nil, fun h => absurd h.1 (Nat.not_lt_zero _)⟩
  | succ n ih =>
    rw [sp_sel]
    by_cases c : selp μ e1 e2 n
    · rw [if_pos c, List.mem_append, ih, List.mem_singleton]
      exact ⟨fun h => h.elim (fun h => ⟨by omega, h.2⟩) (fun h => by subst h; exact ⟨by omega, c⟩), fun h => by
        by_cases e : k = n
        · exact Or.inr e
        · exact Or.inl ⟨by omega, h.2⟩⟩
    · rw [if_neg c, ih]
      exact ⟨fun h => ⟨by omega, h.2⟩, fun h => by
        by_cases e : k = n
        · subst e; exact absurd h.2 c
        · exact ⟨by omega, h.2⟩⟩
abbrev befV (V : Nat → Nat → Int32) (P : Int32) : Nat → Nat → Prop := bef2 (fun z9 => rmd (V 12 z9) P) (V 12)
/-- the law's sum over the looks chosen -/
def strF (V : Nat → Nat → Int32) (μ : Nat → Nat → Int32) (e1 e2 P : Int32) (n : Nat) (k : Nat) : Int32 := absd (V 11 k - V 11 (nxF (befV V P) (selp μ e1 e2) n k))
theorem lstr_eq {S : mS} {V : Nat → Nat → Int32} (hX : LXY S V) (hn : S.1 12 ≤ 24) {e1 e2 P : Int32} : sumL (strF V S.2.2 e1 e2 P (S.1 12)) (sp_sel S.2.2 e1 e2 (S.1 12)) = sp_str S.2.2 (sp_sel S.2.2 e1 e2 (S.1 12)) P := by
  obtain ⟨A, hAe⟩ : ∃ A, A = sSort (fun a => rmd (sp_time S.2.2 a) P) [] (sSort (sp_time S.2.2) [] (sp_sel S.2.2 e1 e2 (S.1 12))) := ⟨_, rfl⟩
  have hL := sp_sel_up (μ := S.2.2) (e1 := e1) (e2 := e2) (S.1 12)
  have hp : A.Perm (sp_sel S.2.2 e1 e2 (S.1 12)) := by
    rw [hAe]
    exact (sSort_perm _ _ []).trans (sSort_perm _ _ [])
  have hmem : ∀ k, k ∈ A ↔ k < S.1 12 ∧ selp S.2.2 e1 e2 k := fun k => (hp.mem_iff).trans (sp_sel_mem _)
  have hA' : A.Pairwise (bef2 (fun a => rmd (sp_time S.2.2 a) P) (sp_time S.2.2)) := by
    rw [hAe]
    exact sSort_bef List.Pairwise.nil (fun a h => absurd h List.not_mem_nil) (sSort_bef List.Pairwise.nil (fun a h => absurd h List.not_mem_nil) hL)
  have hA : A.Pairwise (befV V P) := by
    refine List.Pairwise.imp_of_mem (fun {x y} hx hy h => ?_) hA'
    have ex := (hX x ((hmem x).mp hx).1).2
    have ey := (hX y ((hmem y).mp hy).1).2
    show rmd (V 12 x) P < rmd (V 12 y) P ∨ (rmd (V 12 x) P = rmd (V 12 y) P ∧ (V 12 x < V 12 y ∨ (V 12 x = V 12 y ∧ x < y)))
    rw [ex, ey]
    exact h
  have hlen : A.length = (sp_sel S.2.2 e1 e2 (S.1 12)).length := hp.length_eq
  have hle : (sp_sel S.2.2 e1 e2 (S.1 12)).length ≤ S.1 12 := sp_sel_le _
  have h1 := hstr_eq (μ := S.2.2) (L := sp_sel S.2.2 e1 e2 (S.1 12)) (P := P) hL (by omega) (b := fun i => sp_light S.2.2 (A.getD i 0)) (fun i _ => by rw [hAe])
  rw [← h1, hoS_eq, cyS_sm, ← hlen, ← sumL_perm hp, ← sp_sm_list]
  refine sp_sm_cong (fun i hi => ?_)
  have e1' := (hX _ ((hmem _).mp (getD_mem (A := A) (i := i) hi)).1).1
  have hj : (if i + 1 = A.length then 0 else i + 1) < A.length := by
    by_cases g : i + 1 = A.length
    · rw [if_pos g]; omega
    · rw [if_neg g]; omega
  have e2' := (hX _ ((hmem _).mp (getD_mem (A := A) hj)).1).1
  unfold strF
  rw [cyc_next (fun a b => bef2_asym a b) (fun a b c => bef2_trans) hA hmem hi, e1', e2']
theorem str_y {V : Nat → Nat → Int32} {μ : Nat → Nat → Int32} {e1 e2 P : Int32} {n k : Nat} {t : Nat} {v : Int32} (h : selp μ e1 e2 k) (ht : t = nxF (befV V P) (selp μ e1 e2) n k) (hv : v = absd (V 11 k - V 11 t)) : sumL (strF V μ e1 e2 P n) (sp_sel μ e1 e2 k) + v = sumL (strF V μ e1 e2 P n) (sp_sel μ e1 e2 (k + 1)) := by
  rw [sel_yes h rfl, sumL_snoc, hv, ht]
  rfl
theorem str_n {V : Nat → Nat → Int32} {μ : Nat → Nat → Int32} {e1 e2 P : Int32} {n k : Nat} (h : ¬ selp μ e1 e2 k) : sumL (strF V μ e1 e2 P n) (sp_sel μ e1 e2 k) = sumL (strF V μ e1 e2 P n) (sp_sel μ e1 e2 (k + 1)) := by
  rw [sel_no h]
theorem absd_y {x : Int32} (c : 0 ≤ x) : x = absd x := by unfold absd; rw [if_pos c]
theorem absd_n {x : Int32} (c : ¬ 0 ≤ x) : -x = absd x := by unfold absd; rw [if_neg c]
