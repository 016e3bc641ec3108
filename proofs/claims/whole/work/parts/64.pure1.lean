/-! ===== rows in order, as lists ===== -/
/-- x put behind all that is not more, in the order of t -/
def sIns (t : Nat → Int32) (x : Nat) : List Nat → List Nat
  | [] => [x]
  | y :: L => if t y ≤ t x then y :: sIns t x L else x :: y :: L
def sSort (t : Nat → Int32) : List Nat → List Nat → List Nat
  | A, [] => A
  | A, x :: L => sSort t (sIns t x A) L
theorem sIns_perm (t : Nat → Int32) (x : Nat) (L : List Nat) : (sIns t x L).Perm (x :: L) := by
  induction L with
  | nil => exact List.Perm.refl _
  | cons y L ih =>
    unfold sIns
    by_cases c : t y ≤ t x
    · rw [if_pos c]
      exact (ih.cons y).trans (List.Perm.swap x y L)
    · rw [if_neg c]
theorem sSort_perm (t : Nat → Int32) (L : List Nat) : ∀ A, (sSort t A L).Perm (A ++ L) := by
  induction L with
  | nil => intro A; rw [List.append_nil]; exact List.Perm.refl _
  | cons x L ih =>
    intro A
    refine (ih (sIns t x A)).trans ?_
    have h1 : (sIns t x A ++ L).Perm ((x :: A) ++ L) := (sIns_perm t x A).append_right L
    exact h1.trans (by rw [List.cons_append]; exact List.perm_middle.symm)
theorem sIns_len (t : Nat → Int32) (x : Nat) (L : List Nat) : (sIns t x L).length = L.length + 1 := by
  have := (sIns_perm t x L).length_eq
  rw [this]; rfl
theorem sSort_snoc (t : Nat → Int32) (L : List Nat) (x : Nat) : ∀ A, sSort t A (L ++ [x]) = sIns t x (sSort t A L) := by
  induction L with
  | nil => intro A; rfl
  | cons y L ih => intro A; exact ih (sIns t y A)
theorem sIns_mem {t : Nat → Int32} {x y : Nat} {L : List Nat} : y ∈ sIns t x L ↔ y = x ∨ y ∈ L := by
  rw [(sIns_perm t x L).mem_iff, List.mem_cons]
/-- one before the other: by the key, then as before -/
abbrev bef (t : Nat → Int32) (r : Nat → Nat → Prop) (a b : Nat) : Prop := t a < t b ∨ (t a = t b ∧ r a b)
theorem i_lt_of_nle {a b : Int32} (h : ¬ a ≤ b) : b < a := Int32.not_le.mp h
theorem sIns_bef {t : Nat → Int32} {r : Nat → Nat → Prop} {x : Nat} {L : List Nat} (hL : L.Pairwise (bef t r)) (hr : ∀ y ∈ L, r y x) : (sIns t x L).Pairwise (bef t r) := by
  induction L with
  | nil => exact List.pairwise_singleton _ _
  | cons y L ih =>
    have h1 := List.pairwise_cons.mp hL
    unfold sIns
    by_cases c : t y ≤ t x
    · rw [if_pos c]
      refine List.pairwise_cons.mpr ⟨fun z hz => ?_, ih h1.2 (fun z hz => hr z (List.mem_cons_of_mem _ hz))⟩
      rcases sIns_mem.mp hz with g | g
      · subst g
        by_cases e : t y = t z
        · exact Or.inr ⟨e, hr y List.mem_cons_self⟩
        · refine Or.inl ?_
          rw [i_lt]; rw [i_le] at c; rw [i_eq] at e; omega
      · exact h1.1 z g
    · rw [if_neg c]
      have c2 := i_lt_of_nle c
      refine List.pairwise_cons.mpr ⟨fun z hz => ?_, hL⟩
      rcases List.mem_cons.mp hz with g | g
      · subst g; exact Or.inl c2
      · refine Or.inl ?_
        rcases h1.1 z g with k | k
        · rw [i_lt] at *; omega
        · rw [← k.1]; exact c2
theorem sSort_bef {t : Nat → Int32} {r : Nat → Nat → Prop} {L : List Nat} : ∀ {A : List Nat}, A.Pairwise (bef t r) → (∀ a ∈ A, ∀ b ∈ L, r a b) → L.Pairwise r → (sSort t A L).Pairwise (bef t r) := by
  induction L with
  | nil => intro A h _ _; exact h
  | cons x L ih =>
    intro A h1 h2 h3
    have h4 := List.pairwise_cons.mp h3
    refine ih (sIns_bef h1 (fun y hy => h2 y hy x List.mem_cons_self)) (fun a ha b hb => ?_) h4.2
    rcases sIns_mem.mp ha with g | g
    · subst g; exact h4.1 b hb
    · exact h2 a g b (List.mem_cons_of_mem _ hb)
/-- two rows of the same things in the same strict order are one -/
theorem perm_eq {r : Nat → Nat → Prop} (hr : ∀ a b, r a b → ¬ r b a) : ∀ {A B : List Nat}, A.Perm B → A.Pairwise r → B.Pairwise r → A = B := by
  intro A
  induction A with
  | nil => intro B h _ _; exact (List.nil_perm.mp h).symm
  | cons a A ih =>
    intro B h hA hB
    cases B with
    | nil => exact absurd h.length_eq (by simp)
    | cons b B =>
      have h1 := List.pairwise_cons.mp hA
      have h2 := List.pairwise_cons.mp hB
      have e : a = b := by
        have m1 : a ∈ b :: B := h.mem_iff.mp List.mem_cons_self
        have m2 : b ∈ a :: A := h.mem_iff.mpr List.mem_cons_self
        rcases List.mem_cons.mp m1 with g | g
        · exact g
        · rcases List.mem_cons.mp m2 with k | k
          · exact k.symm
          · exact absurd (h1.1 b k) (hr b a (h2.1 a g))
      subst e
      rw [ih (List.Perm.cons_inv h) h1.2 h2.2]
/-- what a row holds: of the things of A, in their order -/
def rowL (n : Nat) (k v : Nat → Int32) (A : List Nat) (t l : Nat → Int32) : Prop := n = A.length ∧ ∀ i, i < A.length → k i = t (A.getD i 0) ∧ v i = l (A.getD i 0)
theorem row_up_ins {n p : Nat} {k : Nat → Int32} {x : Int32} (h : row_up n k) (hp : row_at n k x p) : row_up (n + 1) (ins k p x) := by
  intro i j hij hj
  unfold ins
  obtain ⟨p1, p2, p3⟩ := hp
  by_cases i1 : i < p
  · rw [if_pos i1]
    by_cases j1 : j < p
    · rw [if_pos j1]; exact h i j hij (by omega)
    · rw [if_neg j1]
      by_cases j2 : j = p
      · rw [if_pos j2]; exact p2 i i1
      · rw [if_neg j2]; exact h i (j - 1) (by omega) (by omega)
  · rw [if_neg i1, if_neg (show ¬ j < p by omega)]
    by_cases i2 : i = p
    · rw [if_pos i2]
      by_cases j2 : j = p
      · rw [if_pos j2]; exact Int32.le_refl _
      · rw [if_neg j2]
        have := p3 (j - 1) (by omega) (by omega)
        have := i_lt_of_nle this
        rw [i_lt] at this; rw [i_le]; omega
    · rw [if_neg i2, if_neg (show ¬ j = p by omega)]
      exact h (i - 1) (j - 1) (by omega) (by omega)
theorem row_up_cong {n : Nat} {k k' : Nat → Int32} (h : row_up n k) (e : ∀ i, i < n → k' i = k i) : row_up n k' := by
  intro i j hij hj
  rw [e i (by omega), e j hj]
  exact h i j hij hj
theorem sIns_getD {t : Nat → Int32} {x : Nat} : ∀ {A : List Nat} {p : Nat}, p ≤ A.length → (∀ i, i < p → t (A.getD i 0) ≤ t x) → (∀ i, p ≤ i → i < A.length → ¬ t (A.getD i 0) ≤ t x) → ∀ i, i < A.length + 1 → (sIns t x A).getD i 0 = ins (fun j => A.getD j 0) p x i := by
  intro A
  induction A with
  | nil =>
    intro p hp h1 h2 i hi
    have hp0 : p = 0 := Nat.le_zero.mp hp
    have hi0 : i = 0 := by simp at hi; omega
    subst hp0; subst hi0
    rfl
  | cons y A ih =>
    intro p hp h1 h2 i hi
    unfold sIns
    cases p with
    | zero =>
      have c := h2 0 (Nat.le_refl _) (by simp)
      rw [if_neg (show ¬ t y ≤ t x from c)]
      unfold ins
      rw [if_neg (Nat.not_lt_zero _)]
      cases i with
      | zero => rfl
      | succ i => rw [if_neg (by omega)]; rfl
    | succ p =>
      have c := h1 0 (by omega)
      rw [if_pos (show t y ≤ t x from c)]
      cases i with
      | zero =>
        unfold ins
        rw [if_pos (by omega)]
        rfl
      | succ i =>
        have q := ih (p := p) (by simp at hp; omega) (fun j hj => h1 (j + 1) (by omega)) (fun j hj1 hj2 => h2 (j + 1) (by omega) (by simp; omega)) i (by simp at hi; omega)
        show (sIns t x A).getD i 0 = _
        rw [q]
        unfold ins
        by_cases g1 : i < p
        · rw [if_pos g1, if_pos (by omega)]; rfl
        · rw [if_neg g1, if_neg (show ¬ i + 1 < p + 1 by omega)]
          by_cases g2 : i = p
          · rw [if_pos g2, if_pos (by omega)]
          · rw [if_neg g2, if_neg (by omega)]
            obtain ⟨i', e⟩ : ∃ i', i = i' + 1 := ⟨i - 1, by omega⟩
            subst e
            rfl
/-- a row has got one more -/
theorem rowL_ins {n p : Nat} {k v k' v' : Nat → Int32} {A : List Nat} {t l : Nat → Int32} {x : Nat} (h : rowL n k v A t l) (hp : row_at n k (t x) p) (hk : ∀ i, i ≤ n → k' i = ins k p (t x) i ∧ v' i = ins v p (l x) i) : rowL (n + 1) k' v' (sIns t x A) t l := by
  obtain ⟨h1, h2⟩ := h
  obtain ⟨p1, p2, p3⟩ := hp
  refine ⟨by rw [sIns_len, h1], fun i hi => ?_⟩
  rw [sIns_len] at hi
  have q := sIns_getD (t := t) (x := x) (A := A) (p := p) (by omega) (fun j hj => by rw [← (h2 j (by omega)).1]; exact p2 j hj) (fun j hj1 hj2 => by rw [← (h2 j hj2).1]; exact p3 j hj1 (by omega)) i hi
  rw [q, (hk i (by omega)).1, (hk i (by omega)).2]
  unfold ins
  by_cases g1 : i < p
  · rw [if_pos g1, if_pos g1, if_pos g1]; exact h2 i (by omega)
  · rw [if_neg g1, if_neg g1, if_neg g1]
    by_cases g2 : i = p
    · rw [if_pos g2, if_pos g2, if_pos g2]; exact ⟨rfl, rfl⟩
    · rw [if_neg g2, if_neg g2, if_neg g2]; exact h2 (i - 1) (by omega)
