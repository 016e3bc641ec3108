/-! ===== the model's order and the house's: one ===== -/
theorem absd_sub (a b : Int32) : absd (a - b) = absd (b - a) := by
  have h : ∀ x : Int32, absd x = iabs x := fun x => by
    unfold absd iabs
    by_cases c : x < 0
    · rw [if_pos c, if_neg (Int32.not_le.mpr c)]
    · rw [if_neg c, if_pos (Int32.not_lt.mp c)]
  rw [h, h, iabs_sub]
theorem bef_trans {t : Nat → Int32} {r : Nat → Nat → Prop} (hr : ∀ a b c, r a b → r b c → r a c) {a b c : Nat} (h1 : bef t r a b) (h2 : bef t r b c) : bef t r a c := by
  rcases h1 with h1 | h1
  · rcases h2 with h2 | h2
    · refine Or.inl ?_; rw [i_lt] at *; omega
    · rw [h2.1] at h1; exact Or.inl h1
  · rcases h2 with h2 | h2
    · rw [← h1.1] at h2; exact Or.inl h2
    · exact Or.inr ⟨h1.1.trans h2.1, hr a b c h1.2 h2.2⟩
theorem bef_asym {t : Nat → Int32} {r : Nat → Nat → Prop} (hr : ∀ a b, r a b → ¬ r b a) (a b : Nat) (h1 : bef t r a b) : ¬ bef t r b a := by
  intro h2
  rcases h1 with h1 | h1
  · rcases h2 with h2 | h2
    · rw [i_lt] at *; omega
    · rw [h2.1] at h1; exact Int32.lt_irrefl h1
  · rcases h2 with h2 | h2
    · rw [h1.1] at h2; exact Int32.lt_irrefl h2
    · exact hr a b h1.2 h2.2
abbrev bef2 (k t : Nat → Int32) : Nat → Nat → Prop := bef k (bef t (fun a b => a < b))
theorem bef2_trans {k t : Nat → Int32} {a b c : Nat} (h1 : bef2 k t a b) (h2 : bef2 k t b c) : bef2 k t a c := bef_trans (r := bef t (fun a b => a < b)) (fun _ _ _ g1 g2 => bef_trans (r := fun a b => a < b) (fun _ _ _ g3 g4 => Nat.lt_trans g3 g4) g1 g2) h1 h2
theorem bef2_asym {k t : Nat → Int32} (a b : Nat) (h1 : bef2 k t a b) : ¬ bef2 k t b a := bef_asym (bef_asym (fun _ _ h g => absurd g (by omega))) a b h1
/-- x put in at p -/
def insAt (p x : Nat) (A : List Nat) : List Nat := A.take p ++ x :: A.drop p
theorem insAt_perm {p x : Nat} {A : List Nat} : (insAt p x A).Perm (x :: A) := by
  unfold insAt
  refine List.perm_middle.trans ?_
  rw [List.take_append_drop]
theorem insAt_getD {x : Nat} : ∀ {A : List Nat} {p : Nat}, p ≤ A.length → ∀ i, i < A.length + 1 → (insAt p x A).getD i 0 = ins (fun j => A.getD j 0) p x i := by
  intro A
  induction A with
  | nil =>
    intro p hp i hi
    have hp0 : p = 0 := Nat.le_zero.mp hp
    have hi0 : i = 0 := by simp at hi; omega
    subst hp0; subst hi0
    rfl
  | cons y A ih =>
    intro p hp i hi
    cases p with
    | zero =>
      unfold ins
      rw [if_neg (Nat.not_lt_zero _)]
      cases i with
      | zero => rfl
      | succ i => rw [if_neg (by omega)]; rfl
    | succ p =>
      cases i with
      | zero =>
        unfold ins
        rw [if_pos (by omega)]
        rfl
      | succ i =>
        have q := ih (p := p) (by simp at hp; omega) i (by simp at hi; omega)
        show (insAt p x A).getD i 0 = _
        rw [q]
        unfold ins
        by_cases g1 : i < p
        · rw [if_pos g1, if_pos (by omega)]; rfl
        · rw [if_neg g1, if_neg (show ¬ i + 1 < p + 1 by omega)]
          by_cases g2 : i = p
          · rw [if_pos g2, if_pos (by omega)]
          · rw [if_neg g2, if_neg (by omega)]
            obtain ⟨i', e⟩ : ∃ i', i = i' + 1 := ⟨i - 1, by omega⟩
            subst e
            rfl
theorem insAt_pw {r : Nat → Nat → Prop} {p x : Nat} {A : List Nat} (hA : A.Pairwise r) (h1 : ∀ y ∈ A.take p, r y x) (h2 : ∀ y ∈ A.drop p, r x y) : (insAt p x A).Pairwise r := by
  unfold insAt
  have h3 : (A.take p ++ A.drop p).Pairwise r := by rw [List.take_append_drop]; exact hA
  obtain ⟨a1, a2, a3⟩ := List.pairwise_append.mp h3
  refine List.pairwise_append.mpr ⟨a1, List.pairwise_cons.mpr ⟨h2, a2⟩, fun y hy z hz => ?_⟩
  rcases List.mem_cons.mp hz with g | g
  · subst g; exact h1 y hy
  · exact a3 y hy z g
theorem getD_mem {A : List Nat} {i : Nat} (h : i < A.length) : A.getD i 0 ∈ A := by
  rw [List.getD_eq_getElem?_getD, List.getElem?_eq_getElem h]
  exact List.getElem_mem h
theorem mem_take_getD {A : List Nat} {p y : Nat} (h : y ∈ A.take p) : ∃ i, i < p ∧ i < A.length ∧ y = A.getD i 0 := by
  obtain ⟨i, hi, e⟩ := List.getElem_of_mem h
  have hi2 : i < p ∧ i < A.length := by rw [List.length_take] at hi; omega
  refine ⟨i, hi2.1, hi2.2, ?_⟩
  rw [← e, List.getElem_take, List.getD_eq_getElem?_getD, List.getElem?_eq_getElem hi2.2]
  rfl
theorem mem_drop_getD {A : List Nat} {p y : Nat} (h : y ∈ A.drop p) : ∃ i, p ≤ i ∧ i < A.length ∧ y = A.getD i 0 := by
  obtain ⟨i, hi, e⟩ := List.getElem_of_mem h
  have hi2 : p + i < A.length := by rw [List.length_drop] at hi; omega
  refine ⟨p + i, by omega, hi2, ?_⟩
  rw [← e, List.getElem_drop, List.getD_eq_getElem?_getD, List.getElem?_eq_getElem hi2]
  rfl
theorem jpA_spec {fT : Nat → Int32} {P : Int32} {x : Nat} {f : Nat → Int32} (n : Nat) : jpA fT P x f n ≤ n ∧ (∀ i, jpA fT P x f n ≤ i → i < n → ahd fT P x (ix (f i))) ∧ (jpA fT P x f n = 0 ∨ ¬ ahd fT P x (ix (f (jpA fT P x f n - 1)))) := by
  induction n with
  | zero => exact ⟨Nat.le_refl _, fun i _ h => absurd h (Nat.not_lt_zero _), Or.inl rfl⟩
  | succ n ih =>
    rw [jpA]
    by_cases c : ahd fT P x (ix (f n))
    · rw [if_pos c]
      refine ⟨by omega, fun i h1 h2 => ?_, ih.2.2⟩
      by_cases e : i = n
      · subst e; exact c
      · exact ih.2.1 i h1 (by omega)
    · rw [if_neg c]
      exact ⟨Nat.le_refl _, fun i h1 h2 => absurd h1 (by omega), Or.inr c⟩
/-- the model's order, as a list of places -/
def rowI (n : Nat) (o : Nat → Int32) (A : List Nat) : Prop := A.length = n ∧ ∀ i, i < n → o i = nI (A.getD i 0)
theorem ordA_list {fT : Nat → Int32} {P : Int32} (g : Nat → Int32) (n : Nat) (hn : n < 2 ^ 31) : ∃ A : List Nat, rowI n (ordA fT P g n) A ∧ A.Perm (List.range n) ∧ A.Pairwise (bef2 (fun i => rmd (fT i) P) fT) := by
  induction n with
  | zero => exact ⟨[], ⟨rfl, fun i h => absurd h (Nat.not_lt_zero _)⟩, List.Perm.refl _, List.Pairwise.nil⟩
  | succ n ih =>
    obtain ⟨A, ⟨a1, a2⟩, a3, a4⟩ := ih (by omega)
    obtain ⟨p1, p2, p3⟩ := jpA_spec (fT := fT) (P := P) (x := n) (f := ordA fT P g n) n
    show ∃ A', rowI (n + 1) (insA (ordA fT P g n) (jpA fT P n (ordA fT P g n) n) (nI n) n) A' ∧ _
    generalize jpA fT P n (ordA fT P g n) n = p at p1 p2 p3
    have hlt : ∀ i, i < n → A.getD i 0 < n := fun i hi => by
      have := a3.mem_iff.mp (getD_mem (A := A) (i := i) (by omega))
      exact List.mem_range.mp this
    have hix : ∀ i, i < n → ix (ordA fT P g n i) = A.getD i 0 := fun i hi => by
      rw [a2 i hi]
      exact nI_clamp (by have := hlt i hi; omega)
    refine ⟨insAt p n A, ⟨?_, fun i hi => ?_⟩, ?_, ?_⟩
    · rw [insAt_perm.length_eq, List.length_cons, a1]
    · rw [insAt_getD (by omega) i (by omega)]
      unfold insA ins upd shf
      by_cases e : i = p
      · subst e
        rw [if_pos rfl, if_neg (by omega), if_pos rfl]
      · rw [if_neg e]
        by_cases c : i < p
        · rw [if_pos c, if_neg (by omega)]; exact a2 i (by omega)
        · rw [if_neg c, if_neg e, if_pos (by omega)]; exact a2 (i - 1) (by omega)
    · refine insAt_perm.trans ?_
      rw [List.range_succ]
      exact (a3.cons n).trans (List.perm_append_comm (l₁ := [n]) (l₂ := List.range n))
    · refine insAt_pw a4 (fun y hy => ?_) (fun y hy => ?_)
      · obtain ⟨i, i1, i2, e⟩ := mem_take_getD hy
        have hq : bef2 (fun i => rmd (fT i) P) fT (A.getD (p - 1) 0) n := by
          rcases p3 with p3 | p3
          · omega
          · rw [hix (p - 1) (by omega)] at p3
            have hl := hlt (p - 1) (by omega)
            generalize A.getD (p - 1) 0 = z at p3 hl
            by_cases c : rmd (fT z) P < rmd (fT n) P
            · exact Or.inl c
            · have e1 : rmd (fT z) P = rmd (fT n) P := by
                have c2 : ¬ rmd (fT n) P < rmd (fT z) P := fun g => p3 (Or.inl g)
                rw [i_lt] at c c2; rw [i_eq]; omega
              refine Or.inr ⟨e1, ?_⟩
              by_cases d : fT z < fT n
              · exact Or.inl d
              · have d2 : ¬ fT n < fT z := fun g => p3 (Or.inr ⟨e1.symm, g⟩)
                exact Or.inr ⟨by rw [i_lt] at d d2; rw [i_eq]; omega, hl⟩
        by_cases e2 : i = p - 1
        · rw [e, e2]; exact hq
        · rw [e]
          refine bef2_trans ?_ hq
          have e3 : ∀ k, k < A.length → A.getD k 0 = A[k]?.getD 0 := fun k _ => List.getD_eq_getElem?_getD
          rw [e3 i i2, e3 (p - 1) (by omega), List.getElem?_eq_getElem i2, List.getElem?_eq_getElem (show p - 1 < A.length by omega)]
          exact List.pairwise_iff_getElem.mp a4 i (p - 1) i2 (by omega) (by omega)
      · obtain ⟨i, i1, i2, e⟩ := mem_drop_getD hy
        have q := p2 i i1 (by omega)
        rw [hix i (by omega)] at q
        rw [e]
        rcases q with q | q
        · exact Or.inl q
        · exact Or.inr ⟨q.1, Or.inl q.2⟩
/-- the sum around the circle, each to the next; each to the one before -/
def cyS (b : Nat → Int32) (m : Nat) : Nat → Int32
  | 0 => 0
  | k + 1 => cyS b m k + absd (b k - b (if k + 1 = m then 0 else k + 1))
def hoS (b : Nat → Int32) (m : Nat) : Nat → Int32
  | 0 => 0
  | k + 1 => hoS b m k + absd (b k - b (if k = 0 then m - 1 else k - 1))
theorem hoS_cy {b : Nat → Int32} {m : Nat} : ∀ k, k + 1 ≤ m → hoS b m (k + 1) = absd (b 0 - b (m - 1)) + cyS b m k := by
  intro k
  induction k with
  | zero =>
    intro _
    show 0 + absd (b 0 - b (m - 1)) = absd (b 0 - b (m - 1)) + 0
    rw [Int32.zero_add, Int32.add_zero]
  | succ k ih =>
    intro h
    rw [hoS, ih (by omega), cyS, if_neg (by omega), if_neg (by omega), Nat.add_sub_cancel, Int32.add_assoc, absd_sub (b (k + 1))]
theorem hoS_eq {b : Nat → Int32} {m : Nat} : hoS b m m = cyS b m m := by
  cases m with
  | zero => rfl
  | succ m =>
    rw [hoS_cy m (Nat.le_refl _), cyS, if_pos rfl, Nat.add_sub_cancel, absd_sub (b 0), Int32.add_comm]
theorem sumA_cy {fL o : Nat → Int32} {m : Nat} : ∀ k, sumA fL o m k = cyS (fun i => fL (ix (o i))) m k := by
  intro k
  induction k with
  | zero => rfl
  | succ k ih => rw [sumA, cyS, ih]
theorem cyS_cong {b b' : Nat → Int32} {m : Nat} (h : ∀ i, i < m → b i = b' i) : ∀ k, k ≤ m → cyS b m k = cyS b' m k := by
  intro k
  induction k with
  | zero => intro _; rfl
  | succ k ih =>
    intro hk
    rw [cyS, cyS, ih (by omega), h k (by omega), h _ (by by_cases e : k + 1 = m <;> simp [e] <;> omega)]
/-- looks are chosen in the order of their numbers -/
theorem sp_sel_lt {μ : Nat → Nat → Int32} {e1 e2 : Int32} (n : Nat) : ∀ k ∈ sp_sel μ e1 e2 n, k < n := by
  induction n with
  | zero => intro k h; exact absurd h List.not_mem_nil
  | succ n ih =>
    intro k h
    rw [sp_sel] at h
    by_cases c : selp μ e1 e2 n
    · rw [if_pos c] at h
      rcases List.mem_append.mp h with g | g
      · have := ih k g; omega
      · rw [List.mem_singleton.mp g]; omega
    · rw [if_neg c] at h
      have := ih k h; omega
theorem sp_sel_up {μ : Nat → Nat → Int32} {e1 e2 : Int32} (n : Nat) : (sp_sel μ e1 e2 n).Pairwise (fun a b => a < b) := by
  induction n with
  | zero => exact List.Pairwise.nil
  | succ n ih =>
    rw [sp_sel]
    by_cases c : selp μ e1 e2 n
    · rw [if_pos c]
      exact List.pairwise_append.mpr ⟨ih, List.pairwise_singleton _ _, fun a ha b hb => by rw [List.mem_singleton.mp hb]; exact sp_sel_lt n a ha⟩
    · rw [if_neg c]; exact ih
theorem map_getD_range {L : List Nat} : (List.range L.length).map (fun i => L.getD i 0) = L := by
  refine List.ext_getElem (by simp) (fun i h1 h2 => ?_)
  rw [List.getElem_map, List.getElem_range, List.getD_eq_getElem?_getD, List.getElem?_eq_getElem h2]
  rfl
/-- the house's string is the model's -/
theorem hstr_eq {μ : Nat → Nat → Int32} {L : List Nat} {P : Int32} (hL : L.Pairwise (fun a b => a < b)) (hl : L.length < 2 ^ 31) {b : Nat → Int32} (hb : ∀ i, i < L.length → b i = sp_light μ ((sSort (fun a => rmd (sp_time μ a) P) [] (sSort (sp_time μ) [] L)).getD i 0)) : hoS b L.length L.length = sp_str μ L P := by
  unfold sp_str
  rw [hoS_eq, sumA_cy]
  refine cyS_cong (fun i hi => ?_) _ (Nat.le_refl _)
  obtain ⟨A, ⟨a1, a2⟩, a3, a4⟩ := ordA_list (fT := fun i => sp_time μ (L.getD i 0)) (P := P) (fun _ => 0) L.length hl
  have hlt : ∀ x ∈ A, x < L.length := fun x hx => List.mem_range.mp (a3.mem_iff.mp hx)
  have hAi : A.getD i 0 < L.length := hlt _ (getD_mem (by omega))
  have hB : sSort (fun a => rmd (sp_time μ a) P) [] (sSort (sp_time μ) [] L) = A.map (fun i => L.getD i 0) := by
    refine perm_eq (r := bef2 (fun a => rmd (sp_time μ a) P) (sp_time μ)) bef2_asym ?_ ?_ ?_
    · refine (sSort_perm _ _ []).trans ?_
      refine (sSort_perm _ _ []).trans ?_
      have q := a3.map (fun i => L.getD i 0)
      rw [map_getD_range] at q
      exact q.symm
    · exact sSort_bef List.Pairwise.nil (fun a h => absurd h List.not_mem_nil) (sSort_bef List.Pairwise.nil (fun a h => absurd h List.not_mem_nil) hL)
    · rw [List.pairwise_map]
      refine List.Pairwise.imp_of_mem (fun {x y} hx hy h => ?_) a4
      rcases h with h | h
      · exact Or.inl h
      · refine Or.inr ⟨h.1, ?_⟩
        rcases h.2 with g | g
        · exact Or.inl g
        · refine Or.inr ⟨g.1, ?_⟩
          show L.getD x 0 < L.getD y 0
          rw [List.getD_eq_getElem?_getD, List.getD_eq_getElem?_getD, List.getElem?_eq_getElem (hlt x hx), List.getElem?_eq_getElem (hlt y hy)]
          exact List.pairwise_iff_getElem.mp hL x y (hlt x hx) (hlt y hy) g.2
  rw [hb i hi, hB]
  show sp_light μ ((A.map (fun i => L.getD i 0)).getD i 0) = sp_light μ (L.getD (ix (ordA (fun i => sp_time μ (L.getD i 0)) P (fun _ => 0) L.length i)) 0)
  rw [a2 i hi, show ix (nI (A.getD i 0)) = A.getD i 0 from nI_clamp (by omega)]
  congr 1
  rw [List.getD_eq_getElem?_getD (l := A.map _), List.getElem?_map, List.getElem?_eq_getElem (show i < A.length by omega), List.getD_eq_getElem?_getD (l := A), List.getElem?_eq_getElem (show i < A.length by omega)]
  rfl
