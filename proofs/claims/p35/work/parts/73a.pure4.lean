/-! ===== entries: claims, the lowest star, merging, splitting ===== -/
theorem clm_none {f g : Nat → Int32} {e : Int32} : ∀ {n : Nat} {a : Int32}, (∀ j, j < n → ¬ (f j = e ∧ 0 < g j)) → sp_clm f g e n a = a := by
  intro n
  induction n with
  | zero => intro a _; rfl
  | succ n ih =>
    intro a h
    rw [sp_clm, if_neg (h n (by omega))]
    exact ih (fun j hj => h j (by omega))
theorem clm_found {f g : Nat → Int32} {e : Int32} {i : Nat} : ∀ {n : Nat} {a : Int32}, i < n → (∀ j, j < i → ¬ (f j = e ∧ 0 < g j)) → f i = e ∧ 0 < g i → sp_clm f g e n a = g i := by
  intro n
  induction n with
  | zero => intro a h _ _; exact absurd h (Nat.not_lt_zero _)
  | succ n ih =>
    intro a h h1 h2
    rw [sp_clm]
    by_cases c : i = n
    · subst c
      rw [if_pos h2]
      exact clm_none h1
    · exact ih (by omega) h1 h2
theorem low_found {f : Nat → Int32} {j i n : Nat} (h12 : f j ≠ 12) (hi : i < n) (h1 : ∀ k, k < i → ¬ (k ≠ j ∧ f k = f j)) (h2 : i ≠ j ∧ f i = f j) : sp_low (upd f j 12) (f j) n (-1) = nI i := by
  have g : ∀ k, upd f j 12 k = f j ↔ (k ≠ j ∧ f k = f j) := fun k => by
    by_cases c : k = j
    · subst c; rw [upd_at]; exact ⟨fun q => absurd q.symm h12, fun q => absurd rfl q.1⟩
    · rw [upd_ne c]; exact ⟨fun q => ⟨c, q⟩, fun q => q.2⟩
  obtain ⟨k, k1, k2, k3, k4⟩ := sp_low_some (f := upd f j 12) (e := f j) n ⟨i, hi, (g i).mpr h2⟩
  have e : k = i := by
    rcases Nat.lt_trichotomy k i with q | q | q
    · exact absurd ((g k).mp k2) (h1 k q)
    · exact q
    · exact absurd ((g i).mpr h2) (k3 i q)
  rw [k4, e]
theorem low_none {f : Nat → Int32} {j n : Nat} (h12 : f j ≠ 12) (h1 : ∀ k, k < n → ¬ (k ≠ j ∧ f k = f j)) : sp_low (upd f j 12) (f j) n (-1) = -1 := by
  refine sp_low_none n (fun k hk => ?_) _
  by_cases c : k = j
  · subst c; rw [upd_at]; exact fun q => h12 q.symm
  · rw [upd_ne c]; exact fun q => h1 k hk ⟨c, q⟩
theorem cnt_0 {f : Nat → Int32} {e : Int32} : ∀ {n : Nat}, sp_cnt f e n = 0 ↔ ∀ k, k < n → f k ≠ e := by
  intro n
  induction n with
  | zero => exact ⟨fun _ k h => absurd h (Nat.not_lt_zero _), fun _ => rfl⟩
  | succ n ih =>
    rw [sp_cnt]
    constructor
    · intro h k hk
      by_cases c : f n = e
      · rw [if_pos c] at h; omega
      · by_cases d : k = n
        · rw [d]; exact c
        · exact ih.mp (by omega) k (by omega)
    · intro h
      rw [if_neg (h n (by omega)), ih.mpr (fun k hk => h k (by omega))]
theorem cnt_upd {f : Nat → Int32} {j : Nat} (h12 : f j ≠ 12) : ∀ {n : Nat}, sp_cnt f (f j) n = sp_cnt (upd f j 12) (f j) n + (if j < n then 1 else 0) := by
  intro n
  induction n with
  | zero => rfl
  | succ n ih =>
    rw [sp_cnt, sp_cnt, ih]
    by_cases c : n = j
    · subst c
      rw [upd_at, if_pos rfl, if_neg (show ¬ n < n from Nat.lt_irrefl _), if_neg (show ¬ (12 : Int32) = f n from fun q => h12 q.symm), if_pos (show n < n + 1 by omega)]
    · rw [upd_ne c]
      by_cases d : j < n
      · rw [if_pos d, if_pos (show j < n + 1 by omega)]; omega
      · rw [if_neg d, if_neg (show ¬ j < n + 1 by omega)]; omega
theorem cnt_one {f : Nat → Int32} {j n : Nat} (h12 : f j ≠ 12) (hj : j < n) (hn : n < 2 ^ 31) : nI (sp_cnt f (f j) n) = 1 ↔ ∀ k, k < n → ¬ (k ≠ j ∧ f k = f j) := by
  have hle := sp_cnt_le (f := f) (e := f j) n
  rw [show (1 : Int32) = nI 1 from rfl, nI_eq (by omega) (by omega), cnt_upd h12, if_pos hj]
  constructor
  · intro h k hk q
    have := cnt_0.mp (show sp_cnt (upd f j 12) (f j) n = 0 by omega) k hk
    rw [upd_ne q.1] at this
    exact this q.2
  · intro h
    rw [cnt_0.mpr (fun k hk => ?_)]
    by_cases c : k = j
    · subst c; rw [upd_at]; exact fun q => h12 q.symm
    · rw [upd_ne c]; exact fun q => h k hk ⟨c, q⟩
/-- each star's entry is that of a star not above it -/
def entI (f : Nat → Int32) (n : Nat) : Prop := n ≤ 12 ∧ ∀ i, i < n → ∃ e, e ≤ i ∧ f i = nI e ∧ f e = nI e
theorem entI_of {cn : Nat → Nat} {sc : Nat → Int32} {μ : Nat → Nat → Int32} (hI : Inv (cn, sc, μ)) : entI (μ 3) (cn 1) := ⟨hI.1.1, fun i hi => (hI.2.2.1 i hi).2.1⟩
theorem entI.ne12 {f : Nat → Int32} {n j : Nat} (h : entI f n) (hj : j < n) : f j ≠ 12 := by
  obtain ⟨e, e1, e2, -⟩ := h.2 j hj
  have := h.1
  rw [e2, show (12 : Int32) = nI 12 from rfl]
  exact fun g => by have := (nI_eq (by omega) (by omega)).mp g; omega
theorem entI.neN {f : Nat → Int32} {n j : Nat} (h : entI f n) (hj : j < n) : f j ≠ -1 := by
  obtain ⟨e, e1, e2, -⟩ := h.2 j hj
  have := h.1
  rw [e2]
  intro g
  have h0 := nI_pos' (n := e) (by omega)
  rw [g] at h0
  exact absurd h0 (by decide)
theorem mrg_low {f : Nat → Int32} {n a b : Nat} (h : entI f n) (ha : a < n) (hb : b < n) (hne : f a ≠ f b) : sp_low1 f (f a) (f b) n = (if f b < f a then f b else f a) := by
  obtain ⟨x, x1, x2, x3⟩ := h.2 a ha
  obtain ⟨y, y1, y2, y3⟩ := h.2 b hb
  have hn := h.1
  have hg : ∀ i, i < n → (sp_ren f (f b) (f a) n i = f a ↔ (f i = f a ∨ f i = f b)) := fun i hi => by
    unfold sp_ren
    by_cases c : f i = f b
    · rw [if_pos ⟨hi, c⟩]; exact ⟨fun _ => Or.inr c, fun _ => rfl⟩
    · rw [if_neg (fun q => c q.2)]; exact ⟨Or.inl, fun q => q.resolve_right c⟩
  unfold sp_low1
  obtain ⟨k, k1, k2, k3, k4⟩ := sp_low_some (f := sp_ren f (f b) (f a) n) (e := f a) n ⟨a, ha, (hg a ha).mpr (Or.inl rfl)⟩
  rw [k4]
  have hk := (hg k k1).mp k2
  -- the lowest is the lesser of the two entries
  have hxk : k ≤ x := Nat.le_of_not_lt (fun q => k3 x q ((hg x (by omega)).mpr (Or.inl (by rw [x3, x2]))))
  have hyk : k ≤ y := Nat.le_of_not_lt (fun q => k3 y q ((hg y (by omega)).mpr (Or.inr (by rw [y3, y2]))))
  obtain ⟨z, z1, z2, z3⟩ := h.2 k k1
  have hxy : x ≠ y := fun g => hne (by rw [x2, y2, g])
  rw [x2, y2]
  rcases hk with g | g
  · rw [z2, x2] at g
    have e1 : z = x := (nI_eq (by omega) (by omega)).mp g
    have e2 : k = x := by omega
    rw [e2, if_neg (nI_nlt (by omega) (by omega))]
  · rw [z2, y2] at g
    have e1 : z = y := (nI_eq (by omega) (by omega)).mp g
    have e2 : k = y := by omega
    rw [e2, if_pos (nI_lt (by omega) (by omega))]
theorem mrg_eq {f : Nat → Int32} {n a b : Nat} (h : entI f n) (ha : a < n) (hb : b < n) (hne : f a ≠ f b) : sp_ren f (if f a < f b then f b else f a) (if f b < f a then f b else f a) n = sp_mrg f (f a) (f b) n := by
  unfold sp_mrg
  rw [mrg_low h ha hb hne]
  funext i
  unfold sp_ren
  by_cases hi : i < n
  · by_cases c : f b < f a
    · have c2 : ¬ f a < f b := fun g => by rw [i_lt] at *; omega
      rw [if_pos c, if_neg c2]
      by_cases d1 : f i = f a
      · rw [if_pos ⟨hi, d1⟩, if_pos]
        refine ⟨hi, ?_⟩
        rw [if_neg (fun q => hne (d1.symm.trans q.2))]
        exact d1
      · rw [if_neg (fun q => d1 q.2)]
        by_cases d2 : f i = f b
        · rw [if_pos]
          · exact d2
          · exact ⟨hi, by rw [if_pos ⟨hi, d2⟩]⟩
        · rw [if_neg, if_neg (fun q => d2 q.2)]
          rw [if_neg (fun q => d2 q.2)]
          exact fun q => d1 q.2
    · rw [if_neg c]
      have c2 : f a < f b := by
        rw [i_lt] at *
        have : (f a).toInt ≠ (f b).toInt := fun g => hne (i_eq.mpr g)
        omega
      rw [if_pos c2]
      by_cases d1 : f i = f b
      · rw [if_pos ⟨hi, d1⟩, if_pos ⟨hi, rfl⟩]
      · rw [if_neg (fun q => d1 q.2)]
        by_cases d2 : f i = f a
        · rw [if_pos ⟨hi, d2⟩, d2]
        · rw [if_neg (fun q => d2 q.2)]
  · rw [if_neg (fun q => hi q.1), if_neg (fun q => hi q.1), if_neg (fun q => hi q.1)]
theorem spl_eq {f : Nat → Int32} {j n : Nat} {x o : Int32} (hx : x = nI j) (ho : o = sp_low (upd f j 12) (f j) n (-1)) : upd (sp_ren f (f j) o n) j (nI j) = sp_spl f j x n := by
  unfold sp_spl
  rw [← ho, hx]
  funext i
  by_cases c : i = j
  · rw [c, upd_at, upd_at]
  · rw [upd_ne c, upd_ne c]
    unfold sp_ren
    rw [upd_ne c]
/-- looks of one entry alone: no entry is -1 -/
theorem sel_one {cn : Nat → Nat} {sc : Nat → Int32} {μ : Nat → Nat → Int32} (hI : Inv (cn, sc, μ)) (e : Int32) : ∀ n, n ≤ cn 12 → sp_sel μ e e n = sp_sel μ e (-1) n := by
  intro n
  induction n with
  | zero => intro _; rfl
  | succ n ih =>
    intro hn
    have hs := (hI.2.2.2.2.2.1 n (show n < cn 12 by omega)).1
    have hne := (entI_of hI).neN (isS_xl hs (show cn 1 < 2 ^ 31 by have h1 : cn 1 ≤ 12 := hI.1.1; omega))
    rw [sp_sel, sp_sel, ih (by omega)]
    have e1 : selp μ e e n ↔ selp μ e (-1) n := ⟨fun h => ⟨h.1, Or.inl (h.2.elim id id)⟩, fun h => ⟨h.1, Or.inl (h.2.elim id (fun g => absurd g hne))⟩⟩
    by_cases c : selp μ e e n
    · rw [if_pos c, if_pos (e1.mp c)]
    · rw [if_neg c, if_neg (fun g => c (e1.mpr g))]
