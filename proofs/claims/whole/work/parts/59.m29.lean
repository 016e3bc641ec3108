/-- Inv, and what is written nowhere yet is 0 -/
def InvF (S : mS) : Prop := Inv S ∧ (∀ i, S.1 1 ≤ i → S.2.2 4 i = 0 ∧ S.2.2 5 i = 0) ∧ ∀ i, S.1 22 ≤ i → S.2.2 28 i = 0
theorem isS_up {n : Nat} {i : Int32} (hn : n + 1 < 2 ^ 31) (h : isS n i) : isS (n + 1) i := by
  obtain ⟨j, hj, rfl⟩ := isS_ix (by omega) h
  exact ⟨nI_pos' (by omega), nI_lt (by omega) hn⟩
theorem upd_at {f : Nat → Int32} {k : Nat} {v : Int32} : upd f k v k = v := if_pos rfl
theorem upd_ne {f : Nat → Int32} {k i : Nat} {v : Int32} (h : i ≠ k) : upd f k v i = f i := if_neg h
theorem full_ok {n N : Nat} {b : Int32} (hN : N < 2 ^ 31) (hn : n ≤ N) (h : (if nI n = nI N then b else 0) = 0) (hb : b ≠ 0) : n < N := by
  refine Nat.lt_of_le_of_ne hn (fun e => ?_)
  subst e
  rw [if_pos rfl] at h
  exact hb h
theorem invF_star {S : mS} (h : InvF S) {p0 : Int32} (hc : cd_star p0 S = 0) : InvF (st_star p0 S) := by
  obtain ⟨cn, sc, μ⟩ := S
  obtain ⟨a1, a2⟩ := ite_ok hc (by decide)
  obtain ⟨⟨h1, h2, h3, h4, h5, h6, h7, h8⟩, h9, h10⟩ := h
  have hlt : cn 1 < 12 := full_ok (N := 12) (by decide) h1.1 a2 (by decide)
  refine ⟨⟨⟨hlt, h1.2⟩, h2, fun i hi => ?_, h4, h5, fun k hk => ⟨isS_up (by omega) (h6 k hk).1, (h6 k hk).2⟩, h7, fun k hk => ⟨isS_up (by omega) (h8 k hk).1, (h8 k hk).2⟩⟩, fun i hi => h9 i (Nat.le_of_succ_le hi), h10⟩
  have hi2 : i < cn 1 + 1 := hi
  show inr (upd (μ 2) (cn 1) p0 i) 0 363 ∧ (∃ e, e ≤ i ∧ upd (μ 3) (cn 1) (nI (cn 1)) i = nI e ∧ upd (μ 3) (cn 1) (nI (cn 1)) e = nI e) ∧ (μ 4 i = 0 ∨ inr (μ 4 i) 30 1000000)
  by_cases e : i = cn 1
  · subst e
    rw [upd_at, upd_at]
    exact ⟨a1, ⟨cn 1, Nat.le_refl _, rfl, upd_at⟩, Or.inl (h9 (cn 1) (Nat.le_refl _)).1⟩
  · obtain ⟨q1, ⟨e9, q2, q3, q4⟩, q5⟩ := h3 i (by show i < cn 1; omega)
    rw [upd_ne e, upd_ne e]
    exact ⟨q1, ⟨e9, q2, q3, by rw [upd_ne (by omega)]; exact q4⟩, q5⟩
theorem invF_plate {S : mS} (h : InvF S) {p0 p1 p2 : Int32} (hc : cd_plate p0 p1 p2 S = 0) : InvF (st_plate p0 p1 p2 S) := by
  obtain ⟨cn, sc, μ⟩ := S
  obtain ⟨a1, a2⟩ := ite_ok hc (by decide)
  obtain ⟨b1, b2⟩ := ite_ok a2 (by decide)
  obtain ⟨c1, c2⟩ := ite_ok b2 (by decide)
  obtain ⟨⟨h1, h2, h3, h4, h5, h6, h7⟩, h9⟩ := h
  have hlt : cn 8 < 8 := full_ok (N := 8) (by decide) h1.2.1 c2 (by decide)
  refine ⟨⟨⟨h1.1, hlt, h1.2.2⟩, h2, h3, h4, fun i hi => ?_, fun k hk => ⟨(h6 k hk).1, (h6 k hk).2.1, (h6 k hk).2.2.imp id (fun g => ⟨g.1, isS_up (by omega) g.2.1, g.2.2⟩)⟩, h7⟩, h9⟩
  have hi2 : i < cn 8 + 1 := hi
  show inr (upd (μ 9) (cn 8) p0 i) 0 9999999 ∧ inr (upd (μ 10) (cn 8) p1 i) (-500) 3000 ∧ inr (upd (μ 11) (cn 8) p2 i) 1 20
  by_cases e : i = cn 8
  · subst e
    rw [upd_at, upd_at, upd_at]
    exact ⟨a1, b1, c1⟩
  · rw [upd_ne e, upd_ne e, upd_ne e]
    exact h5 i (by show i < cn 8; omega)
theorem invF_minimum {S : mS} (h : InvF S) {p0 p1 : Int32} (hc : cd_minimum p0 p1 S = 0) : InvF (st_minimum p0 p1 S) := by
  obtain ⟨cn, sc, μ⟩ := S
  obtain ⟨a1, a2⟩ := ite_ok hc (by decide)
  obtain ⟨b1, b2⟩ := ite_ok a2 (by decide)
  obtain ⟨⟨h1, h2, h3, h4, h5, h6, h7, h8⟩, h9⟩ := h
  have hlt : cn 29 < 30 := full_ok (N := 30) (by decide) h1.2.2.2.2 b2 (by decide)
  refine ⟨⟨⟨h1.1, h1.2.1, h1.2.2.1, h1.2.2.2.1, hlt⟩, h2, h3, h4, h5, h6, h7, fun i hi => ?_⟩, h9⟩
  have hi2 : i < cn 29 + 1 := hi
  show isS (cn 1) (upd (μ 30) (cn 29) p0 i) ∧ inr (upd (μ 31) (cn 29) p1 i) 0 9999999
  by_cases e : i = cn 29
  · subst e
    rw [upd_at, upd_at]
    exact ⟨a1, b1⟩
  · rw [upd_ne e, upd_ne e]
    exact h8 i (by show i < cn 29; omega)
theorem invF_rule {S : mS} (h : InvF S) {p0 p1 p2 p3 p4 : Int32} (hc : cd_rule p0 p1 p2 p3 p4 S = 0) : InvF (st_rule p0 p1 p2 p3 p4 S) := by
  obtain ⟨cn, sc, μ⟩ := S
  obtain ⟨a1, a2⟩ := ite_ok hc (by decide)
  obtain ⟨b1, b2⟩ := ite_ok a2 (by decide)
  obtain ⟨c1, c2⟩ := ite_ok b2 (by decide)
  obtain ⟨d1, d2⟩ := ite_ok c2 (by decide)
  obtain ⟨e1, e2⟩ := ite_ok d2 (by decide)
  have f2 : (if nI (cn 22) = nI 8 then 2 else 0 : Int32) = 0 := by
    by_cases g : p4 = 0
    · rw [if_pos g] at e2; exact absurd e2 (by decide)
    · rw [if_neg g] at e2; exact e2
  obtain ⟨⟨h1, h2, h3, h4, h5, h6, h7, h8⟩, h9, h10⟩ := h
  have hlt : cn 22 < 8 := full_ok (N := 8) (by decide) h1.2.2.2.1 f2 (by decide)
  refine ⟨⟨⟨h1.1, h1.2.1, h1.2.2.1, hlt, h1.2.2.2.2⟩, h2, h3, h4, h5, h6, fun i hi => ?_, h8⟩, h9, fun i hi => h10 i (Nat.le_of_succ_le hi)⟩
  have hi2 : i < cn 22 + 1 := hi
  show (μ 28 i = 0 ∨ μ 28 i = 1) ∧ inr (upd (μ 24) (cn 22) p1 i) 0 2
  by_cases e : i = cn 22
  · subst e
    rw [upd_at]
    exact ⟨Or.inl (h10 (cn 22) (Nat.le_refl _)), b1⟩
  · rw [upd_ne e]
    exact h7 i (by show i < cn 22; omega)
