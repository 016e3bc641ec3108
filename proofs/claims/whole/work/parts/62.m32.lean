theorem ite_no {a : Prop} [Decidable a] {b c : Int32} (h : (if a then b else c) = 0) (hb : b ≠ 0) : ¬ a ∧ c = 0 := by
  by_cases g : a
  · rw [if_pos g] at h; exact absurd h hb
  · rw [if_neg g] at h; exact ⟨g, h⟩
theorem invF_step {S : mS} (h : InvF S) {p0 p1 p2 p3 p4 p5 p6 : Int32} (hc : cd_step p0 p1 p2 p3 p4 p5 p6 S = 0) : InvF (st_step p0 p1 p2 p3 p4 p5 p6 S) := by
  obtain ⟨cn, sc, μ⟩ := S
  obtain ⟨a1, a2⟩ := ite_ok hc (by decide)
  obtain ⟨b1, b2⟩ := ite_ok a2 (by decide)
  obtain ⟨c1, c2⟩ := ite_ok b2 (by decide)
  obtain ⟨d1, d2⟩ := ite_ok c2 (by decide)
  obtain ⟨e1, e2⟩ := ite_ok d2 (by decide)
  obtain ⟨f1, f2⟩ := ite_ok e2 (by decide)
  obtain ⟨g1, g2⟩ := ite_ok f2 (by decide)
  obtain ⟨i1, i2⟩ := ite_no g2 (by decide)
  obtain ⟨j1, j2⟩ := ite_no i2 (by decide)
  obtain ⟨⟨h1, h2, h3, h4, h5, h6, h7⟩, h9⟩ := h
  have hlt : cn 12 < 80 := full_ok (N := 80) (by decide) h1.2.2.1 j2 (by decide)
  refine ⟨⟨⟨h1.1, h1.2.1, hlt, h1.2.2.2⟩, h2, h3, h4, h5, fun k hk => ?_, h7⟩, h9⟩
  have hk2 : k < cn 12 + 1 := hk
  show isS (cn 1) (upd (μ 14) (cn 12) p0 k) ∧ (upd (μ 21) (cn 12) 0 k = 0 ∨ upd (μ 21) (cn 12) 0 k = 1) ∧ ((upd (μ 13) (cn 12) 0 k = 0 ∧ inr (upd (μ 15) (cn 12) p1 k) 0 7 ∧ inr (upd (μ 16) (cn 12) p2 k) 0 9999999 ∧ inr (upd (μ 17) (cn 12) p3 k) 0 9 ∧ inr (upd (μ 18) (cn 12) p4 k) 0 9 ∧ inr (upd (μ 19) (cn 12) p5 k) 0 9 ∧ 0 < upd (μ 18) (cn 12) p4 k + upd (μ 19) (cn 12) p5 k ∧ inr (upd (μ 20) (cn 12) p6 k) 0 9) ∨ (upd (μ 13) (cn 12) 0 k = 1 ∧ isS (cn 8) (upd (μ 15) (cn 12) p1 k) ∧ inr (upd (μ 16) (cn 12) p2 k) 0 255))
  by_cases e : k = cn 12
  · subst e
    rw [upd_at, upd_at, upd_at, upd_at, upd_at, upd_at, upd_at, upd_at, upd_at]
    exact ⟨a1, Or.inl rfl, Or.inl ⟨rfl, b1, e1, c1, f1, g1, Int32.not_le.mp i1, d1⟩⟩
  · rw [upd_ne e, upd_ne e, upd_ne e, upd_ne e, upd_ne e, upd_ne e, upd_ne e, upd_ne e, upd_ne e]
    exact h6 k (by show k < cn 12; omega)
/-- the world at the start -/
def S0 : mS := (fun _ => 0, fun _ => 0, fun k => if k = 0 then fun i => if i < 10 then 1000 else 0 else fun _ => 0)
theorem invF_S0 : InvF S0 := by
  refine ⟨⟨⟨by decide, by decide, by decide, by decide, by decide⟩, fun i hi => ?_, fun i hi => absurd hi (Nat.not_lt_zero _), fun i hi => ?_, fun i hi => absurd hi (Nat.not_lt_zero _), fun i hi => absurd hi (Nat.not_lt_zero _), fun i hi => absurd hi (Nat.not_lt_zero _), fun i hi => absurd hi (Nat.not_lt_zero _)⟩, fun i _ => ⟨rfl, rfl⟩, fun i _ => rfl⟩
  · show inr (if i < 10 then 1000 else 0) (-200) 2000
    rw [if_pos hi]
    decide
  · show inr 0 (-99) 99
    decide
