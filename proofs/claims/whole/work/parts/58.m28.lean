theorem ite_ok {a : Prop} [Decidable a] {b c : Int32} (h : (if a then b else c) = 0) (hc : c ≠ 0) : a ∧ b = 0 := by
  by_cases g : a
  · rw [if_pos g] at h; exact ⟨g, h⟩
  · rw [if_neg g] at h; exact absurd h hc
theorem upd_P {P : Int32 → Prop} {f : Nat → Int32} {k i : Nat} {v : Int32} (hf : P (f i)) (hv : P v) : P (upd f k v i) := by
  unfold upd
  by_cases c : i = k
  · rw [if_pos c]; exact hv
  · rw [if_neg c]; exact hf
theorem inv_comparison {S : mS} (h : Inv S) {p0 p1 : Int32} (hc : cd_comparison p0 p1 S = 0) : Inv (st_comparison p0 p1 S) := by
  obtain ⟨cn, sc, μ⟩ := S
  have a1 := (ite_ok hc (by decide)).2
  have a2 := (ite_ok a1 (by decide)).1
  exact ⟨h.1, fun i hi => upd_P (P := fun x => inr x (-200) 2000) (h.2.1 i hi) a2, h.2.2⟩
theorem inv_bias {S : mS} (h : Inv S) {p0 p1 : Int32} (hc : cd_bias p0 p1 S = 0) : Inv (st_bias p0 p1 S) := by
  obtain ⟨cn, sc, μ⟩ := S
  have a1 := (ite_ok hc (by decide)).2
  have a2 := (ite_ok a1 (by decide)).1
  exact ⟨h.1, h.2.1, h.2.2.1, fun i hi => upd_P (P := fun x => inr x (-99) 99) (h.2.2.2.1 i hi) a2, h.2.2.2.2⟩
theorem inv_clock {S : mS} (h : Inv S) {p0 p1 : Int32} : Inv (st_clock p0 p1 S) := by
  obtain ⟨cn, sc, μ⟩ := S
  exact h
theorem inv_dust {S : mS} (h : Inv S) {p0 p1 : Int32} : Inv (st_dust p0 p1 S) := by
  obtain ⟨cn, sc, μ⟩ := S
  exact h
theorem inv_zero {S : mS} (h : Inv S) {p0 : Int32} : Inv (st_zero p0 S) := by
  obtain ⟨cn, sc, μ⟩ := S
  exact h
theorem inv_join {S : mS} (h : Inv S) {p0 p1 : Int32} (hc : cd_join p0 p1 S = 0) : Inv (st_join p0 p1 S) := by
  obtain ⟨cn, sc, μ⟩ := S
  have a1 := (ite_ok hc (by decide)).2
  have a2 := (ite_ok a1 (by decide)).1
  obtain ⟨h1, h2, h3, h4, h5, h6⟩ := h
  exact ⟨h1, h2, h3, h4, fun i hi => ⟨(h5 i hi).1, upd_P (P := fun x => inr x (-500) 3000) (h5 i hi).2.1 a2, (h5 i hi).2.2⟩, h6⟩
theorem inv_claim {S : mS} (h : Inv S) {p0 p1 : Int32} (hc : cd_claim p0 p1 S = 0) : Inv (st_claim p0 p1 S) := by
  obtain ⟨cn, sc, μ⟩ := S
  have a1 := (ite_ok hc (by decide)).2
  have a2 : p1 = 0 ∨ inr p1 30 1000000 := by
    by_cases g : p1 = 0
    · exact Or.inl g
    · rw [if_neg g] at a1; exact Or.inr (ite_ok a1 (by decide)).1
  obtain ⟨h1, h2, h3, h4, h5, h6⟩ := h
  exact ⟨h1, h2, fun i hi => ⟨(h3 i hi).1, (h3 i hi).2.1, upd_P (P := fun x => x = 0 ∨ inr x 30 1000000) (h3 i hi).2.2 a2⟩, h4, h5, h6⟩
theorem inv_doubt {S : mS} (h : Inv S) {p0 p1 : Int32} (hb : p1 = 0 ∨ p1 = 1) : Inv (st_doubt p0 p1 S) := by
  obtain ⟨cn, sc, μ⟩ := S
  obtain ⟨h1, h2, h3, h4, h5, h6, h7⟩ := h
  exact ⟨h1, h2, h3, h4, h5, fun k hk => ⟨(h6 k hk).1, upd_P (P := fun x => x = 0 ∨ x = 1) (h6 k hk).2.1 hb, (h6 k hk).2.2⟩, h7⟩
theorem inv_withdraw {S : mS} (h : Inv S) {p0 p1 : Int32} (hb : p1 = 0 ∨ p1 = 1) : Inv (st_withdraw p0 p1 S) := by
  obtain ⟨cn, sc, μ⟩ := S
  obtain ⟨h1, h2, h3, h4, h5, h6, h7, h8⟩ := h
  exact ⟨h1, h2, h3, h4, h5, h6, fun k hk => ⟨upd_P (P := fun x => x = 0 ∨ x = 1) (h7 k hk).1 hb, (h7 k hk).2⟩, h8⟩
