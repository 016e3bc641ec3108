theorem ent_spl {n j : Nat} {f : Nat → Int32} (hf : entOK n f) (hj : j < n) (hn : n ≤ 12) : entOK n (sp_spl f j (nI j) n) := by
  unfold sp_spl
  obtain ⟨e0, r1, r2, r3⟩ := hf j hj
  have h12 : ¬ (12 : Int32) = f j := fun q => by
    rw [r2, show (12 : Int32) = nI 12 from rfl, nI_eq (by decide) (by omega)] at q
    omega
  intro i hi
  by_cases c : i = j
  · subst c
    exact ⟨i, Nat.le_refl _, upd_at, upd_at⟩
  · rw [upd_ne c]
    by_cases d : f i = f j
    · have d1 : upd (f) j 12 i = f j := by rw [upd_ne c]; exact d
      obtain ⟨k, h1, h2, h3, h4⟩ := sp_low_some (f := upd f j 12) (e := f j) n ⟨i, hi, d1⟩
      have hkj : k ≠ j := fun q => h12 (by subst q; rw [upd_at] at h2; exact h2)
      rw [h4 (-1)]
      exact ⟨k, Nat.le_of_not_lt (fun q => h3 i q d1), ren_y hi d1, by rw [upd_ne hkj]; exact ren_y h1 h2⟩
    · have d1 : ¬ upd (f) j 12 i = f j := by rw [upd_ne c]; exact d
      obtain ⟨e, q1, q2, q3⟩ := hf i hi
      have hej : e ≠ j := fun q => d (by rw [q2, ← q3, q])
      have d2 : ¬ upd (f) j 12 e = f j := by rw [upd_ne hej]; exact fun q => d (q2.trans (q3.symm.trans q))
      exact ⟨e, q1, by rw [ren_n d1, upd_ne c]; exact q2, by rw [upd_ne hej, ren_n d2, upd_ne hej]; exact q3⟩
theorem invF_ent {cn : Nat → Nat} {sc : Nat → Int32} {μ : Nat → Nat → Int32} {g : Nat → Int32} (h : InvF (cn, sc, μ)) (hg : entOK (cn 1) g) : InvF (cn, sc, va_up μ 3 g) := by
  obtain ⟨⟨h1, h2, h3, h4⟩, h5⟩ := h
  exact ⟨⟨h1, h2, fun i hi => ⟨(h3 i hi).1, hg i hi, (h3 i hi).2.2⟩, h4⟩, h5⟩
theorem InvF.ent {cn : Nat → Nat} {sc : Nat → Int32} {μ : Nat → Nat → Int32} (h : InvF (cn, sc, μ)) : entOK (cn 1) (μ 3) := fun i hi => (h.1.2.2.1 i hi).2.1
theorem invF_merge {S : mS} (h : InvF S) {p0 p1 : Int32} (hc : cd_merge p0 p1 S = 0) : InvF (st_merge p0 p1 S) := by
  obtain ⟨cn, sc, μ⟩ := S
  obtain ⟨a1, a2⟩ := ite_ok hc (by decide)
  obtain ⟨b1, b2⟩ := ite_ok a2 (by decide)
  have h1 := h.1.1.1
  dsimp only at h1
  have hlt := isS_lt (by show cn 1 < 2 ^ 31; omega) a1
  refine invF_ent h (ent_mrg h.ent hlt (fun q => ?_))
  have b3 : (if μ 3 (ix p0) = μ 3 (ix p1) then 2 else 0 : Int32) = 0 := b2
  rw [if_pos q] at b3
  exact absurd b3 (by decide)
theorem invF_split {S : mS} (h : InvF S) {p0 : Int32} (hc : cd_split p0 S = 0) : InvF (st_split p0 S) := by
  obtain ⟨cn, sc, μ⟩ := S
  obtain ⟨a1, a2⟩ := ite_ok hc (by decide)
  have h1 := h.1.1.1
  dsimp only at h1
  obtain ⟨j, hj, rfl⟩ := isS_ix (by show cn 1 < 2 ^ 31; omega) a1
  have hj2 : j < cn 1 := hj
  have h9 := invF_ent h (ent_spl h.ent hj2 h1)
  show InvF (cn, sc, va_up μ 3 (sp_spl (μ 3) (ix (nI j)) (nI j) (cn 1)))
  rw [ix_nI (by omega)]
  exact h9
theorem invF_density {S : mS} (h : InvF S) {p0 p1 p2 : Int32} (hc : cd_density p0 p1 p2 S = 0) : InvF (st_density p0 p1 p2 S) := by
  obtain ⟨cn, sc, μ⟩ := S
  obtain ⟨a1, a2⟩ := ite_ok hc (by decide)
  obtain ⟨b1, b2⟩ := ite_ok a2 (by decide)
  obtain ⟨c1, c2⟩ := ite_ok b2 (by decide)
  obtain ⟨⟨h1, h2, h3, h4, h5, h6, h7⟩, h9⟩ := h
  have hlt : cn 12 < 80 := full_ok (N := 80) (by decide) h1.2.2.1 c2 (by decide)
  refine ⟨⟨⟨h1.1, h1.2.1, hlt, h1.2.2.2⟩, h2, h3, h4, h5, fun k hk => ?_, h7⟩, h9⟩
  have hk2 : k < cn 12 + 1 := hk
  show isS (cn 1) (upd (μ 14) (cn 12) p0 k) ∧ (upd (μ 21) (cn 12) 0 k = 0 ∨ upd (μ 21) (cn 12) 0 k = 1) ∧ ((upd (μ 13) (cn 12) 1 k = 0 ∧ inr (upd (μ 15) (cn 12) p1 k) 0 7 ∧ inr (upd (μ 16) (cn 12) p2 k) 0 9999999 ∧ inr (μ 17 k) 0 9 ∧ inr (μ 18 k) 0 9 ∧ inr (μ 19 k) 0 9 ∧ 0 < μ 18 k + μ 19 k ∧ inr (μ 20 k) 0 9) ∨ (upd (μ 13) (cn 12) 1 k = 1 ∧ isS (cn 8) (upd (μ 15) (cn 12) p1 k) ∧ inr (upd (μ 16) (cn 12) p2 k) 0 255))
  by_cases e : k = cn 12
  · subst e
    rw [upd_at, upd_at, upd_at, upd_at, upd_at]
    exact ⟨a1, Or.inl rfl, Or.inr ⟨rfl, b1, c1⟩⟩
  · rw [upd_ne e, upd_ne e, upd_ne e, upd_ne e, upd_ne e]
    exact h6 k (by show k < cn 12; omega)
